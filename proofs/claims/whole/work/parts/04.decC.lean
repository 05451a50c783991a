theorem dX9_init_0 : decode cX9_init 0 = .ok (.aload_n 0, 1) := by decide +kernel
theorem dX9_init_1 : decode cX9_init 1 = .ok (.invokespecial 1, 3) := by decide +kernel
theorem dX9_init_4 : decode cX9_init 4 = .ok (.aload_n 0, 1) := by decide +kernel
theorem dX9_init_5 : decode cX9_init 5 = .ok (.sipush 512, 3) := by decide +kernel
theorem dX9_init_8 : decode cX9_init 8 = .ok (.newarray .int, 2) := by decide +kernel
theorem dX9_init_10 : decode cX9_init 10 = .ok (.putfield 7, 3) := by decide +kernel
theorem dX9_init_13 : decode cX9_init 13 = .ok (.aload_n 0, 1) := by decide +kernel
theorem dX9_init_14 : decode cX9_init 14 = .ok (.bipush 16, 2) := by decide +kernel
theorem dX9_init_16 : decode cX9_init 16 = .ok (.newarray .int, 2) := by decide +kernel
theorem dX9_init_18 : decode cX9_init 18 = .ok (.putfield 13, 3) := by decide +kernel
theorem dX9_init_21 : decode cX9_init 21 = .ok (.aload_n 0, 1) := by decide +kernel
theorem dX9_init_22 : decode cX9_init 22 = .ok (.bipush 16, 2) := by decide +kernel
theorem dX9_init_24 : decode cX9_init 24 = .ok (.newarray .int, 2) := by decide +kernel
theorem dX9_init_26 : decode cX9_init 26 = .ok (.putfield 16, 3) := by decide +kernel
theorem dX9_init_29 : decode cX9_init 29 = .ok (.aload_n 0, 1) := by decide +kernel
theorem dX9_init_30 : decode cX9_init 30 = .ok (.bipush 16, 2) := by decide +kernel
theorem dX9_init_32 : decode cX9_init 32 = .ok (.newarray .boolean, 2) := by decide +kernel
theorem dX9_init_34 : decode cX9_init 34 = .ok (.putfield 19, 3) := by decide +kernel
theorem dX9_init_37 : decode cX9_init 37 = .ok (.aload_n 0, 1) := by decide +kernel
theorem dX9_init_38 : decode cX9_init 38 = .ok (.bipush 41, 2) := by decide +kernel
theorem dX9_init_40 : decode cX9_init 40 = .ok (.newarray .int, 2) := by decide +kernel
theorem dX9_init_42 : decode cX9_init 42 = .ok (.putfield 23, 3) := by decide +kernel
theorem dX9_init_45 : decode cX9_init 45 = .ok (.aload_n 0, 1) := by decide +kernel
theorem dX9_init_46 : decode cX9_init 46 = .ok (.bipush 41, 2) := by decide +kernel
theorem dX9_init_48 : decode cX9_init 48 = .ok (.newarray .int, 2) := by decide +kernel
theorem dX9_init_50 : decode cX9_init 50 = .ok (.putfield 26, 3) := by decide +kernel
theorem dX9_init_53 : decode cX9_init 53 = .ok (.aload_n 0, 1) := by decide +kernel
theorem dX9_init_54 : decode cX9_init 54 = .ok (.bipush 41, 2) := by decide +kernel
theorem dX9_init_56 : decode cX9_init 56 = .ok (.newarray .int, 2) := by decide +kernel
theorem dX9_init_58 : decode cX9_init 58 = .ok (.putfield 29, 3) := by decide +kernel
theorem dX9_init_61 : decode cX9_init 61 = .ok (.aload_n 0, 1) := by decide +kernel
theorem dX9_init_62 : decode cX9_init 62 = .ok (.bipush 41, 2) := by decide +kernel
theorem dX9_init_64 : decode cX9_init 64 = .ok (.newarray .int, 2) := by decide +kernel
theorem dX9_init_66 : decode cX9_init 66 = .ok (.putfield 32, 3) := by decide +kernel
theorem dX9_init_69 : decode cX9_init 69 = .ok (.aload_n 0, 1) := by decide +kernel
theorem dX9_init_70 : decode cX9_init 70 = .ok (.sipush 240, 3) := by decide +kernel
theorem dX9_init_73 : decode cX9_init 73 = .ok (.newarray .int, 2) := by decide +kernel
theorem dX9_init_75 : decode cX9_init 75 = .ok (.putfield 35, 3) := by decide +kernel
theorem dX9_init_78 : decode cX9_init 78 = .ok (.aload_n 0, 1) := by decide +kernel
theorem dX9_init_79 : decode cX9_init 79 = .ok (.iconst 1, 1) := by decide +kernel
theorem dX9_init_80 : decode cX9_init 80 = .ok (.putfield 38, 3) := by decide +kernel
theorem dX9_init_83 : decode cX9_init 83 = .ok (.aload_n 0, 1) := by decide +kernel
theorem dX9_init_84 : decode cX9_init 84 = .ok (.iconst (-1), 1) := by decide +kernel
theorem dX9_init_85 : decode cX9_init 85 = .ok (.putfield 42, 3) := by decide +kernel
theorem dX9_init_88 : decode cX9_init 88 = .ok (.aload_n 0, 1) := by decide +kernel
theorem dX9_init_89 : decode cX9_init 89 = .ok (.bipush 20, 2) := by decide +kernel
theorem dX9_init_91 : decode cX9_init 91 = .ok (.newarray .int, 2) := by decide +kernel
theorem dX9_init_93 : decode cX9_init 93 = .ok (.putfield 46, 3) := by decide +kernel
theorem dX9_init_96 : decode cX9_init 96 = .ok (.aload_n 0, 1) := by decide +kernel
theorem dX9_init_97 : decode cX9_init 97 = .ok (.bipush 20, 2) := by decide +kernel
theorem dX9_init_99 : decode cX9_init 99 = .ok (.newarray .int, 2) := by decide +kernel
theorem dX9_init_101 : decode cX9_init 101 = .ok (.putfield 49, 3) := by decide +kernel
theorem dX9_init_104 : decode cX9_init 104 = .ok (.aload_n 0, 1) := by decide +kernel
theorem dX9_init_105 : decode cX9_init 105 = .ok (.bipush 32, 2) := by decide +kernel
theorem dX9_init_107 : decode cX9_init 107 = .ok (.newarray .int, 2) := by decide +kernel
theorem dX9_init_109 : decode cX9_init 109 = .ok (.putfield 52, 3) := by decide +kernel
theorem dX9_init_112 : decode cX9_init 112 = .ok (.aload_n 0, 1) := by decide +kernel
theorem dX9_init_113 : decode cX9_init 113 = .ok (.bipush 32, 2) := by decide +kernel
theorem dX9_init_115 : decode cX9_init 115 = .ok (.newarray .int, 2) := by decide +kernel
theorem dX9_init_117 : decode cX9_init 117 = .ok (.putfield 55, 3) := by decide +kernel
theorem dX9_init_120 : decode cX9_init 120 = .ok (.aload_n 0, 1) := by decide +kernel
theorem dX9_init_121 : decode cX9_init 121 = .ok (.bipush 8, 2) := by decide +kernel
theorem dX9_init_123 : decode cX9_init 123 = .ok (.newarray .int, 2) := by decide +kernel
theorem dX9_init_125 : decode cX9_init 125 = .ok (.putfield 58, 3) := by decide +kernel
theorem dX9_init_128 : decode cX9_init 128 = .ok (.aload_n 0, 1) := by decide +kernel
theorem dX9_init_129 : decode cX9_init 129 = .ok (.bipush 8, 2) := by decide +kernel
theorem dX9_init_131 : decode cX9_init 131 = .ok (.newarray .int, 2) := by decide +kernel
theorem dX9_init_133 : decode cX9_init 133 = .ok (.putfield 61, 3) := by decide +kernel
theorem dX9_init_136 : decode cX9_init 136 = .ok (.aload_n 0, 1) := by decide +kernel
theorem dX9_init_137 : decode cX9_init 137 = .ok (.bipush 8, 2) := by decide +kernel
theorem dX9_init_139 : decode cX9_init 139 = .ok (.newarray .int, 2) := by decide +kernel
theorem dX9_init_141 : decode cX9_init 141 = .ok (.putfield 64, 3) := by decide +kernel
theorem dX9_init_144 : decode cX9_init 144 = .ok (.aload_n 0, 1) := by decide +kernel
theorem dX9_init_145 : decode cX9_init 145 = .ok (.bipush 64, 2) := by decide +kernel
theorem dX9_init_147 : decode cX9_init 147 = .ok (.newarray .int, 2) := by decide +kernel
theorem dX9_init_149 : decode cX9_init 149 = .ok (.putfield 67, 3) := by decide +kernel
theorem dX9_init_152 : decode cX9_init 152 = .ok (.aload_n 0, 1) := by decide +kernel
theorem dX9_init_153 : decode cX9_init 153 = .ok (.sipush 128, 3) := by decide +kernel
theorem dX9_init_156 : decode cX9_init 156 = .ok (.newarray .int, 2) := by decide +kernel
theorem dX9_init_158 : decode cX9_init 158 = .ok (.putfield 70, 3) := by decide +kernel
theorem dX9_init_161 : decode cX9_init 161 = .ok (.aload_n 0, 1) := by decide +kernel
theorem dX9_init_162 : decode cX9_init 162 = .ok (.bipush 8, 2) := by decide +kernel
theorem dX9_init_164 : decode cX9_init 164 = .ok (.newarray .int, 2) := by decide +kernel
theorem dX9_init_166 : decode cX9_init 166 = .ok (.putfield 73, 3) := by decide +kernel
theorem dX9_init_169 : decode cX9_init 169 = .ok (.aload_n 0, 1) := by decide +kernel
theorem dX9_init_170 : decode cX9_init 170 = .ok (.bipush 8, 2) := by decide +kernel
theorem dX9_init_172 : decode cX9_init 172 = .ok (.newarray .int, 2) := by decide +kernel
theorem dX9_init_174 : decode cX9_init 174 = .ok (.putfield 76, 3) := by decide +kernel
theorem dX9_init_177 : decode cX9_init 177 = .ok (.iconst 0, 1) := by decide +kernel
theorem dX9_init_178 : decode cX9_init 178 = .ok (.istore_n 1, 1) := by decide +kernel
theorem dX9_init_179 : decode cX9_init 179 = .ok (.iload_n 1, 1) := by decide +kernel
theorem dX9_init_180 : decode cX9_init 180 = .ok (.iconst 4, 1) := by decide +kernel
theorem dX9_init_181 : decode cX9_init 181 = .ok (.if_icmp .ge 17, 3) := by decide +kernel
theorem dX9_init_184 : decode cX9_init 184 = .ok (.aload_n 0, 1) := by decide +kernel
theorem dX9_init_185 : decode cX9_init 185 = .ok (.iload_n 1, 1) := by decide +kernel
theorem dX9_init_186 : decode cX9_init 186 = .ok (.iconst 0, 1) := by decide +kernel
theorem dX9_init_187 : decode cX9_init 187 = .ok (.bipush 8, 2) := by decide +kernel
theorem dX9_init_189 : decode cX9_init 189 = .ok (.invokevirtual 79, 3) := by decide +kernel
theorem dX9_init_192 : decode cX9_init 192 = .ok (.iinc 1 1, 3) := by decide +kernel
theorem dX9_init_195 : decode cX9_init 195 = .ok (.goto (-16), 3) := by decide +kernel
theorem dX9_init_198 : decode cX9_init 198 = .ok (.return_, 1) := by decide +kernel
theorem dX9_isIn_0 : decode cX9_isIn 0 = .ok (.iload_n 0, 1) := by decide +kernel
theorem dX9_isIn_1 : decode cX9_isIn 1 = .ok (.iload_n 1, 1) := by decide +kernel
theorem dX9_isIn_2 : decode cX9_isIn 2 = .ok (.if_icmp .lt 12, 3) := by decide +kernel
theorem dX9_isIn_5 : decode cX9_isIn 5 = .ok (.iload_n 0, 1) := by decide +kernel
theorem dX9_isIn_6 : decode cX9_isIn 6 = .ok (.iload_n 2, 1) := by decide +kernel
theorem dX9_isIn_7 : decode cX9_isIn 7 = .ok (.if_icmp .gt 7, 3) := by decide +kernel
theorem dX9_isIn_10 : decode cX9_isIn 10 = .ok (.iconst 1, 1) := by decide +kernel
theorem dX9_isIn_11 : decode cX9_isIn 11 = .ok (.goto 4, 3) := by decide +kernel
theorem dX9_isIn_14 : decode cX9_isIn 14 = .ok (.iconst 0, 1) := by decide +kernel
theorem dX9_isIn_15 : decode cX9_isIn 15 = .ok (.ireturn, 1) := by decide +kernel
theorem dX9_add_0 : decode cX9_add 0 = .ok (.aload_n 0, 1) := by decide +kernel
theorem dX9_add_1 : decode cX9_add 1 = .ok (.dup, 1) := by decide +kernel
theorem dX9_add_2 : decode cX9_add 2 = .ok (.getfield 83, 3) := by decide +kernel
theorem dX9_add_5 : decode cX9_add 5 = .ok (.iconst 1, 1) := by decide +kernel
theorem dX9_add_6 : decode cX9_add 6 = .ok (.iadd, 1) := by decide +kernel
theorem dX9_add_7 : decode cX9_add 7 = .ok (.putfield 83, 3) := by decide +kernel
theorem dX9_add_10 : decode cX9_add 10 = .ok (.aload_n 0, 1) := by decide +kernel
theorem dX9_add_11 : decode cX9_add 11 = .ok (.getfield 23, 3) := by decide +kernel
theorem dX9_add_14 : decode cX9_add 14 = .ok (.aload_n 0, 1) := by decide +kernel
theorem dX9_add_15 : decode cX9_add 15 = .ok (.getfield 83, 3) := by decide +kernel
theorem dX9_add_18 : decode cX9_add 18 = .ok (.iload_n 1, 1) := by decide +kernel
theorem dX9_add_19 : decode cX9_add 19 = .ok (.iastore, 1) := by decide +kernel
theorem dX9_add_20 : decode cX9_add 20 = .ok (.aload_n 0, 1) := by decide +kernel
theorem dX9_add_21 : decode cX9_add 21 = .ok (.getfield 26, 3) := by decide +kernel
theorem dX9_add_24 : decode cX9_add 24 = .ok (.aload_n 0, 1) := by decide +kernel
theorem dX9_add_25 : decode cX9_add 25 = .ok (.getfield 83, 3) := by decide +kernel
theorem dX9_add_28 : decode cX9_add 28 = .ok (.iload_n 2, 1) := by decide +kernel
theorem dX9_add_29 : decode cX9_add 29 = .ok (.iastore, 1) := by decide +kernel
theorem dX9_add_30 : decode cX9_add 30 = .ok (.aload_n 0, 1) := by decide +kernel
theorem dX9_add_31 : decode cX9_add 31 = .ok (.getfield 29, 3) := by decide +kernel
theorem dX9_add_34 : decode cX9_add 34 = .ok (.aload_n 0, 1) := by decide +kernel
theorem dX9_add_35 : decode cX9_add 35 = .ok (.getfield 83, 3) := by decide +kernel
theorem dX9_add_38 : decode cX9_add 38 = .ok (.iload_n 3, 1) := by decide +kernel
theorem dX9_add_39 : decode cX9_add 39 = .ok (.iastore, 1) := by decide +kernel
theorem dX9_add_40 : decode cX9_add 40 = .ok (.aload_n 0, 1) := by decide +kernel
theorem dX9_add_41 : decode cX9_add 41 = .ok (.getfield 32, 3) := by decide +kernel
theorem dX9_add_44 : decode cX9_add 44 = .ok (.aload_n 0, 1) := by decide +kernel
theorem dX9_add_45 : decode cX9_add 45 = .ok (.getfield 83, 3) := by decide +kernel
theorem dX9_add_48 : decode cX9_add 48 = .ok (.aload_n 0, 1) := by decide +kernel
theorem dX9_add_49 : decode cX9_add 49 = .ok (.getfield 86, 3) := by decide +kernel
theorem dX9_add_52 : decode cX9_add 52 = .ok (.iastore, 1) := by decide +kernel
theorem dX9_add_53 : decode cX9_add 53 = .ok (.iconst 0, 1) := by decide +kernel
theorem dX9_add_54 : decode cX9_add 54 = .ok (.istore 4, 2) := by decide +kernel
theorem dX9_add_56 : decode cX9_add 56 = .ok (.iload 4, 2) := by decide +kernel
theorem dX9_add_58 : decode cX9_add 58 = .ok (.iload_n 3, 1) := by decide +kernel
theorem dX9_add_59 : decode cX9_add 59 = .ok (.if_icmp .ge 22, 3) := by decide +kernel
theorem dX9_add_62 : decode cX9_add 62 = .ok (.aload_n 0, 1) := by decide +kernel
theorem dX9_add_63 : decode cX9_add 63 = .ok (.getfield 35, 3) := by decide +kernel
theorem dX9_add_66 : decode cX9_add 66 = .ok (.aload_n 0, 1) := by decide +kernel
theorem dX9_add_67 : decode cX9_add 67 = .ok (.getfield 86, 3) := by decide +kernel
theorem dX9_add_70 : decode cX9_add 70 = .ok (.iload 4, 2) := by decide +kernel
theorem dX9_add_72 : decode cX9_add 72 = .ok (.iadd, 1) := by decide +kernel
theorem dX9_add_73 : decode cX9_add 73 = .ok (.iconst 0, 1) := by decide +kernel
theorem dX9_add_74 : decode cX9_add 74 = .ok (.iastore, 1) := by decide +kernel
theorem dX9_add_75 : decode cX9_add 75 = .ok (.iinc 4 1, 3) := by decide +kernel
theorem dX9_add_78 : decode cX9_add 78 = .ok (.goto (-22), 3) := by decide +kernel
theorem dX9_add_81 : decode cX9_add 81 = .ok (.aload_n 0, 1) := by decide +kernel
theorem dX9_add_82 : decode cX9_add 82 = .ok (.dup, 1) := by decide +kernel
theorem dX9_add_83 : decode cX9_add 83 = .ok (.getfield 86, 3) := by decide +kernel
theorem dX9_add_86 : decode cX9_add 86 = .ok (.iload_n 3, 1) := by decide +kernel
theorem dX9_add_87 : decode cX9_add 87 = .ok (.iadd, 1) := by decide +kernel
theorem dX9_add_88 : decode cX9_add 88 = .ok (.putfield 86, 3) := by decide +kernel
theorem dX9_add_91 : decode cX9_add 91 = .ok (.return_, 1) := by decide +kernel
theorem dX9_code_0 : decode cX9_code 0 = .ok (.iload_n 1, 1) := by decide +kernel
theorem dX9_code_1 : decode cX9_code 1 = .ok (.iconst 0, 1) := by decide +kernel
theorem dX9_code_2 : decode cX9_code 2 = .ok (.sipush 511, 3) := by decide +kernel
theorem dX9_code_5 : decode cX9_code 5 = .ok (.invokestatic 89, 3) := by decide +kernel
theorem dX9_code_8 : decode cX9_code 8 = .ok (.ifCond .eq 14, 3) := by decide +kernel
theorem dX9_code_11 : decode cX9_code 11 = .ok (.iload_n 2, 1) := by decide +kernel
theorem dX9_code_12 : decode cX9_code 12 = .ok (.iconst 0, 1) := by decide +kernel
theorem dX9_code_13 : decode cX9_code 13 = .ok (.sipush 255, 3) := by decide +kernel
theorem dX9_code_16 : decode cX9_code 16 = .ok (.invokestatic 89, 3) := by decide +kernel
theorem dX9_code_19 : decode cX9_code 19 = .ok (.ifCond .ne 5, 3) := by decide +kernel
theorem dX9_code_22 : decode cX9_code 22 = .ok (.iconst (-1), 1) := by decide +kernel
theorem dX9_code_23 : decode cX9_code 23 = .ok (.ireturn, 1) := by decide +kernel
theorem dX9_code_24 : decode cX9_code 24 = .ok (.aload_n 0, 1) := by decide +kernel
theorem dX9_code_25 : decode cX9_code 25 = .ok (.getfield 7, 3) := by decide +kernel
theorem dX9_code_28 : decode cX9_code 28 = .ok (.iload_n 1, 1) := by decide +kernel
theorem dX9_code_29 : decode cX9_code 29 = .ok (.iload_n 2, 1) := by decide +kernel
theorem dX9_code_30 : decode cX9_code 30 = .ok (.iastore, 1) := by decide +kernel
theorem dX9_code_31 : decode cX9_code 31 = .ok (.iconst 1, 1) := by decide +kernel
theorem dX9_code_32 : decode cX9_code 32 = .ok (.ireturn, 1) := by decide +kernel
theorem dX9_codes_0 : decode cX9_codes 0 = .ok (.iload 4, 2) := by decide +kernel
theorem dX9_codes_2 : decode cX9_codes 2 = .ok (.iconst 1, 1) := by decide +kernel
theorem dX9_codes_3 : decode cX9_codes 3 = .ok (.bipush 8, 2) := by decide +kernel
theorem dX9_codes_5 : decode cX9_codes 5 = .ok (.invokestatic 89, 3) := by decide +kernel
theorem dX9_codes_8 : decode cX9_codes 8 = .ok (.ifCond .eq 17, 3) := by decide +kernel
theorem dX9_codes_11 : decode cX9_codes 11 = .ok (.iload_n 1, 1) := by decide +kernel
theorem dX9_codes_12 : decode cX9_codes 12 = .ok (.iconst 0, 1) := by decide +kernel
theorem dX9_codes_13 : decode cX9_codes 13 = .ok (.sipush 512, 3) := by decide +kernel
theorem dX9_codes_16 : decode cX9_codes 16 = .ok (.iload 4, 2) := by decide +kernel
theorem dX9_codes_18 : decode cX9_codes 18 = .ok (.isub, 1) := by decide +kernel
theorem dX9_codes_19 : decode cX9_codes 19 = .ok (.invokestatic 89, 3) := by decide +kernel
theorem dX9_codes_22 : decode cX9_codes 22 = .ok (.ifCond .ne 5, 3) := by decide +kernel
theorem dX9_codes_25 : decode cX9_codes 25 = .ok (.iconst (-1), 1) := by decide +kernel
theorem dX9_codes_26 : decode cX9_codes 26 = .ok (.ireturn, 1) := by decide +kernel
theorem dX9_codes_27 : decode cX9_codes 27 = .ok (.iconst 0, 1) := by decide +kernel
theorem dX9_codes_28 : decode cX9_codes 28 = .ok (.istore 5, 2) := by decide +kernel
theorem dX9_codes_30 : decode cX9_codes 30 = .ok (.iload 5, 2) := by decide +kernel
theorem dX9_codes_32 : decode cX9_codes 32 = .ok (.iload 4, 2) := by decide +kernel
theorem dX9_codes_34 : decode cX9_codes 34 = .ok (.if_icmp .ge 35, 3) := by decide +kernel
theorem dX9_codes_37 : decode cX9_codes 37 = .ok (.aload_n 0, 1) := by decide +kernel
theorem dX9_codes_38 : decode cX9_codes 38 = .ok (.getfield 7, 3) := by decide +kernel
theorem dX9_codes_41 : decode cX9_codes 41 = .ok (.iload_n 1, 1) := by decide +kernel
theorem dX9_codes_42 : decode cX9_codes 42 = .ok (.iload 5, 2) := by decide +kernel
theorem dX9_codes_44 : decode cX9_codes 44 = .ok (.iadd, 1) := by decide +kernel
theorem dX9_codes_45 : decode cX9_codes 45 = .ok (.lload_n 2, 1) := by decide +kernel
theorem dX9_codes_46 : decode cX9_codes 46 = .ok (.bipush 8, 2) := by decide +kernel
theorem dX9_codes_48 : decode cX9_codes 48 = .ok (.iload 4, 2) := by decide +kernel
theorem dX9_codes_50 : decode cX9_codes 50 = .ok (.iconst 1, 1) := by decide +kernel
theorem dX9_codes_51 : decode cX9_codes 51 = .ok (.isub, 1) := by decide +kernel
theorem dX9_codes_52 : decode cX9_codes 52 = .ok (.iload 5, 2) := by decide +kernel
theorem dX9_codes_54 : decode cX9_codes 54 = .ok (.isub, 1) := by decide +kernel
theorem dX9_codes_55 : decode cX9_codes 55 = .ok (.imul, 1) := by decide +kernel
theorem dX9_codes_56 : decode cX9_codes 56 = .ok (.lshr, 1) := by decide +kernel
theorem dX9_codes_57 : decode cX9_codes 57 = .ok (.ldc2_w 93, 3) := by decide +kernel
theorem dX9_codes_60 : decode cX9_codes 60 = .ok (.land, 1) := by decide +kernel
theorem dX9_codes_61 : decode cX9_codes 61 = .ok (.l2i, 1) := by decide +kernel
theorem dX9_codes_62 : decode cX9_codes 62 = .ok (.iastore, 1) := by decide +kernel
theorem dX9_codes_63 : decode cX9_codes 63 = .ok (.iinc 5 1, 3) := by decide +kernel
theorem dX9_codes_66 : decode cX9_codes 66 = .ok (.goto (-36), 3) := by decide +kernel
theorem dX9_codes_69 : decode cX9_codes 69 = .ok (.iconst 1, 1) := by decide +kernel
theorem dX9_codes_70 : decode cX9_codes 70 = .ok (.ireturn, 1) := by decide +kernel
theorem dX9_method_0 : decode cX9_method 0 = .ok (.iload_n 1, 1) := by decide +kernel
theorem dX9_method_1 : decode cX9_method 1 = .ok (.iconst 0, 1) := by decide +kernel
theorem dX9_method_2 : decode cX9_method 2 = .ok (.bipush 15, 2) := by decide +kernel
theorem dX9_method_4 : decode cX9_method 4 = .ok (.invokestatic 89, 3) := by decide +kernel
theorem dX9_method_7 : decode cX9_method 7 = .ok (.ifCond .eq 23, 3) := by decide +kernel
theorem dX9_method_10 : decode cX9_method 10 = .ok (.iload_n 2, 1) := by decide +kernel
theorem dX9_method_11 : decode cX9_method 11 = .ok (.iconst 0, 1) := by decide +kernel
theorem dX9_method_12 : decode cX9_method 12 = .ok (.iconst 3, 1) := by decide +kernel
theorem dX9_method_13 : decode cX9_method 13 = .ok (.invokestatic 89, 3) := by decide +kernel
theorem dX9_method_16 : decode cX9_method 16 = .ok (.ifCond .eq 14, 3) := by decide +kernel
theorem dX9_method_19 : decode cX9_method 19 = .ok (.iload_n 3, 1) := by decide +kernel
theorem dX9_method_20 : decode cX9_method 20 = .ok (.iconst 0, 1) := by decide +kernel
theorem dX9_method_21 : decode cX9_method 21 = .ok (.sipush 511, 3) := by decide +kernel
theorem dX9_method_24 : decode cX9_method 24 = .ok (.invokestatic 89, 3) := by decide +kernel
theorem dX9_method_27 : decode cX9_method 27 = .ok (.ifCond .ne 5, 3) := by decide +kernel
theorem dX9_method_30 : decode cX9_method 30 = .ok (.iconst (-1), 1) := by decide +kernel
theorem dX9_method_31 : decode cX9_method 31 = .ok (.ireturn, 1) := by decide +kernel
theorem dX9_method_32 : decode cX9_method 32 = .ok (.aload_n 0, 1) := by decide +kernel
theorem dX9_method_33 : decode cX9_method 33 = .ok (.getfield 13, 3) := by decide +kernel
theorem dX9_method_36 : decode cX9_method 36 = .ok (.iload_n 1, 1) := by decide +kernel
theorem dX9_method_37 : decode cX9_method 37 = .ok (.iload_n 2, 1) := by decide +kernel
theorem dX9_method_38 : decode cX9_method 38 = .ok (.iastore, 1) := by decide +kernel
theorem dX9_method_39 : decode cX9_method 39 = .ok (.aload_n 0, 1) := by decide +kernel
theorem dX9_method_40 : decode cX9_method 40 = .ok (.getfield 16, 3) := by decide +kernel
theorem dX9_method_43 : decode cX9_method 43 = .ok (.iload_n 1, 1) := by decide +kernel
theorem dX9_method_44 : decode cX9_method 44 = .ok (.iload_n 3, 1) := by decide +kernel
theorem dX9_method_45 : decode cX9_method 45 = .ok (.iastore, 1) := by decide +kernel
theorem dX9_method_46 : decode cX9_method 46 = .ok (.aload_n 0, 1) := by decide +kernel
theorem dX9_method_47 : decode cX9_method 47 = .ok (.getfield 19, 3) := by decide +kernel
theorem dX9_method_50 : decode cX9_method 50 = .ok (.iload_n 1, 1) := by decide +kernel
theorem dX9_method_51 : decode cX9_method 51 = .ok (.iload 4, 2) := by decide +kernel
theorem dX9_method_53 : decode cX9_method 53 = .ok (.bastore, 1) := by decide +kernel
theorem dX9_method_54 : decode cX9_method 54 = .ok (.iconst 1, 1) := by decide +kernel
theorem dX9_method_55 : decode cX9_method 55 = .ok (.ireturn, 1) := by decide +kernel
theorem dX9_type_0 : decode cX9_type 0 = .ok (.iload_n 1, 1) := by decide +kernel
theorem dX9_type_1 : decode cX9_type 1 = .ok (.iconst 0, 1) := by decide +kernel
theorem dX9_type_2 : decode cX9_type 2 = .ok (.sipush 255, 3) := by decide +kernel
theorem dX9_type_5 : decode cX9_type 5 = .ok (.invokestatic 89, 3) := by decide +kernel
theorem dX9_type_8 : decode cX9_type 8 = .ok (.ifCond .ne 5, 3) := by decide +kernel
theorem dX9_type_11 : decode cX9_type 11 = .ok (.iconst (-1), 1) := by decide +kernel
theorem dX9_type_12 : decode cX9_type 12 = .ok (.ireturn, 1) := by decide +kernel
theorem dX9_type_13 : decode cX9_type 13 = .ok (.aload_n 0, 1) := by decide +kernel
theorem dX9_type_14 : decode cX9_type 14 = .ok (.getfield 95, 3) := by decide +kernel
theorem dX9_type_17 : decode cX9_type 17 = .ok (.bipush 32, 2) := by decide +kernel
theorem dX9_type_19 : decode cX9_type 19 = .ok (.if_icmp .ne 6, 3) := by decide +kernel
theorem dX9_type_22 : decode cX9_type 22 = .ok (.bipush (-3), 2) := by decide +kernel
theorem dX9_type_24 : decode cX9_type 24 = .ok (.ireturn, 1) := by decide +kernel
theorem dX9_type_25 : decode cX9_type 25 = .ok (.aload_n 0, 1) := by decide +kernel
theorem dX9_type_26 : decode cX9_type 26 = .ok (.getfield 52, 3) := by decide +kernel
theorem dX9_type_29 : decode cX9_type 29 = .ok (.aload_n 0, 1) := by decide +kernel
theorem dX9_type_30 : decode cX9_type 30 = .ok (.getfield 95, 3) := by decide +kernel
theorem dX9_type_33 : decode cX9_type 33 = .ok (.iload_n 1, 1) := by decide +kernel
theorem dX9_type_34 : decode cX9_type 34 = .ok (.iastore, 1) := by decide +kernel
theorem dX9_type_35 : decode cX9_type 35 = .ok (.aload_n 0, 1) := by decide +kernel
theorem dX9_type_36 : decode cX9_type 36 = .ok (.dup, 1) := by decide +kernel
theorem dX9_type_37 : decode cX9_type 37 = .ok (.getfield 95, 3) := by decide +kernel
theorem dX9_type_40 : decode cX9_type 40 = .ok (.iconst 1, 1) := by decide +kernel
theorem dX9_type_41 : decode cX9_type 41 = .ok (.iadd, 1) := by decide +kernel
theorem dX9_type_42 : decode cX9_type 42 = .ok (.putfield 95, 3) := by decide +kernel
theorem dX9_type_45 : decode cX9_type 45 = .ok (.aload_n 0, 1) := by decide +kernel
theorem dX9_type_46 : decode cX9_type 46 = .ok (.getfield 95, 3) := by decide +kernel
theorem dX9_type_49 : decode cX9_type 49 = .ok (.ireturn, 1) := by decide +kernel
theorem dX9_top_0 : decode cX9_top 0 = .ok (.aload_n 0, 1) := by decide +kernel
theorem dX9_top_1 : decode cX9_top 1 = .ok (.getfield 98, 3) := by decide +kernel
theorem dX9_top_4 : decode cX9_top 4 = .ok (.iconst 1, 1) := by decide +kernel
theorem dX9_top_5 : decode cX9_top 5 = .ok (.isub, 1) := by decide +kernel
theorem dX9_top_6 : decode cX9_top 6 = .ok (.ireturn, 1) := by decide +kernel
theorem dX9_depth_0 : decode cX9_depth 0 = .ok (.aload_n 0, 1) := by decide +kernel
theorem dX9_depth_1 : decode cX9_depth 1 = .ok (.getfield 73, 3) := by decide +kernel
theorem dX9_depth_4 : decode cX9_depth 4 = .ok (.aload_n 0, 1) := by decide +kernel
theorem dX9_depth_5 : decode cX9_depth 5 = .ok (.invokevirtual 101, 3) := by decide +kernel
theorem dX9_depth_8 : decode cX9_depth 8 = .ok (.iaload, 1) := by decide +kernel
theorem dX9_depth_9 : decode cX9_depth 9 = .ok (.ireturn, 1) := by decide +kernel
theorem dX9_at_0 : decode cX9_at 0 = .ok (.aload_n 0, 1) := by decide +kernel
theorem dX9_at_1 : decode cX9_at 1 = .ok (.getfield 70, 3) := by decide +kernel
theorem dX9_at_4 : decode cX9_at 4 = .ok (.bipush 16, 2) := by decide +kernel
theorem dX9_at_6 : decode cX9_at 6 = .ok (.aload_n 0, 1) := by decide +kernel
theorem dX9_at_7 : decode cX9_at 7 = .ok (.invokevirtual 101, 3) := by decide +kernel
theorem dX9_at_10 : decode cX9_at 10 = .ok (.imul, 1) := by decide +kernel
theorem dX9_at_11 : decode cX9_at 11 = .ok (.aload_n 0, 1) := by decide +kernel
theorem dX9_at_12 : decode cX9_at 12 = .ok (.invokevirtual 105, 3) := by decide +kernel
theorem dX9_at_15 : decode cX9_at 15 = .ok (.iadd, 1) := by decide +kernel
theorem dX9_at_16 : decode cX9_at 16 = .ok (.iconst 1, 1) := by decide +kernel
theorem dX9_at_17 : decode cX9_at 17 = .ok (.isub, 1) := by decide +kernel
theorem dX9_at_18 : decode cX9_at 18 = .ok (.iload_n 1, 1) := by decide +kernel
theorem dX9_at_19 : decode cX9_at 19 = .ok (.isub, 1) := by decide +kernel
theorem dX9_at_20 : decode cX9_at 20 = .ok (.iaload, 1) := by decide +kernel
theorem dX9_at_21 : decode cX9_at 21 = .ok (.ireturn, 1) := by decide +kernel
theorem dX9_put_0 : decode cX9_put 0 = .ok (.aload_n 0, 1) := by decide +kernel
theorem dX9_put_1 : decode cX9_put 1 = .ok (.getfield 70, 3) := by decide +kernel
theorem dX9_put_4 : decode cX9_put 4 = .ok (.bipush 16, 2) := by decide +kernel
theorem dX9_put_6 : decode cX9_put 6 = .ok (.aload_n 0, 1) := by decide +kernel
theorem dX9_put_7 : decode cX9_put 7 = .ok (.invokevirtual 101, 3) := by decide +kernel
theorem dX9_put_10 : decode cX9_put 10 = .ok (.imul, 1) := by decide +kernel
theorem dX9_put_11 : decode cX9_put 11 = .ok (.aload_n 0, 1) := by decide +kernel
theorem dX9_put_12 : decode cX9_put 12 = .ok (.invokevirtual 105, 3) := by decide +kernel
theorem dX9_put_15 : decode cX9_put 15 = .ok (.iadd, 1) := by decide +kernel
theorem dX9_put_16 : decode cX9_put 16 = .ok (.iload_n 1, 1) := by decide +kernel
theorem dX9_put_17 : decode cX9_put 17 = .ok (.i2s, 1) := by decide +kernel
theorem dX9_put_18 : decode cX9_put 18 = .ok (.iastore, 1) := by decide +kernel
theorem dX9_put_19 : decode cX9_put 19 = .ok (.aload_n 0, 1) := by decide +kernel
theorem dX9_put_20 : decode cX9_put 20 = .ok (.getfield 73, 3) := by decide +kernel
theorem dX9_put_23 : decode cX9_put 23 = .ok (.aload_n 0, 1) := by decide +kernel
theorem dX9_put_24 : decode cX9_put 24 = .ok (.invokevirtual 101, 3) := by decide +kernel
theorem dX9_put_27 : decode cX9_put 27 = .ok (.dup2, 1) := by decide +kernel
theorem dX9_put_28 : decode cX9_put 28 = .ok (.iaload, 1) := by decide +kernel
theorem dX9_put_29 : decode cX9_put 29 = .ok (.iconst 1, 1) := by decide +kernel
theorem dX9_put_30 : decode cX9_put 30 = .ok (.iadd, 1) := by decide +kernel
theorem dX9_put_31 : decode cX9_put 31 = .ok (.iastore, 1) := by decide +kernel
theorem dX9_put_32 : decode cX9_put 32 = .ok (.return_, 1) := by decide +kernel
theorem dX9_drop_0 : decode cX9_drop 0 = .ok (.aload_n 0, 1) := by decide +kernel
theorem dX9_drop_1 : decode cX9_drop 1 = .ok (.getfield 73, 3) := by decide +kernel
theorem dX9_drop_4 : decode cX9_drop 4 = .ok (.aload_n 0, 1) := by decide +kernel
theorem dX9_drop_5 : decode cX9_drop 5 = .ok (.invokevirtual 101, 3) := by decide +kernel
theorem dX9_drop_8 : decode cX9_drop 8 = .ok (.dup2, 1) := by decide +kernel
theorem dX9_drop_9 : decode cX9_drop 9 = .ok (.iaload, 1) := by decide +kernel
theorem dX9_drop_10 : decode cX9_drop 10 = .ok (.iload_n 1, 1) := by decide +kernel
theorem dX9_drop_11 : decode cX9_drop 11 = .ok (.isub, 1) := by decide +kernel
theorem dX9_drop_12 : decode cX9_drop 12 = .ok (.iastore, 1) := by decide +kernel
theorem dX9_drop_13 : decode cX9_drop 13 = .ok (.return_, 1) := by decide +kernel
theorem dX9_here_0 : decode cX9_here 0 = .ok (.aload_n 0, 1) := by decide +kernel
theorem dX9_here_1 : decode cX9_here 1 = .ok (.getfield 61, 3) := by decide +kernel
theorem dX9_here_4 : decode cX9_here 4 = .ok (.aload_n 0, 1) := by decide +kernel
theorem dX9_here_5 : decode cX9_here 5 = .ok (.invokevirtual 101, 3) := by decide +kernel
theorem dX9_here_8 : decode cX9_here 8 = .ok (.iaload, 1) := by decide +kernel
theorem dX9_here_9 : decode cX9_here 9 = .ok (.ireturn, 1) := by decide +kernel
theorem dX9_byteAt_0 : decode cX9_byteAt 0 = .ok (.aload_n 0, 1) := by decide +kernel
theorem dX9_byteAt_1 : decode cX9_byteAt 1 = .ok (.getfield 7, 3) := by decide +kernel
theorem dX9_byteAt_4 : decode cX9_byteAt 4 = .ok (.aload_n 0, 1) := by decide +kernel
theorem dX9_byteAt_5 : decode cX9_byteAt 5 = .ok (.invokevirtual 108, 3) := by decide +kernel
theorem dX9_byteAt_8 : decode cX9_byteAt 8 = .ok (.iload_n 1, 1) := by decide +kernel
theorem dX9_byteAt_9 : decode cX9_byteAt 9 = .ok (.iadd, 1) := by decide +kernel
theorem dX9_byteAt_10 : decode cX9_byteAt 10 = .ok (.iaload, 1) := by decide +kernel
theorem dX9_byteAt_11 : decode cX9_byteAt 11 = .ok (.ireturn, 1) := by decide +kernel
theorem dX9_signed_0 : decode cX9_signed 0 = .ok (.aload_n 0, 1) := by decide +kernel
theorem dX9_signed_1 : decode cX9_signed 1 = .ok (.iload_n 1, 1) := by decide +kernel
theorem dX9_signed_2 : decode cX9_signed 2 = .ok (.invokevirtual 111, 3) := by decide +kernel
theorem dX9_signed_5 : decode cX9_signed 5 = .ok (.i2b, 1) := by decide +kernel
theorem dX9_signed_6 : decode cX9_signed 6 = .ok (.ireturn, 1) := by decide +kernel
theorem dX9_on_0 : decode cX9_on 0 = .ok (.aload_n 0, 1) := by decide +kernel
theorem dX9_on_1 : decode cX9_on 1 = .ok (.getfield 61, 3) := by decide +kernel
theorem dX9_on_4 : decode cX9_on 4 = .ok (.aload_n 0, 1) := by decide +kernel
theorem dX9_on_5 : decode cX9_on 5 = .ok (.invokevirtual 101, 3) := by decide +kernel
theorem dX9_on_8 : decode cX9_on 8 = .ok (.aload_n 0, 1) := by decide +kernel
theorem dX9_on_9 : decode cX9_on 9 = .ok (.invokevirtual 108, 3) := by decide +kernel
theorem dX9_on_12 : decode cX9_on 12 = .ok (.iload_n 1, 1) := by decide +kernel
theorem dX9_on_13 : decode cX9_on 13 = .ok (.iadd, 1) := by decide +kernel
theorem dX9_on_14 : decode cX9_on 14 = .ok (.iastore, 1) := by decide +kernel
theorem dX9_on_15 : decode cX9_on 15 = .ok (.return_, 1) := by decide +kernel
theorem dX9_enter_0 : decode cX9_enter 0 = .ok (.aload_n 0, 1) := by decide +kernel
theorem dX9_enter_1 : decode cX9_enter 1 = .ok (.getfield 58, 3) := by decide +kernel
theorem dX9_enter_4 : decode cX9_enter 4 = .ok (.aload_n 0, 1) := by decide +kernel
theorem dX9_enter_5 : decode cX9_enter 5 = .ok (.getfield 98, 3) := by decide +kernel
theorem dX9_enter_8 : decode cX9_enter 8 = .ok (.aload_n 0, 1) := by decide +kernel
theorem dX9_enter_9 : decode cX9_enter 9 = .ok (.getfield 13, 3) := by decide +kernel
theorem dX9_enter_12 : decode cX9_enter 12 = .ok (.iload_n 1, 1) := by decide +kernel
theorem dX9_enter_13 : decode cX9_enter 13 = .ok (.iaload, 1) := by decide +kernel
theorem dX9_enter_14 : decode cX9_enter 14 = .ok (.iastore, 1) := by decide +kernel
theorem dX9_enter_15 : decode cX9_enter 15 = .ok (.aload_n 0, 1) := by decide +kernel
theorem dX9_enter_16 : decode cX9_enter 16 = .ok (.getfield 61, 3) := by decide +kernel
theorem dX9_enter_19 : decode cX9_enter 19 = .ok (.aload_n 0, 1) := by decide +kernel
theorem dX9_enter_20 : decode cX9_enter 20 = .ok (.getfield 98, 3) := by decide +kernel
theorem dX9_enter_23 : decode cX9_enter 23 = .ok (.aload_n 0, 1) := by decide +kernel
theorem dX9_enter_24 : decode cX9_enter 24 = .ok (.getfield 16, 3) := by decide +kernel
theorem dX9_enter_27 : decode cX9_enter 27 = .ok (.iload_n 1, 1) := by decide +kernel
theorem dX9_enter_28 : decode cX9_enter 28 = .ok (.iaload, 1) := by decide +kernel
theorem dX9_enter_29 : decode cX9_enter 29 = .ok (.iastore, 1) := by decide +kernel
theorem dX9_enter_30 : decode cX9_enter 30 = .ok (.aload_n 0, 1) := by decide +kernel
theorem dX9_enter_31 : decode cX9_enter 31 = .ok (.getfield 64, 3) := by decide +kernel
theorem dX9_enter_34 : decode cX9_enter 34 = .ok (.aload_n 0, 1) := by decide +kernel
theorem dX9_enter_35 : decode cX9_enter 35 = .ok (.getfield 98, 3) := by decide +kernel
theorem dX9_enter_38 : decode cX9_enter 38 = .ok (.iconst (-1), 1) := by decide +kernel
theorem dX9_enter_39 : decode cX9_enter 39 = .ok (.iastore, 1) := by decide +kernel
theorem dX9_enter_40 : decode cX9_enter 40 = .ok (.aload_n 0, 1) := by decide +kernel
theorem dX9_enter_41 : decode cX9_enter 41 = .ok (.getfield 73, 3) := by decide +kernel
theorem dX9_enter_44 : decode cX9_enter 44 = .ok (.aload_n 0, 1) := by decide +kernel
theorem dX9_enter_45 : decode cX9_enter 45 = .ok (.getfield 98, 3) := by decide +kernel
theorem dX9_enter_48 : decode cX9_enter 48 = .ok (.iconst 0, 1) := by decide +kernel
theorem dX9_enter_49 : decode cX9_enter 49 = .ok (.iastore, 1) := by decide +kernel
theorem dX9_enter_50 : decode cX9_enter 50 = .ok (.iconst 0, 1) := by decide +kernel
theorem dX9_enter_51 : decode cX9_enter 51 = .ok (.istore_n 2, 1) := by decide +kernel
theorem dX9_enter_52 : decode cX9_enter 52 = .ok (.iload_n 2, 1) := by decide +kernel
theorem dX9_enter_53 : decode cX9_enter 53 = .ok (.bipush 8, 2) := by decide +kernel
theorem dX9_enter_55 : decode cX9_enter 55 = .ok (.if_icmp .ge 24, 3) := by decide +kernel
theorem dX9_enter_58 : decode cX9_enter 58 = .ok (.aload_n 0, 1) := by decide +kernel
theorem dX9_enter_59 : decode cX9_enter 59 = .ok (.getfield 67, 3) := by decide +kernel
theorem dX9_enter_62 : decode cX9_enter 62 = .ok (.bipush 8, 2) := by decide +kernel
theorem dX9_enter_64 : decode cX9_enter 64 = .ok (.aload_n 0, 1) := by decide +kernel
theorem dX9_enter_65 : decode cX9_enter 65 = .ok (.getfield 98, 3) := by decide +kernel
theorem dX9_enter_68 : decode cX9_enter 68 = .ok (.imul, 1) := by decide +kernel
theorem dX9_enter_69 : decode cX9_enter 69 = .ok (.iload_n 2, 1) := by decide +kernel
theorem dX9_enter_70 : decode cX9_enter 70 = .ok (.iadd, 1) := by decide +kernel
theorem dX9_enter_71 : decode cX9_enter 71 = .ok (.iconst 0, 1) := by decide +kernel
theorem dX9_enter_72 : decode cX9_enter 72 = .ok (.iastore, 1) := by decide +kernel
theorem dX9_enter_73 : decode cX9_enter 73 = .ok (.iinc 2 1, 3) := by decide +kernel
theorem dX9_enter_76 : decode cX9_enter 76 = .ok (.goto (-24), 3) := by decide +kernel
theorem dX9_enter_79 : decode cX9_enter 79 = .ok (.aload_n 0, 1) := by decide +kernel
theorem dX9_enter_80 : decode cX9_enter 80 = .ok (.dup, 1) := by decide +kernel
theorem dX9_enter_81 : decode cX9_enter 81 = .ok (.getfield 98, 3) := by decide +kernel
theorem dX9_enter_84 : decode cX9_enter 84 = .ok (.iconst 1, 1) := by decide +kernel
theorem dX9_enter_85 : decode cX9_enter 85 = .ok (.iadd, 1) := by decide +kernel
theorem dX9_enter_86 : decode cX9_enter 86 = .ok (.putfield 98, 3) := by decide +kernel
theorem dX9_enter_89 : decode cX9_enter 89 = .ok (.return_, 1) := by decide +kernel
theorem dX9_length_0 : decode cX9_length 0 = .ok (.iload_n 0, 1) := by decide +kernel
theorem dX9_length_1 : decode cX9_length 1 = .ok (.tableswitch 195 1 44 #[191, 193, 191, 191, 193, 195, 195, 195, 195, 195, 195, 195, 195, 195, 195, 195, 195, 195, 195, 195, 191, 193, 193, 193, 195, 195, 193, 191, 191, 195, 195, 195, 195, 195, 195, 195, 195, 195, 195, 195, 195, 195, 195, 191], 191) := by decide +kernel
theorem dX9_length_192 : decode cX9_length 192 = .ok (.iconst 2, 1) := by decide +kernel
theorem dX9_length_193 : decode cX9_length 193 = .ok (.ireturn, 1) := by decide +kernel
theorem dX9_length_194 : decode cX9_length 194 = .ok (.iconst 3, 1) := by decide +kernel
theorem dX9_length_195 : decode cX9_length 195 = .ok (.ireturn, 1) := by decide +kernel
theorem dX9_length_196 : decode cX9_length 196 = .ok (.iconst 1, 1) := by decide +kernel
theorem dX9_length_197 : decode cX9_length 197 = .ok (.ireturn, 1) := by decide +kernel
theorem dX9_takes_0 : decode cX9_takes 0 = .ok (.iload_n 1, 1) := by decide +kernel
theorem dX9_takes_1 : decode cX9_takes 1 = .ok (.tableswitch 192 4 43 #[175, 192, 177, 177, 177, 177, 177, 175, 177, 177, 177, 177, 177, 177, 175, 175, 177, 192, 175, 177, 183, 192, 175, 183, 192, 192, 177, 179, 175, 192, 175, 181, 192, 192, 192, 192, 175, 192, 175, 175], 175) := by decide +kernel
theorem dX9_takes_176 : decode cX9_takes 176 = .ok (.iconst 1, 1) := by decide +kernel
theorem dX9_takes_177 : decode cX9_takes 177 = .ok (.ireturn, 1) := by decide +kernel
theorem dX9_takes_178 : decode cX9_takes 178 = .ok (.iconst 2, 1) := by decide +kernel
theorem dX9_takes_179 : decode cX9_takes 179 = .ok (.ireturn, 1) := by decide +kernel
theorem dX9_takes_180 : decode cX9_takes 180 = .ok (.iconst 3, 1) := by decide +kernel
theorem dX9_takes_181 : decode cX9_takes 181 = .ok (.ireturn, 1) := by decide +kernel
theorem dX9_takes_182 : decode cX9_takes 182 = .ok (.iconst 5, 1) := by decide +kernel
theorem dX9_takes_183 : decode cX9_takes 183 = .ok (.ireturn, 1) := by decide +kernel
theorem dX9_takes_184 : decode cX9_takes 184 = .ok (.aload_n 0, 1) := by decide +kernel
theorem dX9_takes_185 : decode cX9_takes 185 = .ok (.iconst 2, 1) := by decide +kernel
theorem dX9_takes_186 : decode cX9_takes 186 = .ok (.invokevirtual 111, 3) := by decide +kernel
theorem dX9_takes_189 : decode cX9_takes 189 = .ok (.bipush 9, 2) := by decide +kernel
theorem dX9_takes_191 : decode cX9_takes 191 = .ok (.irem, 1) := by decide +kernel
theorem dX9_takes_192 : decode cX9_takes 192 = .ok (.ireturn, 1) := by decide +kernel
theorem dX9_takes_193 : decode cX9_takes 193 = .ok (.iconst 0, 1) := by decide +kernel
theorem dX9_takes_194 : decode cX9_takes 194 = .ok (.ireturn, 1) := by decide +kernel
theorem dX9_isObject_0 : decode cX9_isObject 0 = .ok (.iload_n 1, 1) := by decide +kernel
theorem dX9_isObject_1 : decode cX9_isObject 1 = .ok (.iconst 1, 1) := by decide +kernel
theorem dX9_isObject_2 : decode cX9_isObject 2 = .ok (.if_icmp .lt 15, 3) := by decide +kernel
theorem dX9_isObject_5 : decode cX9_isObject 5 = .ok (.iload_n 1, 1) := by decide +kernel
theorem dX9_isObject_6 : decode cX9_isObject 6 = .ok (.aload_n 0, 1) := by decide +kernel
theorem dX9_isObject_7 : decode cX9_isObject 7 = .ok (.getfield 83, 3) := by decide +kernel
theorem dX9_isObject_10 : decode cX9_isObject 10 = .ok (.if_icmp .gt 7, 3) := by decide +kernel
theorem dX9_isObject_13 : decode cX9_isObject 13 = .ok (.iconst 1, 1) := by decide +kernel
theorem dX9_isObject_14 : decode cX9_isObject 14 = .ok (.goto 4, 3) := by decide +kernel
theorem dX9_isObject_17 : decode cX9_isObject 17 = .ok (.iconst 0, 1) := by decide +kernel
theorem dX9_isObject_18 : decode cX9_isObject 18 = .ok (.ireturn, 1) := by decide +kernel
theorem dX9_isShut_0 : decode cX9_isShut 0 = .ok (.aload_n 0, 1) := by decide +kernel
theorem dX9_isShut_1 : decode cX9_isShut 1 = .ok (.getfield 58, 3) := by decide +kernel
theorem dX9_isShut_4 : decode cX9_isShut 4 = .ok (.aload_n 0, 1) := by decide +kernel
theorem dX9_isShut_5 : decode cX9_isShut 5 = .ok (.invokevirtual 101, 3) := by decide +kernel
theorem dX9_isShut_8 : decode cX9_isShut 8 = .ok (.iaload, 1) := by decide +kernel
theorem dX9_isShut_9 : decode cX9_isShut 9 = .ok (.ifCond .eq 25, 3) := by decide +kernel
theorem dX9_isShut_12 : decode cX9_isShut 12 = .ok (.aload_n 0, 1) := by decide +kernel
theorem dX9_isShut_13 : decode cX9_isShut 13 = .ok (.getfield 23, 3) := by decide +kernel
theorem dX9_isShut_16 : decode cX9_isShut 16 = .ok (.iload_n 1, 1) := by decide +kernel
theorem dX9_isShut_17 : decode cX9_isShut 17 = .ok (.iaload, 1) := by decide +kernel
theorem dX9_isShut_18 : decode cX9_isShut 18 = .ok (.aload_n 0, 1) := by decide +kernel
theorem dX9_isShut_19 : decode cX9_isShut 19 = .ok (.getfield 58, 3) := by decide +kernel
theorem dX9_isShut_22 : decode cX9_isShut 22 = .ok (.aload_n 0, 1) := by decide +kernel
theorem dX9_isShut_23 : decode cX9_isShut 23 = .ok (.invokevirtual 101, 3) := by decide +kernel
theorem dX9_isShut_26 : decode cX9_isShut 26 = .ok (.iaload, 1) := by decide +kernel
theorem dX9_isShut_27 : decode cX9_isShut 27 = .ok (.if_icmp .eq 7, 3) := by decide +kernel
theorem dX9_isShut_30 : decode cX9_isShut 30 = .ok (.iconst 1, 1) := by decide +kernel
theorem dX9_isShut_31 : decode cX9_isShut 31 = .ok (.goto 4, 3) := by decide +kernel
theorem dX9_isShut_34 : decode cX9_isShut 34 = .ok (.iconst 0, 1) := by decide +kernel
theorem dX9_isShut_35 : decode cX9_isShut 35 = .ok (.ireturn, 1) := by decide +kernel
theorem dX9_fault_0 : decode cX9_fault 0 = .ok (.aload_n 0, 1) := by decide +kernel
theorem dX9_fault_1 : decode cX9_fault 1 = .ok (.invokevirtual 108, 3) := by decide +kernel
theorem dX9_fault_4 : decode cX9_fault 4 = .ok (.ifCond .lt 42, 3) := by decide +kernel
theorem dX9_fault_7 : decode cX9_fault 7 = .ok (.aload_n 0, 1) := by decide +kernel
theorem dX9_fault_8 : decode cX9_fault 8 = .ok (.invokevirtual 108, 3) := by decide +kernel
theorem dX9_fault_11 : decode cX9_fault 11 = .ok (.sipush 512, 3) := by decide +kernel
theorem dX9_fault_14 : decode cX9_fault 14 = .ok (.if_icmp .ge 32, 3) := by decide +kernel
theorem dX9_fault_17 : decode cX9_fault 17 = .ok (.aload_n 0, 1) := by decide +kernel
theorem dX9_fault_18 : decode cX9_fault 18 = .ok (.iconst 0, 1) := by decide +kernel
theorem dX9_fault_19 : decode cX9_fault 19 = .ok (.invokevirtual 111, 3) := by decide +kernel
theorem dX9_fault_22 : decode cX9_fault 22 = .ok (.bipush 45, 2) := by decide +kernel
theorem dX9_fault_24 : decode cX9_fault 24 = .ok (.if_icmp .gt 22, 3) := by decide +kernel
theorem dX9_fault_27 : decode cX9_fault 27 = .ok (.aload_n 0, 1) := by decide +kernel
theorem dX9_fault_28 : decode cX9_fault 28 = .ok (.invokevirtual 108, 3) := by decide +kernel
theorem dX9_fault_31 : decode cX9_fault 31 = .ok (.aload_n 0, 1) := by decide +kernel
theorem dX9_fault_32 : decode cX9_fault 32 = .ok (.iconst 0, 1) := by decide +kernel
theorem dX9_fault_33 : decode cX9_fault 33 = .ok (.invokevirtual 111, 3) := by decide +kernel
theorem dX9_fault_36 : decode cX9_fault 36 = .ok (.invokestatic 115, 3) := by decide +kernel
theorem dX9_fault_39 : decode cX9_fault 39 = .ok (.iadd, 1) := by decide +kernel
theorem dX9_fault_40 : decode cX9_fault 40 = .ok (.sipush 512, 3) := by decide +kernel
theorem dX9_fault_43 : decode cX9_fault 43 = .ok (.if_icmp .le 6, 3) := by decide +kernel
theorem dX9_fault_46 : decode cX9_fault 46 = .ok (.bipush 7, 2) := by decide +kernel
theorem dX9_fault_48 : decode cX9_fault 48 = .ok (.ireturn, 1) := by decide +kernel
theorem dX9_fault_49 : decode cX9_fault 49 = .ok (.aload_n 0, 1) := by decide +kernel
theorem dX9_fault_50 : decode cX9_fault 50 = .ok (.iconst 0, 1) := by decide +kernel
theorem dX9_fault_51 : decode cX9_fault 51 = .ok (.invokevirtual 111, 3) := by decide +kernel
theorem dX9_fault_54 : decode cX9_fault 54 = .ok (.istore_n 1, 1) := by decide +kernel
theorem dX9_fault_55 : decode cX9_fault 55 = .ok (.aload_n 0, 1) := by decide +kernel
theorem dX9_fault_56 : decode cX9_fault 56 = .ok (.invokevirtual 105, 3) := by decide +kernel
theorem dX9_fault_59 : decode cX9_fault 59 = .ok (.aload_n 0, 1) := by decide +kernel
theorem dX9_fault_60 : decode cX9_fault 60 = .ok (.iload_n 1, 1) := by decide +kernel
theorem dX9_fault_61 : decode cX9_fault 61 = .ok (.invokevirtual 118, 3) := by decide +kernel
theorem dX9_fault_64 : decode cX9_fault 64 = .ok (.if_icmp .ge 6, 3) := by decide +kernel
theorem dX9_fault_67 : decode cX9_fault 67 = .ok (.bipush 6, 2) := by decide +kernel
theorem dX9_fault_69 : decode cX9_fault 69 = .ok (.ireturn, 1) := by decide +kernel
theorem dX9_fault_70 : decode cX9_fault 70 = .ok (.iload_n 1, 1) := by decide +kernel
theorem dX9_fault_71 : decode cX9_fault 71 = .ok (.bipush 30, 2) := by decide +kernel
theorem dX9_fault_73 : decode cX9_fault 73 = .ok (.if_icmp .eq 21, 3) := by decide +kernel
theorem dX9_fault_76 : decode cX9_fault 76 = .ok (.iload_n 1, 1) := by decide +kernel
theorem dX9_fault_77 : decode cX9_fault 77 = .ok (.bipush 31, 2) := by decide +kernel
theorem dX9_fault_79 : decode cX9_fault 79 = .ok (.if_icmp .eq 15, 3) := by decide +kernel
theorem dX9_fault_82 : decode cX9_fault 82 = .ok (.iload_n 1, 1) := by decide +kernel
theorem dX9_fault_83 : decode cX9_fault 83 = .ok (.bipush 32, 2) := by decide +kernel
theorem dX9_fault_85 : decode cX9_fault 85 = .ok (.if_icmp .eq 9, 3) := by decide +kernel
theorem dX9_fault_88 : decode cX9_fault 88 = .ok (.iload_n 1, 1) := by decide +kernel
theorem dX9_fault_89 : decode cX9_fault 89 = .ok (.bipush 34, 2) := by decide +kernel
theorem dX9_fault_91 : decode cX9_fault 91 = .ok (.if_icmp .ne 109, 3) := by decide +kernel
theorem dX9_fault_94 : decode cX9_fault 94 = .ok (.aload_n 0, 1) := by decide +kernel
theorem dX9_fault_95 : decode cX9_fault 95 = .ok (.aload_n 0, 1) := by decide +kernel
theorem dX9_fault_96 : decode cX9_fault 96 = .ok (.iload_n 1, 1) := by decide +kernel
theorem dX9_fault_97 : decode cX9_fault 97 = .ok (.invokevirtual 118, 3) := by decide +kernel
theorem dX9_fault_100 : decode cX9_fault 100 = .ok (.iconst 1, 1) := by decide +kernel
theorem dX9_fault_101 : decode cX9_fault 101 = .ok (.isub, 1) := by decide +kernel
theorem dX9_fault_102 : decode cX9_fault 102 = .ok (.invokevirtual 121, 3) := by decide +kernel
theorem dX9_fault_105 : decode cX9_fault 105 = .ok (.istore_n 2, 1) := by decide +kernel
theorem dX9_fault_106 : decode cX9_fault 106 = .ok (.aload_n 0, 1) := by decide +kernel
theorem dX9_fault_107 : decode cX9_fault 107 = .ok (.iload_n 2, 1) := by decide +kernel
theorem dX9_fault_108 : decode cX9_fault 108 = .ok (.invokevirtual 124, 3) := by decide +kernel
theorem dX9_fault_111 : decode cX9_fault 111 = .ok (.ifCond .ne 7, 3) := by decide +kernel
theorem dX9_fault_114 : decode cX9_fault 114 = .ok (.iconst 2, 1) := by decide +kernel
theorem dX9_fault_115 : decode cX9_fault 115 = .ok (.goto 84, 3) := by decide +kernel
theorem dX9_fault_118 : decode cX9_fault 118 = .ok (.iload_n 1, 1) := by decide +kernel
theorem dX9_fault_119 : decode cX9_fault 119 = .ok (.bipush 34, 2) := by decide +kernel
theorem dX9_fault_121 : decode cX9_fault 121 = .ok (.if_icmp .eq 15, 3) := by decide +kernel
theorem dX9_fault_124 : decode cX9_fault 124 = .ok (.aload_n 0, 1) := by decide +kernel
theorem dX9_fault_125 : decode cX9_fault 125 = .ok (.iload_n 2, 1) := by decide +kernel
theorem dX9_fault_126 : decode cX9_fault 126 = .ok (.invokevirtual 128, 3) := by decide +kernel
theorem dX9_fault_129 : decode cX9_fault 129 = .ok (.ifCond .eq 7, 3) := by decide +kernel
theorem dX9_fault_132 : decode cX9_fault 132 = .ok (.iconst 4, 1) := by decide +kernel
theorem dX9_fault_133 : decode cX9_fault 133 = .ok (.goto 66, 3) := by decide +kernel
theorem dX9_fault_136 : decode cX9_fault 136 = .ok (.iload_n 1, 1) := by decide +kernel
theorem dX9_fault_137 : decode cX9_fault 137 = .ok (.bipush 32, 2) := by decide +kernel
theorem dX9_fault_139 : decode cX9_fault 139 = .ok (.if_icmp .ge 33, 3) := by decide +kernel
theorem dX9_fault_142 : decode cX9_fault 142 = .ok (.aload_n 0, 1) := by decide +kernel
theorem dX9_fault_143 : decode cX9_fault 143 = .ok (.aload_n 0, 1) := by decide +kernel
theorem dX9_fault_144 : decode cX9_fault 144 = .ok (.iload_n 1, 1) := by decide +kernel
theorem dX9_fault_145 : decode cX9_fault 145 = .ok (.invokevirtual 118, 3) := by decide +kernel
theorem dX9_fault_148 : decode cX9_fault 148 = .ok (.iconst 2, 1) := by decide +kernel
theorem dX9_fault_149 : decode cX9_fault 149 = .ok (.isub, 1) := by decide +kernel
theorem dX9_fault_150 : decode cX9_fault 150 = .ok (.invokevirtual 121, 3) := by decide +kernel
theorem dX9_fault_153 : decode cX9_fault 153 = .ok (.iconst 0, 1) := by decide +kernel
theorem dX9_fault_154 : decode cX9_fault 154 = .ok (.aload_n 0, 1) := by decide +kernel
theorem dX9_fault_155 : decode cX9_fault 155 = .ok (.getfield 29, 3) := by decide +kernel
theorem dX9_fault_158 : decode cX9_fault 158 = .ok (.iload_n 2, 1) := by decide +kernel
theorem dX9_fault_159 : decode cX9_fault 159 = .ok (.iaload, 1) := by decide +kernel
theorem dX9_fault_160 : decode cX9_fault 160 = .ok (.iconst 1, 1) := by decide +kernel
theorem dX9_fault_161 : decode cX9_fault 161 = .ok (.isub, 1) := by decide +kernel
theorem dX9_fault_162 : decode cX9_fault 162 = .ok (.invokestatic 89, 3) := by decide +kernel
theorem dX9_fault_165 : decode cX9_fault 165 = .ok (.ifCond .ne 7, 3) := by decide +kernel
theorem dX9_fault_168 : decode cX9_fault 168 = .ok (.iconst 3, 1) := by decide +kernel
theorem dX9_fault_169 : decode cX9_fault 169 = .ok (.goto 30, 3) := by decide +kernel
theorem dX9_fault_172 : decode cX9_fault 172 = .ok (.iload_n 1, 1) := by decide +kernel
theorem dX9_fault_173 : decode cX9_fault 173 = .ok (.bipush 31, 2) := by decide +kernel
theorem dX9_fault_175 : decode cX9_fault 175 = .ok (.if_icmp .ne 23, 3) := by decide +kernel
theorem dX9_fault_178 : decode cX9_fault 178 = .ok (.aload_n 0, 1) := by decide +kernel
theorem dX9_fault_179 : decode cX9_fault 179 = .ok (.getfield 131, 3) := by decide +kernel
theorem dX9_fault_182 : decode cX9_fault 182 = .ok (.ifCond .eq 16, 3) := by decide +kernel
theorem dX9_fault_185 : decode cX9_fault 185 = .ok (.aload_n 0, 1) := by decide +kernel
theorem dX9_fault_186 : decode cX9_fault 186 = .ok (.getfield 134, 3) := by decide +kernel
theorem dX9_fault_189 : decode cX9_fault 189 = .ok (.bipush 20, 2) := by decide +kernel
theorem dX9_fault_191 : decode cX9_fault 191 = .ok (.if_icmp .ne 7, 3) := by decide +kernel
theorem dX9_fault_194 : decode cX9_fault 194 = .ok (.iconst 5, 1) := by decide +kernel
theorem dX9_fault_195 : decode cX9_fault 195 = .ok (.goto 4, 3) := by decide +kernel
theorem dX9_fault_198 : decode cX9_fault 198 = .ok (.iconst 0, 1) := by decide +kernel
theorem dX9_fault_199 : decode cX9_fault 199 = .ok (.ireturn, 1) := by decide +kernel
theorem dX9_fault_200 : decode cX9_fault 200 = .ok (.iload_n 1, 1) := by decide +kernel
theorem dX9_fault_201 : decode cX9_fault 201 = .ok (.bipush 35, 2) := by decide +kernel
theorem dX9_fault_203 : decode cX9_fault 203 = .ok (.if_icmp .ne 33, 3) := by decide +kernel
theorem dX9_fault_206 : decode cX9_fault 206 = .ok (.aload_n 0, 1) := by decide +kernel
theorem dX9_fault_207 : decode cX9_fault 207 = .ok (.aload_n 0, 1) := by decide +kernel
theorem dX9_fault_208 : decode cX9_fault 208 = .ok (.iconst 4, 1) := by decide +kernel
theorem dX9_fault_209 : decode cX9_fault 209 = .ok (.invokevirtual 121, 3) := by decide +kernel
theorem dX9_fault_212 : decode cX9_fault 212 = .ok (.aload_n 0, 1) := by decide +kernel
theorem dX9_fault_213 : decode cX9_fault 213 = .ok (.iconst 3, 1) := by decide +kernel
theorem dX9_fault_214 : decode cX9_fault 214 = .ok (.invokevirtual 121, 3) := by decide +kernel
theorem dX9_fault_217 : decode cX9_fault 217 = .ok (.aload_n 0, 1) := by decide +kernel
theorem dX9_fault_218 : decode cX9_fault 218 = .ok (.iconst 2, 1) := by decide +kernel
theorem dX9_fault_219 : decode cX9_fault 219 = .ok (.invokevirtual 121, 3) := by decide +kernel
theorem dX9_fault_222 : decode cX9_fault 222 = .ok (.aload_n 0, 1) := by decide +kernel
theorem dX9_fault_223 : decode cX9_fault 223 = .ok (.iconst 1, 1) := by decide +kernel
theorem dX9_fault_224 : decode cX9_fault 224 = .ok (.invokevirtual 121, 3) := by decide +kernel
theorem dX9_fault_227 : decode cX9_fault 227 = .ok (.aload_n 0, 1) := by decide +kernel
theorem dX9_fault_228 : decode cX9_fault 228 = .ok (.iconst 0, 1) := by decide +kernel
theorem dX9_fault_229 : decode cX9_fault 229 = .ok (.invokevirtual 121, 3) := by decide +kernel
theorem dX9_fault_232 : decode cX9_fault 232 = .ok (.invokevirtual 137, 3) := by decide +kernel
theorem dX9_fault_235 : decode cX9_fault 235 = .ok (.ireturn, 1) := by decide +kernel
theorem dX9_fault_236 : decode cX9_fault 236 = .ok (.iload_n 1, 1) := by decide +kernel
theorem dX9_fault_237 : decode cX9_fault 237 = .ok (.bipush 24, 2) := by decide +kernel
theorem dX9_fault_239 : decode cX9_fault 239 = .ok (.if_icmp .eq 9, 3) := by decide +kernel
theorem dX9_fault_242 : decode cX9_fault 242 = .ok (.iload_n 1, 1) := by decide +kernel
theorem dX9_fault_243 : decode cX9_fault 243 = .ok (.bipush 27, 2) := by decide +kernel
theorem dX9_fault_245 : decode cX9_fault 245 = .ok (.if_icmp .ne 75, 3) := by decide +kernel
theorem dX9_fault_248 : decode cX9_fault 248 = .ok (.aload_n 0, 1) := by decide +kernel
theorem dX9_fault_249 : decode cX9_fault 249 = .ok (.iconst 1, 1) := by decide +kernel
theorem dX9_fault_250 : decode cX9_fault 250 = .ok (.invokevirtual 111, 3) := by decide +kernel
theorem dX9_fault_253 : decode cX9_fault 253 = .ok (.bipush 16, 2) := by decide +kernel
theorem dX9_fault_255 : decode cX9_fault 255 = .ok (.irem, 1) := by decide +kernel
theorem dX9_fault_256 : decode cX9_fault 256 = .ok (.istore_n 2, 1) := by decide +kernel
theorem dX9_fault_257 : decode cX9_fault 257 = .ok (.iload_n 1, 1) := by decide +kernel
theorem dX9_fault_258 : decode cX9_fault 258 = .ok (.bipush 24, 2) := by decide +kernel
theorem dX9_fault_260 : decode cX9_fault 260 = .ok (.if_icmp .ne 29, 3) := by decide +kernel
theorem dX9_fault_263 : decode cX9_fault 263 = .ok (.aload_n 0, 1) := by decide +kernel
theorem dX9_fault_264 : decode cX9_fault 264 = .ok (.getfield 13, 3) := by decide +kernel
theorem dX9_fault_267 : decode cX9_fault 267 = .ok (.iload_n 2, 1) := by decide +kernel
theorem dX9_fault_268 : decode cX9_fault 268 = .ok (.iaload, 1) := by decide +kernel
theorem dX9_fault_269 : decode cX9_fault 269 = .ok (.aload_n 0, 1) := by decide +kernel
theorem dX9_fault_270 : decode cX9_fault 270 = .ok (.getfield 58, 3) := by decide +kernel
theorem dX9_fault_273 : decode cX9_fault 273 = .ok (.aload_n 0, 1) := by decide +kernel
theorem dX9_fault_274 : decode cX9_fault 274 = .ok (.invokevirtual 101, 3) := by decide +kernel
theorem dX9_fault_277 : decode cX9_fault 277 = .ok (.iaload, 1) := by decide +kernel
theorem dX9_fault_278 : decode cX9_fault 278 = .ok (.if_icmp .ne 7, 3) := by decide +kernel
theorem dX9_fault_281 : decode cX9_fault 281 = .ok (.iconst 1, 1) := by decide +kernel
theorem dX9_fault_282 : decode cX9_fault 282 = .ok (.goto 13, 3) := by decide +kernel
theorem dX9_fault_285 : decode cX9_fault 285 = .ok (.iconst 0, 1) := by decide +kernel
theorem dX9_fault_286 : decode cX9_fault 286 = .ok (.goto 9, 3) := by decide +kernel
theorem dX9_fault_289 : decode cX9_fault 289 = .ok (.aload_n 0, 1) := by decide +kernel
theorem dX9_fault_290 : decode cX9_fault 290 = .ok (.getfield 19, 3) := by decide +kernel
theorem dX9_fault_293 : decode cX9_fault 293 = .ok (.iload_n 2, 1) := by decide +kernel
theorem dX9_fault_294 : decode cX9_fault 294 = .ok (.baload, 1) := by decide +kernel
theorem dX9_fault_295 : decode cX9_fault 295 = .ok (.istore_n 3, 1) := by decide +kernel
theorem dX9_fault_296 : decode cX9_fault 296 = .ok (.iload_n 3, 1) := by decide +kernel
theorem dX9_fault_297 : decode cX9_fault 297 = .ok (.ifCond .ne 7, 3) := by decide +kernel
theorem dX9_fault_300 : decode cX9_fault 300 = .ok (.iconst 4, 1) := by decide +kernel
theorem dX9_fault_301 : decode cX9_fault 301 = .ok (.goto 18, 3) := by decide +kernel
theorem dX9_fault_304 : decode cX9_fault 304 = .ok (.aload_n 0, 1) := by decide +kernel
theorem dX9_fault_305 : decode cX9_fault 305 = .ok (.getfield 98, 3) := by decide +kernel
theorem dX9_fault_308 : decode cX9_fault 308 = .ok (.bipush 8, 2) := by decide +kernel
theorem dX9_fault_310 : decode cX9_fault 310 = .ok (.if_icmp .ne 8, 3) := by decide +kernel
theorem dX9_fault_313 : decode cX9_fault 313 = .ok (.bipush 6, 2) := by decide +kernel
theorem dX9_fault_315 : decode cX9_fault 315 = .ok (.goto 4, 3) := by decide +kernel
theorem dX9_fault_318 : decode cX9_fault 318 = .ok (.iconst 0, 1) := by decide +kernel
theorem dX9_fault_319 : decode cX9_fault 319 = .ok (.ireturn, 1) := by decide +kernel
theorem dX9_fault_320 : decode cX9_fault 320 = .ok (.iload_n 1, 1) := by decide +kernel
theorem dX9_fault_321 : decode cX9_fault 321 = .ok (.bipush 28, 2) := by decide +kernel
theorem dX9_fault_323 : decode cX9_fault 323 = .ok (.if_icmp .eq 9, 3) := by decide +kernel
theorem dX9_fault_326 : decode cX9_fault 326 = .ok (.iload_n 1, 1) := by decide +kernel
theorem dX9_fault_327 : decode cX9_fault 327 = .ok (.bipush 29, 2) := by decide +kernel
theorem dX9_fault_329 : decode cX9_fault 329 = .ok (.if_icmp .ne 91, 3) := by decide +kernel
theorem dX9_fault_332 : decode cX9_fault 332 = .ok (.aload_n 0, 1) := by decide +kernel
theorem dX9_fault_333 : decode cX9_fault 333 = .ok (.iconst 1, 1) := by decide +kernel
theorem dX9_fault_334 : decode cX9_fault 334 = .ok (.invokevirtual 111, 3) := by decide +kernel
theorem dX9_fault_337 : decode cX9_fault 337 = .ok (.istore_n 2, 1) := by decide +kernel
theorem dX9_fault_338 : decode cX9_fault 338 = .ok (.iload_n 2, 1) := by decide +kernel
theorem dX9_fault_339 : decode cX9_fault 339 = .ok (.iconst 1, 1) := by decide +kernel
theorem dX9_fault_340 : decode cX9_fault 340 = .ok (.bipush 16, 2) := by decide +kernel
theorem dX9_fault_342 : decode cX9_fault 342 = .ok (.invokestatic 89, 3) := by decide +kernel
theorem dX9_fault_345 : decode cX9_fault 345 = .ok (.ifCond .eq 28, 3) := by decide +kernel
theorem dX9_fault_348 : decode cX9_fault 348 = .ok (.aload_n 0, 1) := by decide +kernel
theorem dX9_fault_349 : decode cX9_fault 349 = .ok (.getfield 83, 3) := by decide +kernel
theorem dX9_fault_352 : decode cX9_fault 352 = .ok (.bipush 40, 2) := by decide +kernel
theorem dX9_fault_354 : decode cX9_fault 354 = .ok (.if_icmp .ge 19, 3) := by decide +kernel
theorem dX9_fault_357 : decode cX9_fault 357 = .ok (.aload_n 0, 1) := by decide +kernel
theorem dX9_fault_358 : decode cX9_fault 358 = .ok (.getfield 86, 3) := by decide +kernel
theorem dX9_fault_361 : decode cX9_fault 361 = .ok (.iload_n 2, 1) := by decide +kernel
theorem dX9_fault_362 : decode cX9_fault 362 = .ok (.iadd, 1) := by decide +kernel
theorem dX9_fault_363 : decode cX9_fault 363 = .ok (.sipush 240, 3) := by decide +kernel
theorem dX9_fault_366 : decode cX9_fault 366 = .ok (.if_icmp .gt 7, 3) := by decide +kernel
theorem dX9_fault_369 : decode cX9_fault 369 = .ok (.iconst 1, 1) := by decide +kernel
theorem dX9_fault_370 : decode cX9_fault 370 = .ok (.goto 4, 3) := by decide +kernel
theorem dX9_fault_373 : decode cX9_fault 373 = .ok (.iconst 0, 1) := by decide +kernel
theorem dX9_fault_374 : decode cX9_fault 374 = .ok (.istore_n 3, 1) := by decide +kernel
theorem dX9_fault_375 : decode cX9_fault 375 = .ok (.iload_n 3, 1) := by decide +kernel
theorem dX9_fault_376 : decode cX9_fault 376 = .ok (.ifCond .ne 8, 3) := by decide +kernel
theorem dX9_fault_379 : decode cX9_fault 379 = .ok (.bipush 8, 2) := by decide +kernel
theorem dX9_fault_381 : decode cX9_fault 381 = .ok (.goto 38, 3) := by decide +kernel
theorem dX9_fault_384 : decode cX9_fault 384 = .ok (.aload_n 0, 1) := by decide +kernel
theorem dX9_fault_385 : decode cX9_fault 385 = .ok (.getfield 131, 3) := by decide +kernel
theorem dX9_fault_388 : decode cX9_fault 388 = .ok (.ifCond .eq 16, 3) := by decide +kernel
theorem dX9_fault_391 : decode cX9_fault 391 = .ok (.aload_n 0, 1) := by decide +kernel
theorem dX9_fault_392 : decode cX9_fault 392 = .ok (.getfield 134, 3) := by decide +kernel
theorem dX9_fault_395 : decode cX9_fault 395 = .ok (.bipush 20, 2) := by decide +kernel
theorem dX9_fault_397 : decode cX9_fault 397 = .ok (.if_icmp .ne 7, 3) := by decide +kernel
theorem dX9_fault_400 : decode cX9_fault 400 = .ok (.iconst 5, 1) := by decide +kernel
theorem dX9_fault_401 : decode cX9_fault 401 = .ok (.goto 18, 3) := by decide +kernel
theorem dX9_fault_404 : decode cX9_fault 404 = .ok (.aload_n 0, 1) := by decide +kernel
theorem dX9_fault_405 : decode cX9_fault 405 = .ok (.invokevirtual 105, 3) := by decide +kernel
theorem dX9_fault_408 : decode cX9_fault 408 = .ok (.bipush 16, 2) := by decide +kernel
theorem dX9_fault_410 : decode cX9_fault 410 = .ok (.if_icmp .ne 8, 3) := by decide +kernel
theorem dX9_fault_413 : decode cX9_fault 413 = .ok (.bipush 6, 2) := by decide +kernel
theorem dX9_fault_415 : decode cX9_fault 415 = .ok (.goto 4, 3) := by decide +kernel
theorem dX9_fault_418 : decode cX9_fault 418 = .ok (.iconst 0, 1) := by decide +kernel
theorem dX9_fault_419 : decode cX9_fault 419 = .ok (.ireturn, 1) := by decide +kernel
theorem dX9_fault_420 : decode cX9_fault 420 = .ok (.iload_n 1, 1) := by decide +kernel
theorem dX9_fault_421 : decode cX9_fault 421 = .ok (.bipush 9, 2) := by decide +kernel
theorem dX9_fault_423 : decode cX9_fault 423 = .ok (.if_icmp .eq 9, 3) := by decide +kernel
theorem dX9_fault_426 : decode cX9_fault 426 = .ok (.iload_n 1, 1) := by decide +kernel
theorem dX9_fault_427 : decode cX9_fault 427 = .ok (.bipush 10, 2) := by decide +kernel
theorem dX9_fault_429 : decode cX9_fault 429 = .ok (.if_icmp .ne 17, 3) := by decide +kernel
theorem dX9_fault_432 : decode cX9_fault 432 = .ok (.aload_n 0, 1) := by decide +kernel
theorem dX9_fault_433 : decode cX9_fault 433 = .ok (.iconst 0, 1) := by decide +kernel
theorem dX9_fault_434 : decode cX9_fault 434 = .ok (.invokevirtual 121, 3) := by decide +kernel
theorem dX9_fault_437 : decode cX9_fault 437 = .ok (.ifCond .ne 7, 3) := by decide +kernel
theorem dX9_fault_440 : decode cX9_fault 440 = .ok (.iconst 1, 1) := by decide +kernel
theorem dX9_fault_441 : decode cX9_fault 441 = .ok (.goto 4, 3) := by decide +kernel
theorem dX9_fault_444 : decode cX9_fault 444 = .ok (.iconst 0, 1) := by decide +kernel
theorem dX9_fault_445 : decode cX9_fault 445 = .ok (.ireturn, 1) := by decide +kernel
theorem dX9_fault_446 : decode cX9_fault 446 = .ok (.iload_n 1, 1) := by decide +kernel
theorem dX9_fault_447 : decode cX9_fault 447 = .ok (.bipush 36, 2) := by decide +kernel
theorem dX9_fault_449 : decode cX9_fault 449 = .ok (.if_icmp .eq 15, 3) := by decide +kernel
theorem dX9_fault_452 : decode cX9_fault 452 = .ok (.iload_n 1, 1) := by decide +kernel
theorem dX9_fault_453 : decode cX9_fault 453 = .ok (.bipush 37, 2) := by decide +kernel
theorem dX9_fault_455 : decode cX9_fault 455 = .ok (.if_icmp .eq 9, 3) := by decide +kernel
theorem dX9_fault_458 : decode cX9_fault 458 = .ok (.iload_n 1, 1) := by decide +kernel
theorem dX9_fault_459 : decode cX9_fault 459 = .ok (.bipush 38, 2) := by decide +kernel
theorem dX9_fault_461 : decode cX9_fault 461 = .ok (.if_icmp .ne 28, 3) := by decide +kernel
theorem dX9_fault_464 : decode cX9_fault 464 = .ok (.aload_n 0, 1) := by decide +kernel
theorem dX9_fault_465 : decode cX9_fault 465 = .ok (.getfield 131, 3) := by decide +kernel
theorem dX9_fault_468 : decode cX9_fault 468 = .ok (.iload_n 1, 1) := by decide +kernel
theorem dX9_fault_469 : decode cX9_fault 469 = .ok (.bipush 36, 2) := by decide +kernel
theorem dX9_fault_471 : decode cX9_fault 471 = .ok (.if_icmp .ne 7, 3) := by decide +kernel
theorem dX9_fault_474 : decode cX9_fault 474 = .ok (.iconst 1, 1) := by decide +kernel
theorem dX9_fault_475 : decode cX9_fault 475 = .ok (.goto 4, 3) := by decide +kernel
theorem dX9_fault_478 : decode cX9_fault 478 = .ok (.iconst 0, 1) := by decide +kernel
theorem dX9_fault_479 : decode cX9_fault 479 = .ok (.if_icmp .ne 8, 3) := by decide +kernel
theorem dX9_fault_482 : decode cX9_fault 482 = .ok (.bipush 9, 2) := by decide +kernel
theorem dX9_fault_484 : decode cX9_fault 484 = .ok (.goto 4, 3) := by decide +kernel
theorem dX9_fault_487 : decode cX9_fault 487 = .ok (.iconst 0, 1) := by decide +kernel
theorem dX9_fault_488 : decode cX9_fault 488 = .ok (.ireturn, 1) := by decide +kernel
theorem dX9_fault_489 : decode cX9_fault 489 = .ok (.iload_n 1, 1) := by decide +kernel
theorem dX9_fault_490 : decode cX9_fault 490 = .ok (.bipush 40, 2) := by decide +kernel
theorem dX9_fault_492 : decode cX9_fault 492 = .ok (.if_icmp .ne 27, 3) := by decide +kernel
theorem dX9_fault_495 : decode cX9_fault 495 = .ok (.aload_n 0, 1) := by decide +kernel
theorem dX9_fault_496 : decode cX9_fault 496 = .ok (.iconst 0, 1) := by decide +kernel
theorem dX9_fault_497 : decode cX9_fault 497 = .ok (.invokevirtual 121, 3) := by decide +kernel
theorem dX9_fault_500 : decode cX9_fault 500 = .ok (.iconst 0, 1) := by decide +kernel
theorem dX9_fault_501 : decode cX9_fault 501 = .ok (.aload_n 0, 1) := by decide +kernel
theorem dX9_fault_502 : decode cX9_fault 502 = .ok (.getfield 95, 3) := by decide +kernel
theorem dX9_fault_505 : decode cX9_fault 505 = .ok (.iconst 1, 1) := by decide +kernel
theorem dX9_fault_506 : decode cX9_fault 506 = .ok (.isub, 1) := by decide +kernel
theorem dX9_fault_507 : decode cX9_fault 507 = .ok (.invokestatic 89, 3) := by decide +kernel
theorem dX9_fault_510 : decode cX9_fault 510 = .ok (.ifCond .eq 7, 3) := by decide +kernel
theorem dX9_fault_513 : decode cX9_fault 513 = .ok (.iconst 0, 1) := by decide +kernel
theorem dX9_fault_514 : decode cX9_fault 514 = .ok (.goto 4, 3) := by decide +kernel
theorem dX9_fault_517 : decode cX9_fault 517 = .ok (.iconst 3, 1) := by decide +kernel
theorem dX9_fault_518 : decode cX9_fault 518 = .ok (.ireturn, 1) := by decide +kernel
theorem dX9_fault_519 : decode cX9_fault 519 = .ok (.iload_n 1, 1) := by decide +kernel
theorem dX9_fault_520 : decode cX9_fault 520 = .ok (.bipush 42, 2) := by decide +kernel
theorem dX9_fault_522 : decode cX9_fault 522 = .ok (.if_icmp .ne 19, 3) := by decide +kernel
theorem dX9_fault_525 : decode cX9_fault 525 = .ok (.aload_n 0, 1) := by decide +kernel
theorem dX9_fault_526 : decode cX9_fault 526 = .ok (.getfield 141, 3) := by decide +kernel
theorem dX9_fault_529 : decode cX9_fault 529 = .ok (.bipush 32, 2) := by decide +kernel
theorem dX9_fault_531 : decode cX9_fault 531 = .ok (.if_icmp .ne 8, 3) := by decide +kernel
theorem dX9_fault_534 : decode cX9_fault 534 = .ok (.bipush 6, 2) := by decide +kernel
theorem dX9_fault_536 : decode cX9_fault 536 = .ok (.goto 4, 3) := by decide +kernel
theorem dX9_fault_539 : decode cX9_fault 539 = .ok (.iconst 0, 1) := by decide +kernel
theorem dX9_fault_540 : decode cX9_fault 540 = .ok (.ireturn, 1) := by decide +kernel
theorem dX9_fault_541 : decode cX9_fault 541 = .ok (.iload_n 1, 1) := by decide +kernel
theorem dX9_fault_542 : decode cX9_fault 542 = .ok (.iconst 1, 1) := by decide +kernel
theorem dX9_fault_543 : decode cX9_fault 543 = .ok (.if_icmp .eq 37, 3) := by decide +kernel
theorem dX9_fault_546 : decode cX9_fault 546 = .ok (.iload_n 1, 1) := by decide +kernel
theorem dX9_fault_547 : decode cX9_fault 547 = .ok (.iconst 2, 1) := by decide +kernel
theorem dX9_fault_548 : decode cX9_fault 548 = .ok (.if_icmp .eq 32, 3) := by decide +kernel
theorem dX9_fault_551 : decode cX9_fault 551 = .ok (.iload_n 1, 1) := by decide +kernel
theorem dX9_fault_552 : decode cX9_fault 552 = .ok (.iconst 3, 1) := by decide +kernel
theorem dX9_fault_553 : decode cX9_fault 553 = .ok (.if_icmp .eq 27, 3) := by decide +kernel
theorem dX9_fault_556 : decode cX9_fault 556 = .ok (.iload_n 1, 1) := by decide +kernel
theorem dX9_fault_557 : decode cX9_fault 557 = .ok (.bipush 18, 2) := by decide +kernel
theorem dX9_fault_559 : decode cX9_fault 559 = .ok (.if_icmp .eq 21, 3) := by decide +kernel
theorem dX9_fault_562 : decode cX9_fault 562 = .ok (.iload_n 1, 1) := by decide +kernel
theorem dX9_fault_563 : decode cX9_fault 563 = .ok (.bipush 33, 2) := by decide +kernel
theorem dX9_fault_565 : decode cX9_fault 565 = .ok (.if_icmp .eq 15, 3) := by decide +kernel
theorem dX9_fault_568 : decode cX9_fault 568 = .ok (.iload_n 1, 1) := by decide +kernel
theorem dX9_fault_569 : decode cX9_fault 569 = .ok (.bipush 39, 2) := by decide +kernel
theorem dX9_fault_571 : decode cX9_fault 571 = .ok (.if_icmp .eq 9, 3) := by decide +kernel
theorem dX9_fault_574 : decode cX9_fault 574 = .ok (.iload_n 1, 1) := by decide +kernel
theorem dX9_fault_575 : decode cX9_fault 575 = .ok (.bipush 41, 2) := by decide +kernel
theorem dX9_fault_577 : decode cX9_fault 577 = .ok (.if_icmp .ne 7, 3) := by decide +kernel
theorem dX9_fault_580 : decode cX9_fault 580 = .ok (.iconst 1, 1) := by decide +kernel
theorem dX9_fault_581 : decode cX9_fault 581 = .ok (.goto 4, 3) := by decide +kernel
theorem dX9_fault_584 : decode cX9_fault 584 = .ok (.iconst 0, 1) := by decide +kernel
theorem dX9_fault_585 : decode cX9_fault 585 = .ok (.istore_n 2, 1) := by decide +kernel
theorem dX9_fault_586 : decode cX9_fault 586 = .ok (.iload_n 2, 1) := by decide +kernel
theorem dX9_fault_587 : decode cX9_fault 587 = .ok (.ifCond .eq 17, 3) := by decide +kernel
theorem dX9_fault_590 : decode cX9_fault 590 = .ok (.aload_n 0, 1) := by decide +kernel
theorem dX9_fault_591 : decode cX9_fault 591 = .ok (.invokevirtual 105, 3) := by decide +kernel
theorem dX9_fault_594 : decode cX9_fault 594 = .ok (.bipush 16, 2) := by decide +kernel
theorem dX9_fault_596 : decode cX9_fault 596 = .ok (.if_icmp .ne 8, 3) := by decide +kernel
theorem dX9_fault_599 : decode cX9_fault 599 = .ok (.bipush 6, 2) := by decide +kernel
theorem dX9_fault_601 : decode cX9_fault 601 = .ok (.goto 4, 3) := by decide +kernel
theorem dX9_fault_604 : decode cX9_fault 604 = .ok (.iconst 0, 1) := by decide +kernel
theorem dX9_fault_605 : decode cX9_fault 605 = .ok (.ireturn, 1) := by decide +kernel
theorem dX9_copyFault_0 : decode cX9_copyFault 0 = .ok (.aload_n 0, 1) := by decide +kernel
theorem dX9_copyFault_1 : decode cX9_copyFault 1 = .ok (.iload_n 1, 1) := by decide +kernel
theorem dX9_copyFault_2 : decode cX9_copyFault 2 = .ok (.invokevirtual 124, 3) := by decide +kernel
theorem dX9_copyFault_5 : decode cX9_copyFault 5 = .ok (.ifCond .eq 11, 3) := by decide +kernel
theorem dX9_copyFault_8 : decode cX9_copyFault 8 = .ok (.aload_n 0, 1) := by decide +kernel
theorem dX9_copyFault_9 : decode cX9_copyFault 9 = .ok (.iload_n 3, 1) := by decide +kernel
theorem dX9_copyFault_10 : decode cX9_copyFault 10 = .ok (.invokevirtual 124, 3) := by decide +kernel
theorem dX9_copyFault_13 : decode cX9_copyFault 13 = .ok (.ifCond .ne 5, 3) := by decide +kernel
theorem dX9_copyFault_16 : decode cX9_copyFault 16 = .ok (.iconst 2, 1) := by decide +kernel
theorem dX9_copyFault_17 : decode cX9_copyFault 17 = .ok (.ireturn, 1) := by decide +kernel
theorem dX9_copyFault_18 : decode cX9_copyFault 18 = .ok (.aload_n 0, 1) := by decide +kernel
theorem dX9_copyFault_19 : decode cX9_copyFault 19 = .ok (.iload_n 1, 1) := by decide +kernel
theorem dX9_copyFault_20 : decode cX9_copyFault 20 = .ok (.invokevirtual 128, 3) := by decide +kernel
theorem dX9_copyFault_23 : decode cX9_copyFault 23 = .ok (.ifCond .ne 11, 3) := by decide +kernel
theorem dX9_copyFault_26 : decode cX9_copyFault 26 = .ok (.aload_n 0, 1) := by decide +kernel
theorem dX9_copyFault_27 : decode cX9_copyFault 27 = .ok (.iload_n 3, 1) := by decide +kernel
theorem dX9_copyFault_28 : decode cX9_copyFault 28 = .ok (.invokevirtual 128, 3) := by decide +kernel
theorem dX9_copyFault_31 : decode cX9_copyFault 31 = .ok (.ifCond .eq 5, 3) := by decide +kernel
theorem dX9_copyFault_34 : decode cX9_copyFault 34 = .ok (.iconst 4, 1) := by decide +kernel
theorem dX9_copyFault_35 : decode cX9_copyFault 35 = .ok (.ireturn, 1) := by decide +kernel
theorem dX9_copyFault_36 : decode cX9_copyFault 36 = .ok (.aload_n 0, 1) := by decide +kernel
theorem dX9_copyFault_37 : decode cX9_copyFault 37 = .ok (.getfield 26, 3) := by decide +kernel
theorem dX9_copyFault_40 : decode cX9_copyFault 40 = .ok (.iload_n 1, 1) := by decide +kernel
theorem dX9_copyFault_41 : decode cX9_copyFault 41 = .ok (.iaload, 1) := by decide +kernel
theorem dX9_copyFault_42 : decode cX9_copyFault 42 = .ok (.ifCond .eq 12, 3) := by decide +kernel
theorem dX9_copyFault_45 : decode cX9_copyFault 45 = .ok (.aload_n 0, 1) := by decide +kernel
theorem dX9_copyFault_46 : decode cX9_copyFault 46 = .ok (.getfield 26, 3) := by decide +kernel
theorem dX9_copyFault_49 : decode cX9_copyFault 49 = .ok (.iload_n 3, 1) := by decide +kernel
theorem dX9_copyFault_50 : decode cX9_copyFault 50 = .ok (.iaload, 1) := by decide +kernel
theorem dX9_copyFault_51 : decode cX9_copyFault 51 = .ok (.ifCond .ne 6, 3) := by decide +kernel
theorem dX9_copyFault_54 : decode cX9_copyFault 54 = .ok (.bipush 11, 2) := by decide +kernel
theorem dX9_copyFault_56 : decode cX9_copyFault 56 = .ok (.ireturn, 1) := by decide +kernel
theorem dX9_copyFault_57 : decode cX9_copyFault 57 = .ok (.iload 5, 2) := by decide +kernel
theorem dX9_copyFault_59 : decode cX9_copyFault 59 = .ok (.ifCond .ge 6, 3) := by decide +kernel
theorem dX9_copyFault_62 : decode cX9_copyFault 62 = .ok (.bipush 8, 2) := by decide +kernel
theorem dX9_copyFault_64 : decode cX9_copyFault 64 = .ok (.ireturn, 1) := by decide +kernel
theorem dX9_copyFault_65 : decode cX9_copyFault 65 = .ok (.iload_n 2, 1) := by decide +kernel
theorem dX9_copyFault_66 : decode cX9_copyFault 66 = .ok (.ifCond .lt 39, 3) := by decide +kernel
theorem dX9_copyFault_69 : decode cX9_copyFault 69 = .ok (.iload 4, 2) := by decide +kernel
theorem dX9_copyFault_71 : decode cX9_copyFault 71 = .ok (.ifCond .lt 34, 3) := by decide +kernel
theorem dX9_copyFault_74 : decode cX9_copyFault 74 = .ok (.iload_n 2, 1) := by decide +kernel
theorem dX9_copyFault_75 : decode cX9_copyFault 75 = .ok (.iload 5, 2) := by decide +kernel
theorem dX9_copyFault_77 : decode cX9_copyFault 77 = .ok (.iadd, 1) := by decide +kernel
theorem dX9_copyFault_78 : decode cX9_copyFault 78 = .ok (.aload_n 0, 1) := by decide +kernel
theorem dX9_copyFault_79 : decode cX9_copyFault 79 = .ok (.getfield 29, 3) := by decide +kernel
theorem dX9_copyFault_82 : decode cX9_copyFault 82 = .ok (.iload_n 1, 1) := by decide +kernel
theorem dX9_copyFault_83 : decode cX9_copyFault 83 = .ok (.iaload, 1) := by decide +kernel
theorem dX9_copyFault_84 : decode cX9_copyFault 84 = .ok (.if_icmp .gt 21, 3) := by decide +kernel
theorem dX9_copyFault_87 : decode cX9_copyFault 87 = .ok (.iload 4, 2) := by decide +kernel
theorem dX9_copyFault_89 : decode cX9_copyFault 89 = .ok (.iload 5, 2) := by decide +kernel
theorem dX9_copyFault_91 : decode cX9_copyFault 91 = .ok (.iadd, 1) := by decide +kernel
theorem dX9_copyFault_92 : decode cX9_copyFault 92 = .ok (.aload_n 0, 1) := by decide +kernel
theorem dX9_copyFault_93 : decode cX9_copyFault 93 = .ok (.getfield 29, 3) := by decide +kernel
theorem dX9_copyFault_96 : decode cX9_copyFault 96 = .ok (.iload_n 3, 1) := by decide +kernel
theorem dX9_copyFault_97 : decode cX9_copyFault 97 = .ok (.iaload, 1) := by decide +kernel
theorem dX9_copyFault_98 : decode cX9_copyFault 98 = .ok (.if_icmp .gt 7, 3) := by decide +kernel
theorem dX9_copyFault_101 : decode cX9_copyFault 101 = .ok (.iconst 1, 1) := by decide +kernel
theorem dX9_copyFault_102 : decode cX9_copyFault 102 = .ok (.goto 4, 3) := by decide +kernel
theorem dX9_copyFault_105 : decode cX9_copyFault 105 = .ok (.iconst 0, 1) := by decide +kernel
theorem dX9_copyFault_106 : decode cX9_copyFault 106 = .ok (.istore 6, 2) := by decide +kernel
theorem dX9_copyFault_108 : decode cX9_copyFault 108 = .ok (.iload 6, 2) := by decide +kernel
theorem dX9_copyFault_110 : decode cX9_copyFault 110 = .ok (.ifCond .eq 7, 3) := by decide +kernel
theorem dX9_copyFault_113 : decode cX9_copyFault 113 = .ok (.iconst 0, 1) := by decide +kernel
theorem dX9_copyFault_114 : decode cX9_copyFault 114 = .ok (.goto 4, 3) := by decide +kernel
theorem dX9_copyFault_117 : decode cX9_copyFault 117 = .ok (.iconst 3, 1) := by decide +kernel
theorem dX9_copyFault_118 : decode cX9_copyFault 118 = .ok (.ireturn, 1) := by decide +kernel
theorem dX9_writes_0 : decode cX9_writes 0 = .ok (.aload_n 0, 1) := by decide +kernel
theorem dX9_writes_1 : decode cX9_writes 1 = .ok (.getfield 42, 3) := by decide +kernel
theorem dX9_writes_4 : decode cX9_writes 4 = .ok (.ifCond .ne 15, 3) := by decide +kernel
theorem dX9_writes_7 : decode cX9_writes 7 = .ok (.aload_n 0, 1) := by decide +kernel
theorem dX9_writes_8 : decode cX9_writes 8 = .ok (.iconst (-1), 1) := by decide +kernel
theorem dX9_writes_9 : decode cX9_writes 9 = .ok (.putfield 42, 3) := by decide +kernel
theorem dX9_writes_12 : decode cX9_writes 12 = .ok (.aload_n 0, 1) := by decide +kernel
theorem dX9_writes_13 : decode cX9_writes 13 = .ok (.iconst 0, 1) := by decide +kernel
theorem dX9_writes_14 : decode cX9_writes 14 = .ok (.putfield 38, 3) := by decide +kernel
theorem dX9_writes_17 : decode cX9_writes 17 = .ok (.iconst 0, 1) := by decide +kernel
theorem dX9_writes_18 : decode cX9_writes 18 = .ok (.ireturn, 1) := by decide +kernel
theorem dX9_writes_19 : decode cX9_writes 19 = .ok (.aload_n 0, 1) := by decide +kernel
theorem dX9_writes_20 : decode cX9_writes 20 = .ok (.aload_n 0, 1) := by decide +kernel
theorem dX9_writes_21 : decode cX9_writes 21 = .ok (.getfield 42, 3) := by decide +kernel
theorem dX9_writes_24 : decode cX9_writes 24 = .ok (.ifCond .le 12, 3) := by decide +kernel
theorem dX9_writes_27 : decode cX9_writes 27 = .ok (.aload_n 0, 1) := by decide +kernel
theorem dX9_writes_28 : decode cX9_writes 28 = .ok (.getfield 42, 3) := by decide +kernel
theorem dX9_writes_31 : decode cX9_writes 31 = .ok (.iconst 1, 1) := by decide +kernel
theorem dX9_writes_32 : decode cX9_writes 32 = .ok (.isub, 1) := by decide +kernel
theorem dX9_writes_33 : decode cX9_writes 33 = .ok (.goto 7, 3) := by decide +kernel
theorem dX9_writes_36 : decode cX9_writes 36 = .ok (.aload_n 0, 1) := by decide +kernel
theorem dX9_writes_37 : decode cX9_writes 37 = .ok (.getfield 42, 3) := by decide +kernel
theorem dX9_writes_40 : decode cX9_writes 40 = .ok (.putfield 42, 3) := by decide +kernel
theorem dX9_writes_43 : decode cX9_writes 43 = .ok (.iconst 1, 1) := by decide +kernel
theorem dX9_writes_44 : decode cX9_writes 44 = .ok (.ireturn, 1) := by decide +kernel
theorem dX9_undoAll_0 : decode cX9_undoAll 0 = .ok (.aload_n 0, 1) := by decide +kernel
theorem dX9_undoAll_1 : decode cX9_undoAll 1 = .ok (.getfield 144, 3) := by decide +kernel
theorem dX9_undoAll_4 : decode cX9_undoAll 4 = .ok (.iconst 1, 1) := by decide +kernel
theorem dX9_undoAll_5 : decode cX9_undoAll 5 = .ok (.isub, 1) := by decide +kernel
theorem dX9_undoAll_6 : decode cX9_undoAll 6 = .ok (.istore_n 1, 1) := by decide +kernel
theorem dX9_undoAll_7 : decode cX9_undoAll 7 = .ok (.iload_n 1, 1) := by decide +kernel
theorem dX9_undoAll_8 : decode cX9_undoAll 8 = .ok (.ifCond .lt 26, 3) := by decide +kernel
theorem dX9_undoAll_11 : decode cX9_undoAll 11 = .ok (.aload_n 0, 1) := by decide +kernel
theorem dX9_undoAll_12 : decode cX9_undoAll 12 = .ok (.getfield 35, 3) := by decide +kernel
theorem dX9_undoAll_15 : decode cX9_undoAll 15 = .ok (.aload_n 0, 1) := by decide +kernel
theorem dX9_undoAll_16 : decode cX9_undoAll 16 = .ok (.getfield 46, 3) := by decide +kernel
theorem dX9_undoAll_19 : decode cX9_undoAll 19 = .ok (.iload_n 1, 1) := by decide +kernel
theorem dX9_undoAll_20 : decode cX9_undoAll 20 = .ok (.iaload, 1) := by decide +kernel
theorem dX9_undoAll_21 : decode cX9_undoAll 21 = .ok (.aload_n 0, 1) := by decide +kernel
theorem dX9_undoAll_22 : decode cX9_undoAll 22 = .ok (.getfield 49, 3) := by decide +kernel
theorem dX9_undoAll_25 : decode cX9_undoAll 25 = .ok (.iload_n 1, 1) := by decide +kernel
theorem dX9_undoAll_26 : decode cX9_undoAll 26 = .ok (.iaload, 1) := by decide +kernel
theorem dX9_undoAll_27 : decode cX9_undoAll 27 = .ok (.iastore, 1) := by decide +kernel
theorem dX9_undoAll_28 : decode cX9_undoAll 28 = .ok (.iinc 1 (-1), 3) := by decide +kernel
theorem dX9_undoAll_31 : decode cX9_undoAll 31 = .ok (.goto (-24), 3) := by decide +kernel
theorem dX9_undoAll_34 : decode cX9_undoAll 34 = .ok (.aload_n 0, 1) := by decide +kernel
theorem dX9_undoAll_35 : decode cX9_undoAll 35 = .ok (.aload_n 0, 1) := by decide +kernel
theorem dX9_undoAll_36 : decode cX9_undoAll 36 = .ok (.getfield 147, 3) := by decide +kernel
theorem dX9_undoAll_39 : decode cX9_undoAll 39 = .ok (.putfield 83, 3) := by decide +kernel
theorem dX9_undoAll_42 : decode cX9_undoAll 42 = .ok (.aload_n 0, 1) := by decide +kernel
theorem dX9_undoAll_43 : decode cX9_undoAll 43 = .ok (.aload_n 0, 1) := by decide +kernel
theorem dX9_undoAll_44 : decode cX9_undoAll 44 = .ok (.getfield 150, 3) := by decide +kernel
theorem dX9_undoAll_47 : decode cX9_undoAll 47 = .ok (.putfield 86, 3) := by decide +kernel
theorem dX9_undoAll_50 : decode cX9_undoAll 50 = .ok (.aload_n 0, 1) := by decide +kernel
theorem dX9_undoAll_51 : decode cX9_undoAll 51 = .ok (.iconst 0, 1) := by decide +kernel
theorem dX9_undoAll_52 : decode cX9_undoAll 52 = .ok (.putfield 131, 3) := by decide +kernel
theorem dX9_undoAll_55 : decode cX9_undoAll 55 = .ok (.return_, 1) := by decide +kernel
theorem dX9_throwIt_0 : decode cX9_throwIt 0 = .ok (.aload_n 0, 1) := by decide +kernel
theorem dX9_throwIt_1 : decode cX9_throwIt 1 = .ok (.getfield 98, 3) := by decide +kernel
theorem dX9_throwIt_4 : decode cX9_throwIt 4 = .ok (.ifCond .le 73, 3) := by decide +kernel
theorem dX9_throwIt_7 : decode cX9_throwIt 7 = .ok (.aload_n 0, 1) := by decide +kernel
theorem dX9_throwIt_8 : decode cX9_throwIt 8 = .ok (.getfield 64, 3) := by decide +kernel
theorem dX9_throwIt_11 : decode cX9_throwIt 11 = .ok (.aload_n 0, 1) := by decide +kernel
theorem dX9_throwIt_12 : decode cX9_throwIt 12 = .ok (.invokevirtual 101, 3) := by decide +kernel
theorem dX9_throwIt_15 : decode cX9_throwIt 15 = .ok (.iaload, 1) := by decide +kernel
theorem dX9_throwIt_16 : decode cX9_throwIt 16 = .ok (.iconst (-1), 1) := by decide +kernel
theorem dX9_throwIt_17 : decode cX9_throwIt 17 = .ok (.if_icmp .eq 47, 3) := by decide +kernel
theorem dX9_throwIt_20 : decode cX9_throwIt 20 = .ok (.aload_n 0, 1) := by decide +kernel
theorem dX9_throwIt_21 : decode cX9_throwIt 21 = .ok (.getfield 73, 3) := by decide +kernel
theorem dX9_throwIt_24 : decode cX9_throwIt 24 = .ok (.aload_n 0, 1) := by decide +kernel
theorem dX9_throwIt_25 : decode cX9_throwIt 25 = .ok (.invokevirtual 101, 3) := by decide +kernel
theorem dX9_throwIt_28 : decode cX9_throwIt 28 = .ok (.iconst 0, 1) := by decide +kernel
theorem dX9_throwIt_29 : decode cX9_throwIt 29 = .ok (.iastore, 1) := by decide +kernel
theorem dX9_throwIt_30 : decode cX9_throwIt 30 = .ok (.aload_n 0, 1) := by decide +kernel
theorem dX9_throwIt_31 : decode cX9_throwIt 31 = .ok (.iload_n 1, 1) := by decide +kernel
theorem dX9_throwIt_32 : decode cX9_throwIt 32 = .ok (.invokevirtual 153, 3) := by decide +kernel
theorem dX9_throwIt_35 : decode cX9_throwIt 35 = .ok (.aload_n 0, 1) := by decide +kernel
theorem dX9_throwIt_36 : decode cX9_throwIt 36 = .ok (.getfield 61, 3) := by decide +kernel
theorem dX9_throwIt_39 : decode cX9_throwIt 39 = .ok (.aload_n 0, 1) := by decide +kernel
theorem dX9_throwIt_40 : decode cX9_throwIt 40 = .ok (.invokevirtual 101, 3) := by decide +kernel
theorem dX9_throwIt_43 : decode cX9_throwIt 43 = .ok (.aload_n 0, 1) := by decide +kernel
theorem dX9_throwIt_44 : decode cX9_throwIt 44 = .ok (.getfield 76, 3) := by decide +kernel
theorem dX9_throwIt_47 : decode cX9_throwIt 47 = .ok (.aload_n 0, 1) := by decide +kernel
theorem dX9_throwIt_48 : decode cX9_throwIt 48 = .ok (.invokevirtual 101, 3) := by decide +kernel
theorem dX9_throwIt_51 : decode cX9_throwIt 51 = .ok (.iaload, 1) := by decide +kernel
theorem dX9_throwIt_52 : decode cX9_throwIt 52 = .ok (.iastore, 1) := by decide +kernel
theorem dX9_throwIt_53 : decode cX9_throwIt 53 = .ok (.aload_n 0, 1) := by decide +kernel
theorem dX9_throwIt_54 : decode cX9_throwIt 54 = .ok (.getfield 64, 3) := by decide +kernel
theorem dX9_throwIt_57 : decode cX9_throwIt 57 = .ok (.aload_n 0, 1) := by decide +kernel
theorem dX9_throwIt_58 : decode cX9_throwIt 58 = .ok (.invokevirtual 101, 3) := by decide +kernel
theorem dX9_throwIt_61 : decode cX9_throwIt 61 = .ok (.iconst (-1), 1) := by decide +kernel
theorem dX9_throwIt_62 : decode cX9_throwIt 62 = .ok (.iastore, 1) := by decide +kernel
theorem dX9_throwIt_63 : decode cX9_throwIt 63 = .ok (.return_, 1) := by decide +kernel
theorem dX9_throwIt_64 : decode cX9_throwIt 64 = .ok (.aload_n 0, 1) := by decide +kernel
theorem dX9_throwIt_65 : decode cX9_throwIt 65 = .ok (.dup, 1) := by decide +kernel
theorem dX9_throwIt_66 : decode cX9_throwIt 66 = .ok (.getfield 98, 3) := by decide +kernel
theorem dX9_throwIt_69 : decode cX9_throwIt 69 = .ok (.iconst 1, 1) := by decide +kernel
theorem dX9_throwIt_70 : decode cX9_throwIt 70 = .ok (.isub, 1) := by decide +kernel
theorem dX9_throwIt_71 : decode cX9_throwIt 71 = .ok (.putfield 98, 3) := by decide +kernel
theorem dX9_throwIt_74 : decode cX9_throwIt 74 = .ok (.goto (-74), 3) := by decide +kernel
theorem dX9_throwIt_77 : decode cX9_throwIt 77 = .ok (.aload_n 0, 1) := by decide +kernel
theorem dX9_throwIt_78 : decode cX9_throwIt 78 = .ok (.bipush 20, 2) := by decide +kernel
theorem dX9_throwIt_80 : decode cX9_throwIt 80 = .ok (.putfield 157, 3) := by decide +kernel
theorem dX9_throwIt_83 : decode cX9_throwIt 83 = .ok (.aload_n 0, 1) := by decide +kernel
theorem dX9_throwIt_84 : decode cX9_throwIt 84 = .ok (.iload_n 1, 1) := by decide +kernel
theorem dX9_throwIt_85 : decode cX9_throwIt 85 = .ok (.i2s, 1) := by decide +kernel
theorem dX9_throwIt_86 : decode cX9_throwIt 86 = .ok (.putfield 160, 3) := by decide +kernel
theorem dX9_throwIt_89 : decode cX9_throwIt 89 = .ok (.return_, 1) := by decide +kernel
theorem dX9_make_0 : decode cX9_make 0 = .ok (.aload_n 0, 1) := by decide +kernel
theorem dX9_make_1 : decode cX9_make 1 = .ok (.iconst 1, 1) := by decide +kernel
theorem dX9_make_2 : decode cX9_make 2 = .ok (.invokevirtual 111, 3) := by decide +kernel
theorem dX9_make_5 : decode cX9_make 5 = .ok (.istore_n 2, 1) := by decide +kernel
theorem dX9_make_6 : decode cX9_make 6 = .ok (.aload_n 0, 1) := by decide +kernel
theorem dX9_make_7 : decode cX9_make 7 = .ok (.invokevirtual 163, 3) := by decide +kernel
theorem dX9_make_10 : decode cX9_make 10 = .ok (.ifCond .ne 4, 3) := by decide +kernel
theorem dX9_make_13 : decode cX9_make 13 = .ok (.return_, 1) := by decide +kernel
theorem dX9_make_14 : decode cX9_make 14 = .ok (.aload_n 0, 1) := by decide +kernel
theorem dX9_make_15 : decode cX9_make 15 = .ok (.dup, 1) := by decide +kernel
theorem dX9_make_16 : decode cX9_make 16 = .ok (.getfield 134, 3) := by decide +kernel
theorem dX9_make_19 : decode cX9_make 19 = .ok (.aload_n 0, 1) := by decide +kernel
theorem dX9_make_20 : decode cX9_make 20 = .ok (.getfield 131, 3) := by decide +kernel
theorem dX9_make_23 : decode cX9_make 23 = .ok (.ifCond .eq 7, 3) := by decide +kernel
theorem dX9_make_26 : decode cX9_make 26 = .ok (.iconst 1, 1) := by decide +kernel
theorem dX9_make_27 : decode cX9_make 27 = .ok (.goto 4, 3) := by decide +kernel
theorem dX9_make_30 : decode cX9_make 30 = .ok (.iconst 0, 1) := by decide +kernel
theorem dX9_make_31 : decode cX9_make 31 = .ok (.iadd, 1) := by decide +kernel
theorem dX9_make_32 : decode cX9_make 32 = .ok (.putfield 134, 3) := by decide +kernel
theorem dX9_make_35 : decode cX9_make 35 = .ok (.aload_n 0, 1) := by decide +kernel
theorem dX9_make_36 : decode cX9_make 36 = .ok (.aload_n 0, 1) := by decide +kernel
theorem dX9_make_37 : decode cX9_make 37 = .ok (.getfield 58, 3) := by decide +kernel
theorem dX9_make_40 : decode cX9_make 40 = .ok (.aload_n 0, 1) := by decide +kernel
theorem dX9_make_41 : decode cX9_make 41 = .ok (.invokevirtual 101, 3) := by decide +kernel
theorem dX9_make_44 : decode cX9_make 44 = .ok (.iaload, 1) := by decide +kernel
theorem dX9_make_45 : decode cX9_make 45 = .ok (.iload_n 1, 1) := by decide +kernel
theorem dX9_make_46 : decode cX9_make 46 = .ok (.iload_n 2, 1) := by decide +kernel
theorem dX9_make_47 : decode cX9_make 47 = .ok (.invokevirtual 79, 3) := by decide +kernel
theorem dX9_make_50 : decode cX9_make 50 = .ok (.aload_n 0, 1) := by decide +kernel
theorem dX9_make_51 : decode cX9_make 51 = .ok (.iconst 2, 1) := by decide +kernel
theorem dX9_make_52 : decode cX9_make 52 = .ok (.invokevirtual 167, 3) := by decide +kernel
theorem dX9_make_55 : decode cX9_make 55 = .ok (.aload_n 0, 1) := by decide +kernel
theorem dX9_make_56 : decode cX9_make 56 = .ok (.aload_n 0, 1) := by decide +kernel
theorem dX9_make_57 : decode cX9_make 57 = .ok (.getfield 83, 3) := by decide +kernel
theorem dX9_make_60 : decode cX9_make 60 = .ok (.invokevirtual 153, 3) := by decide +kernel
theorem dX9_make_63 : decode cX9_make 63 = .ok (.return_, 1) := by decide +kernel
theorem dX9_store_0 : decode cX9_store 0 = .ok (.aload_n 0, 1) := by decide +kernel
theorem dX9_store_1 : decode cX9_store 1 = .ok (.iconst 2, 1) := by decide +kernel
theorem dX9_store_2 : decode cX9_store 2 = .ok (.invokevirtual 121, 3) := by decide +kernel
theorem dX9_store_5 : decode cX9_store 5 = .ok (.istore_n 1, 1) := by decide +kernel
theorem dX9_store_6 : decode cX9_store 6 = .ok (.aload_n 0, 1) := by decide +kernel
theorem dX9_store_7 : decode cX9_store 7 = .ok (.iconst 0, 1) := by decide +kernel
theorem dX9_store_8 : decode cX9_store 8 = .ok (.invokevirtual 121, 3) := by decide +kernel
theorem dX9_store_11 : decode cX9_store 11 = .ok (.istore_n 2, 1) := by decide +kernel
theorem dX9_store_12 : decode cX9_store 12 = .ok (.aload_n 0, 1) := by decide +kernel
theorem dX9_store_13 : decode cX9_store 13 = .ok (.getfield 32, 3) := by decide +kernel
theorem dX9_store_16 : decode cX9_store 16 = .ok (.iload_n 1, 1) := by decide +kernel
theorem dX9_store_17 : decode cX9_store 17 = .ok (.iaload, 1) := by decide +kernel
theorem dX9_store_18 : decode cX9_store 18 = .ok (.aload_n 0, 1) := by decide +kernel
theorem dX9_store_19 : decode cX9_store 19 = .ok (.iconst 1, 1) := by decide +kernel
theorem dX9_store_20 : decode cX9_store 20 = .ok (.invokevirtual 121, 3) := by decide +kernel
theorem dX9_store_23 : decode cX9_store 23 = .ok (.iadd, 1) := by decide +kernel
theorem dX9_store_24 : decode cX9_store 24 = .ok (.istore_n 3, 1) := by decide +kernel
theorem dX9_store_25 : decode cX9_store 25 = .ok (.aload_n 0, 1) := by decide +kernel
theorem dX9_store_26 : decode cX9_store 26 = .ok (.invokevirtual 163, 3) := by decide +kernel
theorem dX9_store_29 : decode cX9_store 29 = .ok (.ifCond .ne 4, 3) := by decide +kernel
theorem dX9_store_32 : decode cX9_store 32 = .ok (.return_, 1) := by decide +kernel
theorem dX9_store_33 : decode cX9_store 33 = .ok (.aload_n 0, 1) := by decide +kernel
theorem dX9_store_34 : decode cX9_store 34 = .ok (.getfield 131, 3) := by decide +kernel
theorem dX9_store_37 : decode cX9_store 37 = .ok (.ifCond .eq 48, 3) := by decide +kernel
theorem dX9_store_40 : decode cX9_store 40 = .ok (.aload_n 0, 1) := by decide +kernel
theorem dX9_store_41 : decode cX9_store 41 = .ok (.dup, 1) := by decide +kernel
theorem dX9_store_42 : decode cX9_store 42 = .ok (.getfield 134, 3) := by decide +kernel
theorem dX9_store_45 : decode cX9_store 45 = .ok (.iconst 1, 1) := by decide +kernel
theorem dX9_store_46 : decode cX9_store 46 = .ok (.iadd, 1) := by decide +kernel
theorem dX9_store_47 : decode cX9_store 47 = .ok (.putfield 134, 3) := by decide +kernel
theorem dX9_store_50 : decode cX9_store 50 = .ok (.aload_n 0, 1) := by decide +kernel
theorem dX9_store_51 : decode cX9_store 51 = .ok (.getfield 46, 3) := by decide +kernel
theorem dX9_store_54 : decode cX9_store 54 = .ok (.aload_n 0, 1) := by decide +kernel
theorem dX9_store_55 : decode cX9_store 55 = .ok (.getfield 144, 3) := by decide +kernel
theorem dX9_store_58 : decode cX9_store 58 = .ok (.iload_n 3, 1) := by decide +kernel
theorem dX9_store_59 : decode cX9_store 59 = .ok (.iastore, 1) := by decide +kernel
theorem dX9_store_60 : decode cX9_store 60 = .ok (.aload_n 0, 1) := by decide +kernel
theorem dX9_store_61 : decode cX9_store 61 = .ok (.getfield 49, 3) := by decide +kernel
theorem dX9_store_64 : decode cX9_store 64 = .ok (.aload_n 0, 1) := by decide +kernel
theorem dX9_store_65 : decode cX9_store 65 = .ok (.getfield 144, 3) := by decide +kernel
theorem dX9_store_68 : decode cX9_store 68 = .ok (.aload_n 0, 1) := by decide +kernel
theorem dX9_store_69 : decode cX9_store 69 = .ok (.getfield 35, 3) := by decide +kernel
theorem dX9_store_72 : decode cX9_store 72 = .ok (.iload_n 3, 1) := by decide +kernel
theorem dX9_store_73 : decode cX9_store 73 = .ok (.iaload, 1) := by decide +kernel
theorem dX9_store_74 : decode cX9_store 74 = .ok (.iastore, 1) := by decide +kernel
theorem dX9_store_75 : decode cX9_store 75 = .ok (.aload_n 0, 1) := by decide +kernel
theorem dX9_store_76 : decode cX9_store 76 = .ok (.dup, 1) := by decide +kernel
theorem dX9_store_77 : decode cX9_store 77 = .ok (.getfield 144, 3) := by decide +kernel
theorem dX9_store_80 : decode cX9_store 80 = .ok (.iconst 1, 1) := by decide +kernel
theorem dX9_store_81 : decode cX9_store 81 = .ok (.iadd, 1) := by decide +kernel
theorem dX9_store_82 : decode cX9_store 82 = .ok (.putfield 144, 3) := by decide +kernel
theorem dX9_store_85 : decode cX9_store 85 = .ok (.aload_n 0, 1) := by decide +kernel
theorem dX9_store_86 : decode cX9_store 86 = .ok (.getfield 35, 3) := by decide +kernel
theorem dX9_store_89 : decode cX9_store 89 = .ok (.iload_n 3, 1) := by decide +kernel
theorem dX9_store_90 : decode cX9_store 90 = .ok (.aload_n 0, 1) := by decide +kernel
theorem dX9_store_91 : decode cX9_store 91 = .ok (.getfield 26, 3) := by decide +kernel
theorem dX9_store_94 : decode cX9_store 94 = .ok (.iload_n 1, 1) := by decide +kernel
theorem dX9_store_95 : decode cX9_store 95 = .ok (.iaload, 1) := by decide +kernel
theorem dX9_store_96 : decode cX9_store 96 = .ok (.iconst 1, 1) := by decide +kernel
theorem dX9_store_97 : decode cX9_store 97 = .ok (.if_icmp .ne 8, 3) := by decide +kernel
theorem dX9_store_100 : decode cX9_store 100 = .ok (.iload_n 2, 1) := by decide +kernel
theorem dX9_store_101 : decode cX9_store 101 = .ok (.i2b, 1) := by decide +kernel
theorem dX9_store_102 : decode cX9_store 102 = .ok (.goto 4, 3) := by decide +kernel
theorem dX9_store_105 : decode cX9_store 105 = .ok (.iload_n 2, 1) := by decide +kernel
theorem dX9_store_106 : decode cX9_store 106 = .ok (.iastore, 1) := by decide +kernel
theorem dX9_store_107 : decode cX9_store 107 = .ok (.aload_n 0, 1) := by decide +kernel
theorem dX9_store_108 : decode cX9_store 108 = .ok (.iconst 3, 1) := by decide +kernel
theorem dX9_store_109 : decode cX9_store 109 = .ok (.invokevirtual 170, 3) := by decide +kernel
theorem dX9_store_112 : decode cX9_store 112 = .ok (.aload_n 0, 1) := by decide +kernel
theorem dX9_store_113 : decode cX9_store 113 = .ok (.iconst 1, 1) := by decide +kernel
theorem dX9_store_114 : decode cX9_store 114 = .ok (.invokevirtual 167, 3) := by decide +kernel
theorem dX9_store_117 : decode cX9_store 117 = .ok (.return_, 1) := by decide +kernel
theorem dX9_copy_0 : decode cX9_copy 0 = .ok (.aload_n 0, 1) := by decide +kernel
theorem dX9_copy_1 : decode cX9_copy 1 = .ok (.iconst 0, 1) := by decide +kernel
theorem dX9_copy_2 : decode cX9_copy 2 = .ok (.invokevirtual 121, 3) := by decide +kernel
theorem dX9_copy_5 : decode cX9_copy 5 = .ok (.istore_n 1, 1) := by decide +kernel
theorem dX9_copy_6 : decode cX9_copy 6 = .ok (.aload_n 0, 1) := by decide +kernel
theorem dX9_copy_7 : decode cX9_copy 7 = .ok (.getfield 173, 3) := by decide +kernel
theorem dX9_copy_10 : decode cX9_copy 10 = .ok (.aload_n 0, 1) := by decide +kernel
theorem dX9_copy_11 : decode cX9_copy 11 = .ok (.getfield 176, 3) := by decide +kernel
theorem dX9_copy_14 : decode cX9_copy 14 = .ok (.isub, 1) := by decide +kernel
theorem dX9_copy_15 : decode cX9_copy 15 = .ok (.iload_n 1, 1) := by decide +kernel
theorem dX9_copy_16 : decode cX9_copy 16 = .ok (.if_icmp .ge 10, 3) := by decide +kernel
theorem dX9_copy_19 : decode cX9_copy 19 = .ok (.aload_n 0, 1) := by decide +kernel
theorem dX9_copy_20 : decode cX9_copy 20 = .ok (.bipush 10, 2) := by decide +kernel
theorem dX9_copy_22 : decode cX9_copy 22 = .ok (.putfield 157, 3) := by decide +kernel
theorem dX9_copy_25 : decode cX9_copy 25 = .ok (.return_, 1) := by decide +kernel
theorem dX9_copy_26 : decode cX9_copy 26 = .ok (.aload_n 0, 1) := by decide +kernel
theorem dX9_copy_27 : decode cX9_copy 27 = .ok (.getfield 32, 3) := by decide +kernel
theorem dX9_copy_30 : decode cX9_copy 30 = .ok (.aload_n 0, 1) := by decide +kernel
theorem dX9_copy_31 : decode cX9_copy 31 = .ok (.iconst 4, 1) := by decide +kernel
theorem dX9_copy_32 : decode cX9_copy 32 = .ok (.invokevirtual 121, 3) := by decide +kernel
theorem dX9_copy_35 : decode cX9_copy 35 = .ok (.iaload, 1) := by decide +kernel
theorem dX9_copy_36 : decode cX9_copy 36 = .ok (.aload_n 0, 1) := by decide +kernel
theorem dX9_copy_37 : decode cX9_copy 37 = .ok (.iconst 3, 1) := by decide +kernel
theorem dX9_copy_38 : decode cX9_copy 38 = .ok (.invokevirtual 121, 3) := by decide +kernel
theorem dX9_copy_41 : decode cX9_copy 41 = .ok (.iadd, 1) := by decide +kernel
theorem dX9_copy_42 : decode cX9_copy 42 = .ok (.istore_n 2, 1) := by decide +kernel
theorem dX9_copy_43 : decode cX9_copy 43 = .ok (.aload_n 0, 1) := by decide +kernel
theorem dX9_copy_44 : decode cX9_copy 44 = .ok (.getfield 32, 3) := by decide +kernel
theorem dX9_copy_47 : decode cX9_copy 47 = .ok (.aload_n 0, 1) := by decide +kernel
theorem dX9_copy_48 : decode cX9_copy 48 = .ok (.iconst 2, 1) := by decide +kernel
theorem dX9_copy_49 : decode cX9_copy 49 = .ok (.invokevirtual 121, 3) := by decide +kernel
theorem dX9_copy_52 : decode cX9_copy 52 = .ok (.iaload, 1) := by decide +kernel
theorem dX9_copy_53 : decode cX9_copy 53 = .ok (.aload_n 0, 1) := by decide +kernel
theorem dX9_copy_54 : decode cX9_copy 54 = .ok (.iconst 1, 1) := by decide +kernel
theorem dX9_copy_55 : decode cX9_copy 55 = .ok (.invokevirtual 121, 3) := by decide +kernel
theorem dX9_copy_58 : decode cX9_copy 58 = .ok (.iadd, 1) := by decide +kernel
theorem dX9_copy_59 : decode cX9_copy 59 = .ok (.istore_n 3, 1) := by decide +kernel
theorem dX9_copy_60 : decode cX9_copy 60 = .ok (.aload_n 0, 1) := by decide +kernel
theorem dX9_copy_61 : decode cX9_copy 61 = .ok (.dup, 1) := by decide +kernel
theorem dX9_copy_62 : decode cX9_copy 62 = .ok (.getfield 176, 3) := by decide +kernel
theorem dX9_copy_65 : decode cX9_copy 65 = .ok (.iload_n 1, 1) := by decide +kernel
theorem dX9_copy_66 : decode cX9_copy 66 = .ok (.iadd, 1) := by decide +kernel
theorem dX9_copy_67 : decode cX9_copy 67 = .ok (.putfield 176, 3) := by decide +kernel
theorem dX9_copy_70 : decode cX9_copy 70 = .ok (.iconst 0, 1) := by decide +kernel
theorem dX9_copy_71 : decode cX9_copy 71 = .ok (.istore 4, 2) := by decide +kernel
theorem dX9_copy_73 : decode cX9_copy 73 = .ok (.iload 4, 2) := by decide +kernel
theorem dX9_copy_75 : decode cX9_copy 75 = .ok (.iload_n 1, 1) := by decide +kernel
theorem dX9_copy_76 : decode cX9_copy 76 = .ok (.if_icmp .ge 35, 3) := by decide +kernel
theorem dX9_copy_79 : decode cX9_copy 79 = .ok (.aload_n 0, 1) := by decide +kernel
theorem dX9_copy_80 : decode cX9_copy 80 = .ok (.invokevirtual 163, 3) := by decide +kernel
theorem dX9_copy_83 : decode cX9_copy 83 = .ok (.ifCond .ne 4, 3) := by decide +kernel
theorem dX9_copy_86 : decode cX9_copy 86 = .ok (.return_, 1) := by decide +kernel
theorem dX9_copy_87 : decode cX9_copy 87 = .ok (.aload_n 0, 1) := by decide +kernel
theorem dX9_copy_88 : decode cX9_copy 88 = .ok (.getfield 35, 3) := by decide +kernel
theorem dX9_copy_91 : decode cX9_copy 91 = .ok (.iload_n 3, 1) := by decide +kernel
theorem dX9_copy_92 : decode cX9_copy 92 = .ok (.iload 4, 2) := by decide +kernel
theorem dX9_copy_94 : decode cX9_copy 94 = .ok (.iadd, 1) := by decide +kernel
theorem dX9_copy_95 : decode cX9_copy 95 = .ok (.aload_n 0, 1) := by decide +kernel
theorem dX9_copy_96 : decode cX9_copy 96 = .ok (.getfield 35, 3) := by decide +kernel
theorem dX9_copy_99 : decode cX9_copy 99 = .ok (.iload_n 2, 1) := by decide +kernel
theorem dX9_copy_100 : decode cX9_copy 100 = .ok (.iload 4, 2) := by decide +kernel
theorem dX9_copy_102 : decode cX9_copy 102 = .ok (.iadd, 1) := by decide +kernel
theorem dX9_copy_103 : decode cX9_copy 103 = .ok (.iaload, 1) := by decide +kernel
theorem dX9_copy_104 : decode cX9_copy 104 = .ok (.iastore, 1) := by decide +kernel
theorem dX9_copy_105 : decode cX9_copy 105 = .ok (.iinc 4 1, 3) := by decide +kernel
theorem dX9_copy_108 : decode cX9_copy 108 = .ok (.goto (-35), 3) := by decide +kernel
theorem dX9_copy_111 : decode cX9_copy 111 = .ok (.aload_n 0, 1) := by decide +kernel
theorem dX9_copy_112 : decode cX9_copy 112 = .ok (.iconst 5, 1) := by decide +kernel
theorem dX9_copy_113 : decode cX9_copy 113 = .ok (.invokevirtual 170, 3) := by decide +kernel
theorem dX9_copy_116 : decode cX9_copy 116 = .ok (.aload_n 0, 1) := by decide +kernel
theorem dX9_copy_117 : decode cX9_copy 117 = .ok (.iconst 1, 1) := by decide +kernel
theorem dX9_copy_118 : decode cX9_copy 118 = .ok (.invokevirtual 167, 3) := by decide +kernel
theorem dX9_copy_121 : decode cX9_copy 121 = .ok (.return_, 1) := by decide +kernel
theorem dX9_callIt_0 : decode cX9_callIt 0 = .ok (.aload_n 0, 1) := by decide +kernel
theorem dX9_callIt_1 : decode cX9_callIt 1 = .ok (.iconst 1, 1) := by decide +kernel
theorem dX9_callIt_2 : decode cX9_callIt 2 = .ok (.invokevirtual 111, 3) := by decide +kernel
theorem dX9_callIt_5 : decode cX9_callIt 5 = .ok (.bipush 16, 2) := by decide +kernel
theorem dX9_callIt_7 : decode cX9_callIt 7 = .ok (.irem, 1) := by decide +kernel
theorem dX9_callIt_8 : decode cX9_callIt 8 = .ok (.istore_n 1, 1) := by decide +kernel
theorem dX9_callIt_9 : decode cX9_callIt 9 = .ok (.aload_n 0, 1) := by decide +kernel
theorem dX9_callIt_10 : decode cX9_callIt 10 = .ok (.iconst 2, 1) := by decide +kernel
theorem dX9_callIt_11 : decode cX9_callIt 11 = .ok (.invokevirtual 111, 3) := by decide +kernel
theorem dX9_callIt_14 : decode cX9_callIt 14 = .ok (.bipush 9, 2) := by decide +kernel
theorem dX9_callIt_16 : decode cX9_callIt 16 = .ok (.irem, 1) := by decide +kernel
theorem dX9_callIt_17 : decode cX9_callIt 17 = .ok (.istore_n 2, 1) := by decide +kernel
theorem dX9_callIt_18 : decode cX9_callIt 18 = .ok (.aload_n 0, 1) := by decide +kernel
theorem dX9_callIt_19 : decode cX9_callIt 19 = .ok (.invokevirtual 101, 3) := by decide +kernel
theorem dX9_callIt_22 : decode cX9_callIt 22 = .ok (.istore_n 3, 1) := by decide +kernel
theorem dX9_callIt_23 : decode cX9_callIt 23 = .ok (.aload_n 0, 1) := by decide +kernel
theorem dX9_callIt_24 : decode cX9_callIt 24 = .ok (.iconst 3, 1) := by decide +kernel
theorem dX9_callIt_25 : decode cX9_callIt 25 = .ok (.invokevirtual 167, 3) := by decide +kernel
theorem dX9_callIt_28 : decode cX9_callIt 28 = .ok (.aload_n 0, 1) := by decide +kernel
theorem dX9_callIt_29 : decode cX9_callIt 29 = .ok (.iload_n 2, 1) := by decide +kernel
theorem dX9_callIt_30 : decode cX9_callIt 30 = .ok (.invokevirtual 170, 3) := by decide +kernel
theorem dX9_callIt_33 : decode cX9_callIt 33 = .ok (.aload_n 0, 1) := by decide +kernel
theorem dX9_callIt_34 : decode cX9_callIt 34 = .ok (.iload_n 1, 1) := by decide +kernel
theorem dX9_callIt_35 : decode cX9_callIt 35 = .ok (.invokevirtual 179, 3) := by decide +kernel
theorem dX9_callIt_38 : decode cX9_callIt 38 = .ok (.iconst 0, 1) := by decide +kernel
theorem dX9_callIt_39 : decode cX9_callIt 39 = .ok (.istore 4, 2) := by decide +kernel
theorem dX9_callIt_41 : decode cX9_callIt 41 = .ok (.iload 4, 2) := by decide +kernel
theorem dX9_callIt_43 : decode cX9_callIt 43 = .ok (.iload_n 2, 1) := by decide +kernel
theorem dX9_callIt_44 : decode cX9_callIt 44 = .ok (.if_icmp .ge 43, 3) := by decide +kernel
theorem dX9_callIt_47 : decode cX9_callIt 47 = .ok (.aload_n 0, 1) := by decide +kernel
theorem dX9_callIt_48 : decode cX9_callIt 48 = .ok (.getfield 67, 3) := by decide +kernel
theorem dX9_callIt_51 : decode cX9_callIt 51 = .ok (.bipush 8, 2) := by decide +kernel
theorem dX9_callIt_53 : decode cX9_callIt 53 = .ok (.aload_n 0, 1) := by decide +kernel
theorem dX9_callIt_54 : decode cX9_callIt 54 = .ok (.invokevirtual 101, 3) := by decide +kernel
theorem dX9_callIt_57 : decode cX9_callIt 57 = .ok (.imul, 1) := by decide +kernel
theorem dX9_callIt_58 : decode cX9_callIt 58 = .ok (.iload 4, 2) := by decide +kernel
theorem dX9_callIt_60 : decode cX9_callIt 60 = .ok (.iadd, 1) := by decide +kernel
theorem dX9_callIt_61 : decode cX9_callIt 61 = .ok (.aload_n 0, 1) := by decide +kernel
theorem dX9_callIt_62 : decode cX9_callIt 62 = .ok (.getfield 70, 3) := by decide +kernel
theorem dX9_callIt_65 : decode cX9_callIt 65 = .ok (.bipush 16, 2) := by decide +kernel
theorem dX9_callIt_67 : decode cX9_callIt 67 = .ok (.iload_n 3, 1) := by decide +kernel
theorem dX9_callIt_68 : decode cX9_callIt 68 = .ok (.imul, 1) := by decide +kernel
theorem dX9_callIt_69 : decode cX9_callIt 69 = .ok (.aload_n 0, 1) := by decide +kernel
theorem dX9_callIt_70 : decode cX9_callIt 70 = .ok (.getfield 73, 3) := by decide +kernel
theorem dX9_callIt_73 : decode cX9_callIt 73 = .ok (.iload_n 3, 1) := by decide +kernel
theorem dX9_callIt_74 : decode cX9_callIt 74 = .ok (.iaload, 1) := by decide +kernel
theorem dX9_callIt_75 : decode cX9_callIt 75 = .ok (.iadd, 1) := by decide +kernel
theorem dX9_callIt_76 : decode cX9_callIt 76 = .ok (.iload 4, 2) := by decide +kernel
theorem dX9_callIt_78 : decode cX9_callIt 78 = .ok (.iadd, 1) := by decide +kernel
theorem dX9_callIt_79 : decode cX9_callIt 79 = .ok (.iaload, 1) := by decide +kernel
theorem dX9_callIt_80 : decode cX9_callIt 80 = .ok (.iastore, 1) := by decide +kernel
theorem dX9_callIt_81 : decode cX9_callIt 81 = .ok (.iinc 4 1, 3) := by decide +kernel
theorem dX9_callIt_84 : decode cX9_callIt 84 = .ok (.goto (-43), 3) := by decide +kernel
theorem dX9_callIt_87 : decode cX9_callIt 87 = .ok (.return_, 1) := by decide +kernel
theorem dX9_leave_0 : decode cX9_leave 0 = .ok (.iload_n 1, 1) := by decide +kernel
theorem dX9_leave_1 : decode cX9_leave 1 = .ok (.ifCond .eq 11, 3) := by decide +kernel
theorem dX9_leave_4 : decode cX9_leave 4 = .ok (.aload_n 0, 1) := by decide +kernel
theorem dX9_leave_5 : decode cX9_leave 5 = .ok (.iconst 0, 1) := by decide +kernel
theorem dX9_leave_6 : decode cX9_leave 6 = .ok (.invokevirtual 121, 3) := by decide +kernel
theorem dX9_leave_9 : decode cX9_leave 9 = .ok (.goto 4, 3) := by decide +kernel
theorem dX9_leave_12 : decode cX9_leave 12 = .ok (.iconst 0, 1) := by decide +kernel
theorem dX9_leave_13 : decode cX9_leave 13 = .ok (.istore_n 2, 1) := by decide +kernel
theorem dX9_leave_14 : decode cX9_leave 14 = .ok (.aload_n 0, 1) := by decide +kernel
theorem dX9_leave_15 : decode cX9_leave 15 = .ok (.dup, 1) := by decide +kernel
theorem dX9_leave_16 : decode cX9_leave 16 = .ok (.getfield 98, 3) := by decide +kernel
theorem dX9_leave_19 : decode cX9_leave 19 = .ok (.iconst 1, 1) := by decide +kernel
theorem dX9_leave_20 : decode cX9_leave 20 = .ok (.isub, 1) := by decide +kernel
theorem dX9_leave_21 : decode cX9_leave 21 = .ok (.putfield 98, 3) := by decide +kernel
theorem dX9_leave_24 : decode cX9_leave 24 = .ok (.aload_n 0, 1) := by decide +kernel
theorem dX9_leave_25 : decode cX9_leave 25 = .ok (.getfield 98, 3) := by decide +kernel
theorem dX9_leave_28 : decode cX9_leave 28 = .ok (.ifCond .ne 16, 3) := by decide +kernel
theorem dX9_leave_31 : decode cX9_leave 31 = .ok (.aload_n 0, 1) := by decide +kernel
theorem dX9_leave_32 : decode cX9_leave 32 = .ok (.iconst 0, 1) := by decide +kernel
theorem dX9_leave_33 : decode cX9_leave 33 = .ok (.putfield 157, 3) := by decide +kernel
theorem dX9_leave_36 : decode cX9_leave 36 = .ok (.aload_n 0, 1) := by decide +kernel
theorem dX9_leave_37 : decode cX9_leave 37 = .ok (.iload_n 2, 1) := by decide +kernel
theorem dX9_leave_38 : decode cX9_leave 38 = .ok (.putfield 182, 3) := by decide +kernel
theorem dX9_leave_41 : decode cX9_leave 41 = .ok (.goto 34, 3) := by decide +kernel
theorem dX9_leave_44 : decode cX9_leave 44 = .ok (.iload_n 1, 1) := by decide +kernel
theorem dX9_leave_45 : decode cX9_leave 45 = .ok (.ifCond .eq 21, 3) := by decide +kernel
theorem dX9_leave_48 : decode cX9_leave 48 = .ok (.aload_n 0, 1) := by decide +kernel
theorem dX9_leave_49 : decode cX9_leave 49 = .ok (.invokevirtual 105, 3) := by decide +kernel
theorem dX9_leave_52 : decode cX9_leave 52 = .ok (.bipush 16, 2) := by decide +kernel
theorem dX9_leave_54 : decode cX9_leave 54 = .ok (.if_icmp .ne 12, 3) := by decide +kernel
theorem dX9_leave_57 : decode cX9_leave 57 = .ok (.aload_n 0, 1) := by decide +kernel
theorem dX9_leave_58 : decode cX9_leave 58 = .ok (.bipush 6, 2) := by decide +kernel
theorem dX9_leave_60 : decode cX9_leave 60 = .ok (.invokevirtual 185, 3) := by decide +kernel
theorem dX9_leave_63 : decode cX9_leave 63 = .ok (.goto 12, 3) := by decide +kernel
theorem dX9_leave_66 : decode cX9_leave 66 = .ok (.iload_n 1, 1) := by decide +kernel
theorem dX9_leave_67 : decode cX9_leave 67 = .ok (.ifCond .eq 8, 3) := by decide +kernel
theorem dX9_leave_70 : decode cX9_leave 70 = .ok (.aload_n 0, 1) := by decide +kernel
theorem dX9_leave_71 : decode cX9_leave 71 = .ok (.iload_n 2, 1) := by decide +kernel
theorem dX9_leave_72 : decode cX9_leave 72 = .ok (.invokevirtual 153, 3) := by decide +kernel
theorem dX9_leave_75 : decode cX9_leave 75 = .ok (.return_, 1) := by decide +kernel
theorem dX9_holds_0 : decode cX9_holds 0 = .ok (.iload_n 0, 1) := by decide +kernel
theorem dX9_holds_1 : decode cX9_holds 1 = .ok (.tableswitch 85 0 4 #[35, 45, 55, 65, 75], 35) := by decide +kernel
theorem dX9_holds_36 : decode cX9_holds 36 = .ok (.iload_n 1, 1) := by decide +kernel
theorem dX9_holds_37 : decode cX9_holds 37 = .ok (.ifCond .ne 7, 3) := by decide +kernel
theorem dX9_holds_40 : decode cX9_holds 40 = .ok (.iconst 1, 1) := by decide +kernel
theorem dX9_holds_41 : decode cX9_holds 41 = .ok (.goto 4, 3) := by decide +kernel
theorem dX9_holds_44 : decode cX9_holds 44 = .ok (.iconst 0, 1) := by decide +kernel
theorem dX9_holds_45 : decode cX9_holds 45 = .ok (.ireturn, 1) := by decide +kernel
theorem dX9_holds_46 : decode cX9_holds 46 = .ok (.iload_n 1, 1) := by decide +kernel
theorem dX9_holds_47 : decode cX9_holds 47 = .ok (.ifCond .eq 7, 3) := by decide +kernel
theorem dX9_holds_50 : decode cX9_holds 50 = .ok (.iconst 1, 1) := by decide +kernel
theorem dX9_holds_51 : decode cX9_holds 51 = .ok (.goto 4, 3) := by decide +kernel
theorem dX9_holds_54 : decode cX9_holds 54 = .ok (.iconst 0, 1) := by decide +kernel
theorem dX9_holds_55 : decode cX9_holds 55 = .ok (.ireturn, 1) := by decide +kernel
theorem dX9_holds_56 : decode cX9_holds 56 = .ok (.iload_n 1, 1) := by decide +kernel
theorem dX9_holds_57 : decode cX9_holds 57 = .ok (.ifCond .ge 7, 3) := by decide +kernel
theorem dX9_holds_60 : decode cX9_holds 60 = .ok (.iconst 1, 1) := by decide +kernel
theorem dX9_holds_61 : decode cX9_holds 61 = .ok (.goto 4, 3) := by decide +kernel
theorem dX9_holds_64 : decode cX9_holds 64 = .ok (.iconst 0, 1) := by decide +kernel
theorem dX9_holds_65 : decode cX9_holds 65 = .ok (.ireturn, 1) := by decide +kernel
theorem dX9_holds_66 : decode cX9_holds 66 = .ok (.iload_n 1, 1) := by decide +kernel
theorem dX9_holds_67 : decode cX9_holds 67 = .ok (.ifCond .lt 7, 3) := by decide +kernel
theorem dX9_holds_70 : decode cX9_holds 70 = .ok (.iconst 1, 1) := by decide +kernel
theorem dX9_holds_71 : decode cX9_holds 71 = .ok (.goto 4, 3) := by decide +kernel
theorem dX9_holds_74 : decode cX9_holds 74 = .ok (.iconst 0, 1) := by decide +kernel
theorem dX9_holds_75 : decode cX9_holds 75 = .ok (.ireturn, 1) := by decide +kernel
theorem dX9_holds_76 : decode cX9_holds 76 = .ok (.iload_n 1, 1) := by decide +kernel
theorem dX9_holds_77 : decode cX9_holds 77 = .ok (.ifCond .le 7, 3) := by decide +kernel
theorem dX9_holds_80 : decode cX9_holds 80 = .ok (.iconst 1, 1) := by decide +kernel
theorem dX9_holds_81 : decode cX9_holds 81 = .ok (.goto 4, 3) := by decide +kernel
theorem dX9_holds_84 : decode cX9_holds 84 = .ok (.iconst 0, 1) := by decide +kernel
theorem dX9_holds_85 : decode cX9_holds 85 = .ok (.ireturn, 1) := by decide +kernel
theorem dX9_holds_86 : decode cX9_holds 86 = .ok (.iload_n 1, 1) := by decide +kernel
theorem dX9_holds_87 : decode cX9_holds 87 = .ok (.ifCond .gt 7, 3) := by decide +kernel
theorem dX9_holds_90 : decode cX9_holds 90 = .ok (.iconst 1, 1) := by decide +kernel
theorem dX9_holds_91 : decode cX9_holds 91 = .ok (.goto 4, 3) := by decide +kernel
theorem dX9_holds_94 : decode cX9_holds 94 = .ok (.iconst 0, 1) := by decide +kernel
theorem dX9_holds_95 : decode cX9_holds 95 = .ok (.ireturn, 1) := by decide +kernel
theorem dX9_reckon_0 : decode cX9_reckon 0 = .ok (.iload_n 0, 1) := by decide +kernel
theorem dX9_reckon_1 : decode cX9_reckon 1 = .ok (.tableswitch 105 6 16 #[59, 63, 67, 71, 75, 105, 79, 83, 87, 91, 98], 59) := by decide +kernel
theorem dX9_reckon_60 : decode cX9_reckon 60 = .ok (.iload_n 1, 1) := by decide +kernel
theorem dX9_reckon_61 : decode cX9_reckon 61 = .ok (.iload_n 2, 1) := by decide +kernel
theorem dX9_reckon_62 : decode cX9_reckon 62 = .ok (.iadd, 1) := by decide +kernel
theorem dX9_reckon_63 : decode cX9_reckon 63 = .ok (.ireturn, 1) := by decide +kernel
theorem dX9_reckon_64 : decode cX9_reckon 64 = .ok (.iload_n 1, 1) := by decide +kernel
theorem dX9_reckon_65 : decode cX9_reckon 65 = .ok (.iload_n 2, 1) := by decide +kernel
theorem dX9_reckon_66 : decode cX9_reckon 66 = .ok (.isub, 1) := by decide +kernel
theorem dX9_reckon_67 : decode cX9_reckon 67 = .ok (.ireturn, 1) := by decide +kernel
theorem dX9_reckon_68 : decode cX9_reckon 68 = .ok (.iload_n 1, 1) := by decide +kernel
theorem dX9_reckon_69 : decode cX9_reckon 69 = .ok (.iload_n 2, 1) := by decide +kernel
theorem dX9_reckon_70 : decode cX9_reckon 70 = .ok (.imul, 1) := by decide +kernel
theorem dX9_reckon_71 : decode cX9_reckon 71 = .ok (.ireturn, 1) := by decide +kernel
theorem dX9_reckon_72 : decode cX9_reckon 72 = .ok (.iload_n 1, 1) := by decide +kernel
theorem dX9_reckon_73 : decode cX9_reckon 73 = .ok (.iload_n 2, 1) := by decide +kernel
theorem dX9_reckon_74 : decode cX9_reckon 74 = .ok (.idiv, 1) := by decide +kernel
theorem dX9_reckon_75 : decode cX9_reckon 75 = .ok (.ireturn, 1) := by decide +kernel
theorem dX9_reckon_76 : decode cX9_reckon 76 = .ok (.iload_n 1, 1) := by decide +kernel
theorem dX9_reckon_77 : decode cX9_reckon 77 = .ok (.iload_n 2, 1) := by decide +kernel
theorem dX9_reckon_78 : decode cX9_reckon 78 = .ok (.irem, 1) := by decide +kernel
theorem dX9_reckon_79 : decode cX9_reckon 79 = .ok (.ireturn, 1) := by decide +kernel
theorem dX9_reckon_80 : decode cX9_reckon 80 = .ok (.iload_n 1, 1) := by decide +kernel
theorem dX9_reckon_81 : decode cX9_reckon 81 = .ok (.iload_n 2, 1) := by decide +kernel
theorem dX9_reckon_82 : decode cX9_reckon 82 = .ok (.iand, 1) := by decide +kernel
theorem dX9_reckon_83 : decode cX9_reckon 83 = .ok (.ireturn, 1) := by decide +kernel
theorem dX9_reckon_84 : decode cX9_reckon 84 = .ok (.iload_n 1, 1) := by decide +kernel
theorem dX9_reckon_85 : decode cX9_reckon 85 = .ok (.iload_n 2, 1) := by decide +kernel
theorem dX9_reckon_86 : decode cX9_reckon 86 = .ok (.ior, 1) := by decide +kernel
theorem dX9_reckon_87 : decode cX9_reckon 87 = .ok (.ireturn, 1) := by decide +kernel
theorem dX9_reckon_88 : decode cX9_reckon 88 = .ok (.iload_n 1, 1) := by decide +kernel
theorem dX9_reckon_89 : decode cX9_reckon 89 = .ok (.iload_n 2, 1) := by decide +kernel
theorem dX9_reckon_90 : decode cX9_reckon 90 = .ok (.ixor, 1) := by decide +kernel
theorem dX9_reckon_91 : decode cX9_reckon 91 = .ok (.ireturn, 1) := by decide +kernel
theorem dX9_reckon_92 : decode cX9_reckon 92 = .ok (.iload_n 1, 1) := by decide +kernel
theorem dX9_reckon_93 : decode cX9_reckon 93 = .ok (.iload_n 2, 1) := by decide +kernel
theorem dX9_reckon_94 : decode cX9_reckon 94 = .ok (.bipush 15, 2) := by decide +kernel
theorem dX9_reckon_96 : decode cX9_reckon 96 = .ok (.iand, 1) := by decide +kernel
theorem dX9_reckon_97 : decode cX9_reckon 97 = .ok (.ishl, 1) := by decide +kernel
theorem dX9_reckon_98 : decode cX9_reckon 98 = .ok (.ireturn, 1) := by decide +kernel
theorem dX9_reckon_99 : decode cX9_reckon 99 = .ok (.iload_n 1, 1) := by decide +kernel
theorem dX9_reckon_100 : decode cX9_reckon 100 = .ok (.iload_n 2, 1) := by decide +kernel
theorem dX9_reckon_101 : decode cX9_reckon 101 = .ok (.bipush 15, 2) := by decide +kernel
theorem dX9_reckon_103 : decode cX9_reckon 103 = .ok (.iand, 1) := by decide +kernel
theorem dX9_reckon_104 : decode cX9_reckon 104 = .ok (.ishr, 1) := by decide +kernel
theorem dX9_reckon_105 : decode cX9_reckon 105 = .ok (.ireturn, 1) := by decide +kernel
theorem dX9_reckon_106 : decode cX9_reckon 106 = .ok (.iload_n 1, 1) := by decide +kernel
theorem dX9_reckon_107 : decode cX9_reckon 107 = .ok (.ldc 188, 2) := by decide +kernel
theorem dX9_reckon_109 : decode cX9_reckon 109 = .ok (.iand, 1) := by decide +kernel
theorem dX9_reckon_110 : decode cX9_reckon 110 = .ok (.iload_n 2, 1) := by decide +kernel
theorem dX9_reckon_111 : decode cX9_reckon 111 = .ok (.bipush 15, 2) := by decide +kernel
theorem dX9_reckon_113 : decode cX9_reckon 113 = .ok (.iand, 1) := by decide +kernel
theorem dX9_reckon_114 : decode cX9_reckon 114 = .ok (.ishr, 1) := by decide +kernel
theorem dX9_reckon_115 : decode cX9_reckon 115 = .ok (.ireturn, 1) := by decide +kernel
theorem dX9_jump_0 : decode cX9_jump 0 = .ok (.iload_n 1, 1) := by decide +kernel
theorem dX9_jump_1 : decode cX9_jump 1 = .ok (.bipush 21, 2) := by decide +kernel
theorem dX9_jump_3 : decode cX9_jump 3 = .ok (.if_icmp .ne 7, 3) := by decide +kernel
theorem dX9_jump_6 : decode cX9_jump 6 = .ok (.iconst 0, 1) := by decide +kernel
theorem dX9_jump_7 : decode cX9_jump 7 = .ok (.goto 28, 3) := by decide +kernel
theorem dX9_jump_10 : decode cX9_jump 10 = .ok (.iload_n 1, 1) := by decide +kernel
theorem dX9_jump_11 : decode cX9_jump 11 = .ok (.bipush 22, 2) := by decide +kernel
theorem dX9_jump_13 : decode cX9_jump 13 = .ok (.if_icmp .ne 11, 3) := by decide +kernel
theorem dX9_jump_16 : decode cX9_jump 16 = .ok (.aload_n 0, 1) := by decide +kernel
theorem dX9_jump_17 : decode cX9_jump 17 = .ok (.iconst 0, 1) := by decide +kernel
theorem dX9_jump_18 : decode cX9_jump 18 = .ok (.invokevirtual 121, 3) := by decide +kernel
theorem dX9_jump_21 : decode cX9_jump 21 = .ok (.goto 14, 3) := by decide +kernel
theorem dX9_jump_24 : decode cX9_jump 24 = .ok (.aload_n 0, 1) := by decide +kernel
theorem dX9_jump_25 : decode cX9_jump 25 = .ok (.iconst 1, 1) := by decide +kernel
theorem dX9_jump_26 : decode cX9_jump 26 = .ok (.invokevirtual 121, 3) := by decide +kernel
theorem dX9_jump_29 : decode cX9_jump 29 = .ok (.aload_n 0, 1) := by decide +kernel
theorem dX9_jump_30 : decode cX9_jump 30 = .ok (.iconst 0, 1) := by decide +kernel
theorem dX9_jump_31 : decode cX9_jump 31 = .ok (.invokevirtual 121, 3) := by decide +kernel
theorem dX9_jump_34 : decode cX9_jump 34 = .ok (.isub, 1) := by decide +kernel
theorem dX9_jump_35 : decode cX9_jump 35 = .ok (.istore_n 2, 1) := by decide +kernel
theorem dX9_jump_36 : decode cX9_jump 36 = .ok (.iload_n 1, 1) := by decide +kernel
theorem dX9_jump_37 : decode cX9_jump 37 = .ok (.bipush 21, 2) := by decide +kernel
theorem dX9_jump_39 : decode cX9_jump 39 = .ok (.if_icmp .eq 18, 3) := by decide +kernel
theorem dX9_jump_42 : decode cX9_jump 42 = .ok (.aload_n 0, 1) := by decide +kernel
theorem dX9_jump_43 : decode cX9_jump 43 = .ok (.iconst 1, 1) := by decide +kernel
theorem dX9_jump_44 : decode cX9_jump 44 = .ok (.invokevirtual 111, 3) := by decide +kernel
theorem dX9_jump_47 : decode cX9_jump 47 = .ok (.bipush 6, 2) := by decide +kernel
theorem dX9_jump_49 : decode cX9_jump 49 = .ok (.irem, 1) := by decide +kernel
theorem dX9_jump_50 : decode cX9_jump 50 = .ok (.iload_n 2, 1) := by decide +kernel
theorem dX9_jump_51 : decode cX9_jump 51 = .ok (.invokestatic 189, 3) := by decide +kernel
theorem dX9_jump_54 : decode cX9_jump 54 = .ok (.ifCond .eq 7, 3) := by decide +kernel
theorem dX9_jump_57 : decode cX9_jump 57 = .ok (.iconst 1, 1) := by decide +kernel
theorem dX9_jump_58 : decode cX9_jump 58 = .ok (.goto 4, 3) := by decide +kernel
theorem dX9_jump_61 : decode cX9_jump 61 = .ok (.iconst 0, 1) := by decide +kernel
theorem dX9_jump_62 : decode cX9_jump 62 = .ok (.istore_n 3, 1) := by decide +kernel
theorem dX9_jump_63 : decode cX9_jump 63 = .ok (.iload_n 1, 1) := by decide +kernel
theorem dX9_jump_64 : decode cX9_jump 64 = .ok (.bipush 21, 2) := by decide +kernel
theorem dX9_jump_66 : decode cX9_jump 66 = .ok (.if_icmp .ne 11, 3) := by decide +kernel
theorem dX9_jump_69 : decode cX9_jump 69 = .ok (.aload_n 0, 1) := by decide +kernel
theorem dX9_jump_70 : decode cX9_jump 70 = .ok (.iconst 1, 1) := by decide +kernel
theorem dX9_jump_71 : decode cX9_jump 71 = .ok (.invokevirtual 193, 3) := by decide +kernel
theorem dX9_jump_74 : decode cX9_jump 74 = .ok (.goto 8, 3) := by decide +kernel
theorem dX9_jump_77 : decode cX9_jump 77 = .ok (.aload_n 0, 1) := by decide +kernel
theorem dX9_jump_78 : decode cX9_jump 78 = .ok (.iconst 2, 1) := by decide +kernel
theorem dX9_jump_79 : decode cX9_jump 79 = .ok (.invokevirtual 193, 3) := by decide +kernel
theorem dX9_jump_82 : decode cX9_jump 82 = .ok (.istore 4, 2) := by decide +kernel
theorem dX9_jump_84 : decode cX9_jump 84 = .ok (.aload_n 0, 1) := by decide +kernel
theorem dX9_jump_85 : decode cX9_jump 85 = .ok (.iload_n 1, 1) := by decide +kernel
theorem dX9_jump_86 : decode cX9_jump 86 = .ok (.bipush 21, 2) := by decide +kernel
theorem dX9_jump_88 : decode cX9_jump 88 = .ok (.if_icmp .ne 7, 3) := by decide +kernel
theorem dX9_jump_91 : decode cX9_jump 91 = .ok (.iconst 0, 1) := by decide +kernel
theorem dX9_jump_92 : decode cX9_jump 92 = .ok (.goto 14, 3) := by decide +kernel
theorem dX9_jump_95 : decode cX9_jump 95 = .ok (.iload_n 1, 1) := by decide +kernel
theorem dX9_jump_96 : decode cX9_jump 96 = .ok (.bipush 22, 2) := by decide +kernel
theorem dX9_jump_98 : decode cX9_jump 98 = .ok (.if_icmp .ne 7, 3) := by decide +kernel
theorem dX9_jump_101 : decode cX9_jump 101 = .ok (.iconst 1, 1) := by decide +kernel
theorem dX9_jump_102 : decode cX9_jump 102 = .ok (.goto 4, 3) := by decide +kernel
theorem dX9_jump_105 : decode cX9_jump 105 = .ok (.iconst 2, 1) := by decide +kernel
theorem dX9_jump_106 : decode cX9_jump 106 = .ok (.invokevirtual 170, 3) := by decide +kernel
theorem dX9_jump_109 : decode cX9_jump 109 = .ok (.aload_n 0, 1) := by decide +kernel
theorem dX9_jump_110 : decode cX9_jump 110 = .ok (.iload_n 3, 1) := by decide +kernel
theorem dX9_jump_111 : decode cX9_jump 111 = .ok (.ifCond .eq 8, 3) := by decide +kernel
theorem dX9_jump_114 : decode cX9_jump 114 = .ok (.iload 4, 2) := by decide +kernel
theorem dX9_jump_116 : decode cX9_jump 116 = .ok (.goto 7, 3) := by decide +kernel
theorem dX9_jump_119 : decode cX9_jump 119 = .ok (.iload_n 1, 1) := by decide +kernel
theorem dX9_jump_120 : decode cX9_jump 120 = .ok (.invokestatic 115, 3) := by decide +kernel
theorem dX9_jump_123 : decode cX9_jump 123 = .ok (.invokevirtual 167, 3) := by decide +kernel
theorem dX9_jump_126 : decode cX9_jump 126 = .ok (.return_, 1) := by decide +kernel
theorem dX9_local_0 : decode cX9_local 0 = .ok (.bipush 8, 2) := by decide +kernel
theorem dX9_local_2 : decode cX9_local 2 = .ok (.aload_n 0, 1) := by decide +kernel
theorem dX9_local_3 : decode cX9_local 3 = .ok (.invokevirtual 101, 3) := by decide +kernel
theorem dX9_local_6 : decode cX9_local 6 = .ok (.imul, 1) := by decide +kernel
theorem dX9_local_7 : decode cX9_local 7 = .ok (.aload_n 0, 1) := by decide +kernel
theorem dX9_local_8 : decode cX9_local 8 = .ok (.iconst 1, 1) := by decide +kernel
theorem dX9_local_9 : decode cX9_local 9 = .ok (.invokevirtual 111, 3) := by decide +kernel
theorem dX9_local_12 : decode cX9_local 12 = .ok (.bipush 8, 2) := by decide +kernel
theorem dX9_local_14 : decode cX9_local 14 = .ok (.irem, 1) := by decide +kernel
theorem dX9_local_15 : decode cX9_local 15 = .ok (.iadd, 1) := by decide +kernel
theorem dX9_local_16 : decode cX9_local 16 = .ok (.istore_n 2, 1) := by decide +kernel
theorem dX9_local_17 : decode cX9_local 17 = .ok (.iload_n 1, 1) := by decide +kernel
theorem dX9_local_18 : decode cX9_local 18 = .ok (.iconst 3, 1) := by decide +kernel
theorem dX9_local_19 : decode cX9_local 19 = .ok (.if_icmp .ne 16, 3) := by decide +kernel
theorem dX9_local_22 : decode cX9_local 22 = .ok (.aload_n 0, 1) := by decide +kernel
theorem dX9_local_23 : decode cX9_local 23 = .ok (.aload_n 0, 1) := by decide +kernel
theorem dX9_local_24 : decode cX9_local 24 = .ok (.getfield 67, 3) := by decide +kernel
theorem dX9_local_27 : decode cX9_local 27 = .ok (.iload_n 2, 1) := by decide +kernel
theorem dX9_local_28 : decode cX9_local 28 = .ok (.iaload, 1) := by decide +kernel
theorem dX9_local_29 : decode cX9_local 29 = .ok (.invokevirtual 153, 3) := by decide +kernel
theorem dX9_local_32 : decode cX9_local 32 = .ok (.goto 46, 3) := by decide +kernel
theorem dX9_local_35 : decode cX9_local 35 = .ok (.iload_n 1, 1) := by decide +kernel
theorem dX9_local_36 : decode cX9_local 36 = .ok (.iconst 4, 1) := by decide +kernel
theorem dX9_local_37 : decode cX9_local 37 = .ok (.if_icmp .ne 22, 3) := by decide +kernel
theorem dX9_local_40 : decode cX9_local 40 = .ok (.aload_n 0, 1) := by decide +kernel
theorem dX9_local_41 : decode cX9_local 41 = .ok (.getfield 67, 3) := by decide +kernel
theorem dX9_local_44 : decode cX9_local 44 = .ok (.iload_n 2, 1) := by decide +kernel
theorem dX9_local_45 : decode cX9_local 45 = .ok (.aload_n 0, 1) := by decide +kernel
theorem dX9_local_46 : decode cX9_local 46 = .ok (.iconst 0, 1) := by decide +kernel
theorem dX9_local_47 : decode cX9_local 47 = .ok (.invokevirtual 121, 3) := by decide +kernel
theorem dX9_local_50 : decode cX9_local 50 = .ok (.iastore, 1) := by decide +kernel
theorem dX9_local_51 : decode cX9_local 51 = .ok (.aload_n 0, 1) := by decide +kernel
theorem dX9_local_52 : decode cX9_local 52 = .ok (.iconst 1, 1) := by decide +kernel
theorem dX9_local_53 : decode cX9_local 53 = .ok (.invokevirtual 170, 3) := by decide +kernel
theorem dX9_local_56 : decode cX9_local 56 = .ok (.goto 22, 3) := by decide +kernel
theorem dX9_local_59 : decode cX9_local 59 = .ok (.aload_n 0, 1) := by decide +kernel
theorem dX9_local_60 : decode cX9_local 60 = .ok (.getfield 67, 3) := by decide +kernel
theorem dX9_local_63 : decode cX9_local 63 = .ok (.iload_n 2, 1) := by decide +kernel
theorem dX9_local_64 : decode cX9_local 64 = .ok (.aload_n 0, 1) := by decide +kernel
theorem dX9_local_65 : decode cX9_local 65 = .ok (.getfield 67, 3) := by decide +kernel
theorem dX9_local_68 : decode cX9_local 68 = .ok (.iload_n 2, 1) := by decide +kernel
theorem dX9_local_69 : decode cX9_local 69 = .ok (.iaload, 1) := by decide +kernel
theorem dX9_local_70 : decode cX9_local 70 = .ok (.aload_n 0, 1) := by decide +kernel
theorem dX9_local_71 : decode cX9_local 71 = .ok (.iconst 2, 1) := by decide +kernel
theorem dX9_local_72 : decode cX9_local 72 = .ok (.invokevirtual 193, 3) := by decide +kernel
theorem dX9_local_75 : decode cX9_local 75 = .ok (.iadd, 1) := by decide +kernel
theorem dX9_local_76 : decode cX9_local 76 = .ok (.i2s, 1) := by decide +kernel
theorem dX9_local_77 : decode cX9_local 77 = .ok (.iastore, 1) := by decide +kernel
theorem dX9_local_78 : decode cX9_local 78 = .ok (.aload_n 0, 1) := by decide +kernel
theorem dX9_local_79 : decode cX9_local 79 = .ok (.iload_n 1, 1) := by decide +kernel
theorem dX9_local_80 : decode cX9_local 80 = .ok (.invokestatic 115, 3) := by decide +kernel
theorem dX9_local_83 : decode cX9_local 83 = .ok (.invokevirtual 167, 3) := by decide +kernel
theorem dX9_local_86 : decode cX9_local 86 = .ok (.return_, 1) := by decide +kernel
theorem dX9_replace_0 : decode cX9_replace 0 = .ok (.aload_n 0, 1) := by decide +kernel
theorem dX9_replace_1 : decode cX9_replace 1 = .ok (.iload_n 1, 1) := by decide +kernel
theorem dX9_replace_2 : decode cX9_replace 2 = .ok (.invokevirtual 170, 3) := by decide +kernel
theorem dX9_replace_5 : decode cX9_replace 5 = .ok (.aload_n 0, 1) := by decide +kernel
theorem dX9_replace_6 : decode cX9_replace 6 = .ok (.iload_n 2, 1) := by decide +kernel
theorem dX9_replace_7 : decode cX9_replace 7 = .ok (.invokevirtual 153, 3) := by decide +kernel
theorem dX9_replace_10 : decode cX9_replace 10 = .ok (.aload_n 0, 1) := by decide +kernel
theorem dX9_replace_11 : decode cX9_replace 11 = .ok (.iconst 1, 1) := by decide +kernel
theorem dX9_replace_12 : decode cX9_replace 12 = .ok (.invokevirtual 167, 3) := by decide +kernel
theorem dX9_replace_15 : decode cX9_replace 15 = .ok (.return_, 1) := by decide +kernel
theorem dX9_transact_0 : decode cX9_transact 0 = .ok (.iload_n 1, 1) := by decide +kernel
theorem dX9_transact_1 : decode cX9_transact 1 = .ok (.bipush 37, 2) := by decide +kernel
theorem dX9_transact_3 : decode cX9_transact 3 = .ok (.if_icmp .ne 11, 3) := by decide +kernel
theorem dX9_transact_6 : decode cX9_transact 6 = .ok (.aload_n 0, 1) := by decide +kernel
theorem dX9_transact_7 : decode cX9_transact 7 = .ok (.invokevirtual 163, 3) := by decide +kernel
theorem dX9_transact_10 : decode cX9_transact 10 = .ok (.ifCond .ne 4, 3) := by decide +kernel
theorem dX9_transact_13 : decode cX9_transact 13 = .ok (.return_, 1) := by decide +kernel
theorem dX9_transact_14 : decode cX9_transact 14 = .ok (.iload_n 1, 1) := by decide +kernel
theorem dX9_transact_15 : decode cX9_transact 15 = .ok (.bipush 36, 2) := by decide +kernel
theorem dX9_transact_17 : decode cX9_transact 17 = .ok (.if_icmp .ne 37, 3) := by decide +kernel
theorem dX9_transact_20 : decode cX9_transact 20 = .ok (.aload_n 0, 1) := by decide +kernel
theorem dX9_transact_21 : decode cX9_transact 21 = .ok (.iconst 1, 1) := by decide +kernel
theorem dX9_transact_22 : decode cX9_transact 22 = .ok (.putfield 131, 3) := by decide +kernel
theorem dX9_transact_25 : decode cX9_transact 25 = .ok (.aload_n 0, 1) := by decide +kernel
theorem dX9_transact_26 : decode cX9_transact 26 = .ok (.iconst 0, 1) := by decide +kernel
theorem dX9_transact_27 : decode cX9_transact 27 = .ok (.putfield 134, 3) := by decide +kernel
theorem dX9_transact_30 : decode cX9_transact 30 = .ok (.aload_n 0, 1) := by decide +kernel
theorem dX9_transact_31 : decode cX9_transact 31 = .ok (.iconst 0, 1) := by decide +kernel
theorem dX9_transact_32 : decode cX9_transact 32 = .ok (.putfield 144, 3) := by decide +kernel
theorem dX9_transact_35 : decode cX9_transact 35 = .ok (.aload_n 0, 1) := by decide +kernel
theorem dX9_transact_36 : decode cX9_transact 36 = .ok (.aload_n 0, 1) := by decide +kernel
theorem dX9_transact_37 : decode cX9_transact 37 = .ok (.getfield 83, 3) := by decide +kernel
theorem dX9_transact_40 : decode cX9_transact 40 = .ok (.putfield 147, 3) := by decide +kernel
theorem dX9_transact_43 : decode cX9_transact 43 = .ok (.aload_n 0, 1) := by decide +kernel
theorem dX9_transact_44 : decode cX9_transact 44 = .ok (.aload_n 0, 1) := by decide +kernel
theorem dX9_transact_45 : decode cX9_transact 45 = .ok (.getfield 86, 3) := by decide +kernel
theorem dX9_transact_48 : decode cX9_transact 48 = .ok (.putfield 150, 3) := by decide +kernel
theorem dX9_transact_51 : decode cX9_transact 51 = .ok (.goto 21, 3) := by decide +kernel
theorem dX9_transact_54 : decode cX9_transact 54 = .ok (.iload_n 1, 1) := by decide +kernel
theorem dX9_transact_55 : decode cX9_transact 55 = .ok (.bipush 37, 2) := by decide +kernel
theorem dX9_transact_57 : decode cX9_transact 57 = .ok (.if_icmp .ne 11, 3) := by decide +kernel
theorem dX9_transact_60 : decode cX9_transact 60 = .ok (.aload_n 0, 1) := by decide +kernel
theorem dX9_transact_61 : decode cX9_transact 61 = .ok (.iconst 0, 1) := by decide +kernel
theorem dX9_transact_62 : decode cX9_transact 62 = .ok (.putfield 131, 3) := by decide +kernel
theorem dX9_transact_65 : decode cX9_transact 65 = .ok (.goto 7, 3) := by decide +kernel
theorem dX9_transact_68 : decode cX9_transact 68 = .ok (.aload_n 0, 1) := by decide +kernel
theorem dX9_transact_69 : decode cX9_transact 69 = .ok (.invokevirtual 196, 3) := by decide +kernel
theorem dX9_transact_72 : decode cX9_transact 72 = .ok (.aload_n 0, 1) := by decide +kernel
theorem dX9_transact_73 : decode cX9_transact 73 = .ok (.iconst 1, 1) := by decide +kernel
theorem dX9_transact_74 : decode cX9_transact 74 = .ok (.invokevirtual 167, 3) := by decide +kernel
theorem dX9_transact_77 : decode cX9_transact 77 = .ok (.return_, 1) := by decide +kernel
theorem dX9_act_0 : decode cX9_act 0 = .ok (.iload_n 1, 1) := by decide +kernel
theorem dX9_act_1 : decode cX9_act 1 = .ok (.bipush 6, 2) := by decide +kernel
theorem dX9_act_3 : decode cX9_act 3 = .ok (.if_icmp .lt 37, 3) := by decide +kernel
theorem dX9_act_6 : decode cX9_act 6 = .ok (.iload_n 1, 1) := by decide +kernel
theorem dX9_act_7 : decode cX9_act 7 = .ok (.bipush 17, 2) := by decide +kernel
theorem dX9_act_9 : decode cX9_act 9 = .ok (.if_icmp .gt 31, 3) := by decide +kernel
theorem dX9_act_12 : decode cX9_act 12 = .ok (.iload_n 1, 1) := by decide +kernel
theorem dX9_act_13 : decode cX9_act 13 = .ok (.bipush 11, 2) := by decide +kernel
theorem dX9_act_15 : decode cX9_act 15 = .ok (.if_icmp .eq 25, 3) := by decide +kernel
theorem dX9_act_18 : decode cX9_act 18 = .ok (.aload_n 0, 1) := by decide +kernel
theorem dX9_act_19 : decode cX9_act 19 = .ok (.iconst 2, 1) := by decide +kernel
theorem dX9_act_20 : decode cX9_act 20 = .ok (.iload_n 1, 1) := by decide +kernel
theorem dX9_act_21 : decode cX9_act 21 = .ok (.aload_n 0, 1) := by decide +kernel
theorem dX9_act_22 : decode cX9_act 22 = .ok (.iconst 1, 1) := by decide +kernel
theorem dX9_act_23 : decode cX9_act 23 = .ok (.invokevirtual 121, 3) := by decide +kernel
theorem dX9_act_26 : decode cX9_act 26 = .ok (.aload_n 0, 1) := by decide +kernel
theorem dX9_act_27 : decode cX9_act 27 = .ok (.iconst 0, 1) := by decide +kernel
theorem dX9_act_28 : decode cX9_act 28 = .ok (.invokevirtual 121, 3) := by decide +kernel
theorem dX9_act_31 : decode cX9_act 31 = .ok (.invokestatic 199, 3) := by decide +kernel
theorem dX9_act_34 : decode cX9_act 34 = .ok (.invokevirtual 203, 3) := by decide +kernel
theorem dX9_act_37 : decode cX9_act 37 = .ok (.goto 164, 3) := by decide +kernel
theorem dX9_act_40 : decode cX9_act 40 = .ok (.iload_n 1, 1) := by decide +kernel
theorem dX9_act_41 : decode cX9_act 41 = .ok (.bipush 21, 2) := by decide +kernel
theorem dX9_act_43 : decode cX9_act 43 = .ok (.if_icmp .lt 17, 3) := by decide +kernel
theorem dX9_act_46 : decode cX9_act 46 = .ok (.iload_n 1, 1) := by decide +kernel
theorem dX9_act_47 : decode cX9_act 47 = .ok (.bipush 23, 2) := by decide +kernel
theorem dX9_act_49 : decode cX9_act 49 = .ok (.if_icmp .gt 11, 3) := by decide +kernel
theorem dX9_act_52 : decode cX9_act 52 = .ok (.aload_n 0, 1) := by decide +kernel
theorem dX9_act_53 : decode cX9_act 53 = .ok (.iload_n 1, 1) := by decide +kernel
theorem dX9_act_54 : decode cX9_act 54 = .ok (.invokevirtual 207, 3) := by decide +kernel
theorem dX9_act_57 : decode cX9_act 57 = .ok (.goto 144, 3) := by decide +kernel
theorem dX9_act_60 : decode cX9_act 60 = .ok (.iload_n 1, 1) := by decide +kernel
theorem dX9_act_61 : decode cX9_act 61 = .ok (.iconst 3, 1) := by decide +kernel
theorem dX9_act_62 : decode cX9_act 62 = .ok (.if_icmp .lt 16, 3) := by decide +kernel
theorem dX9_act_65 : decode cX9_act 65 = .ok (.iload_n 1, 1) := by decide +kernel
theorem dX9_act_66 : decode cX9_act 66 = .ok (.iconst 5, 1) := by decide +kernel
theorem dX9_act_67 : decode cX9_act 67 = .ok (.if_icmp .gt 11, 3) := by decide +kernel
theorem dX9_act_70 : decode cX9_act 70 = .ok (.aload_n 0, 1) := by decide +kernel
theorem dX9_act_71 : decode cX9_act 71 = .ok (.iload_n 1, 1) := by decide +kernel
theorem dX9_act_72 : decode cX9_act 72 = .ok (.invokevirtual 210, 3) := by decide +kernel
theorem dX9_act_75 : decode cX9_act 75 = .ok (.goto 126, 3) := by decide +kernel
theorem dX9_act_78 : decode cX9_act 78 = .ok (.iload_n 1, 1) := by decide +kernel
theorem dX9_act_79 : decode cX9_act 79 = .ok (.bipush 36, 2) := by decide +kernel
theorem dX9_act_81 : decode cX9_act 81 = .ok (.if_icmp .lt 17, 3) := by decide +kernel
theorem dX9_act_84 : decode cX9_act 84 = .ok (.iload_n 1, 1) := by decide +kernel
theorem dX9_act_85 : decode cX9_act 85 = .ok (.bipush 38, 2) := by decide +kernel
theorem dX9_act_87 : decode cX9_act 87 = .ok (.if_icmp .gt 11, 3) := by decide +kernel
theorem dX9_act_90 : decode cX9_act 90 = .ok (.aload_n 0, 1) := by decide +kernel
theorem dX9_act_91 : decode cX9_act 91 = .ok (.iload_n 1, 1) := by decide +kernel
theorem dX9_act_92 : decode cX9_act 92 = .ok (.invokevirtual 213, 3) := by decide +kernel
theorem dX9_act_95 : decode cX9_act 95 = .ok (.goto 106, 3) := by decide +kernel
theorem dX9_act_98 : decode cX9_act 98 = .ok (.iload_n 1, 1) := by decide +kernel
theorem dX9_act_99 : decode cX9_act 99 = .ok (.bipush 24, 2) := by decide +kernel
theorem dX9_act_101 : decode cX9_act 101 = .ok (.if_icmp .eq 9, 3) := by decide +kernel
theorem dX9_act_104 : decode cX9_act 104 = .ok (.iload_n 1, 1) := by decide +kernel
theorem dX9_act_105 : decode cX9_act 105 = .ok (.bipush 27, 2) := by decide +kernel
theorem dX9_act_107 : decode cX9_act 107 = .ok (.if_icmp .ne 10, 3) := by decide +kernel
theorem dX9_act_110 : decode cX9_act 110 = .ok (.aload_n 0, 1) := by decide +kernel
theorem dX9_act_111 : decode cX9_act 111 = .ok (.invokevirtual 216, 3) := by decide +kernel
theorem dX9_act_114 : decode cX9_act 114 = .ok (.goto 87, 3) := by decide +kernel
theorem dX9_act_117 : decode cX9_act 117 = .ok (.iload_n 1, 1) := by decide +kernel
theorem dX9_act_118 : decode cX9_act 118 = .ok (.bipush 25, 2) := by decide +kernel
theorem dX9_act_120 : decode cX9_act 120 = .ok (.if_icmp .eq 9, 3) := by decide +kernel
theorem dX9_act_123 : decode cX9_act 123 = .ok (.iload_n 1, 1) := by decide +kernel
theorem dX9_act_124 : decode cX9_act 124 = .ok (.bipush 26, 2) := by decide +kernel
theorem dX9_act_126 : decode cX9_act 126 = .ok (.if_icmp .ne 21, 3) := by decide +kernel
theorem dX9_act_129 : decode cX9_act 129 = .ok (.aload_n 0, 1) := by decide +kernel
theorem dX9_act_130 : decode cX9_act 130 = .ok (.iload_n 1, 1) := by decide +kernel
theorem dX9_act_131 : decode cX9_act 131 = .ok (.bipush 26, 2) := by decide +kernel
theorem dX9_act_133 : decode cX9_act 133 = .ok (.if_icmp .ne 7, 3) := by decide +kernel
theorem dX9_act_136 : decode cX9_act 136 = .ok (.iconst 1, 1) := by decide +kernel
theorem dX9_act_137 : decode cX9_act 137 = .ok (.goto 4, 3) := by decide +kernel
theorem dX9_act_140 : decode cX9_act 140 = .ok (.iconst 0, 1) := by decide +kernel
theorem dX9_act_141 : decode cX9_act 141 = .ok (.invokevirtual 219, 3) := by decide +kernel
theorem dX9_act_144 : decode cX9_act 144 = .ok (.goto 57, 3) := by decide +kernel
theorem dX9_act_147 : decode cX9_act 147 = .ok (.iload_n 1, 1) := by decide +kernel
theorem dX9_act_148 : decode cX9_act 148 = .ok (.bipush 28, 2) := by decide +kernel
theorem dX9_act_150 : decode cX9_act 150 = .ok (.if_icmp .eq 9, 3) := by decide +kernel
theorem dX9_act_153 : decode cX9_act 153 = .ok (.iload_n 1, 1) := by decide +kernel
theorem dX9_act_154 : decode cX9_act 154 = .ok (.bipush 29, 2) := by decide +kernel
theorem dX9_act_156 : decode cX9_act 156 = .ok (.if_icmp .ne 14, 3) := by decide +kernel
theorem dX9_act_159 : decode cX9_act 159 = .ok (.aload_n 0, 1) := by decide +kernel
theorem dX9_act_160 : decode cX9_act 160 = .ok (.iload_n 1, 1) := by decide +kernel
theorem dX9_act_161 : decode cX9_act 161 = .ok (.bipush 28, 2) := by decide +kernel
theorem dX9_act_163 : decode cX9_act 163 = .ok (.isub, 1) := by decide +kernel
theorem dX9_act_164 : decode cX9_act 164 = .ok (.invokevirtual 223, 3) := by decide +kernel
theorem dX9_act_167 : decode cX9_act 167 = .ok (.goto 34, 3) := by decide +kernel
theorem dX9_act_170 : decode cX9_act 170 = .ok (.iload_n 1, 1) := by decide +kernel
theorem dX9_act_171 : decode cX9_act 171 = .ok (.bipush 31, 2) := by decide +kernel
theorem dX9_act_173 : decode cX9_act 173 = .ok (.if_icmp .ne 10, 3) := by decide +kernel
theorem dX9_act_176 : decode cX9_act 176 = .ok (.aload_n 0, 1) := by decide +kernel
theorem dX9_act_177 : decode cX9_act 177 = .ok (.invokevirtual 226, 3) := by decide +kernel
theorem dX9_act_180 : decode cX9_act 180 = .ok (.goto 21, 3) := by decide +kernel
theorem dX9_act_183 : decode cX9_act 183 = .ok (.iload_n 1, 1) := by decide +kernel
theorem dX9_act_184 : decode cX9_act 184 = .ok (.bipush 35, 2) := by decide +kernel
theorem dX9_act_186 : decode cX9_act 186 = .ok (.if_icmp .ne 10, 3) := by decide +kernel
theorem dX9_act_189 : decode cX9_act 189 = .ok (.aload_n 0, 1) := by decide +kernel
theorem dX9_act_190 : decode cX9_act 190 = .ok (.invokevirtual 229, 3) := by decide +kernel
theorem dX9_act_193 : decode cX9_act 193 = .ok (.goto 8, 3) := by decide +kernel
theorem dX9_act_196 : decode cX9_act 196 = .ok (.aload_n 0, 1) := by decide +kernel
theorem dX9_act_197 : decode cX9_act 197 = .ok (.iload_n 1, 1) := by decide +kernel
theorem dX9_act_198 : decode cX9_act 198 = .ok (.invokevirtual 232, 3) := by decide +kernel
theorem dX9_act_201 : decode cX9_act 201 = .ok (.return_, 1) := by decide +kernel
theorem dX9_actSmall_0 : decode cX9_actSmall 0 = .ok (.aload_n 0, 1) := by decide +kernel
theorem dX9_actSmall_1 : decode cX9_actSmall 1 = .ok (.invokevirtual 105, 3) := by decide +kernel
theorem dX9_actSmall_4 : decode cX9_actSmall 4 = .ok (.ifCond .le 11, 3) := by decide +kernel
theorem dX9_actSmall_7 : decode cX9_actSmall 7 = .ok (.aload_n 0, 1) := by decide +kernel
theorem dX9_actSmall_8 : decode cX9_actSmall 8 = .ok (.iconst 0, 1) := by decide +kernel
theorem dX9_actSmall_9 : decode cX9_actSmall 9 = .ok (.invokevirtual 121, 3) := by decide +kernel
theorem dX9_actSmall_12 : decode cX9_actSmall 12 = .ok (.goto 4, 3) := by decide +kernel
theorem dX9_actSmall_15 : decode cX9_actSmall 15 = .ok (.iconst 0, 1) := by decide +kernel
theorem dX9_actSmall_16 : decode cX9_actSmall 16 = .ok (.istore_n 2, 1) := by decide +kernel
theorem dX9_actSmall_17 : decode cX9_actSmall 17 = .ok (.iload_n 1, 1) := by decide +kernel
theorem dX9_actSmall_18 : decode cX9_actSmall 18 = .ok (.tableswitch 519 1 45 #[194, 194, 519, 519, 519, 519, 519, 519, 519, 519, 237, 519, 519, 519, 519, 519, 519, 247, 256, 269, 519, 519, 519, 519, 519, 519, 519, 519, 519, 300, 519, 325, 339, 358, 519, 519, 519, 519, 372, 392, 407, 419, 456, 464, 501], 194) := by decide +kernel
theorem dX9_actSmall_212 : decode cX9_actSmall 212 = .ok (.iload_n 1, 1) := by decide +kernel
theorem dX9_actSmall_213 : decode cX9_actSmall 213 = .ok (.iconst 1, 1) := by decide +kernel
theorem dX9_actSmall_214 : decode cX9_actSmall 214 = .ok (.if_icmp .ne 11, 3) := by decide +kernel
theorem dX9_actSmall_217 : decode cX9_actSmall 217 = .ok (.aload_n 0, 1) := by decide +kernel
theorem dX9_actSmall_218 : decode cX9_actSmall 218 = .ok (.iconst 1, 1) := by decide +kernel
theorem dX9_actSmall_219 : decode cX9_actSmall 219 = .ok (.invokevirtual 193, 3) := by decide +kernel
theorem dX9_actSmall_222 : decode cX9_actSmall 222 = .ok (.goto 17, 3) := by decide +kernel
theorem dX9_actSmall_225 : decode cX9_actSmall 225 = .ok (.aload_n 0, 1) := by decide +kernel
theorem dX9_actSmall_226 : decode cX9_actSmall 226 = .ok (.iconst 1, 1) := by decide +kernel
theorem dX9_actSmall_227 : decode cX9_actSmall 227 = .ok (.invokevirtual 193, 3) := by decide +kernel
theorem dX9_actSmall_230 : decode cX9_actSmall 230 = .ok (.bipush 8, 2) := by decide +kernel
theorem dX9_actSmall_232 : decode cX9_actSmall 232 = .ok (.ishl, 1) := by decide +kernel
theorem dX9_actSmall_233 : decode cX9_actSmall 233 = .ok (.aload_n 0, 1) := by decide +kernel
theorem dX9_actSmall_234 : decode cX9_actSmall 234 = .ok (.iconst 2, 1) := by decide +kernel
theorem dX9_actSmall_235 : decode cX9_actSmall 235 = .ok (.invokevirtual 111, 3) := by decide +kernel
theorem dX9_actSmall_238 : decode cX9_actSmall 238 = .ok (.ior, 1) := by decide +kernel
theorem dX9_actSmall_239 : decode cX9_actSmall 239 = .ok (.istore_n 3, 1) := by decide +kernel
theorem dX9_actSmall_240 : decode cX9_actSmall 240 = .ok (.aload_n 0, 1) := by decide +kernel
theorem dX9_actSmall_241 : decode cX9_actSmall 241 = .ok (.iload_n 1, 1) := by decide +kernel
theorem dX9_actSmall_242 : decode cX9_actSmall 242 = .ok (.iconst 1, 1) := by decide +kernel
theorem dX9_actSmall_243 : decode cX9_actSmall 243 = .ok (.iadd, 1) := by decide +kernel
theorem dX9_actSmall_244 : decode cX9_actSmall 244 = .ok (.invokevirtual 167, 3) := by decide +kernel
theorem dX9_actSmall_247 : decode cX9_actSmall 247 = .ok (.aload_n 0, 1) := by decide +kernel
theorem dX9_actSmall_248 : decode cX9_actSmall 248 = .ok (.iload_n 3, 1) := by decide +kernel
theorem dX9_actSmall_249 : decode cX9_actSmall 249 = .ok (.invokevirtual 153, 3) := by decide +kernel
theorem dX9_actSmall_252 : decode cX9_actSmall 252 = .ok (.goto 290, 3) := by decide +kernel
theorem dX9_actSmall_255 : decode cX9_actSmall 255 = .ok (.aload_n 0, 1) := by decide +kernel
theorem dX9_actSmall_256 : decode cX9_actSmall 256 = .ok (.iconst 1, 1) := by decide +kernel
theorem dX9_actSmall_257 : decode cX9_actSmall 257 = .ok (.iload_n 2, 1) := by decide +kernel
theorem dX9_actSmall_258 : decode cX9_actSmall 258 = .ok (.ineg, 1) := by decide +kernel
theorem dX9_actSmall_259 : decode cX9_actSmall 259 = .ok (.invokevirtual 203, 3) := by decide +kernel
theorem dX9_actSmall_262 : decode cX9_actSmall 262 = .ok (.goto 280, 3) := by decide +kernel
theorem dX9_actSmall_265 : decode cX9_actSmall 265 = .ok (.aload_n 0, 1) := by decide +kernel
theorem dX9_actSmall_266 : decode cX9_actSmall 266 = .ok (.iconst 0, 1) := by decide +kernel
theorem dX9_actSmall_267 : decode cX9_actSmall 267 = .ok (.iload_n 2, 1) := by decide +kernel
theorem dX9_actSmall_268 : decode cX9_actSmall 268 = .ok (.invokevirtual 203, 3) := by decide +kernel
theorem dX9_actSmall_271 : decode cX9_actSmall 271 = .ok (.goto 271, 3) := by decide +kernel
theorem dX9_actSmall_274 : decode cX9_actSmall 274 = .ok (.aload_n 0, 1) := by decide +kernel
theorem dX9_actSmall_275 : decode cX9_actSmall 275 = .ok (.iconst 1, 1) := by decide +kernel
theorem dX9_actSmall_276 : decode cX9_actSmall 276 = .ok (.invokevirtual 170, 3) := by decide +kernel
theorem dX9_actSmall_279 : decode cX9_actSmall 279 = .ok (.aload_n 0, 1) := by decide +kernel
theorem dX9_actSmall_280 : decode cX9_actSmall 280 = .ok (.iconst 1, 1) := by decide +kernel
theorem dX9_actSmall_281 : decode cX9_actSmall 281 = .ok (.invokevirtual 167, 3) := by decide +kernel
theorem dX9_actSmall_284 : decode cX9_actSmall 284 = .ok (.goto 258, 3) := by decide +kernel
theorem dX9_actSmall_287 : decode cX9_actSmall 287 = .ok (.aload_n 0, 1) := by decide +kernel
theorem dX9_actSmall_288 : decode cX9_actSmall 288 = .ok (.iconst 1, 1) := by decide +kernel
theorem dX9_actSmall_289 : decode cX9_actSmall 289 = .ok (.invokevirtual 121, 3) := by decide +kernel
theorem dX9_actSmall_292 : decode cX9_actSmall 292 = .ok (.istore 4, 2) := by decide +kernel
theorem dX9_actSmall_294 : decode cX9_actSmall 294 = .ok (.aload_n 0, 1) := by decide +kernel
theorem dX9_actSmall_295 : decode cX9_actSmall 295 = .ok (.iconst 2, 1) := by decide +kernel
theorem dX9_actSmall_296 : decode cX9_actSmall 296 = .ok (.invokevirtual 170, 3) := by decide +kernel
theorem dX9_actSmall_299 : decode cX9_actSmall 299 = .ok (.aload_n 0, 1) := by decide +kernel
theorem dX9_actSmall_300 : decode cX9_actSmall 300 = .ok (.iload_n 2, 1) := by decide +kernel
theorem dX9_actSmall_301 : decode cX9_actSmall 301 = .ok (.invokevirtual 153, 3) := by decide +kernel
theorem dX9_actSmall_304 : decode cX9_actSmall 304 = .ok (.aload_n 0, 1) := by decide +kernel
theorem dX9_actSmall_305 : decode cX9_actSmall 305 = .ok (.iload 4, 2) := by decide +kernel
theorem dX9_actSmall_307 : decode cX9_actSmall 307 = .ok (.invokevirtual 153, 3) := by decide +kernel
theorem dX9_actSmall_310 : decode cX9_actSmall 310 = .ok (.aload_n 0, 1) := by decide +kernel
theorem dX9_actSmall_311 : decode cX9_actSmall 311 = .ok (.iconst 1, 1) := by decide +kernel
theorem dX9_actSmall_312 : decode cX9_actSmall 312 = .ok (.invokevirtual 167, 3) := by decide +kernel
theorem dX9_actSmall_315 : decode cX9_actSmall 315 = .ok (.goto 227, 3) := by decide +kernel
theorem dX9_actSmall_318 : decode cX9_actSmall 318 = .ok (.aload_n 0, 1) := by decide +kernel
theorem dX9_actSmall_319 : decode cX9_actSmall 319 = .ok (.iconst 2, 1) := by decide +kernel
theorem dX9_actSmall_320 : decode cX9_actSmall 320 = .ok (.aload_n 0, 1) := by decide +kernel
theorem dX9_actSmall_321 : decode cX9_actSmall 321 = .ok (.getfield 35, 3) := by decide +kernel
theorem dX9_actSmall_324 : decode cX9_actSmall 324 = .ok (.aload_n 0, 1) := by decide +kernel
theorem dX9_actSmall_325 : decode cX9_actSmall 325 = .ok (.getfield 32, 3) := by decide +kernel
theorem dX9_actSmall_328 : decode cX9_actSmall 328 = .ok (.aload_n 0, 1) := by decide +kernel
theorem dX9_actSmall_329 : decode cX9_actSmall 329 = .ok (.iconst 1, 1) := by decide +kernel
theorem dX9_actSmall_330 : decode cX9_actSmall 330 = .ok (.invokevirtual 121, 3) := by decide +kernel
theorem dX9_actSmall_333 : decode cX9_actSmall 333 = .ok (.iaload, 1) := by decide +kernel
theorem dX9_actSmall_334 : decode cX9_actSmall 334 = .ok (.iload_n 2, 1) := by decide +kernel
theorem dX9_actSmall_335 : decode cX9_actSmall 335 = .ok (.iadd, 1) := by decide +kernel
theorem dX9_actSmall_336 : decode cX9_actSmall 336 = .ok (.iaload, 1) := by decide +kernel
theorem dX9_actSmall_337 : decode cX9_actSmall 337 = .ok (.invokevirtual 203, 3) := by decide +kernel
theorem dX9_actSmall_340 : decode cX9_actSmall 340 = .ok (.goto 202, 3) := by decide +kernel
theorem dX9_actSmall_343 : decode cX9_actSmall 343 = .ok (.aload_n 0, 1) := by decide +kernel
theorem dX9_actSmall_344 : decode cX9_actSmall 344 = .ok (.iconst 1, 1) := by decide +kernel
theorem dX9_actSmall_345 : decode cX9_actSmall 345 = .ok (.aload_n 0, 1) := by decide +kernel
theorem dX9_actSmall_346 : decode cX9_actSmall 346 = .ok (.getfield 29, 3) := by decide +kernel
theorem dX9_actSmall_349 : decode cX9_actSmall 349 = .ok (.iload_n 2, 1) := by decide +kernel
theorem dX9_actSmall_350 : decode cX9_actSmall 350 = .ok (.iaload, 1) := by decide +kernel
theorem dX9_actSmall_351 : decode cX9_actSmall 351 = .ok (.invokevirtual 203, 3) := by decide +kernel
theorem dX9_actSmall_354 : decode cX9_actSmall 354 = .ok (.goto 188, 3) := by decide +kernel
theorem dX9_actSmall_357 : decode cX9_actSmall 357 = .ok (.aload_n 0, 1) := by decide +kernel
theorem dX9_actSmall_358 : decode cX9_actSmall 358 = .ok (.iconst 0, 1) := by decide +kernel
theorem dX9_actSmall_359 : decode cX9_actSmall 359 = .ok (.aload_n 0, 1) := by decide +kernel
theorem dX9_actSmall_360 : decode cX9_actSmall 360 = .ok (.getfield 58, 3) := by decide +kernel
theorem dX9_actSmall_363 : decode cX9_actSmall 363 = .ok (.aload_n 0, 1) := by decide +kernel
theorem dX9_actSmall_364 : decode cX9_actSmall 364 = .ok (.invokevirtual 101, 3) := by decide +kernel
theorem dX9_actSmall_367 : decode cX9_actSmall 367 = .ok (.iaload, 1) := by decide +kernel
theorem dX9_actSmall_368 : decode cX9_actSmall 368 = .ok (.iconst 1, 1) := by decide +kernel
theorem dX9_actSmall_369 : decode cX9_actSmall 369 = .ok (.iadd, 1) := by decide +kernel
theorem dX9_actSmall_370 : decode cX9_actSmall 370 = .ok (.invokevirtual 203, 3) := by decide +kernel
theorem dX9_actSmall_373 : decode cX9_actSmall 373 = .ok (.goto 169, 3) := by decide +kernel
theorem dX9_actSmall_376 : decode cX9_actSmall 376 = .ok (.aload_n 0, 1) := by decide +kernel
theorem dX9_actSmall_377 : decode cX9_actSmall 377 = .ok (.iconst 1, 1) := by decide +kernel
theorem dX9_actSmall_378 : decode cX9_actSmall 378 = .ok (.aload_n 0, 1) := by decide +kernel
theorem dX9_actSmall_379 : decode cX9_actSmall 379 = .ok (.getfield 23, 3) := by decide +kernel
theorem dX9_actSmall_382 : decode cX9_actSmall 382 = .ok (.iload_n 2, 1) := by decide +kernel
theorem dX9_actSmall_383 : decode cX9_actSmall 383 = .ok (.iaload, 1) := by decide +kernel
theorem dX9_actSmall_384 : decode cX9_actSmall 384 = .ok (.invokevirtual 203, 3) := by decide +kernel
theorem dX9_actSmall_387 : decode cX9_actSmall 387 = .ok (.goto 155, 3) := by decide +kernel
theorem dX9_actSmall_390 : decode cX9_actSmall 390 = .ok (.aload_n 0, 1) := by decide +kernel
theorem dX9_actSmall_391 : decode cX9_actSmall 391 = .ok (.iconst 0, 1) := by decide +kernel
theorem dX9_actSmall_392 : decode cX9_actSmall 392 = .ok (.aload_n 0, 1) := by decide +kernel
theorem dX9_actSmall_393 : decode cX9_actSmall 393 = .ok (.getfield 131, 3) := by decide +kernel
theorem dX9_actSmall_396 : decode cX9_actSmall 396 = .ok (.ifCond .eq 7, 3) := by decide +kernel
theorem dX9_actSmall_399 : decode cX9_actSmall 399 = .ok (.iconst 1, 1) := by decide +kernel
theorem dX9_actSmall_400 : decode cX9_actSmall 400 = .ok (.goto 4, 3) := by decide +kernel
theorem dX9_actSmall_403 : decode cX9_actSmall 403 = .ok (.iconst 0, 1) := by decide +kernel
theorem dX9_actSmall_404 : decode cX9_actSmall 404 = .ok (.invokevirtual 203, 3) := by decide +kernel
theorem dX9_actSmall_407 : decode cX9_actSmall 407 = .ok (.goto 135, 3) := by decide +kernel
theorem dX9_actSmall_410 : decode cX9_actSmall 410 = .ok (.aload_n 0, 1) := by decide +kernel
theorem dX9_actSmall_411 : decode cX9_actSmall 411 = .ok (.iconst 1, 1) := by decide +kernel
theorem dX9_actSmall_412 : decode cX9_actSmall 412 = .ok (.aload_n 0, 1) := by decide +kernel
theorem dX9_actSmall_413 : decode cX9_actSmall 413 = .ok (.getfield 52, 3) := by decide +kernel
theorem dX9_actSmall_416 : decode cX9_actSmall 416 = .ok (.iload_n 2, 1) := by decide +kernel
theorem dX9_actSmall_417 : decode cX9_actSmall 417 = .ok (.iaload, 1) := by decide +kernel
theorem dX9_actSmall_418 : decode cX9_actSmall 418 = .ok (.i2b, 1) := by decide +kernel
theorem dX9_actSmall_419 : decode cX9_actSmall 419 = .ok (.invokevirtual 203, 3) := by decide +kernel
theorem dX9_actSmall_422 : decode cX9_actSmall 422 = .ok (.goto 120, 3) := by decide +kernel
theorem dX9_actSmall_425 : decode cX9_actSmall 425 = .ok (.aload_n 0, 1) := by decide +kernel
theorem dX9_actSmall_426 : decode cX9_actSmall 426 = .ok (.iconst 0, 1) := by decide +kernel
theorem dX9_actSmall_427 : decode cX9_actSmall 427 = .ok (.aload_n 0, 1) := by decide +kernel
theorem dX9_actSmall_428 : decode cX9_actSmall 428 = .ok (.getfield 95, 3) := by decide +kernel
theorem dX9_actSmall_431 : decode cX9_actSmall 431 = .ok (.invokevirtual 203, 3) := by decide +kernel
theorem dX9_actSmall_434 : decode cX9_actSmall 434 = .ok (.goto 108, 3) := by decide +kernel
theorem dX9_actSmall_437 : decode cX9_actSmall 437 = .ok (.aload_n 0, 1) := by decide +kernel
theorem dX9_actSmall_438 : decode cX9_actSmall 438 = .ok (.getfield 55, 3) := by decide +kernel
theorem dX9_actSmall_441 : decode cX9_actSmall 441 = .ok (.aload_n 0, 1) := by decide +kernel
theorem dX9_actSmall_442 : decode cX9_actSmall 442 = .ok (.getfield 141, 3) := by decide +kernel
theorem dX9_actSmall_445 : decode cX9_actSmall 445 = .ok (.iload_n 2, 1) := by decide +kernel
theorem dX9_actSmall_446 : decode cX9_actSmall 446 = .ok (.sipush 255, 3) := by decide +kernel
theorem dX9_actSmall_449 : decode cX9_actSmall 449 = .ok (.iand, 1) := by decide +kernel
theorem dX9_actSmall_450 : decode cX9_actSmall 450 = .ok (.iastore, 1) := by decide +kernel
theorem dX9_actSmall_451 : decode cX9_actSmall 451 = .ok (.aload_n 0, 1) := by decide +kernel
theorem dX9_actSmall_452 : decode cX9_actSmall 452 = .ok (.dup, 1) := by decide +kernel
theorem dX9_actSmall_453 : decode cX9_actSmall 453 = .ok (.getfield 141, 3) := by decide +kernel
theorem dX9_actSmall_456 : decode cX9_actSmall 456 = .ok (.iconst 1, 1) := by decide +kernel
theorem dX9_actSmall_457 : decode cX9_actSmall 457 = .ok (.iadd, 1) := by decide +kernel
theorem dX9_actSmall_458 : decode cX9_actSmall 458 = .ok (.putfield 141, 3) := by decide +kernel
theorem dX9_actSmall_461 : decode cX9_actSmall 461 = .ok (.aload_n 0, 1) := by decide +kernel
theorem dX9_actSmall_462 : decode cX9_actSmall 462 = .ok (.iconst 1, 1) := by decide +kernel
theorem dX9_actSmall_463 : decode cX9_actSmall 463 = .ok (.invokevirtual 170, 3) := by decide +kernel
theorem dX9_actSmall_466 : decode cX9_actSmall 466 = .ok (.aload_n 0, 1) := by decide +kernel
theorem dX9_actSmall_467 : decode cX9_actSmall 467 = .ok (.iconst 1, 1) := by decide +kernel
theorem dX9_actSmall_468 : decode cX9_actSmall 468 = .ok (.invokevirtual 167, 3) := by decide +kernel
theorem dX9_actSmall_471 : decode cX9_actSmall 471 = .ok (.goto 71, 3) := by decide +kernel
theorem dX9_actSmall_474 : decode cX9_actSmall 474 = .ok (.aload_n 0, 1) := by decide +kernel
theorem dX9_actSmall_475 : decode cX9_actSmall 475 = .ok (.iload_n 2, 1) := by decide +kernel
theorem dX9_actSmall_476 : decode cX9_actSmall 476 = .ok (.invokevirtual 185, 3) := by decide +kernel
theorem dX9_actSmall_479 : decode cX9_actSmall 479 = .ok (.goto 63, 3) := by decide +kernel
theorem dX9_actSmall_482 : decode cX9_actSmall 482 = .ok (.aload_n 0, 1) := by decide +kernel
theorem dX9_actSmall_483 : decode cX9_actSmall 483 = .ok (.getfield 64, 3) := by decide +kernel
theorem dX9_actSmall_486 : decode cX9_actSmall 486 = .ok (.aload_n 0, 1) := by decide +kernel
theorem dX9_actSmall_487 : decode cX9_actSmall 487 = .ok (.invokevirtual 101, 3) := by decide +kernel
theorem dX9_actSmall_490 : decode cX9_actSmall 490 = .ok (.iconst 1, 1) := by decide +kernel
theorem dX9_actSmall_491 : decode cX9_actSmall 491 = .ok (.iastore, 1) := by decide +kernel
theorem dX9_actSmall_492 : decode cX9_actSmall 492 = .ok (.aload_n 0, 1) := by decide +kernel
theorem dX9_actSmall_493 : decode cX9_actSmall 493 = .ok (.getfield 76, 3) := by decide +kernel
theorem dX9_actSmall_496 : decode cX9_actSmall 496 = .ok (.aload_n 0, 1) := by decide +kernel
theorem dX9_actSmall_497 : decode cX9_actSmall 497 = .ok (.invokevirtual 101, 3) := by decide +kernel
theorem dX9_actSmall_500 : decode cX9_actSmall 500 = .ok (.aload_n 0, 1) := by decide +kernel
theorem dX9_actSmall_501 : decode cX9_actSmall 501 = .ok (.invokevirtual 108, 3) := by decide +kernel
theorem dX9_actSmall_504 : decode cX9_actSmall 504 = .ok (.aload_n 0, 1) := by decide +kernel
theorem dX9_actSmall_505 : decode cX9_actSmall 505 = .ok (.iconst 1, 1) := by decide +kernel
theorem dX9_actSmall_506 : decode cX9_actSmall 506 = .ok (.invokevirtual 193, 3) := by decide +kernel
theorem dX9_actSmall_509 : decode cX9_actSmall 509 = .ok (.iadd, 1) := by decide +kernel
theorem dX9_actSmall_510 : decode cX9_actSmall 510 = .ok (.iastore, 1) := by decide +kernel
theorem dX9_actSmall_511 : decode cX9_actSmall 511 = .ok (.aload_n 0, 1) := by decide +kernel
theorem dX9_actSmall_512 : decode cX9_actSmall 512 = .ok (.iconst 2, 1) := by decide +kernel
theorem dX9_actSmall_513 : decode cX9_actSmall 513 = .ok (.invokevirtual 167, 3) := by decide +kernel
theorem dX9_actSmall_516 : decode cX9_actSmall 516 = .ok (.goto 26, 3) := by decide +kernel
theorem dX9_actSmall_519 : decode cX9_actSmall 519 = .ok (.aload_n 0, 1) := by decide +kernel
theorem dX9_actSmall_520 : decode cX9_actSmall 520 = .ok (.getfield 64, 3) := by decide +kernel
theorem dX9_actSmall_523 : decode cX9_actSmall 523 = .ok (.aload_n 0, 1) := by decide +kernel
theorem dX9_actSmall_524 : decode cX9_actSmall 524 = .ok (.invokevirtual 101, 3) := by decide +kernel
theorem dX9_actSmall_527 : decode cX9_actSmall 527 = .ok (.iconst (-1), 1) := by decide +kernel
theorem dX9_actSmall_528 : decode cX9_actSmall 528 = .ok (.iastore, 1) := by decide +kernel
theorem dX9_actSmall_529 : decode cX9_actSmall 529 = .ok (.aload_n 0, 1) := by decide +kernel
theorem dX9_actSmall_530 : decode cX9_actSmall 530 = .ok (.iconst 1, 1) := by decide +kernel
theorem dX9_actSmall_531 : decode cX9_actSmall 531 = .ok (.invokevirtual 167, 3) := by decide +kernel
theorem dX9_actSmall_534 : decode cX9_actSmall 534 = .ok (.goto 8, 3) := by decide +kernel
theorem dX9_actSmall_537 : decode cX9_actSmall 537 = .ok (.aload_n 0, 1) := by decide +kernel
theorem dX9_actSmall_538 : decode cX9_actSmall 538 = .ok (.iconst 1, 1) := by decide +kernel
theorem dX9_actSmall_539 : decode cX9_actSmall 539 = .ok (.invokevirtual 167, 3) := by decide +kernel
theorem dX9_actSmall_542 : decode cX9_actSmall 542 = .ok (.return_, 1) := by decide +kernel
theorem dX9_step_0 : decode cX9_step 0 = .ok (.aload_n 0, 1) := by decide +kernel
theorem dX9_step_1 : decode cX9_step 1 = .ok (.getfield 176, 3) := by decide +kernel
theorem dX9_step_4 : decode cX9_step 4 = .ok (.aload_n 0, 1) := by decide +kernel
theorem dX9_step_5 : decode cX9_step 5 = .ok (.getfield 173, 3) := by decide +kernel
theorem dX9_step_8 : decode cX9_step 8 = .ok (.if_icmp .ne 10, 3) := by decide +kernel
theorem dX9_step_11 : decode cX9_step 11 = .ok (.aload_n 0, 1) := by decide +kernel
theorem dX9_step_12 : decode cX9_step 12 = .ok (.bipush 10, 2) := by decide +kernel
theorem dX9_step_14 : decode cX9_step 14 = .ok (.putfield 157, 3) := by decide +kernel
theorem dX9_step_17 : decode cX9_step 17 = .ok (.return_, 1) := by decide +kernel
theorem dX9_step_18 : decode cX9_step 18 = .ok (.aload_n 0, 1) := by decide +kernel
theorem dX9_step_19 : decode cX9_step 19 = .ok (.dup, 1) := by decide +kernel
theorem dX9_step_20 : decode cX9_step 20 = .ok (.getfield 176, 3) := by decide +kernel
theorem dX9_step_23 : decode cX9_step 23 = .ok (.iconst 1, 1) := by decide +kernel
theorem dX9_step_24 : decode cX9_step 24 = .ok (.iadd, 1) := by decide +kernel
theorem dX9_step_25 : decode cX9_step 25 = .ok (.putfield 176, 3) := by decide +kernel
theorem dX9_step_28 : decode cX9_step 28 = .ok (.aload_n 0, 1) := by decide +kernel
theorem dX9_step_29 : decode cX9_step 29 = .ok (.invokevirtual 235, 3) := by decide +kernel
theorem dX9_step_32 : decode cX9_step 32 = .ok (.istore_n 1, 1) := by decide +kernel
theorem dX9_step_33 : decode cX9_step 33 = .ok (.iload_n 1, 1) := by decide +kernel
theorem dX9_step_34 : decode cX9_step 34 = .ok (.ifCond .le 11, 3) := by decide +kernel
theorem dX9_step_37 : decode cX9_step 37 = .ok (.aload_n 0, 1) := by decide +kernel
theorem dX9_step_38 : decode cX9_step 38 = .ok (.iload_n 1, 1) := by decide +kernel
theorem dX9_step_39 : decode cX9_step 39 = .ok (.invokevirtual 185, 3) := by decide +kernel
theorem dX9_step_42 : decode cX9_step 42 = .ok (.goto 12, 3) := by decide +kernel
theorem dX9_step_45 : decode cX9_step 45 = .ok (.aload_n 0, 1) := by decide +kernel
theorem dX9_step_46 : decode cX9_step 46 = .ok (.aload_n 0, 1) := by decide +kernel
theorem dX9_step_47 : decode cX9_step 47 = .ok (.iconst 0, 1) := by decide +kernel
theorem dX9_step_48 : decode cX9_step 48 = .ok (.invokevirtual 111, 3) := by decide +kernel
theorem dX9_step_51 : decode cX9_step 51 = .ok (.invokevirtual 238, 3) := by decide +kernel
theorem dX9_step_54 : decode cX9_step 54 = .ok (.return_, 1) := by decide +kernel
theorem dX9_run_0 : decode cX9_run 0 = .ok (.iload_n 1, 1) := by decide +kernel
theorem dX9_run_1 : decode cX9_run 1 = .ok (.iconst 0, 1) := by decide +kernel
theorem dX9_run_2 : decode cX9_run 2 = .ok (.bipush 15, 2) := by decide +kernel
theorem dX9_run_4 : decode cX9_run 4 = .ok (.invokestatic 89, 3) := by decide +kernel
theorem dX9_run_7 : decode cX9_run 7 = .ok (.ifCond .eq 14, 3) := by decide +kernel
theorem dX9_run_10 : decode cX9_run 10 = .ok (.iload_n 2, 1) := by decide +kernel
theorem dX9_run_11 : decode cX9_run 11 = .ok (.iconst 1, 1) := by decide +kernel
theorem dX9_run_12 : decode cX9_run 12 = .ok (.sipush 3000, 3) := by decide +kernel
theorem dX9_run_15 : decode cX9_run 15 = .ok (.invokestatic 89, 3) := by decide +kernel
theorem dX9_run_18 : decode cX9_run 18 = .ok (.ifCond .ne 5, 3) := by decide +kernel
theorem dX9_run_21 : decode cX9_run 21 = .ok (.iconst (-1), 1) := by decide +kernel
theorem dX9_run_22 : decode cX9_run 22 = .ok (.ireturn, 1) := by decide +kernel
theorem dX9_run_23 : decode cX9_run 23 = .ok (.aload_n 0, 1) := by decide +kernel
theorem dX9_run_24 : decode cX9_run 24 = .ok (.iconst 0, 1) := by decide +kernel
theorem dX9_run_25 : decode cX9_run 25 = .ok (.putfield 141, 3) := by decide +kernel
theorem dX9_run_28 : decode cX9_run 28 = .ok (.aload_n 0, 1) := by decide +kernel
theorem dX9_run_29 : decode cX9_run 29 = .ok (.iconst 0, 1) := by decide +kernel
theorem dX9_run_30 : decode cX9_run 30 = .ok (.putfield 176, 3) := by decide +kernel
theorem dX9_run_33 : decode cX9_run 33 = .ok (.aload_n 0, 1) := by decide +kernel
theorem dX9_run_34 : decode cX9_run 34 = .ok (.iconst 0, 1) := by decide +kernel
theorem dX9_run_35 : decode cX9_run 35 = .ok (.putfield 160, 3) := by decide +kernel
theorem dX9_run_38 : decode cX9_run 38 = .ok (.aload_n 0, 1) := by decide +kernel
theorem dX9_run_39 : decode cX9_run 39 = .ok (.iconst 0, 1) := by decide +kernel
theorem dX9_run_40 : decode cX9_run 40 = .ok (.putfield 182, 3) := by decide +kernel
theorem dX9_run_43 : decode cX9_run 43 = .ok (.aload_n 0, 1) := by decide +kernel
theorem dX9_run_44 : decode cX9_run 44 = .ok (.getfield 38, 3) := by decide +kernel
theorem dX9_run_47 : decode cX9_run 47 = .ok (.ifCond .eq 45, 3) := by decide +kernel
theorem dX9_run_50 : decode cX9_run 50 = .ok (.aload_n 0, 1) := by decide +kernel
theorem dX9_run_51 : decode cX9_run 51 = .ok (.iload_n 2, 1) := by decide +kernel
theorem dX9_run_52 : decode cX9_run 52 = .ok (.putfield 173, 3) := by decide +kernel
theorem dX9_run_55 : decode cX9_run 55 = .ok (.aload_n 0, 1) := by decide +kernel
theorem dX9_run_56 : decode cX9_run 56 = .ok (.iconst 0, 1) := by decide +kernel
theorem dX9_run_57 : decode cX9_run 57 = .ok (.putfield 98, 3) := by decide +kernel
theorem dX9_run_60 : decode cX9_run 60 = .ok (.aload_n 0, 1) := by decide +kernel
theorem dX9_run_61 : decode cX9_run 61 = .ok (.iconst (-1), 1) := by decide +kernel
theorem dX9_run_62 : decode cX9_run 62 = .ok (.putfield 157, 3) := by decide +kernel
theorem dX9_run_65 : decode cX9_run 65 = .ok (.aload_n 0, 1) := by decide +kernel
theorem dX9_run_66 : decode cX9_run 66 = .ok (.iload_n 1, 1) := by decide +kernel
theorem dX9_run_67 : decode cX9_run 67 = .ok (.invokevirtual 179, 3) := by decide +kernel
theorem dX9_run_70 : decode cX9_run 70 = .ok (.aload_n 0, 1) := by decide +kernel
theorem dX9_run_71 : decode cX9_run 71 = .ok (.getfield 38, 3) := by decide +kernel
theorem dX9_run_74 : decode cX9_run 74 = .ok (.ifCond .eq 18, 3) := by decide +kernel
theorem dX9_run_77 : decode cX9_run 77 = .ok (.aload_n 0, 1) := by decide +kernel
theorem dX9_run_78 : decode cX9_run 78 = .ok (.getfield 157, 3) := by decide +kernel
theorem dX9_run_81 : decode cX9_run 81 = .ok (.iconst (-1), 1) := by decide +kernel
theorem dX9_run_82 : decode cX9_run 82 = .ok (.if_icmp .ne 10, 3) := by decide +kernel
theorem dX9_run_85 : decode cX9_run 85 = .ok (.aload_n 0, 1) := by decide +kernel
theorem dX9_run_86 : decode cX9_run 86 = .ok (.invokevirtual 241, 3) := by decide +kernel
theorem dX9_run_89 : decode cX9_run 89 = .ok (.goto (-19), 3) := by decide +kernel
theorem dX9_run_92 : decode cX9_run 92 = .ok (.aload_n 0, 1) := by decide +kernel
theorem dX9_run_93 : decode cX9_run 93 = .ok (.iconst 0, 1) := by decide +kernel
theorem dX9_run_94 : decode cX9_run 94 = .ok (.putfield 95, 3) := by decide +kernel
theorem dX9_run_97 : decode cX9_run 97 = .ok (.aload_n 0, 1) := by decide +kernel
theorem dX9_run_98 : decode cX9_run 98 = .ok (.getfield 38, 3) := by decide +kernel
theorem dX9_run_101 : decode cX9_run 101 = .ok (.ifCond .ne 21, 3) := by decide +kernel
theorem dX9_run_104 : decode cX9_run 104 = .ok (.aload_n 0, 1) := by decide +kernel
theorem dX9_run_105 : decode cX9_run 105 = .ok (.iconst 0, 1) := by decide +kernel
theorem dX9_run_106 : decode cX9_run 106 = .ok (.putfield 141, 3) := by decide +kernel
theorem dX9_run_109 : decode cX9_run 109 = .ok (.aload_n 0, 1) := by decide +kernel
theorem dX9_run_110 : decode cX9_run 110 = .ok (.iconst 0, 1) := by decide +kernel
theorem dX9_run_111 : decode cX9_run 111 = .ok (.putfield 182, 3) := by decide +kernel
theorem dX9_run_114 : decode cX9_run 114 = .ok (.aload_n 0, 1) := by decide +kernel
theorem dX9_run_115 : decode cX9_run 115 = .ok (.iconst 0, 1) := by decide +kernel
theorem dX9_run_116 : decode cX9_run 116 = .ok (.putfield 160, 3) := by decide +kernel
theorem dX9_run_119 : decode cX9_run 119 = .ok (.bipush (-2), 2) := by decide +kernel
theorem dX9_run_121 : decode cX9_run 121 = .ok (.ireturn, 1) := by decide +kernel
theorem dX9_run_122 : decode cX9_run 122 = .ok (.aload_n 0, 1) := by decide +kernel
theorem dX9_run_123 : decode cX9_run 123 = .ok (.getfield 131, 3) := by decide +kernel
theorem dX9_run_126 : decode cX9_run 126 = .ok (.ifCond .eq 7, 3) := by decide +kernel
theorem dX9_run_129 : decode cX9_run 129 = .ok (.aload_n 0, 1) := by decide +kernel
theorem dX9_run_130 : decode cX9_run 130 = .ok (.invokevirtual 196, 3) := by decide +kernel
theorem dX9_run_133 : decode cX9_run 133 = .ok (.aload_n 0, 1) := by decide +kernel
theorem dX9_run_134 : decode cX9_run 134 = .ok (.getfield 157, 3) := by decide +kernel
theorem dX9_run_137 : decode cX9_run 137 = .ok (.ireturn, 1) := by decide +kernel
theorem dX9_thrown0_0 : decode cX9_thrown0 0 = .ok (.aload_n 0, 1) := by decide +kernel
theorem dX9_thrown0_1 : decode cX9_thrown0 1 = .ok (.getfield 160, 3) := by decide +kernel
theorem dX9_thrown0_4 : decode cX9_thrown0 4 = .ok (.ireturn, 1) := by decide +kernel
theorem dX9_value_0 : decode cX9_value 0 = .ok (.aload_n 0, 1) := by decide +kernel
theorem dX9_value_1 : decode cX9_value 1 = .ok (.getfield 182, 3) := by decide +kernel
theorem dX9_value_4 : decode cX9_value 4 = .ok (.ireturn, 1) := by decide +kernel
theorem dX9_reply_0 : decode cX9_reply 0 = .ok (.iload_n 1, 1) := by decide +kernel
theorem dX9_reply_1 : decode cX9_reply 1 = .ok (.ifCond .lt 20, 3) := by decide +kernel
theorem dX9_reply_4 : decode cX9_reply 4 = .ok (.iload_n 1, 1) := by decide +kernel
theorem dX9_reply_5 : decode cX9_reply 5 = .ok (.aload_n 0, 1) := by decide +kernel
theorem dX9_reply_6 : decode cX9_reply 6 = .ok (.getfield 141, 3) := by decide +kernel
theorem dX9_reply_9 : decode cX9_reply 9 = .ok (.if_icmp .ge 12, 3) := by decide +kernel
theorem dX9_reply_12 : decode cX9_reply 12 = .ok (.aload_n 0, 1) := by decide +kernel
theorem dX9_reply_13 : decode cX9_reply 13 = .ok (.getfield 55, 3) := by decide +kernel
theorem dX9_reply_16 : decode cX9_reply 16 = .ok (.iload_n 1, 1) := by decide +kernel
theorem dX9_reply_17 : decode cX9_reply 17 = .ok (.iaload, 1) := by decide +kernel
theorem dX9_reply_18 : decode cX9_reply 18 = .ok (.goto 4, 3) := by decide +kernel
theorem dX9_reply_21 : decode cX9_reply 21 = .ok (.iconst (-1), 1) := by decide +kernel
theorem dX9_reply_22 : decode cX9_reply 22 = .ok (.ireturn, 1) := by decide +kernel
theorem dX9_used_0 : decode cX9_used 0 = .ok (.aload_n 0, 1) := by decide +kernel
theorem dX9_used_1 : decode cX9_used 1 = .ok (.getfield 176, 3) := by decide +kernel
theorem dX9_used_4 : decode cX9_used 4 = .ok (.ireturn, 1) := by decide +kernel
theorem dX9_tear_0 : decode cX9_tear 0 = .ok (.aload_n 0, 1) := by decide +kernel
theorem dX9_tear_1 : decode cX9_tear 1 = .ok (.iload_n 1, 1) := by decide +kernel
theorem dX9_tear_2 : decode cX9_tear 2 = .ok (.ifCond .ge 7, 3) := by decide +kernel
theorem dX9_tear_5 : decode cX9_tear 5 = .ok (.iconst (-1), 1) := by decide +kernel
theorem dX9_tear_6 : decode cX9_tear 6 = .ok (.goto 4, 3) := by decide +kernel
theorem dX9_tear_9 : decode cX9_tear 9 = .ok (.iload_n 1, 1) := by decide +kernel
theorem dX9_tear_10 : decode cX9_tear 10 = .ok (.putfield 42, 3) := by decide +kernel
theorem dX9_tear_13 : decode cX9_tear 13 = .ok (.iconst 1, 1) := by decide +kernel
theorem dX9_tear_14 : decode cX9_tear 14 = .ok (.ireturn, 1) := by decide +kernel
theorem dX9_reset_0 : decode cX9_reset 0 = .ok (.aload_n 0, 1) := by decide +kernel
theorem dX9_reset_1 : decode cX9_reset 1 = .ok (.getfield 38, 3) := by decide +kernel
theorem dX9_reset_4 : decode cX9_reset 4 = .ok (.ifCond .eq 5, 3) := by decide +kernel
theorem dX9_reset_7 : decode cX9_reset 7 = .ok (.iconst 0, 1) := by decide +kernel
theorem dX9_reset_8 : decode cX9_reset 8 = .ok (.ireturn, 1) := by decide +kernel
theorem dX9_reset_9 : decode cX9_reset 9 = .ok (.aload_n 0, 1) := by decide +kernel
theorem dX9_reset_10 : decode cX9_reset 10 = .ok (.iconst 1, 1) := by decide +kernel
theorem dX9_reset_11 : decode cX9_reset 11 = .ok (.putfield 38, 3) := by decide +kernel
theorem dX9_reset_14 : decode cX9_reset 14 = .ok (.aload_n 0, 1) := by decide +kernel
theorem dX9_reset_15 : decode cX9_reset 15 = .ok (.getfield 131, 3) := by decide +kernel
theorem dX9_reset_18 : decode cX9_reset 18 = .ok (.ifCond .ne 5, 3) := by decide +kernel
theorem dX9_reset_21 : decode cX9_reset 21 = .ok (.iconst 0, 1) := by decide +kernel
theorem dX9_reset_22 : decode cX9_reset 22 = .ok (.ireturn, 1) := by decide +kernel
theorem dX9_reset_23 : decode cX9_reset 23 = .ok (.aload_n 0, 1) := by decide +kernel
theorem dX9_reset_24 : decode cX9_reset 24 = .ok (.invokevirtual 196, 3) := by decide +kernel
theorem dX9_reset_27 : decode cX9_reset 27 = .ok (.iconst 1, 1) := by decide +kernel
theorem dX9_reset_28 : decode cX9_reset 28 = .ok (.ireturn, 1) := by decide +kernel
theorem dX9_objects_0 : decode cX9_objects 0 = .ok (.aload_n 0, 1) := by decide +kernel
theorem dX9_objects_1 : decode cX9_objects 1 = .ok (.getfield 38, 3) := by decide +kernel
theorem dX9_objects_4 : decode cX9_objects 4 = .ok (.ifCond .eq 10, 3) := by decide +kernel
theorem dX9_objects_7 : decode cX9_objects 7 = .ok (.aload_n 0, 1) := by decide +kernel
theorem dX9_objects_8 : decode cX9_objects 8 = .ok (.getfield 83, 3) := by decide +kernel
theorem dX9_objects_11 : decode cX9_objects 11 = .ok (.goto 4, 3) := by decide +kernel
theorem dX9_objects_14 : decode cX9_objects 14 = .ok (.iconst (-1), 1) := by decide +kernel
theorem dX9_objects_15 : decode cX9_objects 15 = .ok (.ireturn, 1) := by decide +kernel
theorem dX9_told_0 : decode cX9_told 0 = .ok (.aload_n 0, 1) := by decide +kernel
theorem dX9_told_1 : decode cX9_told 1 = .ok (.getfield 38, 3) := by decide +kernel
theorem dX9_told_4 : decode cX9_told 4 = .ok (.ifCond .eq 20, 3) := by decide +kernel
theorem dX9_told_7 : decode cX9_told 7 = .ok (.aload_n 0, 1) := by decide +kernel
theorem dX9_told_8 : decode cX9_told 8 = .ok (.iload_n 1, 1) := by decide +kernel
theorem dX9_told_9 : decode cX9_told 9 = .ok (.invokevirtual 124, 3) := by decide +kernel
theorem dX9_told_12 : decode cX9_told 12 = .ok (.ifCond .eq 12, 3) := by decide +kernel
theorem dX9_told_15 : decode cX9_told 15 = .ok (.iload_n 2, 1) := by decide +kernel
theorem dX9_told_16 : decode cX9_told 16 = .ok (.iconst 0, 1) := by decide +kernel
theorem dX9_told_17 : decode cX9_told 17 = .ok (.iconst 2, 1) := by decide +kernel
theorem dX9_told_18 : decode cX9_told 18 = .ok (.invokestatic 89, 3) := by decide +kernel
theorem dX9_told_21 : decode cX9_told 21 = .ok (.ifCond .ne 5, 3) := by decide +kernel
theorem dX9_told_24 : decode cX9_told 24 = .ok (.iconst (-1), 1) := by decide +kernel
theorem dX9_told_25 : decode cX9_told 25 = .ok (.ireturn, 1) := by decide +kernel
theorem dX9_told_26 : decode cX9_told 26 = .ok (.iload_n 2, 1) := by decide +kernel
theorem dX9_told_27 : decode cX9_told 27 = .ok (.ifCond .ne 12, 3) := by decide +kernel
theorem dX9_told_30 : decode cX9_told 30 = .ok (.aload_n 0, 1) := by decide +kernel
theorem dX9_told_31 : decode cX9_told 31 = .ok (.getfield 23, 3) := by decide +kernel
theorem dX9_told_34 : decode cX9_told 34 = .ok (.iload_n 1, 1) := by decide +kernel
theorem dX9_told_35 : decode cX9_told 35 = .ok (.iaload, 1) := by decide +kernel
theorem dX9_told_36 : decode cX9_told 36 = .ok (.goto 23, 3) := by decide +kernel
theorem dX9_told_39 : decode cX9_told 39 = .ok (.iload_n 2, 1) := by decide +kernel
theorem dX9_told_40 : decode cX9_told 40 = .ok (.iconst 1, 1) := by decide +kernel
theorem dX9_told_41 : decode cX9_told 41 = .ok (.if_icmp .ne 12, 3) := by decide +kernel
theorem dX9_told_44 : decode cX9_told 44 = .ok (.aload_n 0, 1) := by decide +kernel
theorem dX9_told_45 : decode cX9_told 45 = .ok (.getfield 26, 3) := by decide +kernel
theorem dX9_told_48 : decode cX9_told 48 = .ok (.iload_n 1, 1) := by decide +kernel
theorem dX9_told_49 : decode cX9_told 49 = .ok (.iaload, 1) := by decide +kernel
theorem dX9_told_50 : decode cX9_told 50 = .ok (.goto 9, 3) := by decide +kernel
theorem dX9_told_53 : decode cX9_told 53 = .ok (.aload_n 0, 1) := by decide +kernel
theorem dX9_told_54 : decode cX9_told 54 = .ok (.getfield 29, 3) := by decide +kernel
theorem dX9_told_57 : decode cX9_told 57 = .ok (.iload_n 1, 1) := by decide +kernel
theorem dX9_told_58 : decode cX9_told 58 = .ok (.iaload, 1) := by decide +kernel
theorem dX9_told_59 : decode cX9_told 59 = .ok (.ireturn, 1) := by decide +kernel
theorem dX9_cell_0 : decode cX9_cell 0 = .ok (.aload_n 0, 1) := by decide +kernel
theorem dX9_cell_1 : decode cX9_cell 1 = .ok (.getfield 38, 3) := by decide +kernel
theorem dX9_cell_4 : decode cX9_cell 4 = .ok (.ifCond .eq 43, 3) := by decide +kernel
theorem dX9_cell_7 : decode cX9_cell 7 = .ok (.aload_n 0, 1) := by decide +kernel
theorem dX9_cell_8 : decode cX9_cell 8 = .ok (.iload_n 1, 1) := by decide +kernel
theorem dX9_cell_9 : decode cX9_cell 9 = .ok (.invokevirtual 124, 3) := by decide +kernel
theorem dX9_cell_12 : decode cX9_cell 12 = .ok (.ifCond .eq 35, 3) := by decide +kernel
theorem dX9_cell_15 : decode cX9_cell 15 = .ok (.iload_n 2, 1) := by decide +kernel
theorem dX9_cell_16 : decode cX9_cell 16 = .ok (.iconst 0, 1) := by decide +kernel
theorem dX9_cell_17 : decode cX9_cell 17 = .ok (.aload_n 0, 1) := by decide +kernel
theorem dX9_cell_18 : decode cX9_cell 18 = .ok (.getfield 29, 3) := by decide +kernel
theorem dX9_cell_21 : decode cX9_cell 21 = .ok (.iload_n 1, 1) := by decide +kernel
theorem dX9_cell_22 : decode cX9_cell 22 = .ok (.iaload, 1) := by decide +kernel
theorem dX9_cell_23 : decode cX9_cell 23 = .ok (.iconst 1, 1) := by decide +kernel
theorem dX9_cell_24 : decode cX9_cell 24 = .ok (.isub, 1) := by decide +kernel
theorem dX9_cell_25 : decode cX9_cell 25 = .ok (.invokestatic 89, 3) := by decide +kernel
theorem dX9_cell_28 : decode cX9_cell 28 = .ok (.ifCond .eq 19, 3) := by decide +kernel
theorem dX9_cell_31 : decode cX9_cell 31 = .ok (.aload_n 0, 1) := by decide +kernel
theorem dX9_cell_32 : decode cX9_cell 32 = .ok (.getfield 35, 3) := by decide +kernel
theorem dX9_cell_35 : decode cX9_cell 35 = .ok (.aload_n 0, 1) := by decide +kernel
theorem dX9_cell_36 : decode cX9_cell 36 = .ok (.getfield 32, 3) := by decide +kernel
theorem dX9_cell_39 : decode cX9_cell 39 = .ok (.iload_n 1, 1) := by decide +kernel
theorem dX9_cell_40 : decode cX9_cell 40 = .ok (.iaload, 1) := by decide +kernel
theorem dX9_cell_41 : decode cX9_cell 41 = .ok (.iload_n 2, 1) := by decide +kernel
theorem dX9_cell_42 : decode cX9_cell 42 = .ok (.iadd, 1) := by decide +kernel
theorem dX9_cell_43 : decode cX9_cell 43 = .ok (.iaload, 1) := by decide +kernel
theorem dX9_cell_44 : decode cX9_cell 44 = .ok (.goto 4, 3) := by decide +kernel
theorem dX9_cell_47 : decode cX9_cell 47 = .ok (.iconst 0, 1) := by decide +kernel
theorem dX9_cell_48 : decode cX9_cell 48 = .ok (.ireturn, 1) := by decide +kernel
theorem dL_law_0 : decode cL_law 0 = .ok (.new 7, 3) := by decide +kernel
theorem dL_law_3 : decode cL_law 3 = .ok (.dup, 1) := by decide +kernel
theorem dL_law_4 : decode cL_law 4 = .ok (.invokespecial 9, 3) := by decide +kernel
theorem dL_law_7 : decode cL_law 7 = .ok (.astore_n 1, 1) := by decide +kernel
theorem dL_law_8 : decode cL_law 8 = .ok (.new 10, 3) := by decide +kernel
theorem dL_law_11 : decode cL_law 11 = .ok (.dup, 1) := by decide +kernel
theorem dL_law_12 : decode cL_law 12 = .ok (.invokespecial 12, 3) := by decide +kernel
theorem dL_law_15 : decode cL_law 15 = .ok (.astore_n 2, 1) := by decide +kernel
theorem dL_law_16 : decode cL_law 16 = .ok (.iconst 0, 1) := by decide +kernel
theorem dL_law_17 : decode cL_law 17 = .ok (.istore_n 3, 1) := by decide +kernel
theorem dL_law_18 : decode cL_law 18 = .ok (.iload_n 3, 1) := by decide +kernel
theorem dL_law_19 : decode cL_law 19 = .ok (.aload_n 0, 1) := by decide +kernel
theorem dL_law_20 : decode cL_law 20 = .ok (.arraylength, 1) := by decide +kernel
theorem dL_law_21 : decode cL_law 21 = .ok (.iconst 5, 1) := by decide +kernel
theorem dL_law_22 : decode cL_law 22 = .ok (.isub, 1) := by decide +kernel
theorem dL_law_23 : decode cL_law 23 = .ok (.if_icmp .gt 495, 3) := by decide +kernel
theorem dL_law_26 : decode cL_law 26 = .ok (.aload_n 0, 1) := by decide +kernel
theorem dL_law_27 : decode cL_law 27 = .ok (.iload_n 3, 1) := by decide +kernel
theorem dL_law_28 : decode cL_law 28 = .ok (.iaload, 1) := by decide +kernel
theorem dL_law_29 : decode cL_law 29 = .ok (.bipush 15, 2) := by decide +kernel
theorem dL_law_31 : decode cL_law 31 = .ok (.iand, 1) := by decide +kernel
theorem dL_law_32 : decode cL_law 32 = .ok (.tableswitch 480 0 13 #[72, 105, 178, 247, 270, 303, 316, 329, 352, 365, 388, 401, 414, 447], 72) := by decide +kernel
theorem dL_law_104 : decode cL_law 104 = .ok (.aload_n 1, 1) := by decide +kernel
theorem dL_law_105 : decode cL_law 105 = .ok (.aload_n 0, 1) := by decide +kernel
theorem dL_law_106 : decode cL_law 106 = .ok (.iload_n 3, 1) := by decide +kernel
theorem dL_law_107 : decode cL_law 107 = .ok (.iconst 1, 1) := by decide +kernel
theorem dL_law_108 : decode cL_law 108 = .ok (.iadd, 1) := by decide +kernel
theorem dL_law_109 : decode cL_law 109 = .ok (.iaload, 1) := by decide +kernel
theorem dL_law_110 : decode cL_law 110 = .ok (.aload_n 0, 1) := by decide +kernel
theorem dL_law_111 : decode cL_law 111 = .ok (.iload_n 3, 1) := by decide +kernel
theorem dL_law_112 : decode cL_law 112 = .ok (.iconst 2, 1) := by decide +kernel
theorem dL_law_113 : decode cL_law 113 = .ok (.iadd, 1) := by decide +kernel
theorem dL_law_114 : decode cL_law 114 = .ok (.iaload, 1) := by decide +kernel
theorem dL_law_115 : decode cL_law 115 = .ok (.invokevirtual 13, 3) := by decide +kernel
theorem dL_law_118 : decode cL_law 118 = .ok (.aload_n 2, 1) := by decide +kernel
theorem dL_law_119 : decode cL_law 119 = .ok (.aload_n 0, 1) := by decide +kernel
theorem dL_law_120 : decode cL_law 120 = .ok (.iload_n 3, 1) := by decide +kernel
theorem dL_law_121 : decode cL_law 121 = .ok (.iconst 1, 1) := by decide +kernel
theorem dL_law_122 : decode cL_law 122 = .ok (.iadd, 1) := by decide +kernel
theorem dL_law_123 : decode cL_law 123 = .ok (.iaload, 1) := by decide +kernel
theorem dL_law_124 : decode cL_law 124 = .ok (.aload_n 0, 1) := by decide +kernel
theorem dL_law_125 : decode cL_law 125 = .ok (.iload_n 3, 1) := by decide +kernel
theorem dL_law_126 : decode cL_law 126 = .ok (.iconst 2, 1) := by decide +kernel
theorem dL_law_127 : decode cL_law 127 = .ok (.iadd, 1) := by decide +kernel
theorem dL_law_128 : decode cL_law 128 = .ok (.iaload, 1) := by decide +kernel
theorem dL_law_129 : decode cL_law 129 = .ok (.invokevirtual 17, 3) := by decide +kernel
theorem dL_law_132 : decode cL_law 132 = .ok (.if_icmp .eq 380, 3) := by decide +kernel
theorem dL_law_135 : decode cL_law 135 = .ok (.iconst 0, 1) := by decide +kernel
theorem dL_law_136 : decode cL_law 136 = .ok (.ireturn, 1) := by decide +kernel
theorem dL_law_137 : decode cL_law 137 = .ok (.aload_n 1, 1) := by decide +kernel
theorem dL_law_138 : decode cL_law 138 = .ok (.aload_n 0, 1) := by decide +kernel
theorem dL_law_139 : decode cL_law 139 = .ok (.iload_n 3, 1) := by decide +kernel
theorem dL_law_140 : decode cL_law 140 = .ok (.iconst 1, 1) := by decide +kernel
theorem dL_law_141 : decode cL_law 141 = .ok (.iadd, 1) := by decide +kernel
theorem dL_law_142 : decode cL_law 142 = .ok (.iaload, 1) := by decide +kernel
theorem dL_law_143 : decode cL_law 143 = .ok (.aload_n 0, 1) := by decide +kernel
theorem dL_law_144 : decode cL_law 144 = .ok (.iload_n 3, 1) := by decide +kernel
theorem dL_law_145 : decode cL_law 145 = .ok (.iconst 2, 1) := by decide +kernel
theorem dL_law_146 : decode cL_law 146 = .ok (.iadd, 1) := by decide +kernel
theorem dL_law_147 : decode cL_law 147 = .ok (.iaload, 1) := by decide +kernel
theorem dL_law_148 : decode cL_law 148 = .ok (.i2l, 1) := by decide +kernel
theorem dL_law_149 : decode cL_law 149 = .ok (.bipush 32, 2) := by decide +kernel
theorem dL_law_151 : decode cL_law 151 = .ok (.lshl, 1) := by decide +kernel
theorem dL_law_152 : decode cL_law 152 = .ok (.aload_n 0, 1) := by decide +kernel
theorem dL_law_153 : decode cL_law 153 = .ok (.iload_n 3, 1) := by decide +kernel
theorem dL_law_154 : decode cL_law 154 = .ok (.iconst 3, 1) := by decide +kernel
theorem dL_law_155 : decode cL_law 155 = .ok (.iadd, 1) := by decide +kernel
theorem dL_law_156 : decode cL_law 156 = .ok (.iaload, 1) := by decide +kernel
theorem dL_law_157 : decode cL_law 157 = .ok (.i2l, 1) := by decide +kernel
theorem dL_law_158 : decode cL_law 158 = .ok (.ldc2_w 18, 3) := by decide +kernel
theorem dL_law_161 : decode cL_law 161 = .ok (.land, 1) := by decide +kernel
theorem dL_law_162 : decode cL_law 162 = .ok (.lor, 1) := by decide +kernel
theorem dL_law_163 : decode cL_law 163 = .ok (.aload_n 0, 1) := by decide +kernel
theorem dL_law_164 : decode cL_law 164 = .ok (.iload_n 3, 1) := by decide +kernel
theorem dL_law_165 : decode cL_law 165 = .ok (.iconst 4, 1) := by decide +kernel
theorem dL_law_166 : decode cL_law 166 = .ok (.iadd, 1) := by decide +kernel
theorem dL_law_167 : decode cL_law 167 = .ok (.iaload, 1) := by decide +kernel
theorem dL_law_168 : decode cL_law 168 = .ok (.invokevirtual 20, 3) := by decide +kernel
theorem dL_law_171 : decode cL_law 171 = .ok (.aload_n 2, 1) := by decide +kernel
theorem dL_law_172 : decode cL_law 172 = .ok (.aload_n 0, 1) := by decide +kernel
theorem dL_law_173 : decode cL_law 173 = .ok (.iload_n 3, 1) := by decide +kernel
theorem dL_law_174 : decode cL_law 174 = .ok (.iconst 1, 1) := by decide +kernel
theorem dL_law_175 : decode cL_law 175 = .ok (.iadd, 1) := by decide +kernel
theorem dL_law_176 : decode cL_law 176 = .ok (.iaload, 1) := by decide +kernel
theorem dL_law_177 : decode cL_law 177 = .ok (.aload_n 0, 1) := by decide +kernel
theorem dL_law_178 : decode cL_law 178 = .ok (.iload_n 3, 1) := by decide +kernel
theorem dL_law_179 : decode cL_law 179 = .ok (.iconst 2, 1) := by decide +kernel
theorem dL_law_180 : decode cL_law 180 = .ok (.iadd, 1) := by decide +kernel
theorem dL_law_181 : decode cL_law 181 = .ok (.iaload, 1) := by decide +kernel
theorem dL_law_182 : decode cL_law 182 = .ok (.i2l, 1) := by decide +kernel
theorem dL_law_183 : decode cL_law 183 = .ok (.bipush 32, 2) := by decide +kernel
theorem dL_law_185 : decode cL_law 185 = .ok (.lshl, 1) := by decide +kernel
theorem dL_law_186 : decode cL_law 186 = .ok (.aload_n 0, 1) := by decide +kernel
theorem dL_law_187 : decode cL_law 187 = .ok (.iload_n 3, 1) := by decide +kernel
theorem dL_law_188 : decode cL_law 188 = .ok (.iconst 3, 1) := by decide +kernel
theorem dL_law_189 : decode cL_law 189 = .ok (.iadd, 1) := by decide +kernel
theorem dL_law_190 : decode cL_law 190 = .ok (.iaload, 1) := by decide +kernel
theorem dL_law_191 : decode cL_law 191 = .ok (.i2l, 1) := by decide +kernel
theorem dL_law_192 : decode cL_law 192 = .ok (.ldc2_w 18, 3) := by decide +kernel
theorem dL_law_195 : decode cL_law 195 = .ok (.land, 1) := by decide +kernel
theorem dL_law_196 : decode cL_law 196 = .ok (.lor, 1) := by decide +kernel
theorem dL_law_197 : decode cL_law 197 = .ok (.aload_n 0, 1) := by decide +kernel
theorem dL_law_198 : decode cL_law 198 = .ok (.iload_n 3, 1) := by decide +kernel
theorem dL_law_199 : decode cL_law 199 = .ok (.iconst 4, 1) := by decide +kernel
theorem dL_law_200 : decode cL_law 200 = .ok (.iadd, 1) := by decide +kernel
theorem dL_law_201 : decode cL_law 201 = .ok (.iaload, 1) := by decide +kernel
theorem dL_law_202 : decode cL_law 202 = .ok (.invokevirtual 24, 3) := by decide +kernel
theorem dL_law_205 : decode cL_law 205 = .ok (.if_icmp .eq 307, 3) := by decide +kernel
theorem dL_law_208 : decode cL_law 208 = .ok (.iconst 0, 1) := by decide +kernel
theorem dL_law_209 : decode cL_law 209 = .ok (.ireturn, 1) := by decide +kernel
theorem dL_law_210 : decode cL_law 210 = .ok (.aload_n 1, 1) := by decide +kernel
theorem dL_law_211 : decode cL_law 211 = .ok (.aload_n 0, 1) := by decide +kernel
theorem dL_law_212 : decode cL_law 212 = .ok (.iload_n 3, 1) := by decide +kernel
theorem dL_law_213 : decode cL_law 213 = .ok (.iconst 1, 1) := by decide +kernel
theorem dL_law_214 : decode cL_law 214 = .ok (.iadd, 1) := by decide +kernel
theorem dL_law_215 : decode cL_law 215 = .ok (.iaload, 1) := by decide +kernel
theorem dL_law_216 : decode cL_law 216 = .ok (.aload_n 0, 1) := by decide +kernel
theorem dL_law_217 : decode cL_law 217 = .ok (.iload_n 3, 1) := by decide +kernel
theorem dL_law_218 : decode cL_law 218 = .ok (.iconst 2, 1) := by decide +kernel
theorem dL_law_219 : decode cL_law 219 = .ok (.iadd, 1) := by decide +kernel
theorem dL_law_220 : decode cL_law 220 = .ok (.iaload, 1) := by decide +kernel
theorem dL_law_221 : decode cL_law 221 = .ok (.aload_n 0, 1) := by decide +kernel
theorem dL_law_222 : decode cL_law 222 = .ok (.iload_n 3, 1) := by decide +kernel
theorem dL_law_223 : decode cL_law 223 = .ok (.iconst 3, 1) := by decide +kernel
theorem dL_law_224 : decode cL_law 224 = .ok (.iadd, 1) := by decide +kernel
theorem dL_law_225 : decode cL_law 225 = .ok (.iaload, 1) := by decide +kernel
theorem dL_law_226 : decode cL_law 226 = .ok (.aload_n 0, 1) := by decide +kernel
theorem dL_law_227 : decode cL_law 227 = .ok (.iload_n 3, 1) := by decide +kernel
theorem dL_law_228 : decode cL_law 228 = .ok (.iconst 4, 1) := by decide +kernel
theorem dL_law_229 : decode cL_law 229 = .ok (.iadd, 1) := by decide +kernel
theorem dL_law_230 : decode cL_law 230 = .ok (.iaload, 1) := by decide +kernel
theorem dL_law_231 : decode cL_law 231 = .ok (.ifCond .eq 7, 3) := by decide +kernel
theorem dL_law_234 : decode cL_law 234 = .ok (.iconst 1, 1) := by decide +kernel
theorem dL_law_235 : decode cL_law 235 = .ok (.goto 4, 3) := by decide +kernel
theorem dL_law_238 : decode cL_law 238 = .ok (.iconst 0, 1) := by decide +kernel
theorem dL_law_239 : decode cL_law 239 = .ok (.invokevirtual 25, 3) := by decide +kernel
theorem dL_law_242 : decode cL_law 242 = .ok (.aload_n 2, 1) := by decide +kernel
theorem dL_law_243 : decode cL_law 243 = .ok (.aload_n 0, 1) := by decide +kernel
theorem dL_law_244 : decode cL_law 244 = .ok (.iload_n 3, 1) := by decide +kernel
theorem dL_law_245 : decode cL_law 245 = .ok (.iconst 1, 1) := by decide +kernel
theorem dL_law_246 : decode cL_law 246 = .ok (.iadd, 1) := by decide +kernel
theorem dL_law_247 : decode cL_law 247 = .ok (.iaload, 1) := by decide +kernel
theorem dL_law_248 : decode cL_law 248 = .ok (.aload_n 0, 1) := by decide +kernel
theorem dL_law_249 : decode cL_law 249 = .ok (.iload_n 3, 1) := by decide +kernel
theorem dL_law_250 : decode cL_law 250 = .ok (.iconst 2, 1) := by decide +kernel
theorem dL_law_251 : decode cL_law 251 = .ok (.iadd, 1) := by decide +kernel
theorem dL_law_252 : decode cL_law 252 = .ok (.iaload, 1) := by decide +kernel
theorem dL_law_253 : decode cL_law 253 = .ok (.aload_n 0, 1) := by decide +kernel
theorem dL_law_254 : decode cL_law 254 = .ok (.iload_n 3, 1) := by decide +kernel
theorem dL_law_255 : decode cL_law 255 = .ok (.iconst 3, 1) := by decide +kernel
theorem dL_law_256 : decode cL_law 256 = .ok (.iadd, 1) := by decide +kernel
theorem dL_law_257 : decode cL_law 257 = .ok (.iaload, 1) := by decide +kernel
theorem dL_law_258 : decode cL_law 258 = .ok (.aload_n 0, 1) := by decide +kernel
theorem dL_law_259 : decode cL_law 259 = .ok (.iload_n 3, 1) := by decide +kernel
theorem dL_law_260 : decode cL_law 260 = .ok (.iconst 4, 1) := by decide +kernel
theorem dL_law_261 : decode cL_law 261 = .ok (.iadd, 1) := by decide +kernel
theorem dL_law_262 : decode cL_law 262 = .ok (.iaload, 1) := by decide +kernel
theorem dL_law_263 : decode cL_law 263 = .ok (.ifCond .eq 7, 3) := by decide +kernel
theorem dL_law_266 : decode cL_law 266 = .ok (.iconst 1, 1) := by decide +kernel
theorem dL_law_267 : decode cL_law 267 = .ok (.goto 4, 3) := by decide +kernel
theorem dL_law_270 : decode cL_law 270 = .ok (.iconst 0, 1) := by decide +kernel
theorem dL_law_271 : decode cL_law 271 = .ok (.invokevirtual 29, 3) := by decide +kernel
theorem dL_law_274 : decode cL_law 274 = .ok (.if_icmp .eq 238, 3) := by decide +kernel
theorem dL_law_277 : decode cL_law 277 = .ok (.iconst 0, 1) := by decide +kernel
theorem dL_law_278 : decode cL_law 278 = .ok (.ireturn, 1) := by decide +kernel
theorem dL_law_279 : decode cL_law 279 = .ok (.aload_n 1, 1) := by decide +kernel
theorem dL_law_280 : decode cL_law 280 = .ok (.aload_n 0, 1) := by decide +kernel
theorem dL_law_281 : decode cL_law 281 = .ok (.iload_n 3, 1) := by decide +kernel
theorem dL_law_282 : decode cL_law 282 = .ok (.iconst 1, 1) := by decide +kernel
theorem dL_law_283 : decode cL_law 283 = .ok (.iadd, 1) := by decide +kernel
theorem dL_law_284 : decode cL_law 284 = .ok (.iaload, 1) := by decide +kernel
theorem dL_law_285 : decode cL_law 285 = .ok (.invokevirtual 30, 3) := by decide +kernel
theorem dL_law_288 : decode cL_law 288 = .ok (.aload_n 2, 1) := by decide +kernel
theorem dL_law_289 : decode cL_law 289 = .ok (.aload_n 0, 1) := by decide +kernel
theorem dL_law_290 : decode cL_law 290 = .ok (.iload_n 3, 1) := by decide +kernel
theorem dL_law_291 : decode cL_law 291 = .ok (.iconst 1, 1) := by decide +kernel
theorem dL_law_292 : decode cL_law 292 = .ok (.iadd, 1) := by decide +kernel
theorem dL_law_293 : decode cL_law 293 = .ok (.iaload, 1) := by decide +kernel
theorem dL_law_294 : decode cL_law 294 = .ok (.invokevirtual 34, 3) := by decide +kernel
theorem dL_law_297 : decode cL_law 297 = .ok (.if_icmp .eq 215, 3) := by decide +kernel
theorem dL_law_300 : decode cL_law 300 = .ok (.iconst 0, 1) := by decide +kernel
theorem dL_law_301 : decode cL_law 301 = .ok (.ireturn, 1) := by decide +kernel
theorem dL_law_302 : decode cL_law 302 = .ok (.aload_n 1, 1) := by decide +kernel
theorem dL_law_303 : decode cL_law 303 = .ok (.aload_n 0, 1) := by decide +kernel
theorem dL_law_304 : decode cL_law 304 = .ok (.iload_n 3, 1) := by decide +kernel
theorem dL_law_305 : decode cL_law 305 = .ok (.iconst 1, 1) := by decide +kernel
theorem dL_law_306 : decode cL_law 306 = .ok (.iadd, 1) := by decide +kernel
theorem dL_law_307 : decode cL_law 307 = .ok (.iaload, 1) := by decide +kernel
theorem dL_law_308 : decode cL_law 308 = .ok (.aload_n 0, 1) := by decide +kernel
theorem dL_law_309 : decode cL_law 309 = .ok (.iload_n 3, 1) := by decide +kernel
theorem dL_law_310 : decode cL_law 310 = .ok (.iconst 2, 1) := by decide +kernel
theorem dL_law_311 : decode cL_law 311 = .ok (.iadd, 1) := by decide +kernel
theorem dL_law_312 : decode cL_law 312 = .ok (.iaload, 1) := by decide +kernel
theorem dL_law_313 : decode cL_law 313 = .ok (.invokevirtual 35, 3) := by decide +kernel
theorem dL_law_316 : decode cL_law 316 = .ok (.aload_n 2, 1) := by decide +kernel
theorem dL_law_317 : decode cL_law 317 = .ok (.aload_n 0, 1) := by decide +kernel
theorem dL_law_318 : decode cL_law 318 = .ok (.iload_n 3, 1) := by decide +kernel
theorem dL_law_319 : decode cL_law 319 = .ok (.iconst 1, 1) := by decide +kernel
theorem dL_law_320 : decode cL_law 320 = .ok (.iadd, 1) := by decide +kernel
theorem dL_law_321 : decode cL_law 321 = .ok (.iaload, 1) := by decide +kernel
theorem dL_law_322 : decode cL_law 322 = .ok (.aload_n 0, 1) := by decide +kernel
theorem dL_law_323 : decode cL_law 323 = .ok (.iload_n 3, 1) := by decide +kernel
theorem dL_law_324 : decode cL_law 324 = .ok (.iconst 2, 1) := by decide +kernel
theorem dL_law_325 : decode cL_law 325 = .ok (.iadd, 1) := by decide +kernel
theorem dL_law_326 : decode cL_law 326 = .ok (.iaload, 1) := by decide +kernel
theorem dL_law_327 : decode cL_law 327 = .ok (.invokevirtual 38, 3) := by decide +kernel
theorem dL_law_330 : decode cL_law 330 = .ok (.if_icmp .eq 182, 3) := by decide +kernel
theorem dL_law_333 : decode cL_law 333 = .ok (.iconst 0, 1) := by decide +kernel
theorem dL_law_334 : decode cL_law 334 = .ok (.ireturn, 1) := by decide +kernel
theorem dL_law_335 : decode cL_law 335 = .ok (.aload_n 1, 1) := by decide +kernel
theorem dL_law_336 : decode cL_law 336 = .ok (.invokevirtual 39, 3) := by decide +kernel
theorem dL_law_339 : decode cL_law 339 = .ok (.aload_n 2, 1) := by decide +kernel
theorem dL_law_340 : decode cL_law 340 = .ok (.invokevirtual 43, 3) := by decide +kernel
theorem dL_law_343 : decode cL_law 343 = .ok (.if_icmp .eq 169, 3) := by decide +kernel
theorem dL_law_346 : decode cL_law 346 = .ok (.iconst 0, 1) := by decide +kernel
theorem dL_law_347 : decode cL_law 347 = .ok (.ireturn, 1) := by decide +kernel
theorem dL_law_348 : decode cL_law 348 = .ok (.aload_n 1, 1) := by decide +kernel
theorem dL_law_349 : decode cL_law 349 = .ok (.invokevirtual 44, 3) := by decide +kernel
theorem dL_law_352 : decode cL_law 352 = .ok (.aload_n 2, 1) := by decide +kernel
theorem dL_law_353 : decode cL_law 353 = .ok (.invokevirtual 47, 3) := by decide +kernel
theorem dL_law_356 : decode cL_law 356 = .ok (.if_icmp .eq 156, 3) := by decide +kernel
theorem dL_law_359 : decode cL_law 359 = .ok (.iconst 0, 1) := by decide +kernel
theorem dL_law_360 : decode cL_law 360 = .ok (.ireturn, 1) := by decide +kernel
theorem dL_law_361 : decode cL_law 361 = .ok (.aload_n 1, 1) := by decide +kernel
theorem dL_law_362 : decode cL_law 362 = .ok (.aload_n 0, 1) := by decide +kernel
theorem dL_law_363 : decode cL_law 363 = .ok (.iload_n 3, 1) := by decide +kernel
theorem dL_law_364 : decode cL_law 364 = .ok (.iconst 1, 1) := by decide +kernel
theorem dL_law_365 : decode cL_law 365 = .ok (.iadd, 1) := by decide +kernel
theorem dL_law_366 : decode cL_law 366 = .ok (.iaload, 1) := by decide +kernel
theorem dL_law_367 : decode cL_law 367 = .ok (.invokevirtual 48, 3) := by decide +kernel
theorem dL_law_370 : decode cL_law 370 = .ok (.aload_n 2, 1) := by decide +kernel
theorem dL_law_371 : decode cL_law 371 = .ok (.aload_n 0, 1) := by decide +kernel
theorem dL_law_372 : decode cL_law 372 = .ok (.iload_n 3, 1) := by decide +kernel
theorem dL_law_373 : decode cL_law 373 = .ok (.iconst 1, 1) := by decide +kernel
theorem dL_law_374 : decode cL_law 374 = .ok (.iadd, 1) := by decide +kernel
theorem dL_law_375 : decode cL_law 375 = .ok (.iaload, 1) := by decide +kernel
theorem dL_law_376 : decode cL_law 376 = .ok (.invokevirtual 51, 3) := by decide +kernel
theorem dL_law_379 : decode cL_law 379 = .ok (.if_icmp .eq 133, 3) := by decide +kernel
theorem dL_law_382 : decode cL_law 382 = .ok (.iconst 0, 1) := by decide +kernel
theorem dL_law_383 : decode cL_law 383 = .ok (.ireturn, 1) := by decide +kernel
theorem dL_law_384 : decode cL_law 384 = .ok (.aload_n 1, 1) := by decide +kernel
theorem dL_law_385 : decode cL_law 385 = .ok (.invokevirtual 52, 3) := by decide +kernel
theorem dL_law_388 : decode cL_law 388 = .ok (.aload_n 2, 1) := by decide +kernel
theorem dL_law_389 : decode cL_law 389 = .ok (.invokevirtual 55, 3) := by decide +kernel
theorem dL_law_392 : decode cL_law 392 = .ok (.if_icmp .eq 120, 3) := by decide +kernel
theorem dL_law_395 : decode cL_law 395 = .ok (.iconst 0, 1) := by decide +kernel
theorem dL_law_396 : decode cL_law 396 = .ok (.ireturn, 1) := by decide +kernel
theorem dL_law_397 : decode cL_law 397 = .ok (.aload_n 1, 1) := by decide +kernel
theorem dL_law_398 : decode cL_law 398 = .ok (.aload_n 0, 1) := by decide +kernel
theorem dL_law_399 : decode cL_law 399 = .ok (.iload_n 3, 1) := by decide +kernel
theorem dL_law_400 : decode cL_law 400 = .ok (.iconst 1, 1) := by decide +kernel
theorem dL_law_401 : decode cL_law 401 = .ok (.iadd, 1) := by decide +kernel
theorem dL_law_402 : decode cL_law 402 = .ok (.iaload, 1) := by decide +kernel
theorem dL_law_403 : decode cL_law 403 = .ok (.invokevirtual 56, 3) := by decide +kernel
theorem dL_law_406 : decode cL_law 406 = .ok (.aload_n 2, 1) := by decide +kernel
theorem dL_law_407 : decode cL_law 407 = .ok (.aload_n 0, 1) := by decide +kernel
theorem dL_law_408 : decode cL_law 408 = .ok (.iload_n 3, 1) := by decide +kernel
theorem dL_law_409 : decode cL_law 409 = .ok (.iconst 1, 1) := by decide +kernel
theorem dL_law_410 : decode cL_law 410 = .ok (.iadd, 1) := by decide +kernel
theorem dL_law_411 : decode cL_law 411 = .ok (.iaload, 1) := by decide +kernel
theorem dL_law_412 : decode cL_law 412 = .ok (.invokevirtual 59, 3) := by decide +kernel
theorem dL_law_415 : decode cL_law 415 = .ok (.if_icmp .eq 97, 3) := by decide +kernel
theorem dL_law_418 : decode cL_law 418 = .ok (.iconst 0, 1) := by decide +kernel
theorem dL_law_419 : decode cL_law 419 = .ok (.ireturn, 1) := by decide +kernel
theorem dL_law_420 : decode cL_law 420 = .ok (.aload_n 1, 1) := by decide +kernel
theorem dL_law_421 : decode cL_law 421 = .ok (.invokevirtual 60, 3) := by decide +kernel
theorem dL_law_424 : decode cL_law 424 = .ok (.aload_n 2, 1) := by decide +kernel
theorem dL_law_425 : decode cL_law 425 = .ok (.invokevirtual 63, 3) := by decide +kernel
theorem dL_law_428 : decode cL_law 428 = .ok (.if_icmp .eq 84, 3) := by decide +kernel
theorem dL_law_431 : decode cL_law 431 = .ok (.iconst 0, 1) := by decide +kernel
theorem dL_law_432 : decode cL_law 432 = .ok (.ireturn, 1) := by decide +kernel
theorem dL_law_433 : decode cL_law 433 = .ok (.aload_n 1, 1) := by decide +kernel
theorem dL_law_434 : decode cL_law 434 = .ok (.invokevirtual 64, 3) := by decide +kernel
theorem dL_law_437 : decode cL_law 437 = .ok (.aload_n 2, 1) := by decide +kernel
theorem dL_law_438 : decode cL_law 438 = .ok (.invokevirtual 67, 3) := by decide +kernel
theorem dL_law_441 : decode cL_law 441 = .ok (.if_icmp .eq 71, 3) := by decide +kernel
theorem dL_law_444 : decode cL_law 444 = .ok (.iconst 0, 1) := by decide +kernel
theorem dL_law_445 : decode cL_law 445 = .ok (.ireturn, 1) := by decide +kernel
theorem dL_law_446 : decode cL_law 446 = .ok (.aload_n 1, 1) := by decide +kernel
theorem dL_law_447 : decode cL_law 447 = .ok (.aload_n 0, 1) := by decide +kernel
theorem dL_law_448 : decode cL_law 448 = .ok (.iload_n 3, 1) := by decide +kernel
theorem dL_law_449 : decode cL_law 449 = .ok (.iconst 1, 1) := by decide +kernel
theorem dL_law_450 : decode cL_law 450 = .ok (.iadd, 1) := by decide +kernel
theorem dL_law_451 : decode cL_law 451 = .ok (.iaload, 1) := by decide +kernel
theorem dL_law_452 : decode cL_law 452 = .ok (.aload_n 0, 1) := by decide +kernel
theorem dL_law_453 : decode cL_law 453 = .ok (.iload_n 3, 1) := by decide +kernel
theorem dL_law_454 : decode cL_law 454 = .ok (.iconst 2, 1) := by decide +kernel
theorem dL_law_455 : decode cL_law 455 = .ok (.iadd, 1) := by decide +kernel
theorem dL_law_456 : decode cL_law 456 = .ok (.iaload, 1) := by decide +kernel
theorem dL_law_457 : decode cL_law 457 = .ok (.invokevirtual 68, 3) := by decide +kernel
theorem dL_law_460 : decode cL_law 460 = .ok (.aload_n 2, 1) := by decide +kernel
theorem dL_law_461 : decode cL_law 461 = .ok (.aload_n 0, 1) := by decide +kernel
theorem dL_law_462 : decode cL_law 462 = .ok (.iload_n 3, 1) := by decide +kernel
theorem dL_law_463 : decode cL_law 463 = .ok (.iconst 1, 1) := by decide +kernel
theorem dL_law_464 : decode cL_law 464 = .ok (.iadd, 1) := by decide +kernel
theorem dL_law_465 : decode cL_law 465 = .ok (.iaload, 1) := by decide +kernel
theorem dL_law_466 : decode cL_law 466 = .ok (.aload_n 0, 1) := by decide +kernel
theorem dL_law_467 : decode cL_law 467 = .ok (.iload_n 3, 1) := by decide +kernel
theorem dL_law_468 : decode cL_law 468 = .ok (.iconst 2, 1) := by decide +kernel
theorem dL_law_469 : decode cL_law 469 = .ok (.iadd, 1) := by decide +kernel
theorem dL_law_470 : decode cL_law 470 = .ok (.iaload, 1) := by decide +kernel
theorem dL_law_471 : decode cL_law 471 = .ok (.invokevirtual 71, 3) := by decide +kernel
theorem dL_law_474 : decode cL_law 474 = .ok (.if_icmp .eq 38, 3) := by decide +kernel
theorem dL_law_477 : decode cL_law 477 = .ok (.iconst 0, 1) := by decide +kernel
theorem dL_law_478 : decode cL_law 478 = .ok (.ireturn, 1) := by decide +kernel
theorem dL_law_479 : decode cL_law 479 = .ok (.aload_n 1, 1) := by decide +kernel
theorem dL_law_480 : decode cL_law 480 = .ok (.aload_n 0, 1) := by decide +kernel
theorem dL_law_481 : decode cL_law 481 = .ok (.iload_n 3, 1) := by decide +kernel
theorem dL_law_482 : decode cL_law 482 = .ok (.iconst 1, 1) := by decide +kernel
theorem dL_law_483 : decode cL_law 483 = .ok (.iadd, 1) := by decide +kernel
theorem dL_law_484 : decode cL_law 484 = .ok (.iaload, 1) := by decide +kernel
theorem dL_law_485 : decode cL_law 485 = .ok (.aload_n 0, 1) := by decide +kernel
theorem dL_law_486 : decode cL_law 486 = .ok (.iload_n 3, 1) := by decide +kernel
theorem dL_law_487 : decode cL_law 487 = .ok (.iconst 2, 1) := by decide +kernel
theorem dL_law_488 : decode cL_law 488 = .ok (.iadd, 1) := by decide +kernel
theorem dL_law_489 : decode cL_law 489 = .ok (.iaload, 1) := by decide +kernel
theorem dL_law_490 : decode cL_law 490 = .ok (.invokevirtual 72, 3) := by decide +kernel
theorem dL_law_493 : decode cL_law 493 = .ok (.aload_n 2, 1) := by decide +kernel
theorem dL_law_494 : decode cL_law 494 = .ok (.aload_n 0, 1) := by decide +kernel
theorem dL_law_495 : decode cL_law 495 = .ok (.iload_n 3, 1) := by decide +kernel
theorem dL_law_496 : decode cL_law 496 = .ok (.iconst 1, 1) := by decide +kernel
theorem dL_law_497 : decode cL_law 497 = .ok (.iadd, 1) := by decide +kernel
theorem dL_law_498 : decode cL_law 498 = .ok (.iaload, 1) := by decide +kernel
theorem dL_law_499 : decode cL_law 499 = .ok (.aload_n 0, 1) := by decide +kernel
theorem dL_law_500 : decode cL_law 500 = .ok (.iload_n 3, 1) := by decide +kernel
theorem dL_law_501 : decode cL_law 501 = .ok (.iconst 2, 1) := by decide +kernel
theorem dL_law_502 : decode cL_law 502 = .ok (.iadd, 1) := by decide +kernel
theorem dL_law_503 : decode cL_law 503 = .ok (.iaload, 1) := by decide +kernel
theorem dL_law_504 : decode cL_law 504 = .ok (.invokevirtual 75, 3) := by decide +kernel
theorem dL_law_507 : decode cL_law 507 = .ok (.if_icmp .eq 5, 3) := by decide +kernel
theorem dL_law_510 : decode cL_law 510 = .ok (.iconst 0, 1) := by decide +kernel
theorem dL_law_511 : decode cL_law 511 = .ok (.ireturn, 1) := by decide +kernel
theorem dL_law_512 : decode cL_law 512 = .ok (.iinc 3 5, 3) := by decide +kernel
theorem dL_law_515 : decode cL_law 515 = .ok (.goto (-497), 3) := by decide +kernel
theorem dL_law_518 : decode cL_law 518 = .ok (.iconst 1, 1) := by decide +kernel
theorem dL_law_519 : decode cL_law 519 = .ok (.ireturn, 1) := by decide +kernel
