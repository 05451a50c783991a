theorem dX6_init_0 : decode cX6_init 0 = .ok (.aload_n 0, 1) := by decide +kernel
theorem dX6_init_1 : decode cX6_init 1 = .ok (.invokespecial 3, 3) := by decide +kernel
theorem dX6_init_4 : decode cX6_init 4 = .ok (.aload_n 0, 1) := by decide +kernel
theorem dX6_init_5 : decode cX6_init 5 = .ok (.sipush 512, 3) := by decide +kernel
theorem dX6_init_8 : decode cX6_init 8 = .ok (.newarray .int, 2) := by decide +kernel
theorem dX6_init_10 : decode cX6_init 10 = .ok (.putfield 9, 3) := by decide +kernel
theorem dX6_init_13 : decode cX6_init 13 = .ok (.aload_n 0, 1) := by decide +kernel
theorem dX6_init_14 : decode cX6_init 14 = .ok (.bipush 16, 2) := by decide +kernel
theorem dX6_init_16 : decode cX6_init 16 = .ok (.anewarray 15, 3) := by decide +kernel
theorem dX6_init_19 : decode cX6_init 19 = .ok (.putfield 17, 3) := by decide +kernel
theorem dX6_init_22 : decode cX6_init 22 = .ok (.aload_n 0, 1) := by decide +kernel
theorem dX6_init_23 : decode cX6_init 23 = .ok (.new 21, 3) := by decide +kernel
theorem dX6_init_26 : decode cX6_init 26 = .ok (.dup, 1) := by decide +kernel
theorem dX6_init_27 : decode cX6_init 27 = .ok (.invokespecial 23, 3) := by decide +kernel
theorem dX6_init_30 : decode cX6_init 30 = .ok (.putfield 24, 3) := by decide +kernel
theorem dX6_init_33 : decode cX6_init 33 = .ok (.aload_n 0, 1) := by decide +kernel
theorem dX6_init_34 : decode cX6_init 34 = .ok (.new 28, 3) := by decide +kernel
theorem dX6_init_37 : decode cX6_init 37 = .ok (.dup, 1) := by decide +kernel
theorem dX6_init_38 : decode cX6_init 38 = .ok (.invokespecial 30, 3) := by decide +kernel
theorem dX6_init_41 : decode cX6_init 41 = .ok (.putfield 31, 3) := by decide +kernel
theorem dX6_init_44 : decode cX6_init 44 = .ok (.aload_n 0, 1) := by decide +kernel
theorem dX6_init_45 : decode cX6_init 45 = .ok (.new 28, 3) := by decide +kernel
theorem dX6_init_48 : decode cX6_init 48 = .ok (.dup, 1) := by decide +kernel
theorem dX6_init_49 : decode cX6_init 49 = .ok (.invokespecial 30, 3) := by decide +kernel
theorem dX6_init_52 : decode cX6_init 52 = .ok (.putfield 35, 3) := by decide +kernel
theorem dX6_init_55 : decode cX6_init 55 = .ok (.aload_n 0, 1) := by decide +kernel
theorem dX6_init_56 : decode cX6_init 56 = .ok (.bipush 8, 2) := by decide +kernel
theorem dX6_init_58 : decode cX6_init 58 = .ok (.anewarray 38, 3) := by decide +kernel
theorem dX6_init_61 : decode cX6_init 61 = .ok (.putfield 40, 3) := by decide +kernel
theorem dX6_init_64 : decode cX6_init 64 = .ok (.iconst 0, 1) := by decide +kernel
theorem dX6_init_65 : decode cX6_init 65 = .ok (.istore_n 1, 1) := by decide +kernel
theorem dX6_init_66 : decode cX6_init 66 = .ok (.iload_n 1, 1) := by decide +kernel
theorem dX6_init_67 : decode cX6_init 67 = .ok (.bipush 16, 2) := by decide +kernel
theorem dX6_init_69 : decode cX6_init 69 = .ok (.if_icmp .ge 22, 3) := by decide +kernel
theorem dX6_init_72 : decode cX6_init 72 = .ok (.aload_n 0, 1) := by decide +kernel
theorem dX6_init_73 : decode cX6_init 73 = .ok (.getfield 17, 3) := by decide +kernel
theorem dX6_init_76 : decode cX6_init 76 = .ok (.iload_n 1, 1) := by decide +kernel
theorem dX6_init_77 : decode cX6_init 77 = .ok (.new 15, 3) := by decide +kernel
theorem dX6_init_80 : decode cX6_init 80 = .ok (.dup, 1) := by decide +kernel
theorem dX6_init_81 : decode cX6_init 81 = .ok (.invokespecial 44, 3) := by decide +kernel
theorem dX6_init_84 : decode cX6_init 84 = .ok (.aastore, 1) := by decide +kernel
theorem dX6_init_85 : decode cX6_init 85 = .ok (.iinc 1 1, 3) := by decide +kernel
theorem dX6_init_88 : decode cX6_init 88 = .ok (.goto (-22), 3) := by decide +kernel
theorem dX6_init_91 : decode cX6_init 91 = .ok (.iconst 0, 1) := by decide +kernel
theorem dX6_init_92 : decode cX6_init 92 = .ok (.istore_n 1, 1) := by decide +kernel
theorem dX6_init_93 : decode cX6_init 93 = .ok (.iload_n 1, 1) := by decide +kernel
theorem dX6_init_94 : decode cX6_init 94 = .ok (.bipush 8, 2) := by decide +kernel
theorem dX6_init_96 : decode cX6_init 96 = .ok (.if_icmp .ge 22, 3) := by decide +kernel
theorem dX6_init_99 : decode cX6_init 99 = .ok (.aload_n 0, 1) := by decide +kernel
theorem dX6_init_100 : decode cX6_init 100 = .ok (.getfield 40, 3) := by decide +kernel
theorem dX6_init_103 : decode cX6_init 103 = .ok (.iload_n 1, 1) := by decide +kernel
theorem dX6_init_104 : decode cX6_init 104 = .ok (.new 38, 3) := by decide +kernel
theorem dX6_init_107 : decode cX6_init 107 = .ok (.dup, 1) := by decide +kernel
theorem dX6_init_108 : decode cX6_init 108 = .ok (.invokespecial 45, 3) := by decide +kernel
theorem dX6_init_111 : decode cX6_init 111 = .ok (.aastore, 1) := by decide +kernel
theorem dX6_init_112 : decode cX6_init 112 = .ok (.iinc 1 1, 3) := by decide +kernel
theorem dX6_init_115 : decode cX6_init 115 = .ok (.goto (-22), 3) := by decide +kernel
theorem dX6_init_118 : decode cX6_init 118 = .ok (.return_, 1) := by decide +kernel
theorem dX6_perform_0 : decode cX6_perform 0 = .ok (.aload_n 0, 1) := by decide +kernel
theorem dX6_perform_1 : decode cX6_perform 1 = .ok (.aload_n 1, 1) := by decide +kernel
theorem dX6_perform_2 : decode cX6_perform 2 = .ok (.iload_n 2, 1) := by decide +kernel
theorem dX6_perform_3 : decode cX6_perform 3 = .ok (.invokevirtual 46, 3) := by decide +kernel
theorem dX6_perform_6 : decode cX6_perform 6 = .ok (.iconst 0, 1) := by decide +kernel
theorem dX6_perform_7 : decode cX6_perform 7 = .ok (.istore_n 3, 1) := by decide +kernel
theorem dX6_perform_8 : decode cX6_perform 8 = .ok (.iload_n 3, 1) := by decide +kernel
theorem dX6_perform_9 : decode cX6_perform 9 = .ok (.aload_n 0, 1) := by decide +kernel
theorem dX6_perform_10 : decode cX6_perform 10 = .ok (.getfield 50, 3) := by decide +kernel
theorem dX6_perform_13 : decode cX6_perform 13 = .ok (.if_icmp .gt 69, 3) := by decide +kernel
theorem dX6_perform_16 : decode cX6_perform 16 = .ok (.aload_n 0, 1) := by decide +kernel
theorem dX6_perform_17 : decode cX6_perform 17 = .ok (.getfield 54, 3) := by decide +kernel
theorem dX6_perform_20 : decode cX6_perform 20 = .ok (.iconst 1, 1) := by decide +kernel
theorem dX6_perform_21 : decode cX6_perform 21 = .ok (.if_icmp .ne 61, 3) := by decide +kernel
theorem dX6_perform_24 : decode cX6_perform 24 = .ok (.aload_n 0, 1) := by decide +kernel
theorem dX6_perform_25 : decode cX6_perform 25 = .ok (.getfield 24, 3) := by decide +kernel
theorem dX6_perform_28 : decode cX6_perform 28 = .ok (.getfield 57, 3) := by decide +kernel
theorem dX6_perform_31 : decode cX6_perform 31 = .ok (.getfield 61, 3) := by decide +kernel
theorem dX6_perform_34 : decode cX6_perform 34 = .ok (.ifCond .eq 48, 3) := by decide +kernel
theorem dX6_perform_37 : decode cX6_perform 37 = .ok (.aload_n 0, 1) := by decide +kernel
theorem dX6_perform_38 : decode cX6_perform 38 = .ok (.getfield 67, 3) := by decide +kernel
theorem dX6_perform_41 : decode cX6_perform 41 = .ok (.aload_n 0, 1) := by decide +kernel
theorem dX6_perform_42 : decode cX6_perform 42 = .ok (.getfield 50, 3) := by decide +kernel
theorem dX6_perform_45 : decode cX6_perform 45 = .ok (.if_icmp .lt 12, 3) := by decide +kernel
theorem dX6_perform_48 : decode cX6_perform 48 = .ok (.aload_n 0, 1) := by decide +kernel
theorem dX6_perform_49 : decode cX6_perform 49 = .ok (.bipush 10, 2) := by decide +kernel
theorem dX6_perform_51 : decode cX6_perform 51 = .ok (.putfield 54, 3) := by decide +kernel
theorem dX6_perform_54 : decode cX6_perform 54 = .ok (.goto 22, 3) := by decide +kernel
theorem dX6_perform_57 : decode cX6_perform 57 = .ok (.aload_n 0, 1) := by decide +kernel
theorem dX6_perform_58 : decode cX6_perform 58 = .ok (.invokevirtual 70, 3) := by decide +kernel
theorem dX6_perform_61 : decode cX6_perform 61 = .ok (.istore 4, 2) := by decide +kernel
theorem dX6_perform_63 : decode cX6_perform 63 = .ok (.iload 4, 2) := by decide +kernel
theorem dX6_perform_65 : decode cX6_perform 65 = .ok (.ldc 74, 2) := by decide +kernel
theorem dX6_perform_67 : decode cX6_perform 67 = .ok (.if_icmp .eq 9, 3) := by decide +kernel
theorem dX6_perform_70 : decode cX6_perform 70 = .ok (.aload_n 0, 1) := by decide +kernel
theorem dX6_perform_71 : decode cX6_perform 71 = .ok (.iload 4, 2) := by decide +kernel
theorem dX6_perform_73 : decode cX6_perform 73 = .ok (.invokevirtual 75, 3) := by decide +kernel
theorem dX6_perform_76 : decode cX6_perform 76 = .ok (.iinc 3 1, 3) := by decide +kernel
theorem dX6_perform_79 : decode cX6_perform 79 = .ok (.goto (-71), 3) := by decide +kernel
theorem dX6_perform_82 : decode cX6_perform 82 = .ok (.aload_n 0, 1) := by decide +kernel
theorem dX6_perform_83 : decode cX6_perform 83 = .ok (.getfield 24, 3) := by decide +kernel
theorem dX6_perform_86 : decode cX6_perform 86 = .ok (.getfield 57, 3) := by decide +kernel
theorem dX6_perform_89 : decode cX6_perform 89 = .ok (.getfield 61, 3) := by decide +kernel
theorem dX6_perform_92 : decode cX6_perform 92 = .ok (.ifCond .eq 14, 3) := by decide +kernel
theorem dX6_perform_95 : decode cX6_perform 95 = .ok (.aload_n 0, 1) := by decide +kernel
theorem dX6_perform_96 : decode cX6_perform 96 = .ok (.getfield 24, 3) := by decide +kernel
theorem dX6_perform_99 : decode cX6_perform 99 = .ok (.invokevirtual 79, 3) := by decide +kernel
theorem dX6_perform_102 : decode cX6_perform 102 = .ok (.pop, 1) := by decide +kernel
theorem dX6_perform_103 : decode cX6_perform 103 = .ok (.goto 17, 3) := by decide +kernel
theorem dX6_perform_106 : decode cX6_perform 106 = .ok (.aload_n 0, 1) := by decide +kernel
theorem dX6_perform_107 : decode cX6_perform 107 = .ok (.bipush (-2), 2) := by decide +kernel
theorem dX6_perform_109 : decode cX6_perform 109 = .ok (.putfield 54, 3) := by decide +kernel
theorem dX6_perform_112 : decode cX6_perform 112 = .ok (.aload_n 0, 1) := by decide +kernel
theorem dX6_perform_113 : decode cX6_perform 113 = .ok (.getfield 35, 3) := by decide +kernel
theorem dX6_perform_116 : decode cX6_perform 116 = .ok (.iconst 0, 1) := by decide +kernel
theorem dX6_perform_117 : decode cX6_perform 117 = .ok (.putfield 83, 3) := by decide +kernel
theorem dX6_perform_120 : decode cX6_perform 120 = .ok (.aload_n 0, 1) := by decide +kernel
theorem dX6_perform_121 : decode cX6_perform 121 = .ok (.getfield 31, 3) := by decide +kernel
theorem dX6_perform_124 : decode cX6_perform 124 = .ok (.iconst 0, 1) := by decide +kernel
theorem dX6_perform_125 : decode cX6_perform 125 = .ok (.putfield 83, 3) := by decide +kernel
theorem dX6_perform_128 : decode cX6_perform 128 = .ok (.aload_n 0, 1) := by decide +kernel
theorem dX6_perform_129 : decode cX6_perform 129 = .ok (.getfield 54, 3) := by decide +kernel
theorem dX6_perform_132 : decode cX6_perform 132 = .ok (.ireturn, 1) := by decide +kernel
theorem dX6_begin_0 : decode cX6_begin 0 = .ok (.aload_n 0, 1) := by decide +kernel
theorem dX6_begin_1 : decode cX6_begin 1 = .ok (.iload_n 2, 1) := by decide +kernel
theorem dX6_begin_2 : decode cX6_begin 2 = .ok (.putfield 50, 3) := by decide +kernel
theorem dX6_begin_5 : decode cX6_begin 5 = .ok (.aload_n 0, 1) := by decide +kernel
theorem dX6_begin_6 : decode cX6_begin 6 = .ok (.iconst 0, 1) := by decide +kernel
theorem dX6_begin_7 : decode cX6_begin 7 = .ok (.putfield 67, 3) := by decide +kernel
theorem dX6_begin_10 : decode cX6_begin 10 = .ok (.aload_n 0, 1) := by decide +kernel
theorem dX6_begin_11 : decode cX6_begin 11 = .ok (.iconst 1, 1) := by decide +kernel
theorem dX6_begin_12 : decode cX6_begin 12 = .ok (.putfield 54, 3) := by decide +kernel
theorem dX6_begin_15 : decode cX6_begin 15 = .ok (.aload_n 0, 1) := by decide +kernel
theorem dX6_begin_16 : decode cX6_begin 16 = .ok (.iconst 0, 1) := by decide +kernel
theorem dX6_begin_17 : decode cX6_begin 17 = .ok (.putfield 86, 3) := by decide +kernel
theorem dX6_begin_20 : decode cX6_begin 20 = .ok (.aload_n 0, 1) := by decide +kernel
theorem dX6_begin_21 : decode cX6_begin 21 = .ok (.iconst 0, 1) := by decide +kernel
theorem dX6_begin_22 : decode cX6_begin 22 = .ok (.putfield 89, 3) := by decide +kernel
theorem dX6_begin_25 : decode cX6_begin 25 = .ok (.aload_n 0, 1) := by decide +kernel
theorem dX6_begin_26 : decode cX6_begin 26 = .ok (.getfield 35, 3) := by decide +kernel
theorem dX6_begin_29 : decode cX6_begin 29 = .ok (.iconst 0, 1) := by decide +kernel
theorem dX6_begin_30 : decode cX6_begin 30 = .ok (.putfield 83, 3) := by decide +kernel
theorem dX6_begin_33 : decode cX6_begin 33 = .ok (.aload_n 0, 1) := by decide +kernel
theorem dX6_begin_34 : decode cX6_begin 34 = .ok (.iconst 0, 1) := by decide +kernel
theorem dX6_begin_35 : decode cX6_begin 35 = .ok (.putfield 92, 3) := by decide +kernel
theorem dX6_begin_38 : decode cX6_begin 38 = .ok (.aload_n 0, 1) := by decide +kernel
theorem dX6_begin_39 : decode cX6_begin 39 = .ok (.aload_n 1, 1) := by decide +kernel
theorem dX6_begin_40 : decode cX6_begin 40 = .ok (.invokevirtual 95, 3) := by decide +kernel
theorem dX6_begin_43 : decode cX6_begin 43 = .ok (.return_, 1) := by decide +kernel
theorem dX6_step_0 : decode cX6_step 0 = .ok (.aload_n 0, 1) := by decide +kernel
theorem dX6_step_1 : decode cX6_step 1 = .ok (.dup, 1) := by decide +kernel
theorem dX6_step_2 : decode cX6_step 2 = .ok (.getfield 67, 3) := by decide +kernel
theorem dX6_step_5 : decode cX6_step 5 = .ok (.iconst 1, 1) := by decide +kernel
theorem dX6_step_6 : decode cX6_step 6 = .ok (.iadd, 1) := by decide +kernel
theorem dX6_step_7 : decode cX6_step 7 = .ok (.putfield 67, 3) := by decide +kernel
theorem dX6_step_10 : decode cX6_step 10 = .ok (.aload_n 0, 1) := by decide +kernel
theorem dX6_step_11 : decode cX6_step 11 = .ok (.aload_n 0, 1) := by decide +kernel
theorem dX6_step_12 : decode cX6_step 12 = .ok (.getfield 99, 3) := by decide +kernel
theorem dX6_step_15 : decode cX6_step 15 = .ok (.getfield 103, 3) := by decide +kernel
theorem dX6_step_18 : decode cX6_step 18 = .ok (.putfield 106, 3) := by decide +kernel
theorem dX6_step_21 : decode cX6_step 21 = .ok (.aload_n 0, 1) := by decide +kernel
theorem dX6_step_22 : decode cX6_step 22 = .ok (.invokevirtual 109, 3) := by decide +kernel
theorem dX6_step_25 : decode cX6_step 25 = .ok (.istore_n 1, 1) := by decide +kernel
theorem dX6_step_26 : decode cX6_step 26 = .ok (.iload_n 1, 1) := by decide +kernel
theorem dX6_step_27 : decode cX6_step 27 = .ok (.ldc 74, 2) := by decide +kernel
theorem dX6_step_29 : decode cX6_step 29 = .ok (.if_icmp .eq 5, 3) := by decide +kernel
theorem dX6_step_32 : decode cX6_step 32 = .ok (.iload_n 1, 1) := by decide +kernel
theorem dX6_step_33 : decode cX6_step 33 = .ok (.ireturn, 1) := by decide +kernel
theorem dX6_step_34 : decode cX6_step 34 = .ok (.getstatic 112, 3) := by decide +kernel
theorem dX6_step_37 : decode cX6_step 37 = .ok (.aload_n 0, 1) := by decide +kernel
theorem dX6_step_38 : decode cX6_step 38 = .ok (.getfield 9, 3) := by decide +kernel
theorem dX6_step_41 : decode cX6_step 41 = .ok (.aload_n 0, 1) := by decide +kernel
theorem dX6_step_42 : decode cX6_step 42 = .ok (.getfield 106, 3) := by decide +kernel
theorem dX6_step_45 : decode cX6_step 45 = .ok (.iaload, 1) := by decide +kernel
theorem dX6_step_46 : decode cX6_step 46 = .ok (.aaload, 1) := by decide +kernel
theorem dX6_step_47 : decode cX6_step 47 = .ok (.astore_n 2, 1) := by decide +kernel
theorem dX6_step_48 : decode cX6_step 48 = .ok (.aload_n 0, 1) := by decide +kernel
theorem dX6_step_49 : decode cX6_step 49 = .ok (.getfield 99, 3) := by decide +kernel
theorem dX6_step_52 : decode cX6_step 52 = .ok (.aload_n 0, 1) := by decide +kernel
theorem dX6_step_53 : decode cX6_step 53 = .ok (.getfield 106, 3) := by decide +kernel
theorem dX6_step_56 : decode cX6_step 56 = .ok (.aload_n 2, 1) := by decide +kernel
theorem dX6_step_57 : decode cX6_step 57 = .ok (.getfield 116, 3) := by decide +kernel
theorem dX6_step_60 : decode cX6_step 60 = .ok (.iadd, 1) := by decide +kernel
theorem dX6_step_61 : decode cX6_step 61 = .ok (.putfield 103, 3) := by decide +kernel
theorem dX6_step_64 : decode cX6_step 64 = .ok (.aload_n 2, 1) := by decide +kernel
theorem dX6_step_65 : decode cX6_step 65 = .ok (.getfield 119, 3) := by decide +kernel
theorem dX6_step_68 : decode cX6_step 68 = .ok (.tableswitch 86 0 6 #[44, 50, 56, 62, 68, 74, 80], 44) := by decide +kernel
theorem dX6_step_112 : decode cX6_step 112 = .ok (.aload_n 0, 1) := by decide +kernel
theorem dX6_step_113 : decode cX6_step 113 = .ok (.aload_n 2, 1) := by decide +kernel
theorem dX6_step_114 : decode cX6_step 114 = .ok (.invokevirtual 122, 3) := by decide +kernel
theorem dX6_step_117 : decode cX6_step 117 = .ok (.ireturn, 1) := by decide +kernel
theorem dX6_step_118 : decode cX6_step 118 = .ok (.aload_n 0, 1) := by decide +kernel
theorem dX6_step_119 : decode cX6_step 119 = .ok (.aload_n 2, 1) := by decide +kernel
theorem dX6_step_120 : decode cX6_step 120 = .ok (.invokevirtual 126, 3) := by decide +kernel
theorem dX6_step_123 : decode cX6_step 123 = .ok (.ireturn, 1) := by decide +kernel
theorem dX6_step_124 : decode cX6_step 124 = .ok (.aload_n 0, 1) := by decide +kernel
theorem dX6_step_125 : decode cX6_step 125 = .ok (.aload_n 2, 1) := by decide +kernel
theorem dX6_step_126 : decode cX6_step 126 = .ok (.invokevirtual 129, 3) := by decide +kernel
theorem dX6_step_129 : decode cX6_step 129 = .ok (.ireturn, 1) := by decide +kernel
theorem dX6_step_130 : decode cX6_step 130 = .ok (.aload_n 0, 1) := by decide +kernel
theorem dX6_step_131 : decode cX6_step 131 = .ok (.aload_n 2, 1) := by decide +kernel
theorem dX6_step_132 : decode cX6_step 132 = .ok (.invokevirtual 132, 3) := by decide +kernel
theorem dX6_step_135 : decode cX6_step 135 = .ok (.ireturn, 1) := by decide +kernel
theorem dX6_step_136 : decode cX6_step 136 = .ok (.aload_n 0, 1) := by decide +kernel
theorem dX6_step_137 : decode cX6_step 137 = .ok (.aload_n 2, 1) := by decide +kernel
theorem dX6_step_138 : decode cX6_step 138 = .ok (.invokevirtual 135, 3) := by decide +kernel
theorem dX6_step_141 : decode cX6_step 141 = .ok (.ireturn, 1) := by decide +kernel
theorem dX6_step_142 : decode cX6_step 142 = .ok (.aload_n 0, 1) := by decide +kernel
theorem dX6_step_143 : decode cX6_step 143 = .ok (.aload_n 2, 1) := by decide +kernel
theorem dX6_step_144 : decode cX6_step 144 = .ok (.invokevirtual 138, 3) := by decide +kernel
theorem dX6_step_147 : decode cX6_step 147 = .ok (.ireturn, 1) := by decide +kernel
theorem dX6_step_148 : decode cX6_step 148 = .ok (.aload_n 0, 1) := by decide +kernel
theorem dX6_step_149 : decode cX6_step 149 = .ok (.aload_n 2, 1) := by decide +kernel
theorem dX6_step_150 : decode cX6_step 150 = .ok (.invokevirtual 141, 3) := by decide +kernel
theorem dX6_step_153 : decode cX6_step 153 = .ok (.ireturn, 1) := by decide +kernel
theorem dX6_step_154 : decode cX6_step 154 = .ok (.aload_n 0, 1) := by decide +kernel
theorem dX6_step_155 : decode cX6_step 155 = .ok (.aload_n 2, 1) := by decide +kernel
theorem dX6_step_156 : decode cX6_step 156 = .ok (.invokevirtual 144, 3) := by decide +kernel
theorem dX6_step_159 : decode cX6_step 159 = .ok (.ireturn, 1) := by decide +kernel
theorem dX6_fetchFault_0 : decode cX6_fetchFault 0 = .ok (.aload_n 0, 1) := by decide +kernel
theorem dX6_fetchFault_1 : decode cX6_fetchFault 1 = .ok (.getfield 106, 3) := by decide +kernel
theorem dX6_fetchFault_4 : decode cX6_fetchFault 4 = .ok (.ifCond .lt 29, 3) := by decide +kernel
theorem dX6_fetchFault_7 : decode cX6_fetchFault 7 = .ok (.aload_n 0, 1) := by decide +kernel
theorem dX6_fetchFault_8 : decode cX6_fetchFault 8 = .ok (.getfield 106, 3) := by decide +kernel
theorem dX6_fetchFault_11 : decode cX6_fetchFault 11 = .ok (.sipush 512, 3) := by decide +kernel
theorem dX6_fetchFault_14 : decode cX6_fetchFault 14 = .ok (.if_icmp .ge 19, 3) := by decide +kernel
theorem dX6_fetchFault_17 : decode cX6_fetchFault 17 = .ok (.aload_n 0, 1) := by decide +kernel
theorem dX6_fetchFault_18 : decode cX6_fetchFault 18 = .ok (.getfield 9, 3) := by decide +kernel
theorem dX6_fetchFault_21 : decode cX6_fetchFault 21 = .ok (.aload_n 0, 1) := by decide +kernel
theorem dX6_fetchFault_22 : decode cX6_fetchFault 22 = .ok (.getfield 106, 3) := by decide +kernel
theorem dX6_fetchFault_25 : decode cX6_fetchFault 25 = .ok (.iaload, 1) := by decide +kernel
theorem dX6_fetchFault_26 : decode cX6_fetchFault 26 = .ok (.getstatic 112, 3) := by decide +kernel
theorem dX6_fetchFault_29 : decode cX6_fetchFault 29 = .ok (.arraylength, 1) := by decide +kernel
theorem dX6_fetchFault_30 : decode cX6_fetchFault 30 = .ok (.if_icmp .lt 6, 3) := by decide +kernel
theorem dX6_fetchFault_33 : decode cX6_fetchFault 33 = .ok (.bipush 7, 2) := by decide +kernel
theorem dX6_fetchFault_35 : decode cX6_fetchFault 35 = .ok (.ireturn, 1) := by decide +kernel
theorem dX6_fetchFault_36 : decode cX6_fetchFault 36 = .ok (.getstatic 112, 3) := by decide +kernel
theorem dX6_fetchFault_39 : decode cX6_fetchFault 39 = .ok (.aload_n 0, 1) := by decide +kernel
theorem dX6_fetchFault_40 : decode cX6_fetchFault 40 = .ok (.getfield 9, 3) := by decide +kernel
theorem dX6_fetchFault_43 : decode cX6_fetchFault 43 = .ok (.aload_n 0, 1) := by decide +kernel
theorem dX6_fetchFault_44 : decode cX6_fetchFault 44 = .ok (.getfield 106, 3) := by decide +kernel
theorem dX6_fetchFault_47 : decode cX6_fetchFault 47 = .ok (.iaload, 1) := by decide +kernel
theorem dX6_fetchFault_48 : decode cX6_fetchFault 48 = .ok (.aaload, 1) := by decide +kernel
theorem dX6_fetchFault_49 : decode cX6_fetchFault 49 = .ok (.astore_n 1, 1) := by decide +kernel
theorem dX6_fetchFault_50 : decode cX6_fetchFault 50 = .ok (.aload_n 0, 1) := by decide +kernel
theorem dX6_fetchFault_51 : decode cX6_fetchFault 51 = .ok (.getfield 106, 3) := by decide +kernel
theorem dX6_fetchFault_54 : decode cX6_fetchFault 54 = .ok (.aload_n 1, 1) := by decide +kernel
theorem dX6_fetchFault_55 : decode cX6_fetchFault 55 = .ok (.getfield 116, 3) := by decide +kernel
theorem dX6_fetchFault_58 : decode cX6_fetchFault 58 = .ok (.iadd, 1) := by decide +kernel
theorem dX6_fetchFault_59 : decode cX6_fetchFault 59 = .ok (.sipush 512, 3) := by decide +kernel
theorem dX6_fetchFault_62 : decode cX6_fetchFault 62 = .ok (.if_icmp .le 6, 3) := by decide +kernel
theorem dX6_fetchFault_65 : decode cX6_fetchFault 65 = .ok (.bipush 7, 2) := by decide +kernel
theorem dX6_fetchFault_67 : decode cX6_fetchFault 67 = .ok (.ireturn, 1) := by decide +kernel
theorem dX6_fetchFault_68 : decode cX6_fetchFault 68 = .ok (.aload_n 0, 1) := by decide +kernel
theorem dX6_fetchFault_69 : decode cX6_fetchFault 69 = .ok (.getfield 99, 3) := by decide +kernel
theorem dX6_fetchFault_72 : decode cX6_fetchFault 72 = .ok (.getfield 147, 3) := by decide +kernel
theorem dX6_fetchFault_75 : decode cX6_fetchFault 75 = .ok (.aload_n 1, 1) := by decide +kernel
theorem dX6_fetchFault_76 : decode cX6_fetchFault 76 = .ok (.getfield 150, 3) := by decide +kernel
theorem dX6_fetchFault_79 : decode cX6_fetchFault 79 = .ok (.if_icmp .ge 6, 3) := by decide +kernel
theorem dX6_fetchFault_82 : decode cX6_fetchFault 82 = .ok (.bipush 6, 2) := by decide +kernel
theorem dX6_fetchFault_84 : decode cX6_fetchFault 84 = .ok (.ireturn, 1) := by decide +kernel
theorem dX6_fetchFault_85 : decode cX6_fetchFault 85 = .ok (.aload_n 1, 1) := by decide +kernel
theorem dX6_fetchFault_86 : decode cX6_fetchFault 86 = .ok (.getstatic 153, 3) := by decide +kernel
theorem dX6_fetchFault_89 : decode cX6_fetchFault 89 = .ok (.if_acmp .eq 10, 3) := by decide +kernel
theorem dX6_fetchFault_92 : decode cX6_fetchFault 92 = .ok (.aload_n 1, 1) := by decide +kernel
theorem dX6_fetchFault_93 : decode cX6_fetchFault 93 = .ok (.getstatic 157, 3) := by decide +kernel
theorem dX6_fetchFault_96 : decode cX6_fetchFault 96 = .ok (.if_acmp .ne 6, 3) := by decide +kernel
theorem dX6_fetchFault_99 : decode cX6_fetchFault 99 = .ok (.ldc 74, 2) := by decide +kernel
theorem dX6_fetchFault_101 : decode cX6_fetchFault 101 = .ok (.ireturn, 1) := by decide +kernel
theorem dX6_fetchFault_102 : decode cX6_fetchFault 102 = .ok (.aload_n 0, 1) := by decide +kernel
theorem dX6_fetchFault_103 : decode cX6_fetchFault 103 = .ok (.getfield 99, 3) := by decide +kernel
theorem dX6_fetchFault_106 : decode cX6_fetchFault 106 = .ok (.aload_n 1, 1) := by decide +kernel
theorem dX6_fetchFault_107 : decode cX6_fetchFault 107 = .ok (.getfield 160, 3) := by decide +kernel
theorem dX6_fetchFault_110 : decode cX6_fetchFault 110 = .ok (.aload_n 1, 1) := by decide +kernel
theorem dX6_fetchFault_111 : decode cX6_fetchFault 111 = .ok (.getfield 150, 3) := by decide +kernel
theorem dX6_fetchFault_114 : decode cX6_fetchFault 114 = .ok (.isub, 1) := by decide +kernel
theorem dX6_fetchFault_115 : decode cX6_fetchFault 115 = .ok (.invokevirtual 163, 3) := by decide +kernel
theorem dX6_fetchFault_118 : decode cX6_fetchFault 118 = .ok (.ifCond .eq 8, 3) := by decide +kernel
theorem dX6_fetchFault_121 : decode cX6_fetchFault 121 = .ok (.ldc 74, 2) := by decide +kernel
theorem dX6_fetchFault_123 : decode cX6_fetchFault 123 = .ok (.goto 5, 3) := by decide +kernel
theorem dX6_fetchFault_126 : decode cX6_fetchFault 126 = .ok (.bipush 6, 2) := by decide +kernel
theorem dX6_fetchFault_128 : decode cX6_fetchFault 128 = .ok (.ireturn, 1) := by decide +kernel
theorem dX6_raise_0 : decode cX6_raise 0 = .ok (.aload_n 0, 1) := by decide +kernel
theorem dX6_raise_1 : decode cX6_raise 1 = .ok (.getfield 92, 3) := by decide +kernel
theorem dX6_raise_4 : decode cX6_raise 4 = .ok (.istore_n 2, 1) := by decide +kernel
theorem dX6_raise_5 : decode cX6_raise 5 = .ok (.iload_n 2, 1) := by decide +kernel
theorem dX6_raise_6 : decode cX6_raise 6 = .ok (.ifCond .le 35, 3) := by decide +kernel
theorem dX6_raise_9 : decode cX6_raise 9 = .ok (.aload_n 0, 1) := by decide +kernel
theorem dX6_raise_10 : decode cX6_raise 10 = .ok (.getfield 99, 3) := by decide +kernel
theorem dX6_raise_13 : decode cX6_raise 13 = .ok (.getfield 167, 3) := by decide +kernel
theorem dX6_raise_16 : decode cX6_raise 16 = .ok (.sipush (-1024), 3) := by decide +kernel
theorem dX6_raise_19 : decode cX6_raise 19 = .ok (.if_icmp .eq 12, 3) := by decide +kernel
theorem dX6_raise_22 : decode cX6_raise 22 = .ok (.aload_n 0, 1) := by decide +kernel
theorem dX6_raise_23 : decode cX6_raise 23 = .ok (.getfield 99, 3) := by decide +kernel
theorem dX6_raise_26 : decode cX6_raise 26 = .ok (.iload_n 1, 1) := by decide +kernel
theorem dX6_raise_27 : decode cX6_raise 27 = .ok (.invokevirtual 170, 3) := by decide +kernel
theorem dX6_raise_30 : decode cX6_raise 30 = .ok (.return_, 1) := by decide +kernel
theorem dX6_raise_31 : decode cX6_raise 31 = .ok (.aload_n 0, 1) := by decide +kernel
theorem dX6_raise_32 : decode cX6_raise 32 = .ok (.invokevirtual 173, 3) := by decide +kernel
theorem dX6_raise_35 : decode cX6_raise 35 = .ok (.iinc 2 (-1), 3) := by decide +kernel
theorem dX6_raise_38 : decode cX6_raise 38 = .ok (.goto (-33), 3) := by decide +kernel
theorem dX6_raise_41 : decode cX6_raise 41 = .ok (.aload_n 0, 1) := by decide +kernel
theorem dX6_raise_42 : decode cX6_raise 42 = .ok (.bipush 20, 2) := by decide +kernel
theorem dX6_raise_44 : decode cX6_raise 44 = .ok (.putfield 54, 3) := by decide +kernel
theorem dX6_raise_47 : decode cX6_raise 47 = .ok (.aload_n 0, 1) := by decide +kernel
theorem dX6_raise_48 : decode cX6_raise 48 = .ok (.iload_n 1, 1) := by decide +kernel
theorem dX6_raise_49 : decode cX6_raise 49 = .ok (.putfield 86, 3) := by decide +kernel
theorem dX6_raise_52 : decode cX6_raise 52 = .ok (.return_, 1) := by decide +kernel
theorem dX6_enter_0 : decode cX6_enter 0 = .ok (.aload_n 0, 1) := by decide +kernel
theorem dX6_enter_1 : decode cX6_enter 1 = .ok (.aload_n 0, 1) := by decide +kernel
theorem dX6_enter_2 : decode cX6_enter 2 = .ok (.getfield 40, 3) := by decide +kernel
theorem dX6_enter_5 : decode cX6_enter 5 = .ok (.aload_n 0, 1) := by decide +kernel
theorem dX6_enter_6 : decode cX6_enter 6 = .ok (.getfield 92, 3) := by decide +kernel
theorem dX6_enter_9 : decode cX6_enter 9 = .ok (.aaload, 1) := by decide +kernel
theorem dX6_enter_10 : decode cX6_enter 10 = .ok (.putfield 99, 3) := by decide +kernel
theorem dX6_enter_13 : decode cX6_enter 13 = .ok (.aload_n 0, 1) := by decide +kernel
theorem dX6_enter_14 : decode cX6_enter 14 = .ok (.dup, 1) := by decide +kernel
theorem dX6_enter_15 : decode cX6_enter 15 = .ok (.getfield 92, 3) := by decide +kernel
theorem dX6_enter_18 : decode cX6_enter 18 = .ok (.iconst 1, 1) := by decide +kernel
theorem dX6_enter_19 : decode cX6_enter 19 = .ok (.iadd, 1) := by decide +kernel
theorem dX6_enter_20 : decode cX6_enter 20 = .ok (.putfield 92, 3) := by decide +kernel
theorem dX6_enter_23 : decode cX6_enter 23 = .ok (.aload_n 0, 1) := by decide +kernel
theorem dX6_enter_24 : decode cX6_enter 24 = .ok (.getfield 99, 3) := by decide +kernel
theorem dX6_enter_27 : decode cX6_enter 27 = .ok (.aload_n 1, 1) := by decide +kernel
theorem dX6_enter_28 : decode cX6_enter 28 = .ok (.invokevirtual 176, 3) := by decide +kernel
theorem dX6_enter_31 : decode cX6_enter 31 = .ok (.return_, 1) := by decide +kernel
theorem dX6_leave_0 : decode cX6_leave 0 = .ok (.aload_n 0, 1) := by decide +kernel
theorem dX6_leave_1 : decode cX6_leave 1 = .ok (.dup, 1) := by decide +kernel
theorem dX6_leave_2 : decode cX6_leave 2 = .ok (.getfield 92, 3) := by decide +kernel
theorem dX6_leave_5 : decode cX6_leave 5 = .ok (.iconst 1, 1) := by decide +kernel
theorem dX6_leave_6 : decode cX6_leave 6 = .ok (.isub, 1) := by decide +kernel
theorem dX6_leave_7 : decode cX6_leave 7 = .ok (.putfield 92, 3) := by decide +kernel
theorem dX6_leave_10 : decode cX6_leave 10 = .ok (.aload_n 0, 1) := by decide +kernel
theorem dX6_leave_11 : decode cX6_leave 11 = .ok (.getfield 92, 3) := by decide +kernel
theorem dX6_leave_14 : decode cX6_leave 14 = .ok (.ifCond .le 18, 3) := by decide +kernel
theorem dX6_leave_17 : decode cX6_leave 17 = .ok (.aload_n 0, 1) := by decide +kernel
theorem dX6_leave_18 : decode cX6_leave 18 = .ok (.aload_n 0, 1) := by decide +kernel
theorem dX6_leave_19 : decode cX6_leave 19 = .ok (.getfield 40, 3) := by decide +kernel
theorem dX6_leave_22 : decode cX6_leave 22 = .ok (.aload_n 0, 1) := by decide +kernel
theorem dX6_leave_23 : decode cX6_leave 23 = .ok (.getfield 92, 3) := by decide +kernel
theorem dX6_leave_26 : decode cX6_leave 26 = .ok (.iconst 1, 1) := by decide +kernel
theorem dX6_leave_27 : decode cX6_leave 27 = .ok (.isub, 1) := by decide +kernel
theorem dX6_leave_28 : decode cX6_leave 28 = .ok (.aaload, 1) := by decide +kernel
theorem dX6_leave_29 : decode cX6_leave 29 = .ok (.putfield 99, 3) := by decide +kernel
theorem dX6_leave_32 : decode cX6_leave 32 = .ok (.return_, 1) := by decide +kernel
theorem dX6_unsigned_0 : decode cX6_unsigned 0 = .ok (.aload_n 0, 1) := by decide +kernel
theorem dX6_unsigned_1 : decode cX6_unsigned 1 = .ok (.getfield 9, 3) := by decide +kernel
theorem dX6_unsigned_4 : decode cX6_unsigned 4 = .ok (.aload_n 0, 1) := by decide +kernel
theorem dX6_unsigned_5 : decode cX6_unsigned 5 = .ok (.getfield 106, 3) := by decide +kernel
theorem dX6_unsigned_8 : decode cX6_unsigned 8 = .ok (.iload_n 1, 1) := by decide +kernel
theorem dX6_unsigned_9 : decode cX6_unsigned 9 = .ok (.iadd, 1) := by decide +kernel
theorem dX6_unsigned_10 : decode cX6_unsigned 10 = .ok (.iaload, 1) := by decide +kernel
theorem dX6_unsigned_11 : decode cX6_unsigned 11 = .ok (.ireturn, 1) := by decide +kernel
theorem dX6_signed_0 : decode cX6_signed 0 = .ok (.aload_n 0, 1) := by decide +kernel
theorem dX6_signed_1 : decode cX6_signed 1 = .ok (.getfield 9, 3) := by decide +kernel
theorem dX6_signed_4 : decode cX6_signed 4 = .ok (.aload_n 0, 1) := by decide +kernel
theorem dX6_signed_5 : decode cX6_signed 5 = .ok (.getfield 106, 3) := by decide +kernel
theorem dX6_signed_8 : decode cX6_signed 8 = .ok (.iload_n 1, 1) := by decide +kernel
theorem dX6_signed_9 : decode cX6_signed 9 = .ok (.iadd, 1) := by decide +kernel
theorem dX6_signed_10 : decode cX6_signed 10 = .ok (.iaload, 1) := by decide +kernel
theorem dX6_signed_11 : decode cX6_signed 11 = .ok (.i2b, 1) := by decide +kernel
theorem dX6_signed_12 : decode cX6_signed 12 = .ok (.ireturn, 1) := by decide +kernel
theorem dX6_put_0 : decode cX6_put 0 = .ok (.aload_n 0, 1) := by decide +kernel
theorem dX6_put_1 : decode cX6_put 1 = .ok (.getfield 99, 3) := by decide +kernel
theorem dX6_put_4 : decode cX6_put 4 = .ok (.iload_n 1, 1) := by decide +kernel
theorem dX6_put_5 : decode cX6_put 5 = .ok (.invokevirtual 178, 3) := by decide +kernel
theorem dX6_put_8 : decode cX6_put 8 = .ok (.ldc 74, 2) := by decide +kernel
theorem dX6_put_10 : decode cX6_put 10 = .ok (.ireturn, 1) := by decide +kernel
theorem dX6_move_0 : decode cX6_move 0 = .ok (.getstatic 181, 3) := by decide +kernel
theorem dX6_move_3 : decode cX6_move 3 = .ok (.aload_n 1, 1) := by decide +kernel
theorem dX6_move_4 : decode cX6_move 4 = .ok (.invokevirtual 186, 3) := by decide +kernel
theorem dX6_move_7 : decode cX6_move 7 = .ok (.iaload, 1) := by decide +kernel
theorem dX6_move_8 : decode cX6_move 8 = .ok (.tableswitch 175 1 8 #[48, 58, 77, 98, 124, 147, 159, 170], 48) := by decide +kernel
theorem dX6_move_56 : decode cX6_move 56 = .ok (.aload_n 0, 1) := by decide +kernel
theorem dX6_move_57 : decode cX6_move 57 = .ok (.aload_n 0, 1) := by decide +kernel
theorem dX6_move_58 : decode cX6_move 58 = .ok (.iconst 1, 1) := by decide +kernel
theorem dX6_move_59 : decode cX6_move 59 = .ok (.invokevirtual 189, 3) := by decide +kernel
theorem dX6_move_62 : decode cX6_move 62 = .ok (.invokevirtual 193, 3) := by decide +kernel
theorem dX6_move_65 : decode cX6_move 65 = .ok (.ireturn, 1) := by decide +kernel
theorem dX6_move_66 : decode cX6_move 66 = .ok (.aload_n 0, 1) := by decide +kernel
theorem dX6_move_67 : decode cX6_move 67 = .ok (.aload_n 0, 1) := by decide +kernel
theorem dX6_move_68 : decode cX6_move 68 = .ok (.iconst 1, 1) := by decide +kernel
theorem dX6_move_69 : decode cX6_move 69 = .ok (.invokevirtual 189, 3) := by decide +kernel
theorem dX6_move_72 : decode cX6_move 72 = .ok (.bipush 8, 2) := by decide +kernel
theorem dX6_move_74 : decode cX6_move 74 = .ok (.ishl, 1) := by decide +kernel
theorem dX6_move_75 : decode cX6_move 75 = .ok (.aload_n 0, 1) := by decide +kernel
theorem dX6_move_76 : decode cX6_move 76 = .ok (.iconst 2, 1) := by decide +kernel
theorem dX6_move_77 : decode cX6_move 77 = .ok (.invokevirtual 196, 3) := by decide +kernel
theorem dX6_move_80 : decode cX6_move 80 = .ok (.ior, 1) := by decide +kernel
theorem dX6_move_81 : decode cX6_move 81 = .ok (.invokevirtual 193, 3) := by decide +kernel
theorem dX6_move_84 : decode cX6_move 84 = .ok (.ireturn, 1) := by decide +kernel
theorem dX6_move_85 : decode cX6_move 85 = .ok (.aload_n 0, 1) := by decide +kernel
theorem dX6_move_86 : decode cX6_move 86 = .ok (.aload_n 0, 1) := by decide +kernel
theorem dX6_move_87 : decode cX6_move 87 = .ok (.getfield 99, 3) := by decide +kernel
theorem dX6_move_90 : decode cX6_move 90 = .ok (.getfield 199, 3) := by decide +kernel
theorem dX6_move_93 : decode cX6_move 93 = .ok (.aload_n 0, 1) := by decide +kernel
theorem dX6_move_94 : decode cX6_move 94 = .ok (.iconst 1, 1) := by decide +kernel
theorem dX6_move_95 : decode cX6_move 95 = .ok (.invokevirtual 196, 3) := by decide +kernel
theorem dX6_move_98 : decode cX6_move 98 = .ok (.bipush 8, 2) := by decide +kernel
theorem dX6_move_100 : decode cX6_move 100 = .ok (.irem, 1) := by decide +kernel
theorem dX6_move_101 : decode cX6_move 101 = .ok (.iaload, 1) := by decide +kernel
theorem dX6_move_102 : decode cX6_move 102 = .ok (.invokevirtual 193, 3) := by decide +kernel
theorem dX6_move_105 : decode cX6_move 105 = .ok (.ireturn, 1) := by decide +kernel
theorem dX6_move_106 : decode cX6_move 106 = .ok (.aload_n 0, 1) := by decide +kernel
theorem dX6_move_107 : decode cX6_move 107 = .ok (.getfield 99, 3) := by decide +kernel
theorem dX6_move_110 : decode cX6_move 110 = .ok (.getfield 199, 3) := by decide +kernel
theorem dX6_move_113 : decode cX6_move 113 = .ok (.aload_n 0, 1) := by decide +kernel
theorem dX6_move_114 : decode cX6_move 114 = .ok (.iconst 1, 1) := by decide +kernel
theorem dX6_move_115 : decode cX6_move 115 = .ok (.invokevirtual 196, 3) := by decide +kernel
theorem dX6_move_118 : decode cX6_move 118 = .ok (.bipush 8, 2) := by decide +kernel
theorem dX6_move_120 : decode cX6_move 120 = .ok (.irem, 1) := by decide +kernel
theorem dX6_move_121 : decode cX6_move 121 = .ok (.aload_n 0, 1) := by decide +kernel
theorem dX6_move_122 : decode cX6_move 122 = .ok (.getfield 99, 3) := by decide +kernel
theorem dX6_move_125 : decode cX6_move 125 = .ok (.invokevirtual 202, 3) := by decide +kernel
theorem dX6_move_128 : decode cX6_move 128 = .ok (.iastore, 1) := by decide +kernel
theorem dX6_move_129 : decode cX6_move 129 = .ok (.ldc 74, 2) := by decide +kernel
theorem dX6_move_131 : decode cX6_move 131 = .ok (.ireturn, 1) := by decide +kernel
theorem dX6_move_132 : decode cX6_move 132 = .ok (.aload_n 0, 1) := by decide +kernel
theorem dX6_move_133 : decode cX6_move 133 = .ok (.getfield 99, 3) := by decide +kernel
theorem dX6_move_136 : decode cX6_move 136 = .ok (.aload_n 0, 1) := by decide +kernel
theorem dX6_move_137 : decode cX6_move 137 = .ok (.iconst 1, 1) := by decide +kernel
theorem dX6_move_138 : decode cX6_move 138 = .ok (.invokevirtual 196, 3) := by decide +kernel
theorem dX6_move_141 : decode cX6_move 141 = .ok (.bipush 8, 2) := by decide +kernel
theorem dX6_move_143 : decode cX6_move 143 = .ok (.irem, 1) := by decide +kernel
theorem dX6_move_144 : decode cX6_move 144 = .ok (.aload_n 0, 1) := by decide +kernel
theorem dX6_move_145 : decode cX6_move 145 = .ok (.iconst 2, 1) := by decide +kernel
theorem dX6_move_146 : decode cX6_move 146 = .ok (.invokevirtual 189, 3) := by decide +kernel
theorem dX6_move_149 : decode cX6_move 149 = .ok (.invokevirtual 205, 3) := by decide +kernel
theorem dX6_move_152 : decode cX6_move 152 = .ok (.ldc 74, 2) := by decide +kernel
theorem dX6_move_154 : decode cX6_move 154 = .ok (.ireturn, 1) := by decide +kernel
theorem dX6_move_155 : decode cX6_move 155 = .ok (.aload_n 0, 1) := by decide +kernel
theorem dX6_move_156 : decode cX6_move 156 = .ok (.aload_n 0, 1) := by decide +kernel
theorem dX6_move_157 : decode cX6_move 157 = .ok (.getfield 99, 3) := by decide +kernel
theorem dX6_move_160 : decode cX6_move 160 = .ok (.invokevirtual 209, 3) := by decide +kernel
theorem dX6_move_163 : decode cX6_move 163 = .ok (.invokevirtual 193, 3) := by decide +kernel
theorem dX6_move_166 : decode cX6_move 166 = .ok (.ireturn, 1) := by decide +kernel
theorem dX6_move_167 : decode cX6_move 167 = .ok (.aload_n 0, 1) := by decide +kernel
theorem dX6_move_168 : decode cX6_move 168 = .ok (.getfield 99, 3) := by decide +kernel
theorem dX6_move_171 : decode cX6_move 171 = .ok (.invokevirtual 202, 3) := by decide +kernel
theorem dX6_move_174 : decode cX6_move 174 = .ok (.pop, 1) := by decide +kernel
theorem dX6_move_175 : decode cX6_move 175 = .ok (.ldc 74, 2) := by decide +kernel
theorem dX6_move_177 : decode cX6_move 177 = .ok (.ireturn, 1) := by decide +kernel
theorem dX6_move_178 : decode cX6_move 178 = .ok (.aload_n 0, 1) := by decide +kernel
theorem dX6_move_179 : decode cX6_move 179 = .ok (.invokevirtual 212, 3) := by decide +kernel
theorem dX6_move_182 : decode cX6_move 182 = .ok (.ireturn, 1) := by decide +kernel
theorem dX6_move_183 : decode cX6_move 183 = .ok (.ldc 74, 2) := by decide +kernel
theorem dX6_move_185 : decode cX6_move 185 = .ok (.ireturn, 1) := by decide +kernel
theorem dX6_swap_0 : decode cX6_swap 0 = .ok (.aload_n 0, 1) := by decide +kernel
theorem dX6_swap_1 : decode cX6_swap 1 = .ok (.getfield 99, 3) := by decide +kernel
theorem dX6_swap_4 : decode cX6_swap 4 = .ok (.invokevirtual 202, 3) := by decide +kernel
theorem dX6_swap_7 : decode cX6_swap 7 = .ok (.istore_n 1, 1) := by decide +kernel
theorem dX6_swap_8 : decode cX6_swap 8 = .ok (.aload_n 0, 1) := by decide +kernel
theorem dX6_swap_9 : decode cX6_swap 9 = .ok (.getfield 99, 3) := by decide +kernel
theorem dX6_swap_12 : decode cX6_swap 12 = .ok (.invokevirtual 202, 3) := by decide +kernel
theorem dX6_swap_15 : decode cX6_swap 15 = .ok (.istore_n 2, 1) := by decide +kernel
theorem dX6_swap_16 : decode cX6_swap 16 = .ok (.aload_n 0, 1) := by decide +kernel
theorem dX6_swap_17 : decode cX6_swap 17 = .ok (.getfield 99, 3) := by decide +kernel
theorem dX6_swap_20 : decode cX6_swap 20 = .ok (.iload_n 1, 1) := by decide +kernel
theorem dX6_swap_21 : decode cX6_swap 21 = .ok (.invokevirtual 178, 3) := by decide +kernel
theorem dX6_swap_24 : decode cX6_swap 24 = .ok (.aload_n 0, 1) := by decide +kernel
theorem dX6_swap_25 : decode cX6_swap 25 = .ok (.iload_n 2, 1) := by decide +kernel
theorem dX6_swap_26 : decode cX6_swap 26 = .ok (.invokevirtual 193, 3) := by decide +kernel
theorem dX6_swap_29 : decode cX6_swap 29 = .ok (.ireturn, 1) := by decide +kernel
theorem dX6_reckon_0 : decode cX6_reckon 0 = .ok (.aload_n 0, 1) := by decide +kernel
theorem dX6_reckon_1 : decode cX6_reckon 1 = .ok (.getfield 99, 3) := by decide +kernel
theorem dX6_reckon_4 : decode cX6_reckon 4 = .ok (.invokevirtual 202, 3) := by decide +kernel
theorem dX6_reckon_7 : decode cX6_reckon 7 = .ok (.istore_n 2, 1) := by decide +kernel
theorem dX6_reckon_8 : decode cX6_reckon 8 = .ok (.aload_n 1, 1) := by decide +kernel
theorem dX6_reckon_9 : decode cX6_reckon 9 = .ok (.getstatic 215, 3) := by decide +kernel
theorem dX6_reckon_12 : decode cX6_reckon 12 = .ok (.if_acmp .ne 10, 3) := by decide +kernel
theorem dX6_reckon_15 : decode cX6_reckon 15 = .ok (.aload_n 0, 1) := by decide +kernel
theorem dX6_reckon_16 : decode cX6_reckon 16 = .ok (.iload_n 2, 1) := by decide +kernel
theorem dX6_reckon_17 : decode cX6_reckon 17 = .ok (.ineg, 1) := by decide +kernel
theorem dX6_reckon_18 : decode cX6_reckon 18 = .ok (.invokevirtual 193, 3) := by decide +kernel
theorem dX6_reckon_21 : decode cX6_reckon 21 = .ok (.ireturn, 1) := by decide +kernel
theorem dX6_reckon_22 : decode cX6_reckon 22 = .ok (.aload_n 0, 1) := by decide +kernel
theorem dX6_reckon_23 : decode cX6_reckon 23 = .ok (.getfield 99, 3) := by decide +kernel
theorem dX6_reckon_26 : decode cX6_reckon 26 = .ok (.invokevirtual 202, 3) := by decide +kernel
theorem dX6_reckon_29 : decode cX6_reckon 29 = .ok (.istore_n 3, 1) := by decide +kernel
theorem dX6_reckon_30 : decode cX6_reckon 30 = .ok (.iload_n 2, 1) := by decide +kernel
theorem dX6_reckon_31 : decode cX6_reckon 31 = .ok (.bipush 16, 2) := by decide +kernel
theorem dX6_reckon_33 : decode cX6_reckon 33 = .ok (.invokestatic 218, 3) := by decide +kernel
theorem dX6_reckon_36 : decode cX6_reckon 36 = .ok (.istore 4, 2) := by decide +kernel
theorem dX6_reckon_38 : decode cX6_reckon 38 = .ok (.getstatic 181, 3) := by decide +kernel
theorem dX6_reckon_41 : decode cX6_reckon 41 = .ok (.aload_n 1, 1) := by decide +kernel
theorem dX6_reckon_42 : decode cX6_reckon 42 = .ok (.invokevirtual 186, 3) := by decide +kernel
theorem dX6_reckon_45 : decode cX6_reckon 45 = .ok (.iaload, 1) := by decide +kernel
theorem dX6_reckon_46 : decode cX6_reckon 46 = .ok (.tableswitch 152 9 18 #[54, 62, 70, 78, 94, 110, 118, 126, 134, 143], 54) := by decide +kernel
theorem dX6_reckon_100 : decode cX6_reckon 100 = .ok (.aload_n 0, 1) := by decide +kernel
theorem dX6_reckon_101 : decode cX6_reckon 101 = .ok (.iload_n 3, 1) := by decide +kernel
theorem dX6_reckon_102 : decode cX6_reckon 102 = .ok (.iload_n 2, 1) := by decide +kernel
theorem dX6_reckon_103 : decode cX6_reckon 103 = .ok (.iadd, 1) := by decide +kernel
theorem dX6_reckon_104 : decode cX6_reckon 104 = .ok (.invokevirtual 193, 3) := by decide +kernel
theorem dX6_reckon_107 : decode cX6_reckon 107 = .ok (.ireturn, 1) := by decide +kernel
theorem dX6_reckon_108 : decode cX6_reckon 108 = .ok (.aload_n 0, 1) := by decide +kernel
theorem dX6_reckon_109 : decode cX6_reckon 109 = .ok (.iload_n 3, 1) := by decide +kernel
theorem dX6_reckon_110 : decode cX6_reckon 110 = .ok (.iload_n 2, 1) := by decide +kernel
theorem dX6_reckon_111 : decode cX6_reckon 111 = .ok (.isub, 1) := by decide +kernel
theorem dX6_reckon_112 : decode cX6_reckon 112 = .ok (.invokevirtual 193, 3) := by decide +kernel
theorem dX6_reckon_115 : decode cX6_reckon 115 = .ok (.ireturn, 1) := by decide +kernel
theorem dX6_reckon_116 : decode cX6_reckon 116 = .ok (.aload_n 0, 1) := by decide +kernel
theorem dX6_reckon_117 : decode cX6_reckon 117 = .ok (.iload_n 3, 1) := by decide +kernel
theorem dX6_reckon_118 : decode cX6_reckon 118 = .ok (.iload_n 2, 1) := by decide +kernel
theorem dX6_reckon_119 : decode cX6_reckon 119 = .ok (.imul, 1) := by decide +kernel
theorem dX6_reckon_120 : decode cX6_reckon 120 = .ok (.invokevirtual 193, 3) := by decide +kernel
theorem dX6_reckon_123 : decode cX6_reckon 123 = .ok (.ireturn, 1) := by decide +kernel
theorem dX6_reckon_124 : decode cX6_reckon 124 = .ok (.iload_n 2, 1) := by decide +kernel
theorem dX6_reckon_125 : decode cX6_reckon 125 = .ok (.ifCond .ne 7, 3) := by decide +kernel
theorem dX6_reckon_128 : decode cX6_reckon 128 = .ok (.iconst 1, 1) := by decide +kernel
theorem dX6_reckon_129 : decode cX6_reckon 129 = .ok (.goto 10, 3) := by decide +kernel
theorem dX6_reckon_132 : decode cX6_reckon 132 = .ok (.aload_n 0, 1) := by decide +kernel
theorem dX6_reckon_133 : decode cX6_reckon 133 = .ok (.iload_n 3, 1) := by decide +kernel
theorem dX6_reckon_134 : decode cX6_reckon 134 = .ok (.iload_n 2, 1) := by decide +kernel
theorem dX6_reckon_135 : decode cX6_reckon 135 = .ok (.idiv, 1) := by decide +kernel
theorem dX6_reckon_136 : decode cX6_reckon 136 = .ok (.invokevirtual 193, 3) := by decide +kernel
theorem dX6_reckon_139 : decode cX6_reckon 139 = .ok (.ireturn, 1) := by decide +kernel
theorem dX6_reckon_140 : decode cX6_reckon 140 = .ok (.iload_n 2, 1) := by decide +kernel
theorem dX6_reckon_141 : decode cX6_reckon 141 = .ok (.ifCond .ne 7, 3) := by decide +kernel
theorem dX6_reckon_144 : decode cX6_reckon 144 = .ok (.iconst 1, 1) := by decide +kernel
theorem dX6_reckon_145 : decode cX6_reckon 145 = .ok (.goto 10, 3) := by decide +kernel
theorem dX6_reckon_148 : decode cX6_reckon 148 = .ok (.aload_n 0, 1) := by decide +kernel
theorem dX6_reckon_149 : decode cX6_reckon 149 = .ok (.iload_n 3, 1) := by decide +kernel
theorem dX6_reckon_150 : decode cX6_reckon 150 = .ok (.iload_n 2, 1) := by decide +kernel
theorem dX6_reckon_151 : decode cX6_reckon 151 = .ok (.irem, 1) := by decide +kernel
theorem dX6_reckon_152 : decode cX6_reckon 152 = .ok (.invokevirtual 193, 3) := by decide +kernel
theorem dX6_reckon_155 : decode cX6_reckon 155 = .ok (.ireturn, 1) := by decide +kernel
theorem dX6_reckon_156 : decode cX6_reckon 156 = .ok (.aload_n 0, 1) := by decide +kernel
theorem dX6_reckon_157 : decode cX6_reckon 157 = .ok (.iload_n 3, 1) := by decide +kernel
theorem dX6_reckon_158 : decode cX6_reckon 158 = .ok (.iload_n 2, 1) := by decide +kernel
theorem dX6_reckon_159 : decode cX6_reckon 159 = .ok (.iand, 1) := by decide +kernel
theorem dX6_reckon_160 : decode cX6_reckon 160 = .ok (.invokevirtual 193, 3) := by decide +kernel
theorem dX6_reckon_163 : decode cX6_reckon 163 = .ok (.ireturn, 1) := by decide +kernel
theorem dX6_reckon_164 : decode cX6_reckon 164 = .ok (.aload_n 0, 1) := by decide +kernel
theorem dX6_reckon_165 : decode cX6_reckon 165 = .ok (.iload_n 3, 1) := by decide +kernel
theorem dX6_reckon_166 : decode cX6_reckon 166 = .ok (.iload_n 2, 1) := by decide +kernel
theorem dX6_reckon_167 : decode cX6_reckon 167 = .ok (.ior, 1) := by decide +kernel
theorem dX6_reckon_168 : decode cX6_reckon 168 = .ok (.invokevirtual 193, 3) := by decide +kernel
theorem dX6_reckon_171 : decode cX6_reckon 171 = .ok (.ireturn, 1) := by decide +kernel
theorem dX6_reckon_172 : decode cX6_reckon 172 = .ok (.aload_n 0, 1) := by decide +kernel
theorem dX6_reckon_173 : decode cX6_reckon 173 = .ok (.iload_n 3, 1) := by decide +kernel
theorem dX6_reckon_174 : decode cX6_reckon 174 = .ok (.iload_n 2, 1) := by decide +kernel
theorem dX6_reckon_175 : decode cX6_reckon 175 = .ok (.ixor, 1) := by decide +kernel
theorem dX6_reckon_176 : decode cX6_reckon 176 = .ok (.invokevirtual 193, 3) := by decide +kernel
theorem dX6_reckon_179 : decode cX6_reckon 179 = .ok (.ireturn, 1) := by decide +kernel
theorem dX6_reckon_180 : decode cX6_reckon 180 = .ok (.aload_n 0, 1) := by decide +kernel
theorem dX6_reckon_181 : decode cX6_reckon 181 = .ok (.iload_n 3, 1) := by decide +kernel
theorem dX6_reckon_182 : decode cX6_reckon 182 = .ok (.iload 4, 2) := by decide +kernel
theorem dX6_reckon_184 : decode cX6_reckon 184 = .ok (.ishl, 1) := by decide +kernel
theorem dX6_reckon_185 : decode cX6_reckon 185 = .ok (.invokevirtual 193, 3) := by decide +kernel
theorem dX6_reckon_188 : decode cX6_reckon 188 = .ok (.ireturn, 1) := by decide +kernel
theorem dX6_reckon_189 : decode cX6_reckon 189 = .ok (.aload_n 0, 1) := by decide +kernel
theorem dX6_reckon_190 : decode cX6_reckon 190 = .ok (.iload_n 3, 1) := by decide +kernel
theorem dX6_reckon_191 : decode cX6_reckon 191 = .ok (.iload 4, 2) := by decide +kernel
theorem dX6_reckon_193 : decode cX6_reckon 193 = .ok (.ishr, 1) := by decide +kernel
theorem dX6_reckon_194 : decode cX6_reckon 194 = .ok (.invokevirtual 193, 3) := by decide +kernel
theorem dX6_reckon_197 : decode cX6_reckon 197 = .ok (.ireturn, 1) := by decide +kernel
theorem dX6_reckon_198 : decode cX6_reckon 198 = .ok (.aload_n 0, 1) := by decide +kernel
theorem dX6_reckon_199 : decode cX6_reckon 199 = .ok (.iload_n 3, 1) := by decide +kernel
theorem dX6_reckon_200 : decode cX6_reckon 200 = .ok (.ldc 224, 2) := by decide +kernel
theorem dX6_reckon_202 : decode cX6_reckon 202 = .ok (.iand, 1) := by decide +kernel
theorem dX6_reckon_203 : decode cX6_reckon 203 = .ok (.iload 4, 2) := by decide +kernel
theorem dX6_reckon_205 : decode cX6_reckon 205 = .ok (.iushr, 1) := by decide +kernel
theorem dX6_reckon_206 : decode cX6_reckon 206 = .ok (.invokevirtual 193, 3) := by decide +kernel
theorem dX6_reckon_209 : decode cX6_reckon 209 = .ok (.ireturn, 1) := by decide +kernel
theorem dX6_jump_0 : decode cX6_jump 0 = .ok (.aload_n 1, 1) := by decide +kernel
theorem dX6_jump_1 : decode cX6_jump 1 = .ok (.getstatic 225, 3) := by decide +kernel
theorem dX6_jump_4 : decode cX6_jump 4 = .ok (.if_acmp .ne 23, 3) := by decide +kernel
theorem dX6_jump_7 : decode cX6_jump 7 = .ok (.aload_n 0, 1) := by decide +kernel
theorem dX6_jump_8 : decode cX6_jump 8 = .ok (.getfield 99, 3) := by decide +kernel
theorem dX6_jump_11 : decode cX6_jump 11 = .ok (.aload_n 0, 1) := by decide +kernel
theorem dX6_jump_12 : decode cX6_jump 12 = .ok (.getfield 106, 3) := by decide +kernel
theorem dX6_jump_15 : decode cX6_jump 15 = .ok (.aload_n 0, 1) := by decide +kernel
theorem dX6_jump_16 : decode cX6_jump 16 = .ok (.iconst 1, 1) := by decide +kernel
theorem dX6_jump_17 : decode cX6_jump 17 = .ok (.invokevirtual 189, 3) := by decide +kernel
theorem dX6_jump_20 : decode cX6_jump 20 = .ok (.iadd, 1) := by decide +kernel
theorem dX6_jump_21 : decode cX6_jump 21 = .ok (.putfield 103, 3) := by decide +kernel
theorem dX6_jump_24 : decode cX6_jump 24 = .ok (.ldc 74, 2) := by decide +kernel
theorem dX6_jump_26 : decode cX6_jump 26 = .ok (.ireturn, 1) := by decide +kernel
theorem dX6_jump_27 : decode cX6_jump 27 = .ok (.aload_n 1, 1) := by decide +kernel
theorem dX6_jump_28 : decode cX6_jump 28 = .ok (.getstatic 228, 3) := by decide +kernel
theorem dX6_jump_31 : decode cX6_jump 31 = .ok (.if_acmp .ne 13, 3) := by decide +kernel
theorem dX6_jump_34 : decode cX6_jump 34 = .ok (.aload_n 0, 1) := by decide +kernel
theorem dX6_jump_35 : decode cX6_jump 35 = .ok (.getfield 99, 3) := by decide +kernel
theorem dX6_jump_38 : decode cX6_jump 38 = .ok (.invokevirtual 202, 3) := by decide +kernel
theorem dX6_jump_41 : decode cX6_jump 41 = .ok (.goto 4, 3) := by decide +kernel
theorem dX6_jump_44 : decode cX6_jump 44 = .ok (.iconst 0, 1) := by decide +kernel
theorem dX6_jump_45 : decode cX6_jump 45 = .ok (.istore_n 2, 1) := by decide +kernel
theorem dX6_jump_46 : decode cX6_jump 46 = .ok (.aload_n 0, 1) := by decide +kernel
theorem dX6_jump_47 : decode cX6_jump 47 = .ok (.iconst 1, 1) := by decide +kernel
theorem dX6_jump_48 : decode cX6_jump 48 = .ok (.invokevirtual 196, 3) := by decide +kernel
theorem dX6_jump_51 : decode cX6_jump 51 = .ok (.bipush 6, 2) := by decide +kernel
theorem dX6_jump_53 : decode cX6_jump 53 = .ok (.irem, 1) := by decide +kernel
theorem dX6_jump_54 : decode cX6_jump 54 = .ok (.aload_n 0, 1) := by decide +kernel
theorem dX6_jump_55 : decode cX6_jump 55 = .ok (.getfield 99, 3) := by decide +kernel
theorem dX6_jump_58 : decode cX6_jump 58 = .ok (.invokevirtual 202, 3) := by decide +kernel
theorem dX6_jump_61 : decode cX6_jump 61 = .ok (.iload_n 2, 1) := by decide +kernel
theorem dX6_jump_62 : decode cX6_jump 62 = .ok (.isub, 1) := by decide +kernel
theorem dX6_jump_63 : decode cX6_jump 63 = .ok (.invokestatic 231, 3) := by decide +kernel
theorem dX6_jump_66 : decode cX6_jump 66 = .ok (.ifCond .eq 20, 3) := by decide +kernel
theorem dX6_jump_69 : decode cX6_jump 69 = .ok (.aload_n 0, 1) := by decide +kernel
theorem dX6_jump_70 : decode cX6_jump 70 = .ok (.getfield 99, 3) := by decide +kernel
theorem dX6_jump_73 : decode cX6_jump 73 = .ok (.aload_n 0, 1) := by decide +kernel
theorem dX6_jump_74 : decode cX6_jump 74 = .ok (.getfield 106, 3) := by decide +kernel
theorem dX6_jump_77 : decode cX6_jump 77 = .ok (.aload_n 0, 1) := by decide +kernel
theorem dX6_jump_78 : decode cX6_jump 78 = .ok (.iconst 2, 1) := by decide +kernel
theorem dX6_jump_79 : decode cX6_jump 79 = .ok (.invokevirtual 189, 3) := by decide +kernel
theorem dX6_jump_82 : decode cX6_jump 82 = .ok (.iadd, 1) := by decide +kernel
theorem dX6_jump_83 : decode cX6_jump 83 = .ok (.putfield 103, 3) := by decide +kernel
theorem dX6_jump_86 : decode cX6_jump 86 = .ok (.ldc 74, 2) := by decide +kernel
theorem dX6_jump_88 : decode cX6_jump 88 = .ok (.ireturn, 1) := by decide +kernel
theorem dX6_holds_0 : decode cX6_holds 0 = .ok (.iload_n 0, 1) := by decide +kernel
theorem dX6_holds_1 : decode cX6_holds 1 = .ok (.tableswitch 85 0 4 #[35, 45, 55, 65, 75], 35) := by decide +kernel
theorem dX6_holds_36 : decode cX6_holds 36 = .ok (.iload_n 1, 1) := by decide +kernel
theorem dX6_holds_37 : decode cX6_holds 37 = .ok (.ifCond .ne 7, 3) := by decide +kernel
theorem dX6_holds_40 : decode cX6_holds 40 = .ok (.iconst 1, 1) := by decide +kernel
theorem dX6_holds_41 : decode cX6_holds 41 = .ok (.goto 4, 3) := by decide +kernel
theorem dX6_holds_44 : decode cX6_holds 44 = .ok (.iconst 0, 1) := by decide +kernel
theorem dX6_holds_45 : decode cX6_holds 45 = .ok (.ireturn, 1) := by decide +kernel
theorem dX6_holds_46 : decode cX6_holds 46 = .ok (.iload_n 1, 1) := by decide +kernel
theorem dX6_holds_47 : decode cX6_holds 47 = .ok (.ifCond .eq 7, 3) := by decide +kernel
theorem dX6_holds_50 : decode cX6_holds 50 = .ok (.iconst 1, 1) := by decide +kernel
theorem dX6_holds_51 : decode cX6_holds 51 = .ok (.goto 4, 3) := by decide +kernel
theorem dX6_holds_54 : decode cX6_holds 54 = .ok (.iconst 0, 1) := by decide +kernel
theorem dX6_holds_55 : decode cX6_holds 55 = .ok (.ireturn, 1) := by decide +kernel
theorem dX6_holds_56 : decode cX6_holds 56 = .ok (.iload_n 1, 1) := by decide +kernel
theorem dX6_holds_57 : decode cX6_holds 57 = .ok (.ifCond .ge 7, 3) := by decide +kernel
theorem dX6_holds_60 : decode cX6_holds 60 = .ok (.iconst 1, 1) := by decide +kernel
theorem dX6_holds_61 : decode cX6_holds 61 = .ok (.goto 4, 3) := by decide +kernel
theorem dX6_holds_64 : decode cX6_holds 64 = .ok (.iconst 0, 1) := by decide +kernel
theorem dX6_holds_65 : decode cX6_holds 65 = .ok (.ireturn, 1) := by decide +kernel
theorem dX6_holds_66 : decode cX6_holds 66 = .ok (.iload_n 1, 1) := by decide +kernel
theorem dX6_holds_67 : decode cX6_holds 67 = .ok (.ifCond .lt 7, 3) := by decide +kernel
theorem dX6_holds_70 : decode cX6_holds 70 = .ok (.iconst 1, 1) := by decide +kernel
theorem dX6_holds_71 : decode cX6_holds 71 = .ok (.goto 4, 3) := by decide +kernel
theorem dX6_holds_74 : decode cX6_holds 74 = .ok (.iconst 0, 1) := by decide +kernel
theorem dX6_holds_75 : decode cX6_holds 75 = .ok (.ireturn, 1) := by decide +kernel
theorem dX6_holds_76 : decode cX6_holds 76 = .ok (.iload_n 1, 1) := by decide +kernel
theorem dX6_holds_77 : decode cX6_holds 77 = .ok (.ifCond .le 7, 3) := by decide +kernel
theorem dX6_holds_80 : decode cX6_holds 80 = .ok (.iconst 1, 1) := by decide +kernel
theorem dX6_holds_81 : decode cX6_holds 81 = .ok (.goto 4, 3) := by decide +kernel
theorem dX6_holds_84 : decode cX6_holds 84 = .ok (.iconst 0, 1) := by decide +kernel
theorem dX6_holds_85 : decode cX6_holds 85 = .ok (.ireturn, 1) := by decide +kernel
theorem dX6_holds_86 : decode cX6_holds 86 = .ok (.iload_n 1, 1) := by decide +kernel
theorem dX6_holds_87 : decode cX6_holds 87 = .ok (.ifCond .gt 7, 3) := by decide +kernel
theorem dX6_holds_90 : decode cX6_holds 90 = .ok (.iconst 1, 1) := by decide +kernel
theorem dX6_holds_91 : decode cX6_holds 91 = .ok (.goto 4, 3) := by decide +kernel
theorem dX6_holds_94 : decode cX6_holds 94 = .ok (.iconst 0, 1) := by decide +kernel
theorem dX6_holds_95 : decode cX6_holds 95 = .ok (.ireturn, 1) := by decide +kernel
theorem dX6_callOrEnd_0 : decode cX6_callOrEnd 0 = .ok (.getstatic 181, 3) := by decide +kernel
theorem dX6_callOrEnd_3 : decode cX6_callOrEnd 3 = .ok (.aload_n 1, 1) := by decide +kernel
theorem dX6_callOrEnd_4 : decode cX6_callOrEnd 4 = .ok (.invokevirtual 186, 3) := by decide +kernel
theorem dX6_callOrEnd_7 : decode cX6_callOrEnd 7 = .ok (.iaload, 1) := by decide +kernel
theorem dX6_callOrEnd_8 : decode cX6_callOrEnd 8 = .ok (.lookupswitch 45 #[(19, 28), (20, 33)], 28) := by decide +kernel
theorem dX6_callOrEnd_36 : decode cX6_callOrEnd 36 = .ok (.aload_n 0, 1) := by decide +kernel
theorem dX6_callOrEnd_37 : decode cX6_callOrEnd 37 = .ok (.invokevirtual 235, 3) := by decide +kernel
theorem dX6_callOrEnd_40 : decode cX6_callOrEnd 40 = .ok (.ireturn, 1) := by decide +kernel
theorem dX6_callOrEnd_41 : decode cX6_callOrEnd 41 = .ok (.aload_n 0, 1) := by decide +kernel
theorem dX6_callOrEnd_42 : decode cX6_callOrEnd 42 = .ok (.aload_n 0, 1) := by decide +kernel
theorem dX6_callOrEnd_43 : decode cX6_callOrEnd 43 = .ok (.getfield 99, 3) := by decide +kernel
theorem dX6_callOrEnd_46 : decode cX6_callOrEnd 46 = .ok (.invokevirtual 202, 3) := by decide +kernel
theorem dX6_callOrEnd_49 : decode cX6_callOrEnd 49 = .ok (.invokevirtual 238, 3) := by decide +kernel
theorem dX6_callOrEnd_52 : decode cX6_callOrEnd 52 = .ok (.ireturn, 1) := by decide +kernel
theorem dX6_callOrEnd_53 : decode cX6_callOrEnd 53 = .ok (.aload_n 0, 1) := by decide +kernel
theorem dX6_callOrEnd_54 : decode cX6_callOrEnd 54 = .ok (.aload_n 1, 1) := by decide +kernel
theorem dX6_callOrEnd_55 : decode cX6_callOrEnd 55 = .ok (.invokevirtual 241, 3) := by decide +kernel
theorem dX6_callOrEnd_58 : decode cX6_callOrEnd 58 = .ok (.ireturn, 1) := by decide +kernel
theorem dX6_call_0 : decode cX6_call 0 = .ok (.aload_n 0, 1) := by decide +kernel
theorem dX6_call_1 : decode cX6_call 1 = .ok (.getfield 17, 3) := by decide +kernel
theorem dX6_call_4 : decode cX6_call 4 = .ok (.aload_n 0, 1) := by decide +kernel
theorem dX6_call_5 : decode cX6_call 5 = .ok (.iconst 1, 1) := by decide +kernel
theorem dX6_call_6 : decode cX6_call 6 = .ok (.invokevirtual 196, 3) := by decide +kernel
theorem dX6_call_9 : decode cX6_call 9 = .ok (.bipush 16, 2) := by decide +kernel
theorem dX6_call_11 : decode cX6_call 11 = .ok (.irem, 1) := by decide +kernel
theorem dX6_call_12 : decode cX6_call 12 = .ok (.aaload, 1) := by decide +kernel
theorem dX6_call_13 : decode cX6_call 13 = .ok (.astore_n 2, 1) := by decide +kernel
theorem dX6_call_14 : decode cX6_call 14 = .ok (.aload_n 0, 1) := by decide +kernel
theorem dX6_call_15 : decode cX6_call 15 = .ok (.iconst 2, 1) := by decide +kernel
theorem dX6_call_16 : decode cX6_call 16 = .ok (.invokevirtual 196, 3) := by decide +kernel
theorem dX6_call_19 : decode cX6_call 19 = .ok (.bipush 9, 2) := by decide +kernel
theorem dX6_call_21 : decode cX6_call 21 = .ok (.irem, 1) := by decide +kernel
theorem dX6_call_22 : decode cX6_call 22 = .ok (.istore_n 3, 1) := by decide +kernel
theorem dX6_call_23 : decode cX6_call 23 = .ok (.aload_n 0, 1) := by decide +kernel
theorem dX6_call_24 : decode cX6_call 24 = .ok (.getfield 99, 3) := by decide +kernel
theorem dX6_call_27 : decode cX6_call 27 = .ok (.getfield 147, 3) := by decide +kernel
theorem dX6_call_30 : decode cX6_call 30 = .ok (.iload_n 3, 1) := by decide +kernel
theorem dX6_call_31 : decode cX6_call 31 = .ok (.if_icmp .ge 6, 3) := by decide +kernel
theorem dX6_call_34 : decode cX6_call 34 = .ok (.bipush 6, 2) := by decide +kernel
theorem dX6_call_36 : decode cX6_call 36 = .ok (.ireturn, 1) := by decide +kernel
theorem dX6_call_37 : decode cX6_call 37 = .ok (.aload_n 1, 1) := by decide +kernel
theorem dX6_call_38 : decode cX6_call 38 = .ok (.getstatic 244, 3) := by decide +kernel
theorem dX6_call_41 : decode cX6_call 41 = .ok (.if_acmp .ne 20, 3) := by decide +kernel
theorem dX6_call_44 : decode cX6_call 44 = .ok (.aload_n 2, 1) := by decide +kernel
theorem dX6_call_45 : decode cX6_call 45 = .ok (.getfield 247, 3) := by decide +kernel
theorem dX6_call_48 : decode cX6_call 48 = .ok (.aload_n 0, 1) := by decide +kernel
theorem dX6_call_49 : decode cX6_call 49 = .ok (.getfield 99, 3) := by decide +kernel
theorem dX6_call_52 : decode cX6_call 52 = .ok (.getfield 250, 3) := by decide +kernel
theorem dX6_call_55 : decode cX6_call 55 = .ok (.if_icmp .eq 15, 3) := by decide +kernel
theorem dX6_call_58 : decode cX6_call 58 = .ok (.goto 10, 3) := by decide +kernel
theorem dX6_call_61 : decode cX6_call 61 = .ok (.aload_n 2, 1) := by decide +kernel
theorem dX6_call_62 : decode cX6_call 62 = .ok (.getfield 251, 3) := by decide +kernel
theorem dX6_call_65 : decode cX6_call 65 = .ok (.ifCond .ne 5, 3) := by decide +kernel
theorem dX6_call_68 : decode cX6_call 68 = .ok (.iconst 4, 1) := by decide +kernel
theorem dX6_call_69 : decode cX6_call 69 = .ok (.ireturn, 1) := by decide +kernel
theorem dX6_call_70 : decode cX6_call 70 = .ok (.aload_n 0, 1) := by decide +kernel
theorem dX6_call_71 : decode cX6_call 71 = .ok (.getfield 92, 3) := by decide +kernel
theorem dX6_call_74 : decode cX6_call 74 = .ok (.bipush 8, 2) := by decide +kernel
theorem dX6_call_76 : decode cX6_call 76 = .ok (.if_icmp .ne 6, 3) := by decide +kernel
theorem dX6_call_79 : decode cX6_call 79 = .ok (.bipush 6, 2) := by decide +kernel
theorem dX6_call_81 : decode cX6_call 81 = .ok (.ireturn, 1) := by decide +kernel
theorem dX6_call_82 : decode cX6_call 82 = .ok (.aload_n 0, 1) := by decide +kernel
theorem dX6_call_83 : decode cX6_call 83 = .ok (.getfield 99, 3) := by decide +kernel
theorem dX6_call_86 : decode cX6_call 86 = .ok (.astore 4, 2) := by decide +kernel
theorem dX6_call_88 : decode cX6_call 88 = .ok (.aload_n 0, 1) := by decide +kernel
theorem dX6_call_89 : decode cX6_call 89 = .ok (.aload_n 2, 1) := by decide +kernel
theorem dX6_call_90 : decode cX6_call 90 = .ok (.invokevirtual 95, 3) := by decide +kernel
theorem dX6_call_93 : decode cX6_call 93 = .ok (.iload_n 3, 1) := by decide +kernel
theorem dX6_call_94 : decode cX6_call 94 = .ok (.iconst 1, 1) := by decide +kernel
theorem dX6_call_95 : decode cX6_call 95 = .ok (.isub, 1) := by decide +kernel
theorem dX6_call_96 : decode cX6_call 96 = .ok (.istore 5, 2) := by decide +kernel
theorem dX6_call_98 : decode cX6_call 98 = .ok (.iload 5, 2) := by decide +kernel
theorem dX6_call_100 : decode cX6_call 100 = .ok (.ifCond .lt 24, 3) := by decide +kernel
theorem dX6_call_103 : decode cX6_call 103 = .ok (.aload_n 0, 1) := by decide +kernel
theorem dX6_call_104 : decode cX6_call 104 = .ok (.getfield 99, 3) := by decide +kernel
theorem dX6_call_107 : decode cX6_call 107 = .ok (.getfield 199, 3) := by decide +kernel
theorem dX6_call_110 : decode cX6_call 110 = .ok (.iload 5, 2) := by decide +kernel
theorem dX6_call_112 : decode cX6_call 112 = .ok (.aload 4, 2) := by decide +kernel
theorem dX6_call_114 : decode cX6_call 114 = .ok (.invokevirtual 202, 3) := by decide +kernel
theorem dX6_call_117 : decode cX6_call 117 = .ok (.iastore, 1) := by decide +kernel
theorem dX6_call_118 : decode cX6_call 118 = .ok (.iinc 5 (-1), 3) := by decide +kernel
theorem dX6_call_121 : decode cX6_call 121 = .ok (.goto (-23), 3) := by decide +kernel
theorem dX6_call_124 : decode cX6_call 124 = .ok (.ldc 74, 2) := by decide +kernel
theorem dX6_call_126 : decode cX6_call 126 = .ok (.ireturn, 1) := by decide +kernel
theorem dX6_end_0 : decode cX6_end 0 = .ok (.aload_n 0, 1) := by decide +kernel
theorem dX6_end_1 : decode cX6_end 1 = .ok (.invokevirtual 173, 3) := by decide +kernel
theorem dX6_end_4 : decode cX6_end 4 = .ok (.aload_n 0, 1) := by decide +kernel
theorem dX6_end_5 : decode cX6_end 5 = .ok (.getfield 92, 3) := by decide +kernel
theorem dX6_end_8 : decode cX6_end 8 = .ok (.ifCond .ne 8, 3) := by decide +kernel
theorem dX6_end_11 : decode cX6_end 11 = .ok (.aload_n 0, 1) := by decide +kernel
theorem dX6_end_12 : decode cX6_end 12 = .ok (.iconst 0, 1) := by decide +kernel
theorem dX6_end_13 : decode cX6_end 13 = .ok (.putfield 54, 3) := by decide +kernel
theorem dX6_end_16 : decode cX6_end 16 = .ok (.ldc 74, 2) := by decide +kernel
theorem dX6_end_18 : decode cX6_end 18 = .ok (.ireturn, 1) := by decide +kernel
theorem dX6_endWith_0 : decode cX6_endWith 0 = .ok (.aload_n 0, 1) := by decide +kernel
theorem dX6_endWith_1 : decode cX6_endWith 1 = .ok (.invokevirtual 235, 3) := by decide +kernel
theorem dX6_endWith_4 : decode cX6_endWith 4 = .ok (.pop, 1) := by decide +kernel
theorem dX6_endWith_5 : decode cX6_endWith 5 = .ok (.aload_n 0, 1) := by decide +kernel
theorem dX6_endWith_6 : decode cX6_endWith 6 = .ok (.getfield 92, 3) := by decide +kernel
theorem dX6_endWith_9 : decode cX6_endWith 9 = .ok (.ifCond .ne 11, 3) := by decide +kernel
theorem dX6_endWith_12 : decode cX6_endWith 12 = .ok (.aload_n 0, 1) := by decide +kernel
theorem dX6_endWith_13 : decode cX6_endWith 13 = .ok (.iload_n 1, 1) := by decide +kernel
theorem dX6_endWith_14 : decode cX6_endWith 14 = .ok (.putfield 89, 3) := by decide +kernel
theorem dX6_endWith_17 : decode cX6_endWith 17 = .ok (.ldc 74, 2) := by decide +kernel
theorem dX6_endWith_19 : decode cX6_endWith 19 = .ok (.ireturn, 1) := by decide +kernel
theorem dX6_endWith_20 : decode cX6_endWith 20 = .ok (.aload_n 0, 1) := by decide +kernel
theorem dX6_endWith_21 : decode cX6_endWith 21 = .ok (.getfield 99, 3) := by decide +kernel
theorem dX6_endWith_24 : decode cX6_endWith 24 = .ok (.iconst 1, 1) := by decide +kernel
theorem dX6_endWith_25 : decode cX6_endWith 25 = .ok (.invokevirtual 163, 3) := by decide +kernel
theorem dX6_endWith_28 : decode cX6_endWith 28 = .ok (.ifCond .eq 11, 3) := by decide +kernel
theorem dX6_endWith_31 : decode cX6_endWith 31 = .ok (.aload_n 0, 1) := by decide +kernel
theorem dX6_endWith_32 : decode cX6_endWith 32 = .ok (.iload_n 1, 1) := by decide +kernel
theorem dX6_endWith_33 : decode cX6_endWith 33 = .ok (.invokevirtual 193, 3) := by decide +kernel
theorem dX6_endWith_36 : decode cX6_endWith 36 = .ok (.goto 5, 3) := by decide +kernel
theorem dX6_endWith_39 : decode cX6_endWith 39 = .ok (.bipush 6, 2) := by decide +kernel
theorem dX6_endWith_41 : decode cX6_endWith 41 = .ok (.ireturn, 1) := by decide +kernel
theorem dX6_useObjects_0 : decode cX6_useObjects 0 = .ok (.getstatic 181, 3) := by decide +kernel
theorem dX6_useObjects_3 : decode cX6_useObjects 3 = .ok (.aload_n 1, 1) := by decide +kernel
theorem dX6_useObjects_4 : decode cX6_useObjects 4 = .ok (.invokevirtual 186, 3) := by decide +kernel
theorem dX6_useObjects_7 : decode cX6_useObjects 7 = .ok (.iaload, 1) := by decide +kernel
theorem dX6_useObjects_8 : decode cX6_useObjects 8 = .ok (.tableswitch 104 21 27 #[44, 50, 56, 61, 66, 78, 92], 44) := by decide +kernel
theorem dX6_useObjects_52 : decode cX6_useObjects 52 = .ok (.aload_n 0, 1) := by decide +kernel
theorem dX6_useObjects_53 : decode cX6_useObjects 53 = .ok (.iconst 0, 1) := by decide +kernel
theorem dX6_useObjects_54 : decode cX6_useObjects 54 = .ok (.invokevirtual 254, 3) := by decide +kernel
theorem dX6_useObjects_57 : decode cX6_useObjects 57 = .ok (.ireturn, 1) := by decide +kernel
theorem dX6_useObjects_58 : decode cX6_useObjects 58 = .ok (.aload_n 0, 1) := by decide +kernel
theorem dX6_useObjects_59 : decode cX6_useObjects 59 = .ok (.iconst 1, 1) := by decide +kernel
theorem dX6_useObjects_60 : decode cX6_useObjects 60 = .ok (.invokevirtual 254, 3) := by decide +kernel
theorem dX6_useObjects_63 : decode cX6_useObjects 63 = .ok (.ireturn, 1) := by decide +kernel
theorem dX6_useObjects_64 : decode cX6_useObjects 64 = .ok (.aload_n 0, 1) := by decide +kernel
theorem dX6_useObjects_65 : decode cX6_useObjects 65 = .ok (.invokevirtual 257, 3) := by decide +kernel
theorem dX6_useObjects_68 : decode cX6_useObjects 68 = .ok (.ireturn, 1) := by decide +kernel
theorem dX6_useObjects_69 : decode cX6_useObjects 69 = .ok (.aload_n 0, 1) := by decide +kernel
theorem dX6_useObjects_70 : decode cX6_useObjects 70 = .ok (.invokevirtual 260, 3) := by decide +kernel
theorem dX6_useObjects_73 : decode cX6_useObjects 73 = .ok (.ireturn, 1) := by decide +kernel
theorem dX6_useObjects_74 : decode cX6_useObjects 74 = .ok (.aload_n 0, 1) := by decide +kernel
theorem dX6_useObjects_75 : decode cX6_useObjects 75 = .ok (.aload_n 0, 1) := by decide +kernel
theorem dX6_useObjects_76 : decode cX6_useObjects 76 = .ok (.getfield 99, 3) := by decide +kernel
theorem dX6_useObjects_79 : decode cX6_useObjects 79 = .ok (.invokevirtual 202, 3) := by decide +kernel
theorem dX6_useObjects_82 : decode cX6_useObjects 82 = .ok (.invokevirtual 263, 3) := by decide +kernel
theorem dX6_useObjects_85 : decode cX6_useObjects 85 = .ok (.ireturn, 1) := by decide +kernel
theorem dX6_useObjects_86 : decode cX6_useObjects 86 = .ok (.aload_n 0, 1) := by decide +kernel
theorem dX6_useObjects_87 : decode cX6_useObjects 87 = .ok (.aload_n 0, 1) := by decide +kernel
theorem dX6_useObjects_88 : decode cX6_useObjects 88 = .ok (.getfield 99, 3) := by decide +kernel
theorem dX6_useObjects_91 : decode cX6_useObjects 91 = .ok (.getfield 250, 3) := by decide +kernel
theorem dX6_useObjects_94 : decode cX6_useObjects 94 = .ok (.iconst 1, 1) := by decide +kernel
theorem dX6_useObjects_95 : decode cX6_useObjects 95 = .ok (.iadd, 1) := by decide +kernel
theorem dX6_useObjects_96 : decode cX6_useObjects 96 = .ok (.invokevirtual 193, 3) := by decide +kernel
theorem dX6_useObjects_99 : decode cX6_useObjects 99 = .ok (.ireturn, 1) := by decide +kernel
theorem dX6_useObjects_100 : decode cX6_useObjects 100 = .ok (.aload_n 0, 1) := by decide +kernel
theorem dX6_useObjects_101 : decode cX6_useObjects 101 = .ok (.aload_n 0, 1) := by decide +kernel
theorem dX6_useObjects_102 : decode cX6_useObjects 102 = .ok (.getfield 99, 3) := by decide +kernel
theorem dX6_useObjects_105 : decode cX6_useObjects 105 = .ok (.invokevirtual 202, 3) := by decide +kernel
theorem dX6_useObjects_108 : decode cX6_useObjects 108 = .ok (.invokevirtual 266, 3) := by decide +kernel
theorem dX6_useObjects_111 : decode cX6_useObjects 111 = .ok (.ireturn, 1) := by decide +kernel
theorem dX6_useObjects_112 : decode cX6_useObjects 112 = .ok (.aload_n 0, 1) := by decide +kernel
theorem dX6_useObjects_113 : decode cX6_useObjects 113 = .ok (.invokevirtual 269, 3) := by decide +kernel
theorem dX6_useObjects_116 : decode cX6_useObjects 116 = .ok (.ireturn, 1) := by decide +kernel
theorem dX6_makeObject_0 : decode cX6_makeObject 0 = .ok (.aload_n 0, 1) := by decide +kernel
theorem dX6_makeObject_1 : decode cX6_makeObject 1 = .ok (.iconst 1, 1) := by decide +kernel
theorem dX6_makeObject_2 : decode cX6_makeObject 2 = .ok (.invokevirtual 196, 3) := by decide +kernel
theorem dX6_makeObject_5 : decode cX6_makeObject 5 = .ok (.istore_n 2, 1) := by decide +kernel
theorem dX6_makeObject_6 : decode cX6_makeObject 6 = .ok (.aload_n 0, 1) := by decide +kernel
theorem dX6_makeObject_7 : decode cX6_makeObject 7 = .ok (.getfield 24, 3) := by decide +kernel
theorem dX6_makeObject_10 : decode cX6_makeObject 10 = .ok (.iload_n 2, 1) := by decide +kernel
theorem dX6_makeObject_11 : decode cX6_makeObject 11 = .ok (.invokevirtual 272, 3) := by decide +kernel
theorem dX6_makeObject_14 : decode cX6_makeObject 14 = .ok (.istore_n 3, 1) := by decide +kernel
theorem dX6_makeObject_15 : decode cX6_makeObject 15 = .ok (.iload_n 3, 1) := by decide +kernel
theorem dX6_makeObject_16 : decode cX6_makeObject 16 = .ok (.ldc 74, 2) := by decide +kernel
theorem dX6_makeObject_18 : decode cX6_makeObject 18 = .ok (.if_icmp .eq 5, 3) := by decide +kernel
theorem dX6_makeObject_21 : decode cX6_makeObject 21 = .ok (.iload_n 3, 1) := by decide +kernel
theorem dX6_makeObject_22 : decode cX6_makeObject 22 = .ok (.ireturn, 1) := by decide +kernel
theorem dX6_makeObject_23 : decode cX6_makeObject 23 = .ok (.aload_n 0, 1) := by decide +kernel
theorem dX6_makeObject_24 : decode cX6_makeObject 24 = .ok (.getfield 99, 3) := by decide +kernel
theorem dX6_makeObject_27 : decode cX6_makeObject 27 = .ok (.iconst 1, 1) := by decide +kernel
theorem dX6_makeObject_28 : decode cX6_makeObject 28 = .ok (.invokevirtual 163, 3) := by decide +kernel
theorem dX6_makeObject_31 : decode cX6_makeObject 31 = .ok (.ifCond .ne 6, 3) := by decide +kernel
theorem dX6_makeObject_34 : decode cX6_makeObject 34 = .ok (.bipush 6, 2) := by decide +kernel
theorem dX6_makeObject_36 : decode cX6_makeObject 36 = .ok (.ireturn, 1) := by decide +kernel
theorem dX6_makeObject_37 : decode cX6_makeObject 37 = .ok (.aload_n 0, 1) := by decide +kernel
theorem dX6_makeObject_38 : decode cX6_makeObject 38 = .ok (.aload_n 0, 1) := by decide +kernel
theorem dX6_makeObject_39 : decode cX6_makeObject 39 = .ok (.getfield 24, 3) := by decide +kernel
theorem dX6_makeObject_42 : decode cX6_makeObject 42 = .ok (.aload_n 0, 1) := by decide +kernel
theorem dX6_makeObject_43 : decode cX6_makeObject 43 = .ok (.getfield 99, 3) := by decide +kernel
theorem dX6_makeObject_46 : decode cX6_makeObject 46 = .ok (.getfield 250, 3) := by decide +kernel
theorem dX6_makeObject_49 : decode cX6_makeObject 49 = .ok (.iload_n 1, 1) := by decide +kernel
theorem dX6_makeObject_50 : decode cX6_makeObject 50 = .ok (.iload_n 2, 1) := by decide +kernel
theorem dX6_makeObject_51 : decode cX6_makeObject 51 = .ok (.invokevirtual 275, 3) := by decide +kernel
theorem dX6_makeObject_54 : decode cX6_makeObject 54 = .ok (.invokevirtual 193, 3) := by decide +kernel
theorem dX6_makeObject_57 : decode cX6_makeObject 57 = .ok (.ireturn, 1) := by decide +kernel
theorem dX6_readCell_0 : decode cX6_readCell 0 = .ok (.aload_n 0, 1) := by decide +kernel
theorem dX6_readCell_1 : decode cX6_readCell 1 = .ok (.getfield 99, 3) := by decide +kernel
theorem dX6_readCell_4 : decode cX6_readCell 4 = .ok (.invokevirtual 202, 3) := by decide +kernel
theorem dX6_readCell_7 : decode cX6_readCell 7 = .ok (.istore_n 1, 1) := by decide +kernel
theorem dX6_readCell_8 : decode cX6_readCell 8 = .ok (.aload_n 0, 1) := by decide +kernel
theorem dX6_readCell_9 : decode cX6_readCell 9 = .ok (.getfield 99, 3) := by decide +kernel
theorem dX6_readCell_12 : decode cX6_readCell 12 = .ok (.invokevirtual 202, 3) := by decide +kernel
theorem dX6_readCell_15 : decode cX6_readCell 15 = .ok (.istore_n 2, 1) := by decide +kernel
theorem dX6_readCell_16 : decode cX6_readCell 16 = .ok (.aload_n 0, 1) := by decide +kernel
theorem dX6_readCell_17 : decode cX6_readCell 17 = .ok (.getfield 24, 3) := by decide +kernel
theorem dX6_readCell_20 : decode cX6_readCell 20 = .ok (.aload_n 0, 1) := by decide +kernel
theorem dX6_readCell_21 : decode cX6_readCell 21 = .ok (.getfield 99, 3) := by decide +kernel
theorem dX6_readCell_24 : decode cX6_readCell 24 = .ok (.getfield 250, 3) := by decide +kernel
theorem dX6_readCell_27 : decode cX6_readCell 27 = .ok (.iload_n 2, 1) := by decide +kernel
theorem dX6_readCell_28 : decode cX6_readCell 28 = .ok (.iload_n 1, 1) := by decide +kernel
theorem dX6_readCell_29 : decode cX6_readCell 29 = .ok (.invokevirtual 279, 3) := by decide +kernel
theorem dX6_readCell_32 : decode cX6_readCell 32 = .ok (.istore_n 3, 1) := by decide +kernel
theorem dX6_readCell_33 : decode cX6_readCell 33 = .ok (.iload_n 3, 1) := by decide +kernel
theorem dX6_readCell_34 : decode cX6_readCell 34 = .ok (.ldc 74, 2) := by decide +kernel
theorem dX6_readCell_36 : decode cX6_readCell 36 = .ok (.if_icmp .eq 7, 3) := by decide +kernel
theorem dX6_readCell_39 : decode cX6_readCell 39 = .ok (.iload_n 3, 1) := by decide +kernel
theorem dX6_readCell_40 : decode cX6_readCell 40 = .ok (.goto 16, 3) := by decide +kernel
theorem dX6_readCell_43 : decode cX6_readCell 43 = .ok (.aload_n 0, 1) := by decide +kernel
theorem dX6_readCell_44 : decode cX6_readCell 44 = .ok (.aload_n 0, 1) := by decide +kernel
theorem dX6_readCell_45 : decode cX6_readCell 45 = .ok (.getfield 24, 3) := by decide +kernel
theorem dX6_readCell_48 : decode cX6_readCell 48 = .ok (.iload_n 2, 1) := by decide +kernel
theorem dX6_readCell_49 : decode cX6_readCell 49 = .ok (.iload_n 1, 1) := by decide +kernel
theorem dX6_readCell_50 : decode cX6_readCell 50 = .ok (.invokevirtual 282, 3) := by decide +kernel
theorem dX6_readCell_53 : decode cX6_readCell 53 = .ok (.invokevirtual 193, 3) := by decide +kernel
theorem dX6_readCell_56 : decode cX6_readCell 56 = .ok (.ireturn, 1) := by decide +kernel
theorem dX6_writeCell_0 : decode cX6_writeCell 0 = .ok (.aload_n 0, 1) := by decide +kernel
theorem dX6_writeCell_1 : decode cX6_writeCell 1 = .ok (.getfield 99, 3) := by decide +kernel
theorem dX6_writeCell_4 : decode cX6_writeCell 4 = .ok (.invokevirtual 202, 3) := by decide +kernel
theorem dX6_writeCell_7 : decode cX6_writeCell 7 = .ok (.istore_n 1, 1) := by decide +kernel
theorem dX6_writeCell_8 : decode cX6_writeCell 8 = .ok (.aload_n 0, 1) := by decide +kernel
theorem dX6_writeCell_9 : decode cX6_writeCell 9 = .ok (.getfield 99, 3) := by decide +kernel
theorem dX6_writeCell_12 : decode cX6_writeCell 12 = .ok (.invokevirtual 202, 3) := by decide +kernel
theorem dX6_writeCell_15 : decode cX6_writeCell 15 = .ok (.istore_n 2, 1) := by decide +kernel
theorem dX6_writeCell_16 : decode cX6_writeCell 16 = .ok (.aload_n 0, 1) := by decide +kernel
theorem dX6_writeCell_17 : decode cX6_writeCell 17 = .ok (.getfield 99, 3) := by decide +kernel
theorem dX6_writeCell_20 : decode cX6_writeCell 20 = .ok (.invokevirtual 202, 3) := by decide +kernel
theorem dX6_writeCell_23 : decode cX6_writeCell 23 = .ok (.istore_n 3, 1) := by decide +kernel
theorem dX6_writeCell_24 : decode cX6_writeCell 24 = .ok (.aload_n 0, 1) := by decide +kernel
theorem dX6_writeCell_25 : decode cX6_writeCell 25 = .ok (.getfield 24, 3) := by decide +kernel
theorem dX6_writeCell_28 : decode cX6_writeCell 28 = .ok (.aload_n 0, 1) := by decide +kernel
theorem dX6_writeCell_29 : decode cX6_writeCell 29 = .ok (.getfield 99, 3) := by decide +kernel
theorem dX6_writeCell_32 : decode cX6_writeCell 32 = .ok (.getfield 250, 3) := by decide +kernel
theorem dX6_writeCell_35 : decode cX6_writeCell 35 = .ok (.iload_n 3, 1) := by decide +kernel
theorem dX6_writeCell_36 : decode cX6_writeCell 36 = .ok (.iload_n 2, 1) := by decide +kernel
theorem dX6_writeCell_37 : decode cX6_writeCell 37 = .ok (.invokevirtual 279, 3) := by decide +kernel
theorem dX6_writeCell_40 : decode cX6_writeCell 40 = .ok (.istore 4, 2) := by decide +kernel
theorem dX6_writeCell_42 : decode cX6_writeCell 42 = .ok (.iload 4, 2) := by decide +kernel
theorem dX6_writeCell_44 : decode cX6_writeCell 44 = .ok (.ldc 74, 2) := by decide +kernel
theorem dX6_writeCell_46 : decode cX6_writeCell 46 = .ok (.if_icmp .ne 12, 3) := by decide +kernel
theorem dX6_writeCell_49 : decode cX6_writeCell 49 = .ok (.aload_n 0, 1) := by decide +kernel
theorem dX6_writeCell_50 : decode cX6_writeCell 50 = .ok (.getfield 24, 3) := by decide +kernel
theorem dX6_writeCell_53 : decode cX6_writeCell 53 = .ok (.invokevirtual 285, 3) := by decide +kernel
theorem dX6_writeCell_56 : decode cX6_writeCell 56 = .ok (.istore 4, 2) := by decide +kernel
theorem dX6_writeCell_58 : decode cX6_writeCell 58 = .ok (.iload 4, 2) := by decide +kernel
theorem dX6_writeCell_60 : decode cX6_writeCell 60 = .ok (.ldc 74, 2) := by decide +kernel
theorem dX6_writeCell_62 : decode cX6_writeCell 62 = .ok (.if_icmp .ne 13, 3) := by decide +kernel
theorem dX6_writeCell_65 : decode cX6_writeCell 65 = .ok (.aload_n 0, 1) := by decide +kernel
theorem dX6_writeCell_66 : decode cX6_writeCell 66 = .ok (.getfield 24, 3) := by decide +kernel
theorem dX6_writeCell_69 : decode cX6_writeCell 69 = .ok (.iload_n 3, 1) := by decide +kernel
theorem dX6_writeCell_70 : decode cX6_writeCell 70 = .ok (.iload_n 2, 1) := by decide +kernel
theorem dX6_writeCell_71 : decode cX6_writeCell 71 = .ok (.iload_n 1, 1) := by decide +kernel
theorem dX6_writeCell_72 : decode cX6_writeCell 72 = .ok (.invokevirtual 288, 3) := by decide +kernel
theorem dX6_writeCell_75 : decode cX6_writeCell 75 = .ok (.iload 4, 2) := by decide +kernel
theorem dX6_writeCell_77 : decode cX6_writeCell 77 = .ok (.ireturn, 1) := by decide +kernel
theorem dX6_putSize_0 : decode cX6_putSize 0 = .ok (.aload_n 0, 1) := by decide +kernel
theorem dX6_putSize_1 : decode cX6_putSize 1 = .ok (.getfield 24, 3) := by decide +kernel
theorem dX6_putSize_4 : decode cX6_putSize 4 = .ok (.aload_n 0, 1) := by decide +kernel
theorem dX6_putSize_5 : decode cX6_putSize 5 = .ok (.getfield 99, 3) := by decide +kernel
theorem dX6_putSize_8 : decode cX6_putSize 8 = .ok (.getfield 250, 3) := by decide +kernel
theorem dX6_putSize_11 : decode cX6_putSize 11 = .ok (.iload_n 1, 1) := by decide +kernel
theorem dX6_putSize_12 : decode cX6_putSize 12 = .ok (.iconst 0, 1) := by decide +kernel
theorem dX6_putSize_13 : decode cX6_putSize 13 = .ok (.invokevirtual 279, 3) := by decide +kernel
theorem dX6_putSize_16 : decode cX6_putSize 16 = .ok (.istore_n 2, 1) := by decide +kernel
theorem dX6_putSize_17 : decode cX6_putSize 17 = .ok (.iload_n 2, 1) := by decide +kernel
theorem dX6_putSize_18 : decode cX6_putSize 18 = .ok (.ldc 74, 2) := by decide +kernel
theorem dX6_putSize_20 : decode cX6_putSize 20 = .ok (.if_icmp .eq 7, 3) := by decide +kernel
theorem dX6_putSize_23 : decode cX6_putSize 23 = .ok (.iload_n 2, 1) := by decide +kernel
theorem dX6_putSize_24 : decode cX6_putSize 24 = .ok (.goto 16, 3) := by decide +kernel
theorem dX6_putSize_27 : decode cX6_putSize 27 = .ok (.aload_n 0, 1) := by decide +kernel
theorem dX6_putSize_28 : decode cX6_putSize 28 = .ok (.aload_n 0, 1) := by decide +kernel
theorem dX6_putSize_29 : decode cX6_putSize 29 = .ok (.getfield 24, 3) := by decide +kernel
theorem dX6_putSize_32 : decode cX6_putSize 32 = .ok (.getfield 292, 3) := by decide +kernel
theorem dX6_putSize_35 : decode cX6_putSize 35 = .ok (.iload_n 1, 1) := by decide +kernel
theorem dX6_putSize_36 : decode cX6_putSize 36 = .ok (.iaload, 1) := by decide +kernel
theorem dX6_putSize_37 : decode cX6_putSize 37 = .ok (.invokevirtual 193, 3) := by decide +kernel
theorem dX6_putSize_40 : decode cX6_putSize 40 = .ok (.ireturn, 1) := by decide +kernel
theorem dX6_putOwner_0 : decode cX6_putOwner 0 = .ok (.aload_n 0, 1) := by decide +kernel
theorem dX6_putOwner_1 : decode cX6_putOwner 1 = .ok (.getfield 24, 3) := by decide +kernel
theorem dX6_putOwner_4 : decode cX6_putOwner 4 = .ok (.iload_n 1, 1) := by decide +kernel
theorem dX6_putOwner_5 : decode cX6_putOwner 5 = .ok (.invokevirtual 295, 3) := by decide +kernel
theorem dX6_putOwner_8 : decode cX6_putOwner 8 = .ok (.ifCond .eq 19, 3) := by decide +kernel
theorem dX6_putOwner_11 : decode cX6_putOwner 11 = .ok (.aload_n 0, 1) := by decide +kernel
theorem dX6_putOwner_12 : decode cX6_putOwner 12 = .ok (.aload_n 0, 1) := by decide +kernel
theorem dX6_putOwner_13 : decode cX6_putOwner 13 = .ok (.getfield 24, 3) := by decide +kernel
theorem dX6_putOwner_16 : decode cX6_putOwner 16 = .ok (.getfield 298, 3) := by decide +kernel
theorem dX6_putOwner_19 : decode cX6_putOwner 19 = .ok (.iload_n 1, 1) := by decide +kernel
theorem dX6_putOwner_20 : decode cX6_putOwner 20 = .ok (.iaload, 1) := by decide +kernel
theorem dX6_putOwner_21 : decode cX6_putOwner 21 = .ok (.invokevirtual 193, 3) := by decide +kernel
theorem dX6_putOwner_24 : decode cX6_putOwner 24 = .ok (.goto 4, 3) := by decide +kernel
theorem dX6_putOwner_27 : decode cX6_putOwner 27 = .ok (.iconst 2, 1) := by decide +kernel
theorem dX6_putOwner_28 : decode cX6_putOwner 28 = .ok (.ireturn, 1) := by decide +kernel
theorem dX6_copyCells_0 : decode cX6_copyCells 0 = .ok (.aload_n 0, 1) := by decide +kernel
theorem dX6_copyCells_1 : decode cX6_copyCells 1 = .ok (.getfield 99, 3) := by decide +kernel
theorem dX6_copyCells_4 : decode cX6_copyCells 4 = .ok (.invokevirtual 202, 3) := by decide +kernel
theorem dX6_copyCells_7 : decode cX6_copyCells 7 = .ok (.istore_n 1, 1) := by decide +kernel
theorem dX6_copyCells_8 : decode cX6_copyCells 8 = .ok (.aload_n 0, 1) := by decide +kernel
theorem dX6_copyCells_9 : decode cX6_copyCells 9 = .ok (.getfield 99, 3) := by decide +kernel
theorem dX6_copyCells_12 : decode cX6_copyCells 12 = .ok (.invokevirtual 202, 3) := by decide +kernel
theorem dX6_copyCells_15 : decode cX6_copyCells 15 = .ok (.istore_n 2, 1) := by decide +kernel
theorem dX6_copyCells_16 : decode cX6_copyCells 16 = .ok (.aload_n 0, 1) := by decide +kernel
theorem dX6_copyCells_17 : decode cX6_copyCells 17 = .ok (.getfield 99, 3) := by decide +kernel
theorem dX6_copyCells_20 : decode cX6_copyCells 20 = .ok (.invokevirtual 202, 3) := by decide +kernel
theorem dX6_copyCells_23 : decode cX6_copyCells 23 = .ok (.istore_n 3, 1) := by decide +kernel
theorem dX6_copyCells_24 : decode cX6_copyCells 24 = .ok (.aload_n 0, 1) := by decide +kernel
theorem dX6_copyCells_25 : decode cX6_copyCells 25 = .ok (.getfield 99, 3) := by decide +kernel
theorem dX6_copyCells_28 : decode cX6_copyCells 28 = .ok (.invokevirtual 202, 3) := by decide +kernel
theorem dX6_copyCells_31 : decode cX6_copyCells 31 = .ok (.istore 4, 2) := by decide +kernel
theorem dX6_copyCells_33 : decode cX6_copyCells 33 = .ok (.aload_n 0, 1) := by decide +kernel
theorem dX6_copyCells_34 : decode cX6_copyCells 34 = .ok (.getfield 99, 3) := by decide +kernel
theorem dX6_copyCells_37 : decode cX6_copyCells 37 = .ok (.invokevirtual 202, 3) := by decide +kernel
theorem dX6_copyCells_40 : decode cX6_copyCells 40 = .ok (.istore 5, 2) := by decide +kernel
theorem dX6_copyCells_42 : decode cX6_copyCells 42 = .ok (.aload_n 0, 1) := by decide +kernel
theorem dX6_copyCells_43 : decode cX6_copyCells 43 = .ok (.getfield 24, 3) := by decide +kernel
theorem dX6_copyCells_46 : decode cX6_copyCells 46 = .ok (.aload_n 0, 1) := by decide +kernel
theorem dX6_copyCells_47 : decode cX6_copyCells 47 = .ok (.getfield 99, 3) := by decide +kernel
theorem dX6_copyCells_50 : decode cX6_copyCells 50 = .ok (.getfield 250, 3) := by decide +kernel
theorem dX6_copyCells_53 : decode cX6_copyCells 53 = .ok (.iload 5, 2) := by decide +kernel
theorem dX6_copyCells_55 : decode cX6_copyCells 55 = .ok (.iload 4, 2) := by decide +kernel
theorem dX6_copyCells_57 : decode cX6_copyCells 57 = .ok (.iload_n 3, 1) := by decide +kernel
theorem dX6_copyCells_58 : decode cX6_copyCells 58 = .ok (.iload_n 2, 1) := by decide +kernel
theorem dX6_copyCells_59 : decode cX6_copyCells 59 = .ok (.iload_n 1, 1) := by decide +kernel
theorem dX6_copyCells_60 : decode cX6_copyCells 60 = .ok (.invokevirtual 301, 3) := by decide +kernel
theorem dX6_copyCells_63 : decode cX6_copyCells 63 = .ok (.istore 6, 2) := by decide +kernel
theorem dX6_copyCells_65 : decode cX6_copyCells 65 = .ok (.iload 6, 2) := by decide +kernel
theorem dX6_copyCells_67 : decode cX6_copyCells 67 = .ok (.ldc 74, 2) := by decide +kernel
theorem dX6_copyCells_69 : decode cX6_copyCells 69 = .ok (.if_icmp .eq 6, 3) := by decide +kernel
theorem dX6_copyCells_72 : decode cX6_copyCells 72 = .ok (.iload 6, 2) := by decide +kernel
theorem dX6_copyCells_74 : decode cX6_copyCells 74 = .ok (.ireturn, 1) := by decide +kernel
theorem dX6_copyCells_75 : decode cX6_copyCells 75 = .ok (.iload_n 1, 1) := by decide +kernel
theorem dX6_copyCells_76 : decode cX6_copyCells 76 = .ok (.aload_n 0, 1) := by decide +kernel
theorem dX6_copyCells_77 : decode cX6_copyCells 77 = .ok (.getfield 50, 3) := by decide +kernel
theorem dX6_copyCells_80 : decode cX6_copyCells 80 = .ok (.aload_n 0, 1) := by decide +kernel
theorem dX6_copyCells_81 : decode cX6_copyCells 81 = .ok (.getfield 67, 3) := by decide +kernel
theorem dX6_copyCells_84 : decode cX6_copyCells 84 = .ok (.isub, 1) := by decide +kernel
theorem dX6_copyCells_85 : decode cX6_copyCells 85 = .ok (.if_icmp .le 12, 3) := by decide +kernel
theorem dX6_copyCells_88 : decode cX6_copyCells 88 = .ok (.aload_n 0, 1) := by decide +kernel
theorem dX6_copyCells_89 : decode cX6_copyCells 89 = .ok (.bipush 10, 2) := by decide +kernel
theorem dX6_copyCells_91 : decode cX6_copyCells 91 = .ok (.putfield 54, 3) := by decide +kernel
theorem dX6_copyCells_94 : decode cX6_copyCells 94 = .ok (.ldc 74, 2) := by decide +kernel
theorem dX6_copyCells_96 : decode cX6_copyCells 96 = .ok (.ireturn, 1) := by decide +kernel
theorem dX6_copyCells_97 : decode cX6_copyCells 97 = .ok (.aload_n 0, 1) := by decide +kernel
theorem dX6_copyCells_98 : decode cX6_copyCells 98 = .ok (.dup, 1) := by decide +kernel
theorem dX6_copyCells_99 : decode cX6_copyCells 99 = .ok (.getfield 67, 3) := by decide +kernel
theorem dX6_copyCells_102 : decode cX6_copyCells 102 = .ok (.iload_n 1, 1) := by decide +kernel
theorem dX6_copyCells_103 : decode cX6_copyCells 103 = .ok (.iadd, 1) := by decide +kernel
theorem dX6_copyCells_104 : decode cX6_copyCells 104 = .ok (.putfield 67, 3) := by decide +kernel
theorem dX6_copyCells_107 : decode cX6_copyCells 107 = .ok (.aload_n 0, 1) := by decide +kernel
theorem dX6_copyCells_108 : decode cX6_copyCells 108 = .ok (.getfield 24, 3) := by decide +kernel
theorem dX6_copyCells_111 : decode cX6_copyCells 111 = .ok (.iload 5, 2) := by decide +kernel
theorem dX6_copyCells_113 : decode cX6_copyCells 113 = .ok (.iload 4, 2) := by decide +kernel
theorem dX6_copyCells_115 : decode cX6_copyCells 115 = .ok (.iload_n 3, 1) := by decide +kernel
theorem dX6_copyCells_116 : decode cX6_copyCells 116 = .ok (.iload_n 2, 1) := by decide +kernel
theorem dX6_copyCells_117 : decode cX6_copyCells 117 = .ok (.iload_n 1, 1) := by decide +kernel
theorem dX6_copyCells_118 : decode cX6_copyCells 118 = .ok (.invokevirtual 305, 3) := by decide +kernel
theorem dX6_copyCells_121 : decode cX6_copyCells 121 = .ok (.ldc 74, 2) := by decide +kernel
theorem dX6_copyCells_123 : decode cX6_copyCells 123 = .ok (.ireturn, 1) := by decide +kernel
theorem dX6_changeTransaction_0 : decode cX6_changeTransaction 0 = .ok (.aload_n 1, 1) := by decide +kernel
theorem dX6_changeTransaction_1 : decode cX6_changeTransaction 1 = .ok (.getstatic 309, 3) := by decide +kernel
theorem dX6_changeTransaction_4 : decode cX6_changeTransaction 4 = .ok (.if_acmp .ne 23, 3) := by decide +kernel
theorem dX6_changeTransaction_7 : decode cX6_changeTransaction 7 = .ok (.aload_n 0, 1) := by decide +kernel
theorem dX6_changeTransaction_8 : decode cX6_changeTransaction 8 = .ok (.aload_n 0, 1) := by decide +kernel
theorem dX6_changeTransaction_9 : decode cX6_changeTransaction 9 = .ok (.getfield 24, 3) := by decide +kernel
theorem dX6_changeTransaction_12 : decode cX6_changeTransaction 12 = .ok (.getfield 312, 3) := by decide +kernel
theorem dX6_changeTransaction_15 : decode cX6_changeTransaction 15 = .ok (.ifCond .eq 7, 3) := by decide +kernel
theorem dX6_changeTransaction_18 : decode cX6_changeTransaction 18 = .ok (.iconst 1, 1) := by decide +kernel
theorem dX6_changeTransaction_19 : decode cX6_changeTransaction 19 = .ok (.goto 4, 3) := by decide +kernel
theorem dX6_changeTransaction_22 : decode cX6_changeTransaction 22 = .ok (.iconst 0, 1) := by decide +kernel
theorem dX6_changeTransaction_23 : decode cX6_changeTransaction 23 = .ok (.invokevirtual 193, 3) := by decide +kernel
theorem dX6_changeTransaction_26 : decode cX6_changeTransaction 26 = .ok (.ireturn, 1) := by decide +kernel
theorem dX6_changeTransaction_27 : decode cX6_changeTransaction 27 = .ok (.aload_n 0, 1) := by decide +kernel
theorem dX6_changeTransaction_28 : decode cX6_changeTransaction 28 = .ok (.getfield 24, 3) := by decide +kernel
theorem dX6_changeTransaction_31 : decode cX6_changeTransaction 31 = .ok (.getfield 312, 3) := by decide +kernel
theorem dX6_changeTransaction_34 : decode cX6_changeTransaction 34 = .ok (.aload_n 1, 1) := by decide +kernel
theorem dX6_changeTransaction_35 : decode cX6_changeTransaction 35 = .ok (.getstatic 315, 3) := by decide +kernel
theorem dX6_changeTransaction_38 : decode cX6_changeTransaction 38 = .ok (.if_acmp .ne 7, 3) := by decide +kernel
theorem dX6_changeTransaction_41 : decode cX6_changeTransaction 41 = .ok (.iconst 1, 1) := by decide +kernel
theorem dX6_changeTransaction_42 : decode cX6_changeTransaction 42 = .ok (.goto 4, 3) := by decide +kernel
theorem dX6_changeTransaction_45 : decode cX6_changeTransaction 45 = .ok (.iconst 0, 1) := by decide +kernel
theorem dX6_changeTransaction_46 : decode cX6_changeTransaction 46 = .ok (.if_icmp .ne 6, 3) := by decide +kernel
theorem dX6_changeTransaction_49 : decode cX6_changeTransaction 49 = .ok (.bipush 9, 2) := by decide +kernel
theorem dX6_changeTransaction_51 : decode cX6_changeTransaction 51 = .ok (.ireturn, 1) := by decide +kernel
theorem dX6_changeTransaction_52 : decode cX6_changeTransaction 52 = .ok (.getstatic 181, 3) := by decide +kernel
theorem dX6_changeTransaction_55 : decode cX6_changeTransaction 55 = .ok (.aload_n 1, 1) := by decide +kernel
theorem dX6_changeTransaction_56 : decode cX6_changeTransaction 56 = .ok (.invokevirtual 186, 3) := by decide +kernel
theorem dX6_changeTransaction_59 : decode cX6_changeTransaction 59 = .ok (.iaload, 1) := by decide +kernel
theorem dX6_changeTransaction_60 : decode cX6_changeTransaction 60 = .ok (.lookupswitch 48 #[(28, 28), (29, 38)], 28) := by decide +kernel
theorem dX6_changeTransaction_88 : decode cX6_changeTransaction 88 = .ok (.aload_n 0, 1) := by decide +kernel
theorem dX6_changeTransaction_89 : decode cX6_changeTransaction 89 = .ok (.getfield 24, 3) := by decide +kernel
theorem dX6_changeTransaction_92 : decode cX6_changeTransaction 92 = .ok (.invokevirtual 318, 3) := by decide +kernel
theorem dX6_changeTransaction_95 : decode cX6_changeTransaction 95 = .ok (.ldc 74, 2) := by decide +kernel
theorem dX6_changeTransaction_97 : decode cX6_changeTransaction 97 = .ok (.ireturn, 1) := by decide +kernel
theorem dX6_changeTransaction_98 : decode cX6_changeTransaction 98 = .ok (.aload_n 0, 1) := by decide +kernel
theorem dX6_changeTransaction_99 : decode cX6_changeTransaction 99 = .ok (.getfield 24, 3) := by decide +kernel
theorem dX6_changeTransaction_102 : decode cX6_changeTransaction 102 = .ok (.invokevirtual 320, 3) := by decide +kernel
theorem dX6_changeTransaction_105 : decode cX6_changeTransaction 105 = .ok (.ldc 74, 2) := by decide +kernel
theorem dX6_changeTransaction_107 : decode cX6_changeTransaction 107 = .ok (.ireturn, 1) := by decide +kernel
theorem dX6_changeTransaction_108 : decode cX6_changeTransaction 108 = .ok (.aload_n 0, 1) := by decide +kernel
theorem dX6_changeTransaction_109 : decode cX6_changeTransaction 109 = .ok (.getfield 24, 3) := by decide +kernel
theorem dX6_changeTransaction_112 : decode cX6_changeTransaction 112 = .ok (.invokevirtual 79, 3) := by decide +kernel
theorem dX6_changeTransaction_115 : decode cX6_changeTransaction 115 = .ok (.pop, 1) := by decide +kernel
theorem dX6_changeTransaction_116 : decode cX6_changeTransaction 116 = .ok (.ldc 74, 2) := by decide +kernel
theorem dX6_changeTransaction_118 : decode cX6_changeTransaction 118 = .ok (.ireturn, 1) := by decide +kernel
theorem dX6_talk_0 : decode cX6_talk 0 = .ok (.getstatic 181, 3) := by decide +kernel
theorem dX6_talk_3 : decode cX6_talk 3 = .ok (.aload_n 1, 1) := by decide +kernel
theorem dX6_talk_4 : decode cX6_talk 4 = .ok (.invokevirtual 186, 3) := by decide +kernel
theorem dX6_talk_7 : decode cX6_talk 7 = .ok (.iaload, 1) := by decide +kernel
theorem dX6_talk_8 : decode cX6_talk 8 = .ok (.lookupswitch 52 #[(30, 28), (31, 40)], 28) := by decide +kernel
theorem dX6_talk_36 : decode cX6_talk 36 = .ok (.aload_n 0, 1) := by decide +kernel
theorem dX6_talk_37 : decode cX6_talk 37 = .ok (.aload_n 0, 1) := by decide +kernel
theorem dX6_talk_38 : decode cX6_talk 38 = .ok (.getfield 99, 3) := by decide +kernel
theorem dX6_talk_41 : decode cX6_talk 41 = .ok (.invokevirtual 202, 3) := by decide +kernel
theorem dX6_talk_44 : decode cX6_talk 44 = .ok (.invokevirtual 323, 3) := by decide +kernel
theorem dX6_talk_47 : decode cX6_talk 47 = .ok (.ireturn, 1) := by decide +kernel
theorem dX6_talk_48 : decode cX6_talk 48 = .ok (.aload_n 0, 1) := by decide +kernel
theorem dX6_talk_49 : decode cX6_talk 49 = .ok (.aload_n 0, 1) := by decide +kernel
theorem dX6_talk_50 : decode cX6_talk 50 = .ok (.getfield 31, 3) := by decide +kernel
theorem dX6_talk_53 : decode cX6_talk 53 = .ok (.getfield 83, 3) := by decide +kernel
theorem dX6_talk_56 : decode cX6_talk 56 = .ok (.invokevirtual 193, 3) := by decide +kernel
theorem dX6_talk_59 : decode cX6_talk 59 = .ok (.ireturn, 1) := by decide +kernel
theorem dX6_talk_60 : decode cX6_talk 60 = .ok (.aload_n 0, 1) := by decide +kernel
theorem dX6_talk_61 : decode cX6_talk 61 = .ok (.aload_n 0, 1) := by decide +kernel
theorem dX6_talk_62 : decode cX6_talk 62 = .ok (.getfield 99, 3) := by decide +kernel
theorem dX6_talk_65 : decode cX6_talk 65 = .ok (.invokevirtual 202, 3) := by decide +kernel
theorem dX6_talk_68 : decode cX6_talk 68 = .ok (.sipush 255, 3) := by decide +kernel
theorem dX6_talk_71 : decode cX6_talk 71 = .ok (.iand, 1) := by decide +kernel
theorem dX6_talk_72 : decode cX6_talk 72 = .ok (.invokevirtual 326, 3) := by decide +kernel
theorem dX6_talk_75 : decode cX6_talk 75 = .ok (.ireturn, 1) := by decide +kernel
theorem dX6_putCommandByte_0 : decode cX6_putCommandByte 0 = .ok (.aload_n 0, 1) := by decide +kernel
theorem dX6_putCommandByte_1 : decode cX6_putCommandByte 1 = .ok (.getfield 31, 3) := by decide +kernel
theorem dX6_putCommandByte_4 : decode cX6_putCommandByte 4 = .ok (.iload_n 1, 1) := by decide +kernel
theorem dX6_putCommandByte_5 : decode cX6_putCommandByte 5 = .ok (.invokevirtual 329, 3) := by decide +kernel
theorem dX6_putCommandByte_8 : decode cX6_putCommandByte 8 = .ok (.ifCond .eq 20, 3) := by decide +kernel
theorem dX6_putCommandByte_11 : decode cX6_putCommandByte 11 = .ok (.aload_n 0, 1) := by decide +kernel
theorem dX6_putCommandByte_12 : decode cX6_putCommandByte 12 = .ok (.aload_n 0, 1) := by decide +kernel
theorem dX6_putCommandByte_13 : decode cX6_putCommandByte 13 = .ok (.getfield 31, 3) := by decide +kernel
theorem dX6_putCommandByte_16 : decode cX6_putCommandByte 16 = .ok (.getfield 330, 3) := by decide +kernel
theorem dX6_putCommandByte_19 : decode cX6_putCommandByte 19 = .ok (.iload_n 1, 1) := by decide +kernel
theorem dX6_putCommandByte_20 : decode cX6_putCommandByte 20 = .ok (.iaload, 1) := by decide +kernel
theorem dX6_putCommandByte_21 : decode cX6_putCommandByte 21 = .ok (.i2b, 1) := by decide +kernel
theorem dX6_putCommandByte_22 : decode cX6_putCommandByte 22 = .ok (.invokevirtual 193, 3) := by decide +kernel
theorem dX6_putCommandByte_25 : decode cX6_putCommandByte 25 = .ok (.goto 4, 3) := by decide +kernel
theorem dX6_putCommandByte_28 : decode cX6_putCommandByte 28 = .ok (.iconst 3, 1) := by decide +kernel
theorem dX6_putCommandByte_29 : decode cX6_putCommandByte 29 = .ok (.ireturn, 1) := by decide +kernel
theorem dX6_answerByte_0 : decode cX6_answerByte 0 = .ok (.aload_n 0, 1) := by decide +kernel
theorem dX6_answerByte_1 : decode cX6_answerByte 1 = .ok (.getfield 35, 3) := by decide +kernel
theorem dX6_answerByte_4 : decode cX6_answerByte 4 = .ok (.invokevirtual 333, 3) := by decide +kernel
theorem dX6_answerByte_7 : decode cX6_answerByte 7 = .ok (.ifCond .eq 6, 3) := by decide +kernel
theorem dX6_answerByte_10 : decode cX6_answerByte 10 = .ok (.bipush 6, 2) := by decide +kernel
theorem dX6_answerByte_12 : decode cX6_answerByte 12 = .ok (.ireturn, 1) := by decide +kernel
theorem dX6_answerByte_13 : decode cX6_answerByte 13 = .ok (.aload_n 0, 1) := by decide +kernel
theorem dX6_answerByte_14 : decode cX6_answerByte 14 = .ok (.getfield 35, 3) := by decide +kernel
theorem dX6_answerByte_17 : decode cX6_answerByte 17 = .ok (.iload_n 1, 1) := by decide +kernel
theorem dX6_answerByte_18 : decode cX6_answerByte 18 = .ok (.invokevirtual 336, 3) := by decide +kernel
theorem dX6_answerByte_21 : decode cX6_answerByte 21 = .ok (.ldc 74, 2) := by decide +kernel
theorem dX6_answerByte_23 : decode cX6_answerByte 23 = .ok (.ireturn, 1) := by decide +kernel
theorem dX6_throwOrHandle_0 : decode cX6_throwOrHandle 0 = .ok (.getstatic 181, 3) := by decide +kernel
theorem dX6_throwOrHandle_3 : decode cX6_throwOrHandle 3 = .ok (.aload_n 1, 1) := by decide +kernel
theorem dX6_throwOrHandle_4 : decode cX6_throwOrHandle 4 = .ok (.invokevirtual 186, 3) := by decide +kernel
theorem dX6_throwOrHandle_7 : decode cX6_throwOrHandle 7 = .ok (.iaload, 1) := by decide +kernel
theorem dX6_throwOrHandle_8 : decode cX6_throwOrHandle 8 = .ok (.lookupswitch 56 #[(32, 28), (33, 36)], 28) := by decide +kernel
theorem dX6_throwOrHandle_36 : decode cX6_throwOrHandle 36 = .ok (.aload_n 0, 1) := by decide +kernel
theorem dX6_throwOrHandle_37 : decode cX6_throwOrHandle 37 = .ok (.getfield 99, 3) := by decide +kernel
theorem dX6_throwOrHandle_40 : decode cX6_throwOrHandle 40 = .ok (.invokevirtual 202, 3) := by decide +kernel
theorem dX6_throwOrHandle_43 : decode cX6_throwOrHandle 43 = .ok (.ireturn, 1) := by decide +kernel
theorem dX6_throwOrHandle_44 : decode cX6_throwOrHandle 44 = .ok (.aload_n 0, 1) := by decide +kernel
theorem dX6_throwOrHandle_45 : decode cX6_throwOrHandle 45 = .ok (.getfield 99, 3) := by decide +kernel
theorem dX6_throwOrHandle_48 : decode cX6_throwOrHandle 48 = .ok (.aload_n 0, 1) := by decide +kernel
theorem dX6_throwOrHandle_49 : decode cX6_throwOrHandle 49 = .ok (.getfield 106, 3) := by decide +kernel
theorem dX6_throwOrHandle_52 : decode cX6_throwOrHandle 52 = .ok (.aload_n 0, 1) := by decide +kernel
theorem dX6_throwOrHandle_53 : decode cX6_throwOrHandle 53 = .ok (.iconst 1, 1) := by decide +kernel
theorem dX6_throwOrHandle_54 : decode cX6_throwOrHandle 54 = .ok (.invokevirtual 189, 3) := by decide +kernel
theorem dX6_throwOrHandle_57 : decode cX6_throwOrHandle 57 = .ok (.iadd, 1) := by decide +kernel
theorem dX6_throwOrHandle_58 : decode cX6_throwOrHandle 58 = .ok (.putfield 167, 3) := by decide +kernel
theorem dX6_throwOrHandle_61 : decode cX6_throwOrHandle 61 = .ok (.ldc 74, 2) := by decide +kernel
theorem dX6_throwOrHandle_63 : decode cX6_throwOrHandle 63 = .ok (.ireturn, 1) := by decide +kernel
theorem dX6_throwOrHandle_64 : decode cX6_throwOrHandle 64 = .ok (.aload_n 0, 1) := by decide +kernel
theorem dX6_throwOrHandle_65 : decode cX6_throwOrHandle 65 = .ok (.getfield 99, 3) := by decide +kernel
theorem dX6_throwOrHandle_68 : decode cX6_throwOrHandle 68 = .ok (.sipush (-1024), 3) := by decide +kernel
theorem dX6_throwOrHandle_71 : decode cX6_throwOrHandle 71 = .ok (.putfield 167, 3) := by decide +kernel
theorem dX6_throwOrHandle_74 : decode cX6_throwOrHandle 74 = .ok (.ldc 74, 2) := by decide +kernel
theorem dX6_throwOrHandle_76 : decode cX6_throwOrHandle 76 = .ok (.ireturn, 1) := by decide +kernel
