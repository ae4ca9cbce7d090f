theorem dX7_choose_147 : decode cX7_choose 147 = .ok (.iload 11, 2) := by decide +kernel
theorem dX7_choose_149 : decode cX7_choose 149 = .ok (.iload 5, 2) := by decide +kernel
theorem dX7_choose_151 : decode cX7_choose 151 = .ok (.aload_n 0, 1) := by decide +kernel
theorem dX7_choose_152 : decode cX7_choose 152 = .ok (.getfield 18, 3) := by decide +kernel
theorem dX7_choose_155 : decode cX7_choose 155 = .ok (.iload 7, 2) := by decide +kernel
theorem dX7_choose_157 : decode cX7_choose 157 = .ok (.iaload, 1) := by decide +kernel
theorem dX7_choose_158 : decode cX7_choose 158 = .ok (.iadd, 1) := by decide +kernel
theorem dX7_choose_159 : decode cX7_choose 159 = .ok (.iload 6, 2) := by decide +kernel
theorem dX7_choose_161 : decode cX7_choose 161 = .ok (.iconst 1, 1) := by decide +kernel
theorem dX7_choose_162 : decode cX7_choose 162 = .ok (.iload 7, 2) := by decide +kernel
theorem dX7_choose_164 : decode cX7_choose 164 = .ok (.ishl, 1) := by decide +kernel
theorem dX7_choose_165 : decode cX7_choose 165 = .ok (.ior, 1) := by decide +kernel
theorem dX7_choose_166 : decode cX7_choose 166 = .ok (.invokevirtual 40, 3) := by decide +kernel
theorem dX7_choose_169 : decode cX7_choose 169 = .ok (.return_, 1) := by decide +kernel
theorem dX7_offer_0 : decode cX7_offer 0 = .ok (.iload_n 1, 1) := by decide +kernel
theorem dX7_offer_1 : decode cX7_offer 1 = .ok (.aload_n 0, 1) := by decide +kernel
theorem dX7_offer_2 : decode cX7_offer 2 = .ok (.getfield 34, 3) := by decide +kernel
theorem dX7_offer_5 : decode cX7_offer 5 = .ok (.if_icmp .gt 19, 3) := by decide +kernel
theorem dX7_offer_8 : decode cX7_offer 8 = .ok (.iload_n 1, 1) := by decide +kernel
theorem dX7_offer_9 : decode cX7_offer 9 = .ok (.aload_n 0, 1) := by decide +kernel
theorem dX7_offer_10 : decode cX7_offer 10 = .ok (.getfield 34, 3) := by decide +kernel
theorem dX7_offer_13 : decode cX7_offer 13 = .ok (.if_icmp .ne 21, 3) := by decide +kernel
theorem dX7_offer_16 : decode cX7_offer 16 = .ok (.iload_n 2, 1) := by decide +kernel
theorem dX7_offer_17 : decode cX7_offer 17 = .ok (.aload_n 0, 1) := by decide +kernel
theorem dX7_offer_18 : decode cX7_offer 18 = .ok (.getfield 37, 3) := by decide +kernel
theorem dX7_offer_21 : decode cX7_offer 21 = .ok (.if_icmp .ge 13, 3) := by decide +kernel
theorem dX7_offer_24 : decode cX7_offer 24 = .ok (.aload_n 0, 1) := by decide +kernel
theorem dX7_offer_25 : decode cX7_offer 25 = .ok (.iload_n 1, 1) := by decide +kernel
theorem dX7_offer_26 : decode cX7_offer 26 = .ok (.putfield 34, 3) := by decide +kernel
theorem dX7_offer_29 : decode cX7_offer 29 = .ok (.aload_n 0, 1) := by decide +kernel
theorem dX7_offer_30 : decode cX7_offer 30 = .ok (.iload_n 2, 1) := by decide +kernel
theorem dX7_offer_31 : decode cX7_offer 31 = .ok (.putfield 37, 3) := by decide +kernel
theorem dX7_offer_34 : decode cX7_offer 34 = .ok (.return_, 1) := by decide +kernel
theorem dX8_init_0 : decode cX8_init 0 = .ok (.aload_n 0, 1) := by decide +kernel
theorem dX8_init_1 : decode cX8_init 1 = .ok (.invokespecial 1, 3) := by decide +kernel
theorem dX8_init_4 : decode cX8_init 4 = .ok (.aload_n 0, 1) := by decide +kernel
theorem dX8_init_5 : decode cX8_init 5 = .ok (.iconst 3, 1) := by decide +kernel
theorem dX8_init_6 : decode cX8_init 6 = .ok (.newarray .int, 2) := by decide +kernel
theorem dX8_init_8 : decode cX8_init 8 = .ok (.dup, 1) := by decide +kernel
theorem dX8_init_9 : decode cX8_init 9 = .ok (.iconst 0, 1) := by decide +kernel
theorem dX8_init_10 : decode cX8_init 10 = .ok (.bipush 10, 2) := by decide +kernel
theorem dX8_init_12 : decode cX8_init 12 = .ok (.iastore, 1) := by decide +kernel
theorem dX8_init_13 : decode cX8_init 13 = .ok (.dup, 1) := by decide +kernel
theorem dX8_init_14 : decode cX8_init 14 = .ok (.iconst 1, 1) := by decide +kernel
theorem dX8_init_15 : decode cX8_init 15 = .ok (.bipush 10, 2) := by decide +kernel
theorem dX8_init_17 : decode cX8_init 17 = .ok (.iastore, 1) := by decide +kernel
theorem dX8_init_18 : decode cX8_init 18 = .ok (.dup, 1) := by decide +kernel
theorem dX8_init_19 : decode cX8_init 19 = .ok (.iconst 2, 1) := by decide +kernel
theorem dX8_init_20 : decode cX8_init 20 = .ok (.bipush 90, 2) := by decide +kernel
theorem dX8_init_22 : decode cX8_init 22 = .ok (.iastore, 1) := by decide +kernel
theorem dX8_init_23 : decode cX8_init 23 = .ok (.putfield 7, 3) := by decide +kernel
theorem dX8_init_26 : decode cX8_init 26 = .ok (.aload_n 0, 1) := by decide +kernel
theorem dX8_init_27 : decode cX8_init 27 = .ok (.new 13, 3) := by decide +kernel
theorem dX8_init_30 : decode cX8_init 30 = .ok (.dup, 1) := by decide +kernel
theorem dX8_init_31 : decode cX8_init 31 = .ok (.invokespecial 15, 3) := by decide +kernel
theorem dX8_init_34 : decode cX8_init 34 = .ok (.putfield 16, 3) := by decide +kernel
theorem dX8_init_37 : decode cX8_init 37 = .ok (.aload_n 0, 1) := by decide +kernel
theorem dX8_init_38 : decode cX8_init 38 = .ok (.new 20, 3) := by decide +kernel
theorem dX8_init_41 : decode cX8_init 41 = .ok (.dup, 1) := by decide +kernel
theorem dX8_init_42 : decode cX8_init 42 = .ok (.aload_n 0, 1) := by decide +kernel
theorem dX8_init_43 : decode cX8_init 43 = .ok (.getfield 16, 3) := by decide +kernel
theorem dX8_init_46 : decode cX8_init 46 = .ok (.aload_n 0, 1) := by decide +kernel
theorem dX8_init_47 : decode cX8_init 47 = .ok (.getfield 7, 3) := by decide +kernel
theorem dX8_init_50 : decode cX8_init 50 = .ok (.invokespecial 22, 3) := by decide +kernel
theorem dX8_init_53 : decode cX8_init 53 = .ok (.putfield 25, 3) := by decide +kernel
theorem dX8_init_56 : decode cX8_init 56 = .ok (.new 29, 3) := by decide +kernel
theorem dX8_init_59 : decode cX8_init 59 = .ok (.dup, 1) := by decide +kernel
theorem dX8_init_60 : decode cX8_init 60 = .ok (.invokespecial 31, 3) := by decide +kernel
theorem dX8_init_63 : decode cX8_init 63 = .ok (.astore_n 1, 1) := by decide +kernel
theorem dX8_init_64 : decode cX8_init 64 = .ok (.aload_n 0, 1) := by decide +kernel
theorem dX8_init_65 : decode cX8_init 65 = .ok (.new 32, 3) := by decide +kernel
theorem dX8_init_68 : decode cX8_init 68 = .ok (.dup, 1) := by decide +kernel
theorem dX8_init_69 : decode cX8_init 69 = .ok (.aload_n 0, 1) := by decide +kernel
theorem dX8_init_70 : decode cX8_init 70 = .ok (.getfield 25, 3) := by decide +kernel
theorem dX8_init_73 : decode cX8_init 73 = .ok (.aload_n 1, 1) := by decide +kernel
theorem dX8_init_74 : decode cX8_init 74 = .ok (.invokespecial 34, 3) := by decide +kernel
theorem dX8_init_77 : decode cX8_init 77 = .ok (.putfield 37, 3) := by decide +kernel
theorem dX8_init_80 : decode cX8_init 80 = .ok (.aload_n 0, 1) := by decide +kernel
theorem dX8_init_81 : decode cX8_init 81 = .ok (.new 41, 3) := by decide +kernel
theorem dX8_init_84 : decode cX8_init 84 = .ok (.dup, 1) := by decide +kernel
theorem dX8_init_85 : decode cX8_init 85 = .ok (.aload_n 0, 1) := by decide +kernel
theorem dX8_init_86 : decode cX8_init 86 = .ok (.getfield 25, 3) := by decide +kernel
theorem dX8_init_89 : decode cX8_init 89 = .ok (.aload_n 1, 1) := by decide +kernel
theorem dX8_init_90 : decode cX8_init 90 = .ok (.invokespecial 43, 3) := by decide +kernel
theorem dX8_init_93 : decode cX8_init 93 = .ok (.putfield 44, 3) := by decide +kernel
theorem dX8_init_96 : decode cX8_init 96 = .ok (.aload_n 0, 1) := by decide +kernel
theorem dX8_init_97 : decode cX8_init 97 = .ok (.new 48, 3) := by decide +kernel
theorem dX8_init_100 : decode cX8_init 100 = .ok (.dup, 1) := by decide +kernel
theorem dX8_init_101 : decode cX8_init 101 = .ok (.invokespecial 50, 3) := by decide +kernel
theorem dX8_init_104 : decode cX8_init 104 = .ok (.putfield 51, 3) := by decide +kernel
theorem dX8_init_107 : decode cX8_init 107 = .ok (.aload_n 0, 1) := by decide +kernel
theorem dX8_init_108 : decode cX8_init 108 = .ok (.new 55, 3) := by decide +kernel
theorem dX8_init_111 : decode cX8_init 111 = .ok (.dup, 1) := by decide +kernel
theorem dX8_init_112 : decode cX8_init 112 = .ok (.aload_n 0, 1) := by decide +kernel
theorem dX8_init_113 : decode cX8_init 113 = .ok (.getfield 25, 3) := by decide +kernel
theorem dX8_init_116 : decode cX8_init 116 = .ok (.aload_n 0, 1) := by decide +kernel
theorem dX8_init_117 : decode cX8_init 117 = .ok (.getfield 51, 3) := by decide +kernel
theorem dX8_init_120 : decode cX8_init 120 = .ok (.invokespecial 57, 3) := by decide +kernel
theorem dX8_init_123 : decode cX8_init 123 = .ok (.putfield 60, 3) := by decide +kernel
theorem dX8_init_126 : decode cX8_init 126 = .ok (.aload_n 0, 1) := by decide +kernel
theorem dX8_init_127 : decode cX8_init 127 = .ok (.new 55, 3) := by decide +kernel
theorem dX8_init_130 : decode cX8_init 130 = .ok (.dup, 1) := by decide +kernel
theorem dX8_init_131 : decode cX8_init 131 = .ok (.aload_n 0, 1) := by decide +kernel
theorem dX8_init_132 : decode cX8_init 132 = .ok (.getfield 25, 3) := by decide +kernel
theorem dX8_init_135 : decode cX8_init 135 = .ok (.aload_n 0, 1) := by decide +kernel
theorem dX8_init_136 : decode cX8_init 136 = .ok (.getfield 51, 3) := by decide +kernel
theorem dX8_init_139 : decode cX8_init 139 = .ok (.invokespecial 57, 3) := by decide +kernel
theorem dX8_init_142 : decode cX8_init 142 = .ok (.putfield 64, 3) := by decide +kernel
theorem dX8_init_145 : decode cX8_init 145 = .ok (.aload_n 0, 1) := by decide +kernel
theorem dX8_init_146 : decode cX8_init 146 = .ok (.new 55, 3) := by decide +kernel
theorem dX8_init_149 : decode cX8_init 149 = .ok (.dup, 1) := by decide +kernel
theorem dX8_init_150 : decode cX8_init 150 = .ok (.aload_n 0, 1) := by decide +kernel
theorem dX8_init_151 : decode cX8_init 151 = .ok (.getfield 25, 3) := by decide +kernel
theorem dX8_init_154 : decode cX8_init 154 = .ok (.aload_n 0, 1) := by decide +kernel
theorem dX8_init_155 : decode cX8_init 155 = .ok (.getfield 51, 3) := by decide +kernel
theorem dX8_init_158 : decode cX8_init 158 = .ok (.invokespecial 57, 3) := by decide +kernel
theorem dX8_init_161 : decode cX8_init 161 = .ok (.putfield 67, 3) := by decide +kernel
theorem dX8_init_164 : decode cX8_init 164 = .ok (.aload_n 0, 1) := by decide +kernel
theorem dX8_init_165 : decode cX8_init 165 = .ok (.iconst 0, 1) := by decide +kernel
theorem dX8_init_166 : decode cX8_init 166 = .ok (.putfield 70, 3) := by decide +kernel
theorem dX8_init_169 : decode cX8_init 169 = .ok (.aload_n 0, 1) := by decide +kernel
theorem dX8_init_170 : decode cX8_init 170 = .ok (.new 74, 3) := by decide +kernel
theorem dX8_init_173 : decode cX8_init 173 = .ok (.dup, 1) := by decide +kernel
theorem dX8_init_174 : decode cX8_init 174 = .ok (.invokespecial 76, 3) := by decide +kernel
theorem dX8_init_177 : decode cX8_init 177 = .ok (.putfield 77, 3) := by decide +kernel
theorem dX8_init_180 : decode cX8_init 180 = .ok (.return_, 1) := by decide +kernel
theorem dX8_engine_0 : decode cX8_engine 0 = .ok (.iload_n 1, 1) := by decide +kernel
theorem dX8_engine_1 : decode cX8_engine 1 = .ok (.iconst 1, 1) := by decide +kernel
theorem dX8_engine_2 : decode cX8_engine 2 = .ok (.sipush 999, 3) := by decide +kernel
theorem dX8_engine_5 : decode cX8_engine 5 = .ok (.invokestatic 81, 3) := by decide +kernel
theorem dX8_engine_8 : decode cX8_engine 8 = .ok (.ifCond .eq 14, 3) := by decide +kernel
theorem dX8_engine_11 : decode cX8_engine 11 = .ok (.iload_n 2, 1) := by decide +kernel
theorem dX8_engine_12 : decode cX8_engine 12 = .ok (.iconst 1, 1) := by decide +kernel
theorem dX8_engine_13 : decode cX8_engine 13 = .ok (.sipush 999, 3) := by decide +kernel
theorem dX8_engine_16 : decode cX8_engine 16 = .ok (.invokestatic 81, 3) := by decide +kernel
theorem dX8_engine_19 : decode cX8_engine 19 = .ok (.ifCond .ne 6, 3) := by decide +kernel
theorem dX8_engine_22 : decode cX8_engine 22 = .ok (.bipush (-2), 2) := by decide +kernel
theorem dX8_engine_24 : decode cX8_engine 24 = .ok (.ireturn, 1) := by decide +kernel
theorem dX8_engine_25 : decode cX8_engine 25 = .ok (.iload_n 3, 1) := by decide +kernel
theorem dX8_engine_26 : decode cX8_engine 26 = .ok (.iconst 1, 1) := by decide +kernel
theorem dX8_engine_27 : decode cX8_engine 27 = .ok (.bipush 99, 2) := by decide +kernel
theorem dX8_engine_29 : decode cX8_engine 29 = .ok (.invokestatic 81, 3) := by decide +kernel
theorem dX8_engine_32 : decode cX8_engine 32 = .ok (.ifCond .eq 15, 3) := by decide +kernel
theorem dX8_engine_35 : decode cX8_engine 35 = .ok (.iload 4, 2) := by decide +kernel
theorem dX8_engine_37 : decode cX8_engine 37 = .ok (.iconst 1, 1) := by decide +kernel
theorem dX8_engine_38 : decode cX8_engine 38 = .ok (.sipush 9999, 3) := by decide +kernel
theorem dX8_engine_41 : decode cX8_engine 41 = .ok (.invokestatic 81, 3) := by decide +kernel
theorem dX8_engine_44 : decode cX8_engine 44 = .ok (.ifCond .ne 6, 3) := by decide +kernel
theorem dX8_engine_47 : decode cX8_engine 47 = .ok (.bipush (-2), 2) := by decide +kernel
theorem dX8_engine_49 : decode cX8_engine 49 = .ok (.ireturn, 1) := by decide +kernel
theorem dX8_engine_50 : decode cX8_engine 50 = .ok (.aload_n 0, 1) := by decide +kernel
theorem dX8_engine_51 : decode cX8_engine 51 = .ok (.getfield 16, 3) := by decide +kernel
theorem dX8_engine_54 : decode cX8_engine 54 = .ok (.iload_n 1, 1) := by decide +kernel
theorem dX8_engine_55 : decode cX8_engine 55 = .ok (.iload_n 2, 1) := by decide +kernel
theorem dX8_engine_56 : decode cX8_engine 56 = .ok (.iload_n 3, 1) := by decide +kernel
theorem dX8_engine_57 : decode cX8_engine 57 = .ok (.iload 4, 2) := by decide +kernel
theorem dX8_engine_59 : decode cX8_engine 59 = .ok (.invokevirtual 85, 3) := by decide +kernel
theorem dX8_engine_62 : decode cX8_engine 62 = .ok (.ireturn, 1) := by decide +kernel
theorem dX8_store_0 : decode cX8_store 0 = .ok (.aload_n 0, 1) := by decide +kernel
theorem dX8_store_1 : decode cX8_store 1 = .ok (.getfield 16, 3) := by decide +kernel
theorem dX8_store_4 : decode cX8_store 4 = .ok (.iload_n 1, 1) := by decide +kernel
theorem dX8_store_5 : decode cX8_store 5 = .ok (.invokevirtual 89, 3) := by decide +kernel
theorem dX8_store_8 : decode cX8_store 8 = .ok (.ifCond .ne 5, 3) := by decide +kernel
theorem dX8_store_11 : decode cX8_store 11 = .ok (.iconst (-1), 1) := by decide +kernel
theorem dX8_store_12 : decode cX8_store 12 = .ok (.ireturn, 1) := by decide +kernel
theorem dX8_store_13 : decode cX8_store 13 = .ok (.iload_n 2, 1) := by decide +kernel
theorem dX8_store_14 : decode cX8_store 14 = .ok (.iconst 1, 1) := by decide +kernel
theorem dX8_store_15 : decode cX8_store 15 = .ok (.bipush 99, 2) := by decide +kernel
theorem dX8_store_17 : decode cX8_store 17 = .ok (.invokestatic 81, 3) := by decide +kernel
theorem dX8_store_20 : decode cX8_store 20 = .ok (.ifCond .ne 6, 3) := by decide +kernel
theorem dX8_store_23 : decode cX8_store 23 = .ok (.bipush (-2), 2) := by decide +kernel
theorem dX8_store_25 : decode cX8_store 25 = .ok (.ireturn, 1) := by decide +kernel
theorem dX8_store_26 : decode cX8_store 26 = .ok (.aload_n 0, 1) := by decide +kernel
theorem dX8_store_27 : decode cX8_store 27 = .ok (.getfield 16, 3) := by decide +kernel
theorem dX8_store_30 : decode cX8_store 30 = .ok (.getfield 93, 3) := by decide +kernel
theorem dX8_store_33 : decode cX8_store 33 = .ok (.iload_n 1, 1) := by decide +kernel
theorem dX8_store_34 : decode cX8_store 34 = .ok (.iaload, 1) := by decide +kernel
theorem dX8_store_35 : decode cX8_store 35 = .ok (.iload_n 2, 1) := by decide +kernel
theorem dX8_store_36 : decode cX8_store 36 = .ok (.iadd, 1) := by decide +kernel
theorem dX8_store_37 : decode cX8_store 37 = .ok (.istore_n 3, 1) := by decide +kernel
theorem dX8_store_38 : decode cX8_store 38 = .ok (.iload_n 3, 1) := by decide +kernel
theorem dX8_store_39 : decode cX8_store 39 = .ok (.bipush 99, 2) := by decide +kernel
theorem dX8_store_41 : decode cX8_store 41 = .ok (.if_icmp .le 6, 3) := by decide +kernel
theorem dX8_store_44 : decode cX8_store 44 = .ok (.bipush (-4), 2) := by decide +kernel
theorem dX8_store_46 : decode cX8_store 46 = .ok (.ireturn, 1) := by decide +kernel
theorem dX8_store_47 : decode cX8_store 47 = .ok (.aload_n 0, 1) := by decide +kernel
theorem dX8_store_48 : decode cX8_store 48 = .ok (.getfield 16, 3) := by decide +kernel
theorem dX8_store_51 : decode cX8_store 51 = .ok (.getfield 93, 3) := by decide +kernel
theorem dX8_store_54 : decode cX8_store 54 = .ok (.iload_n 1, 1) := by decide +kernel
theorem dX8_store_55 : decode cX8_store 55 = .ok (.iload_n 3, 1) := by decide +kernel
theorem dX8_store_56 : decode cX8_store 56 = .ok (.iastore, 1) := by decide +kernel
theorem dX8_store_57 : decode cX8_store 57 = .ok (.iload_n 3, 1) := by decide +kernel
theorem dX8_store_58 : decode cX8_store 58 = .ok (.ireturn, 1) := by decide +kernel
theorem dX8_stage_0 : decode cX8_stage 0 = .ok (.aload_n 0, 1) := by decide +kernel
theorem dX8_stage_1 : decode cX8_stage 1 = .ok (.getfield 16, 3) := by decide +kernel
theorem dX8_stage_4 : decode cX8_stage 4 = .ok (.iload_n 1, 1) := by decide +kernel
theorem dX8_stage_5 : decode cX8_stage 5 = .ok (.invokevirtual 89, 3) := by decide +kernel
theorem dX8_stage_8 : decode cX8_stage 8 = .ok (.ifCond .ne 5, 3) := by decide +kernel
theorem dX8_stage_11 : decode cX8_stage 11 = .ok (.iconst (-1), 1) := by decide +kernel
theorem dX8_stage_12 : decode cX8_stage 12 = .ok (.ireturn, 1) := by decide +kernel
theorem dX8_stage_13 : decode cX8_stage 13 = .ok (.iload_n 2, 1) := by decide +kernel
theorem dX8_stage_14 : decode cX8_stage 14 = .ok (.iconst 1, 1) := by decide +kernel
theorem dX8_stage_15 : decode cX8_stage 15 = .ok (.bipush 9, 2) := by decide +kernel
theorem dX8_stage_17 : decode cX8_stage 17 = .ok (.invokestatic 81, 3) := by decide +kernel
theorem dX8_stage_20 : decode cX8_stage 20 = .ok (.ifCond .eq 25, 3) := by decide +kernel
theorem dX8_stage_23 : decode cX8_stage 23 = .ok (.iload_n 3, 1) := by decide +kernel
theorem dX8_stage_24 : decode cX8_stage 24 = .ok (.iconst 0, 1) := by decide +kernel
theorem dX8_stage_25 : decode cX8_stage 25 = .ok (.sipush 600, 3) := by decide +kernel
theorem dX8_stage_28 : decode cX8_stage 28 = .ok (.invokestatic 81, 3) := by decide +kernel
theorem dX8_stage_31 : decode cX8_stage 31 = .ok (.ifCond .eq 14, 3) := by decide +kernel
theorem dX8_stage_34 : decode cX8_stage 34 = .ok (.iload 4, 2) := by decide +kernel
theorem dX8_stage_36 : decode cX8_stage 36 = .ok (.iconst 0, 1) := by decide +kernel
theorem dX8_stage_37 : decode cX8_stage 37 = .ok (.bipush 99, 2) := by decide +kernel
theorem dX8_stage_39 : decode cX8_stage 39 = .ok (.invokestatic 81, 3) := by decide +kernel
theorem dX8_stage_42 : decode cX8_stage 42 = .ok (.ifCond .ne 6, 3) := by decide +kernel
theorem dX8_stage_45 : decode cX8_stage 45 = .ok (.bipush (-2), 2) := by decide +kernel
theorem dX8_stage_47 : decode cX8_stage 47 = .ok (.ireturn, 1) := by decide +kernel
theorem dX8_stage_48 : decode cX8_stage 48 = .ok (.aload_n 0, 1) := by decide +kernel
theorem dX8_stage_49 : decode cX8_stage 49 = .ok (.getfield 25, 3) := by decide +kernel
theorem dX8_stage_52 : decode cX8_stage 52 = .ok (.iload_n 1, 1) := by decide +kernel
theorem dX8_stage_53 : decode cX8_stage 53 = .ok (.iload_n 2, 1) := by decide +kernel
theorem dX8_stage_54 : decode cX8_stage 54 = .ok (.iload_n 3, 1) := by decide +kernel
theorem dX8_stage_55 : decode cX8_stage 55 = .ok (.iload 4, 2) := by decide +kernel
theorem dX8_stage_57 : decode cX8_stage 57 = .ok (.invokevirtual 96, 3) := by decide +kernel
theorem dX8_stage_60 : decode cX8_stage 60 = .ok (.ireturn, 1) := by decide +kernel
theorem dX8_undo_0 : decode cX8_undo 0 = .ok (.aload_n 0, 1) := by decide +kernel
theorem dX8_undo_1 : decode cX8_undo 1 = .ok (.getfield 25, 3) := by decide +kernel
theorem dX8_undo_4 : decode cX8_undo 4 = .ok (.getfield 99, 3) := by decide +kernel
theorem dX8_undo_7 : decode cX8_undo 7 = .ok (.ifCond .ne 6, 3) := by decide +kernel
theorem dX8_undo_10 : decode cX8_undo 10 = .ok (.bipush (-3), 2) := by decide +kernel
theorem dX8_undo_12 : decode cX8_undo 12 = .ok (.ireturn, 1) := by decide +kernel
theorem dX8_undo_13 : decode cX8_undo 13 = .ok (.aload_n 0, 1) := by decide +kernel
theorem dX8_undo_14 : decode cX8_undo 14 = .ok (.getfield 25, 3) := by decide +kernel
theorem dX8_undo_17 : decode cX8_undo 17 = .ok (.dup, 1) := by decide +kernel
theorem dX8_undo_18 : decode cX8_undo 18 = .ok (.getfield 99, 3) := by decide +kernel
theorem dX8_undo_21 : decode cX8_undo 21 = .ok (.iconst 1, 1) := by decide +kernel
theorem dX8_undo_22 : decode cX8_undo 22 = .ok (.isub, 1) := by decide +kernel
theorem dX8_undo_23 : decode cX8_undo 23 = .ok (.putfield 99, 3) := by decide +kernel
theorem dX8_undo_26 : decode cX8_undo 26 = .ok (.aload_n 0, 1) := by decide +kernel
theorem dX8_undo_27 : decode cX8_undo 27 = .ok (.getfield 25, 3) := by decide +kernel
theorem dX8_undo_30 : decode cX8_undo 30 = .ok (.getfield 99, 3) := by decide +kernel
theorem dX8_undo_33 : decode cX8_undo 33 = .ok (.ireturn, 1) := by decide +kernel
theorem dX8_stuff_0 : decode cX8_stuff 0 = .ok (.aload_n 0, 1) := by decide +kernel
theorem dX8_stuff_1 : decode cX8_stuff 1 = .ok (.getfield 25, 3) := by decide +kernel
theorem dX8_stuff_4 : decode cX8_stuff 4 = .ok (.iload_n 1, 1) := by decide +kernel
theorem dX8_stuff_5 : decode cX8_stuff 5 = .ok (.invokevirtual 103, 3) := by decide +kernel
theorem dX8_stuff_8 : decode cX8_stuff 8 = .ok (.ifCond .ne 5, 3) := by decide +kernel
theorem dX8_stuff_11 : decode cX8_stuff 11 = .ok (.iconst (-1), 1) := by decide +kernel
theorem dX8_stuff_12 : decode cX8_stuff 12 = .ok (.ireturn, 1) := by decide +kernel
theorem dX8_stuff_13 : decode cX8_stuff 13 = .ok (.iload_n 2, 1) := by decide +kernel
theorem dX8_stuff_14 : decode cX8_stuff 14 = .ok (.iconst 0, 1) := by decide +kernel
theorem dX8_stuff_15 : decode cX8_stuff 15 = .ok (.sipush 600, 3) := by decide +kernel
theorem dX8_stuff_18 : decode cX8_stuff 18 = .ok (.invokestatic 81, 3) := by decide +kernel
theorem dX8_stuff_21 : decode cX8_stuff 21 = .ok (.ifCond .ne 6, 3) := by decide +kernel
theorem dX8_stuff_24 : decode cX8_stuff 24 = .ok (.bipush (-2), 2) := by decide +kernel
theorem dX8_stuff_26 : decode cX8_stuff 26 = .ok (.ireturn, 1) := by decide +kernel
theorem dX8_stuff_27 : decode cX8_stuff 27 = .ok (.aload_n 0, 1) := by decide +kernel
theorem dX8_stuff_28 : decode cX8_stuff 28 = .ok (.getfield 25, 3) := by decide +kernel
theorem dX8_stuff_31 : decode cX8_stuff 31 = .ok (.getfield 104, 3) := by decide +kernel
theorem dX8_stuff_34 : decode cX8_stuff 34 = .ok (.iload_n 1, 1) := by decide +kernel
theorem dX8_stuff_35 : decode cX8_stuff 35 = .ok (.iload_n 2, 1) := by decide +kernel
theorem dX8_stuff_36 : decode cX8_stuff 36 = .ok (.invokestatic 107, 3) := by decide +kernel
theorem dX8_stuff_39 : decode cX8_stuff 39 = .ok (.ireturn, 1) := by decide +kernel
theorem dX8_set_0 : decode cX8_set 0 = .ok (.iload_n 1, 1) := by decide +kernel
theorem dX8_set_1 : decode cX8_set 1 = .ok (.iconst 0, 1) := by decide +kernel
theorem dX8_set_2 : decode cX8_set 2 = .ok (.iconst 2, 1) := by decide +kernel
theorem dX8_set_3 : decode cX8_set 3 = .ok (.invokestatic 81, 3) := by decide +kernel
theorem dX8_set_6 : decode cX8_set 6 = .ok (.ifCond .ne 5, 3) := by decide +kernel
theorem dX8_set_9 : decode cX8_set 9 = .ok (.iconst (-1), 1) := by decide +kernel
theorem dX8_set_10 : decode cX8_set 10 = .ok (.ireturn, 1) := by decide +kernel
theorem dX8_set_11 : decode cX8_set 11 = .ok (.iload_n 2, 1) := by decide +kernel
theorem dX8_set_12 : decode cX8_set 12 = .ok (.getstatic 111, 3) := by decide +kernel
theorem dX8_set_15 : decode cX8_set 15 = .ok (.iload_n 1, 1) := by decide +kernel
theorem dX8_set_16 : decode cX8_set 16 = .ok (.iaload, 1) := by decide +kernel
theorem dX8_set_17 : decode cX8_set 17 = .ok (.getstatic 114, 3) := by decide +kernel
theorem dX8_set_20 : decode cX8_set 20 = .ok (.iload_n 1, 1) := by decide +kernel
theorem dX8_set_21 : decode cX8_set 21 = .ok (.iaload, 1) := by decide +kernel
theorem dX8_set_22 : decode cX8_set 22 = .ok (.invokestatic 81, 3) := by decide +kernel
theorem dX8_set_25 : decode cX8_set 25 = .ok (.ifCond .ne 6, 3) := by decide +kernel
theorem dX8_set_28 : decode cX8_set 28 = .ok (.bipush (-2), 2) := by decide +kernel
theorem dX8_set_30 : decode cX8_set 30 = .ok (.ireturn, 1) := by decide +kernel
theorem dX8_set_31 : decode cX8_set 31 = .ok (.aload_n 0, 1) := by decide +kernel
theorem dX8_set_32 : decode cX8_set 32 = .ok (.getfield 7, 3) := by decide +kernel
theorem dX8_set_35 : decode cX8_set 35 = .ok (.iload_n 1, 1) := by decide +kernel
theorem dX8_set_36 : decode cX8_set 36 = .ok (.iload_n 2, 1) := by decide +kernel
theorem dX8_set_37 : decode cX8_set 37 = .ok (.invokestatic 107, 3) := by decide +kernel
theorem dX8_set_40 : decode cX8_set 40 = .ok (.ireturn, 1) := by decide +kernel
theorem dX8_about_0 : decode cX8_about 0 = .ok (.aload_n 0, 1) := by decide +kernel
theorem dX8_about_1 : decode cX8_about 1 = .ok (.getfield 25, 3) := by decide +kernel
theorem dX8_about_4 : decode cX8_about 4 = .ok (.iload_n 1, 1) := by decide +kernel
theorem dX8_about_5 : decode cX8_about 5 = .ok (.invokevirtual 103, 3) := by decide +kernel
theorem dX8_about_8 : decode cX8_about 8 = .ok (.ifCond .ne 5, 3) := by decide +kernel
theorem dX8_about_11 : decode cX8_about 11 = .ok (.iconst (-1), 1) := by decide +kernel
theorem dX8_about_12 : decode cX8_about 12 = .ok (.ireturn, 1) := by decide +kernel
theorem dX8_about_13 : decode cX8_about 13 = .ok (.iload_n 2, 1) := by decide +kernel
theorem dX8_about_14 : decode cX8_about 14 = .ok (.tableswitch 136 0 8 #[50, 60, 70, 80, 90, 99, 108, 118, 127], 50) := by decide +kernel
theorem dX8_about_64 : decode cX8_about 64 = .ok (.aload_n 0, 1) := by decide +kernel
theorem dX8_about_65 : decode cX8_about 65 = .ok (.getfield 25, 3) := by decide +kernel
theorem dX8_about_68 : decode cX8_about 68 = .ok (.getfield 117, 3) := by decide +kernel
theorem dX8_about_71 : decode cX8_about 71 = .ok (.iload_n 1, 1) := by decide +kernel
theorem dX8_about_72 : decode cX8_about 72 = .ok (.iaload, 1) := by decide +kernel
theorem dX8_about_73 : decode cX8_about 73 = .ok (.ireturn, 1) := by decide +kernel
theorem dX8_about_74 : decode cX8_about 74 = .ok (.aload_n 0, 1) := by decide +kernel
theorem dX8_about_75 : decode cX8_about 75 = .ok (.getfield 25, 3) := by decide +kernel
theorem dX8_about_78 : decode cX8_about 78 = .ok (.getfield 120, 3) := by decide +kernel
theorem dX8_about_81 : decode cX8_about 81 = .ok (.iload_n 1, 1) := by decide +kernel
theorem dX8_about_82 : decode cX8_about 82 = .ok (.iaload, 1) := by decide +kernel
theorem dX8_about_83 : decode cX8_about 83 = .ok (.ireturn, 1) := by decide +kernel
theorem dX8_about_84 : decode cX8_about 84 = .ok (.aload_n 0, 1) := by decide +kernel
theorem dX8_about_85 : decode cX8_about 85 = .ok (.getfield 25, 3) := by decide +kernel
theorem dX8_about_88 : decode cX8_about 88 = .ok (.getfield 104, 3) := by decide +kernel
theorem dX8_about_91 : decode cX8_about 91 = .ok (.iload_n 1, 1) := by decide +kernel
theorem dX8_about_92 : decode cX8_about 92 = .ok (.iaload, 1) := by decide +kernel
theorem dX8_about_93 : decode cX8_about 93 = .ok (.ireturn, 1) := by decide +kernel
theorem dX8_about_94 : decode cX8_about 94 = .ok (.aload_n 0, 1) := by decide +kernel
theorem dX8_about_95 : decode cX8_about 95 = .ok (.getfield 25, 3) := by decide +kernel
theorem dX8_about_98 : decode cX8_about 98 = .ok (.getfield 123, 3) := by decide +kernel
theorem dX8_about_101 : decode cX8_about 101 = .ok (.iload_n 1, 1) := by decide +kernel
theorem dX8_about_102 : decode cX8_about 102 = .ok (.iaload, 1) := by decide +kernel
theorem dX8_about_103 : decode cX8_about 103 = .ok (.ireturn, 1) := by decide +kernel
theorem dX8_about_104 : decode cX8_about 104 = .ok (.aload_n 0, 1) := by decide +kernel
theorem dX8_about_105 : decode cX8_about 105 = .ok (.getfield 25, 3) := by decide +kernel
theorem dX8_about_108 : decode cX8_about 108 = .ok (.iload_n 1, 1) := by decide +kernel
theorem dX8_about_109 : decode cX8_about 109 = .ok (.invokevirtual 126, 3) := by decide +kernel
theorem dX8_about_112 : decode cX8_about 112 = .ok (.ireturn, 1) := by decide +kernel
theorem dX8_about_113 : decode cX8_about 113 = .ok (.aload_n 0, 1) := by decide +kernel
theorem dX8_about_114 : decode cX8_about 114 = .ok (.getfield 25, 3) := by decide +kernel
theorem dX8_about_117 : decode cX8_about 117 = .ok (.iload_n 1, 1) := by decide +kernel
theorem dX8_about_118 : decode cX8_about 118 = .ok (.invokevirtual 130, 3) := by decide +kernel
theorem dX8_about_121 : decode cX8_about 121 = .ok (.ireturn, 1) := by decide +kernel
theorem dX8_about_122 : decode cX8_about 122 = .ok (.aload_n 0, 1) := by decide +kernel
theorem dX8_about_123 : decode cX8_about 123 = .ok (.getfield 25, 3) := by decide +kernel
theorem dX8_about_126 : decode cX8_about 126 = .ok (.iload_n 1, 1) := by decide +kernel
theorem dX8_about_127 : decode cX8_about 127 = .ok (.iconst 0, 1) := by decide +kernel
theorem dX8_about_128 : decode cX8_about 128 = .ok (.invokevirtual 133, 3) := by decide +kernel
theorem dX8_about_131 : decode cX8_about 131 = .ok (.ireturn, 1) := by decide +kernel
theorem dX8_about_132 : decode cX8_about 132 = .ok (.aload_n 0, 1) := by decide +kernel
theorem dX8_about_133 : decode cX8_about 133 = .ok (.getfield 25, 3) := by decide +kernel
theorem dX8_about_136 : decode cX8_about 136 = .ok (.iload_n 1, 1) := by decide +kernel
theorem dX8_about_137 : decode cX8_about 137 = .ok (.invokevirtual 137, 3) := by decide +kernel
theorem dX8_about_140 : decode cX8_about 140 = .ok (.ireturn, 1) := by decide +kernel
theorem dX8_about_141 : decode cX8_about 141 = .ok (.aload_n 0, 1) := by decide +kernel
theorem dX8_about_142 : decode cX8_about 142 = .ok (.getfield 25, 3) := by decide +kernel
theorem dX8_about_145 : decode cX8_about 145 = .ok (.iload_n 1, 1) := by decide +kernel
theorem dX8_about_146 : decode cX8_about 146 = .ok (.invokevirtual 140, 3) := by decide +kernel
theorem dX8_about_149 : decode cX8_about 149 = .ok (.ireturn, 1) := by decide +kernel
theorem dX8_about_150 : decode cX8_about 150 = .ok (.iconst (-1), 1) := by decide +kernel
theorem dX8_about_151 : decode cX8_about 151 = .ok (.ireturn, 1) := by decide +kernel
theorem dX8_speed_0 : decode cX8_speed 0 = .ok (.iload_n 1, 1) := by decide +kernel
theorem dX8_speed_1 : decode cX8_speed 1 = .ok (.iconst 0, 1) := by decide +kernel
theorem dX8_speed_2 : decode cX8_speed 2 = .ok (.iconst 1, 1) := by decide +kernel
theorem dX8_speed_3 : decode cX8_speed 3 = .ok (.invokestatic 81, 3) := by decide +kernel
theorem dX8_speed_6 : decode cX8_speed 6 = .ok (.ifCond .ne 5, 3) := by decide +kernel
theorem dX8_speed_9 : decode cX8_speed 9 = .ok (.iconst (-1), 1) := by decide +kernel
theorem dX8_speed_10 : decode cX8_speed 10 = .ok (.ireturn, 1) := by decide +kernel
theorem dX8_speed_11 : decode cX8_speed 11 = .ok (.iconst 0, 1) := by decide +kernel
theorem dX8_speed_12 : decode cX8_speed 12 = .ok (.istore_n 2, 1) := by decide +kernel
theorem dX8_speed_13 : decode cX8_speed 13 = .ok (.iconst 0, 1) := by decide +kernel
theorem dX8_speed_14 : decode cX8_speed 14 = .ok (.istore_n 3, 1) := by decide +kernel
theorem dX8_speed_15 : decode cX8_speed 15 = .ok (.iload_n 3, 1) := by decide +kernel
theorem dX8_speed_16 : decode cX8_speed 16 = .ok (.aload_n 0, 1) := by decide +kernel
theorem dX8_speed_17 : decode cX8_speed 17 = .ok (.getfield 25, 3) := by decide +kernel
theorem dX8_speed_20 : decode cX8_speed 20 = .ok (.getfield 99, 3) := by decide +kernel
theorem dX8_speed_23 : decode cX8_speed 23 = .ok (.if_icmp .ge 36, 3) := by decide +kernel
theorem dX8_speed_26 : decode cX8_speed 26 = .ok (.iload_n 2, 1) := by decide +kernel
theorem dX8_speed_27 : decode cX8_speed 27 = .ok (.iload_n 1, 1) := by decide +kernel
theorem dX8_speed_28 : decode cX8_speed 28 = .ok (.ifCond .ne 15, 3) := by decide +kernel
theorem dX8_speed_31 : decode cX8_speed 31 = .ok (.aload_n 0, 1) := by decide +kernel
theorem dX8_speed_32 : decode cX8_speed 32 = .ok (.getfield 25, 3) := by decide +kernel
theorem dX8_speed_35 : decode cX8_speed 35 = .ok (.iload_n 3, 1) := by decide +kernel
theorem dX8_speed_36 : decode cX8_speed 36 = .ok (.iconst 0, 1) := by decide +kernel
theorem dX8_speed_37 : decode cX8_speed 37 = .ok (.invokevirtual 133, 3) := by decide +kernel
theorem dX8_speed_40 : decode cX8_speed 40 = .ok (.goto 11, 3) := by decide +kernel
theorem dX8_speed_43 : decode cX8_speed 43 = .ok (.aload_n 0, 1) := by decide +kernel
theorem dX8_speed_44 : decode cX8_speed 44 = .ok (.getfield 25, 3) := by decide +kernel
theorem dX8_speed_47 : decode cX8_speed 47 = .ok (.iload_n 3, 1) := by decide +kernel
theorem dX8_speed_48 : decode cX8_speed 48 = .ok (.invokevirtual 137, 3) := by decide +kernel
theorem dX8_speed_51 : decode cX8_speed 51 = .ok (.iadd, 1) := by decide +kernel
theorem dX8_speed_52 : decode cX8_speed 52 = .ok (.istore_n 2, 1) := by decide +kernel
theorem dX8_speed_53 : decode cX8_speed 53 = .ok (.iinc 3 1, 3) := by decide +kernel
theorem dX8_speed_56 : decode cX8_speed 56 = .ok (.goto (-41), 3) := by decide +kernel
theorem dX8_speed_59 : decode cX8_speed 59 = .ok (.iload_n 2, 1) := by decide +kernel
theorem dX8_speed_60 : decode cX8_speed 60 = .ok (.ireturn, 1) := by decide +kernel
theorem dX8_split_0 : decode cX8_split 0 = .ok (.iload_n 1, 1) := by decide +kernel
theorem dX8_split_1 : decode cX8_split 1 = .ok (.iconst 0, 1) := by decide +kernel
theorem dX8_split_2 : decode cX8_split 2 = .ok (.bipush 20, 2) := by decide +kernel
theorem dX8_split_4 : decode cX8_split 4 = .ok (.invokestatic 81, 3) := by decide +kernel
theorem dX8_split_7 : decode cX8_split 7 = .ok (.ifCond .eq 13, 3) := by decide +kernel
theorem dX8_split_10 : decode cX8_split 10 = .ok (.iload_n 2, 1) := by decide +kernel
theorem dX8_split_11 : decode cX8_split 11 = .ok (.iconst 1, 1) := by decide +kernel
theorem dX8_split_12 : decode cX8_split 12 = .ok (.bipush 30, 2) := by decide +kernel
theorem dX8_split_14 : decode cX8_split 14 = .ok (.invokestatic 81, 3) := by decide +kernel
theorem dX8_split_17 : decode cX8_split 17 = .ok (.ifCond .ne 6, 3) := by decide +kernel
theorem dX8_split_20 : decode cX8_split 20 = .ok (.bipush (-2), 2) := by decide +kernel
theorem dX8_split_22 : decode cX8_split 22 = .ok (.ireturn, 1) := by decide +kernel
theorem dX8_split_23 : decode cX8_split 23 = .ok (.aload_n 0, 1) := by decide +kernel
theorem dX8_split_24 : decode cX8_split 24 = .ok (.getfield 25, 3) := by decide +kernel
theorem dX8_split_27 : decode cX8_split 27 = .ok (.getfield 99, 3) := by decide +kernel
theorem dX8_split_30 : decode cX8_split 30 = .ok (.ifCond .ne 6, 3) := by decide +kernel
theorem dX8_split_33 : decode cX8_split 33 = .ok (.bipush (-3), 2) := by decide +kernel
theorem dX8_split_35 : decode cX8_split 35 = .ok (.ireturn, 1) := by decide +kernel
theorem dX8_split_36 : decode cX8_split 36 = .ok (.aload_n 0, 1) := by decide +kernel
theorem dX8_split_37 : decode cX8_split 37 = .ok (.getfield 37, 3) := by decide +kernel
theorem dX8_split_40 : decode cX8_split 40 = .ok (.iload_n 1, 1) := by decide +kernel
theorem dX8_split_41 : decode cX8_split 41 = .ok (.iload_n 2, 1) := by decide +kernel
theorem dX8_split_42 : decode cX8_split 42 = .ok (.invokevirtual 143, 3) := by decide +kernel
theorem dX8_split_45 : decode cX8_split 45 = .ok (.ireturn, 1) := by decide +kernel
theorem dX8_lots_0 : decode cX8_lots 0 = .ok (.iload_n 1, 1) := by decide +kernel
theorem dX8_lots_1 : decode cX8_lots 1 = .ok (.iconst 0, 1) := by decide +kernel
theorem dX8_lots_2 : decode cX8_lots 2 = .ok (.aload_n 0, 1) := by decide +kernel
theorem dX8_lots_3 : decode cX8_lots 3 = .ok (.getfield 37, 3) := by decide +kernel
theorem dX8_lots_6 : decode cX8_lots 6 = .ok (.getfield 146, 3) := by decide +kernel
theorem dX8_lots_9 : decode cX8_lots 9 = .ok (.iconst 1, 1) := by decide +kernel
theorem dX8_lots_10 : decode cX8_lots 10 = .ok (.isub, 1) := by decide +kernel
theorem dX8_lots_11 : decode cX8_lots 11 = .ok (.invokestatic 81, 3) := by decide +kernel
theorem dX8_lots_14 : decode cX8_lots 14 = .ok (.ifCond .ne 5, 3) := by decide +kernel
theorem dX8_lots_17 : decode cX8_lots 17 = .ok (.iconst (-1), 1) := by decide +kernel
theorem dX8_lots_18 : decode cX8_lots 18 = .ok (.ireturn, 1) := by decide +kernel
theorem dX8_lots_19 : decode cX8_lots 19 = .ok (.aload_n 0, 1) := by decide +kernel
theorem dX8_lots_20 : decode cX8_lots 20 = .ok (.getfield 37, 3) := by decide +kernel
theorem dX8_lots_23 : decode cX8_lots 23 = .ok (.getfield 149, 3) := by decide +kernel
theorem dX8_lots_26 : decode cX8_lots 26 = .ok (.iload_n 1, 1) := by decide +kernel
theorem dX8_lots_27 : decode cX8_lots 27 = .ok (.invokestatic 152, 3) := by decide +kernel
theorem dX8_lots_30 : decode cX8_lots 30 = .ok (.ireturn, 1) := by decide +kernel
theorem dX8_cheapest_0 : decode cX8_cheapest 0 = .ok (.iload_n 1, 1) := by decide +kernel
theorem dX8_cheapest_1 : decode cX8_cheapest 1 = .ok (.iconst 0, 1) := by decide +kernel
theorem dX8_cheapest_2 : decode cX8_cheapest 2 = .ok (.ldc 155, 2) := by decide +kernel
theorem dX8_cheapest_4 : decode cX8_cheapest 4 = .ok (.invokestatic 81, 3) := by decide +kernel
theorem dX8_cheapest_7 : decode cX8_cheapest 7 = .ok (.ifCond .eq 14, 3) := by decide +kernel
theorem dX8_cheapest_10 : decode cX8_cheapest 10 = .ok (.iload_n 2, 1) := by decide +kernel
theorem dX8_cheapest_11 : decode cX8_cheapest 11 = .ok (.iconst 0, 1) := by decide +kernel
theorem dX8_cheapest_12 : decode cX8_cheapest 12 = .ok (.sipush 1000, 3) := by decide +kernel
theorem dX8_cheapest_15 : decode cX8_cheapest 15 = .ok (.invokestatic 81, 3) := by decide +kernel
theorem dX8_cheapest_18 : decode cX8_cheapest 18 = .ok (.ifCond .ne 6, 3) := by decide +kernel
theorem dX8_cheapest_21 : decode cX8_cheapest 21 = .ok (.bipush (-2), 2) := by decide +kernel
theorem dX8_cheapest_23 : decode cX8_cheapest 23 = .ok (.ireturn, 1) := by decide +kernel
theorem dX8_cheapest_24 : decode cX8_cheapest 24 = .ok (.aload_n 0, 1) := by decide +kernel
theorem dX8_cheapest_25 : decode cX8_cheapest 25 = .ok (.getfield 25, 3) := by decide +kernel
theorem dX8_cheapest_28 : decode cX8_cheapest 28 = .ok (.getfield 99, 3) := by decide +kernel
theorem dX8_cheapest_31 : decode cX8_cheapest 31 = .ok (.ifCond .eq 24, 3) := by decide +kernel
theorem dX8_cheapest_34 : decode cX8_cheapest 34 = .ok (.aload_n 0, 1) := by decide +kernel
theorem dX8_cheapest_35 : decode cX8_cheapest 35 = .ok (.getfield 16, 3) := by decide +kernel
theorem dX8_cheapest_38 : decode cX8_cheapest 38 = .ok (.getfield 156, 3) := by decide +kernel
theorem dX8_cheapest_41 : decode cX8_cheapest 41 = .ok (.ifCond .eq 14, 3) := by decide +kernel
theorem dX8_cheapest_44 : decode cX8_cheapest 44 = .ok (.aload_n 0, 1) := by decide +kernel
theorem dX8_cheapest_45 : decode cX8_cheapest 45 = .ok (.getfield 25, 3) := by decide +kernel
theorem dX8_cheapest_48 : decode cX8_cheapest 48 = .ok (.getfield 99, 3) := by decide +kernel
theorem dX8_cheapest_51 : decode cX8_cheapest 51 = .ok (.iconst 3, 1) := by decide +kernel
theorem dX8_cheapest_52 : decode cX8_cheapest 52 = .ok (.if_icmp .le 6, 3) := by decide +kernel
theorem dX8_cheapest_55 : decode cX8_cheapest 55 = .ok (.bipush (-3), 2) := by decide +kernel
theorem dX8_cheapest_57 : decode cX8_cheapest 57 = .ok (.ireturn, 1) := by decide +kernel
theorem dX8_cheapest_58 : decode cX8_cheapest 58 = .ok (.aload_n 0, 1) := by decide +kernel
theorem dX8_cheapest_59 : decode cX8_cheapest 59 = .ok (.getfield 44, 3) := by decide +kernel
theorem dX8_cheapest_62 : decode cX8_cheapest 62 = .ok (.iload_n 1, 1) := by decide +kernel
theorem dX8_cheapest_63 : decode cX8_cheapest 63 = .ok (.iload_n 2, 1) := by decide +kernel
theorem dX8_cheapest_64 : decode cX8_cheapest 64 = .ok (.invokevirtual 157, 3) := by decide +kernel
theorem dX8_cheapest_67 : decode cX8_cheapest 67 = .ok (.ireturn, 1) := by decide +kernel
theorem dX8_chosen_0 : decode cX8_chosen 0 = .ok (.iload_n 1, 1) := by decide +kernel
theorem dX8_chosen_1 : decode cX8_chosen 1 = .ok (.iconst 0, 1) := by decide +kernel
theorem dX8_chosen_2 : decode cX8_chosen 2 = .ok (.aload_n 0, 1) := by decide +kernel
theorem dX8_chosen_3 : decode cX8_chosen 3 = .ok (.getfield 44, 3) := by decide +kernel
theorem dX8_chosen_6 : decode cX8_chosen 6 = .ok (.getfield 158, 3) := by decide +kernel
theorem dX8_chosen_9 : decode cX8_chosen 9 = .ok (.iconst 1, 1) := by decide +kernel
theorem dX8_chosen_10 : decode cX8_chosen 10 = .ok (.isub, 1) := by decide +kernel
theorem dX8_chosen_11 : decode cX8_chosen 11 = .ok (.invokestatic 81, 3) := by decide +kernel
theorem dX8_chosen_14 : decode cX8_chosen 14 = .ok (.ifCond .eq 12, 3) := by decide +kernel
theorem dX8_chosen_17 : decode cX8_chosen 17 = .ok (.iload_n 2, 1) := by decide +kernel
theorem dX8_chosen_18 : decode cX8_chosen 18 = .ok (.iconst 0, 1) := by decide +kernel
theorem dX8_chosen_19 : decode cX8_chosen 19 = .ok (.iconst 1, 1) := by decide +kernel
theorem dX8_chosen_20 : decode cX8_chosen 20 = .ok (.invokestatic 81, 3) := by decide +kernel
theorem dX8_chosen_23 : decode cX8_chosen 23 = .ok (.ifCond .ne 5, 3) := by decide +kernel
theorem dX8_chosen_26 : decode cX8_chosen 26 = .ok (.iconst (-1), 1) := by decide +kernel
theorem dX8_chosen_27 : decode cX8_chosen 27 = .ok (.ireturn, 1) := by decide +kernel
theorem dX8_chosen_28 : decode cX8_chosen 28 = .ok (.aload_n 0, 1) := by decide +kernel
theorem dX8_chosen_29 : decode cX8_chosen 29 = .ok (.getfield 44, 3) := by decide +kernel
theorem dX8_chosen_32 : decode cX8_chosen 32 = .ok (.getfield 159, 3) := by decide +kernel
theorem dX8_chosen_35 : decode cX8_chosen 35 = .ok (.iload_n 1, 1) := by decide +kernel
theorem dX8_chosen_36 : decode cX8_chosen 36 = .ok (.invokestatic 152, 3) := by decide +kernel
theorem dX8_chosen_39 : decode cX8_chosen 39 = .ok (.istore_n 3, 1) := by decide +kernel
theorem dX8_chosen_40 : decode cX8_chosen 40 = .ok (.iload_n 2, 1) := by decide +kernel
theorem dX8_chosen_41 : decode cX8_chosen 41 = .ok (.ifCond .ne 10, 3) := by decide +kernel
theorem dX8_chosen_44 : decode cX8_chosen 44 = .ok (.iload_n 3, 1) := by decide +kernel
theorem dX8_chosen_45 : decode cX8_chosen 45 = .ok (.invokestatic 162, 3) := by decide +kernel
theorem dX8_chosen_48 : decode cX8_chosen 48 = .ok (.goto 7, 3) := by decide +kernel
theorem dX8_chosen_51 : decode cX8_chosen 51 = .ok (.iload_n 3, 1) := by decide +kernel
theorem dX8_chosen_52 : decode cX8_chosen 52 = .ok (.invokestatic 165, 3) := by decide +kernel
theorem dX8_chosen_55 : decode cX8_chosen 55 = .ok (.ireturn, 1) := by decide +kernel
theorem dX8_air_0 : decode cX8_air 0 = .ok (.iload_n 1, 1) := by decide +kernel
theorem dX8_air_1 : decode cX8_air 1 = .ok (.iconst 0, 1) := by decide +kernel
theorem dX8_air_2 : decode cX8_air 2 = .ok (.bipush 9, 2) := by decide +kernel
theorem dX8_air_4 : decode cX8_air 4 = .ok (.invokestatic 81, 3) := by decide +kernel
theorem dX8_air_7 : decode cX8_air 7 = .ok (.ifCond .ne 5, 3) := by decide +kernel
theorem dX8_air_10 : decode cX8_air 10 = .ok (.iconst (-1), 1) := by decide +kernel
theorem dX8_air_11 : decode cX8_air 11 = .ok (.ireturn, 1) := by decide +kernel
theorem dX8_air_12 : decode cX8_air 12 = .ok (.iload_n 2, 1) := by decide +kernel
theorem dX8_air_13 : decode cX8_air 13 = .ok (.iconst 0, 1) := by decide +kernel
theorem dX8_air_14 : decode cX8_air 14 = .ok (.sipush 999, 3) := by decide +kernel
theorem dX8_air_17 : decode cX8_air 17 = .ok (.invokestatic 81, 3) := by decide +kernel
theorem dX8_air_20 : decode cX8_air 20 = .ok (.ifCond .ne 6, 3) := by decide +kernel
theorem dX8_air_23 : decode cX8_air 23 = .ok (.bipush (-2), 2) := by decide +kernel
theorem dX8_air_25 : decode cX8_air 25 = .ok (.ireturn, 1) := by decide +kernel
theorem dX8_air_26 : decode cX8_air 26 = .ok (.aload_n 0, 1) := by decide +kernel
theorem dX8_air_27 : decode cX8_air 27 = .ok (.getfield 51, 3) := by decide +kernel
theorem dX8_air_30 : decode cX8_air 30 = .ok (.getfield 168, 3) := by decide +kernel
theorem dX8_air_33 : decode cX8_air 33 = .ok (.iload_n 1, 1) := by decide +kernel
theorem dX8_air_34 : decode cX8_air 34 = .ok (.iload_n 2, 1) := by decide +kernel
theorem dX8_air_35 : decode cX8_air 35 = .ok (.invokestatic 107, 3) := by decide +kernel
theorem dX8_air_38 : decode cX8_air 38 = .ok (.ireturn, 1) := by decide +kernel
theorem dX8_limit_0 : decode cX8_limit 0 = .ok (.iload_n 1, 1) := by decide +kernel
theorem dX8_limit_1 : decode cX8_limit 1 = .ok (.iconst 0, 1) := by decide +kernel
theorem dX8_limit_2 : decode cX8_limit 2 = .ok (.iconst 2, 1) := by decide +kernel
theorem dX8_limit_3 : decode cX8_limit 3 = .ok (.invokestatic 81, 3) := by decide +kernel
theorem dX8_limit_6 : decode cX8_limit 6 = .ok (.ifCond .ne 5, 3) := by decide +kernel
theorem dX8_limit_9 : decode cX8_limit 9 = .ok (.iconst (-1), 1) := by decide +kernel
theorem dX8_limit_10 : decode cX8_limit 10 = .ok (.ireturn, 1) := by decide +kernel
theorem dX8_limit_11 : decode cX8_limit 11 = .ok (.iload_n 2, 1) := by decide +kernel
theorem dX8_limit_12 : decode cX8_limit 12 = .ok (.iconst 0, 1) := by decide +kernel
theorem dX8_limit_13 : decode cX8_limit 13 = .ok (.ldc 155, 2) := by decide +kernel
theorem dX8_limit_15 : decode cX8_limit 15 = .ok (.invokestatic 81, 3) := by decide +kernel
theorem dX8_limit_18 : decode cX8_limit 18 = .ok (.ifCond .ne 6, 3) := by decide +kernel
theorem dX8_limit_21 : decode cX8_limit 21 = .ok (.bipush (-2), 2) := by decide +kernel
theorem dX8_limit_23 : decode cX8_limit 23 = .ok (.ireturn, 1) := by decide +kernel
theorem dX8_limit_24 : decode cX8_limit 24 = .ok (.aload_n 0, 1) := by decide +kernel
theorem dX8_limit_25 : decode cX8_limit 25 = .ok (.getfield 51, 3) := by decide +kernel
theorem dX8_limit_28 : decode cX8_limit 28 = .ok (.getfield 171, 3) := by decide +kernel
theorem dX8_limit_31 : decode cX8_limit 31 = .ok (.iload_n 1, 1) := by decide +kernel
theorem dX8_limit_32 : decode cX8_limit 32 = .ok (.iload_n 2, 1) := by decide +kernel
theorem dX8_limit_33 : decode cX8_limit 33 = .ok (.invokestatic 107, 3) := by decide +kernel
theorem dX8_limit_36 : decode cX8_limit 36 = .ok (.ireturn, 1) := by decide +kernel
theorem dX8_fly_0 : decode cX8_fly 0 = .ok (.aload_n 0, 1) := by decide +kernel
theorem dX8_fly_1 : decode cX8_fly 1 = .ok (.getfield 25, 3) := by decide +kernel
theorem dX8_fly_4 : decode cX8_fly 4 = .ok (.invokevirtual 174, 3) := by decide +kernel
theorem dX8_fly_7 : decode cX8_fly 7 = .ok (.ifCond .ne 6, 3) := by decide +kernel
theorem dX8_fly_10 : decode cX8_fly 10 = .ok (.bipush (-3), 2) := by decide +kernel
theorem dX8_fly_12 : decode cX8_fly 12 = .ok (.ireturn, 1) := by decide +kernel
theorem dX8_fly_13 : decode cX8_fly 13 = .ok (.aload_n 0, 1) := by decide +kernel
theorem dX8_fly_14 : decode cX8_fly 14 = .ok (.getfield 60, 3) := by decide +kernel
theorem dX8_fly_17 : decode cX8_fly 17 = .ok (.invokevirtual 178, 3) := by decide +kernel
theorem dX8_fly_20 : decode cX8_fly 20 = .ok (.aload_n 0, 1) := by decide +kernel
theorem dX8_fly_21 : decode cX8_fly 21 = .ok (.getfield 60, 3) := by decide +kernel
theorem dX8_fly_24 : decode cX8_fly 24 = .ok (.sipush 2000, 3) := by decide +kernel
theorem dX8_fly_27 : decode cX8_fly 27 = .ok (.iconst 0, 1) := by decide +kernel
theorem dX8_fly_28 : decode cX8_fly 28 = .ok (.invokevirtual 181, 3) := by decide +kernel
theorem dX8_fly_31 : decode cX8_fly 31 = .ok (.aload_n 0, 1) := by decide +kernel
theorem dX8_fly_32 : decode cX8_fly 32 = .ok (.iconst 1, 1) := by decide +kernel
theorem dX8_fly_33 : decode cX8_fly 33 = .ok (.putfield 70, 3) := by decide +kernel
theorem dX8_fly_36 : decode cX8_fly 36 = .ok (.aload_n 0, 1) := by decide +kernel
theorem dX8_fly_37 : decode cX8_fly 37 = .ok (.getfield 60, 3) := by decide +kernel
theorem dX8_fly_40 : decode cX8_fly 40 = .ok (.invokevirtual 185, 3) := by decide +kernel
theorem dX8_fly_43 : decode cX8_fly 43 = .ok (.ireturn, 1) := by decide +kernel
theorem dX8_flown_0 : decode cX8_flown 0 = .ok (.aload_n 0, 1) := by decide +kernel
theorem dX8_flown_1 : decode cX8_flown 1 = .ok (.getfield 70, 3) := by decide +kernel
theorem dX8_flown_4 : decode cX8_flown 4 = .ok (.ifCond .ne 5, 3) := by decide +kernel
theorem dX8_flown_7 : decode cX8_flown 7 = .ok (.iconst (-1), 1) := by decide +kernel
theorem dX8_flown_8 : decode cX8_flown 8 = .ok (.ireturn, 1) := by decide +kernel
theorem dX8_flown_9 : decode cX8_flown 9 = .ok (.iload_n 1, 1) := by decide +kernel
theorem dX8_flown_10 : decode cX8_flown 10 = .ok (.tableswitch 98 0 6 #[42, 50, 58, 66, 74, 82, 90], 42) := by decide +kernel
theorem dX8_flown_52 : decode cX8_flown 52 = .ok (.aload_n 0, 1) := by decide +kernel
theorem dX8_flown_53 : decode cX8_flown 53 = .ok (.getfield 60, 3) := by decide +kernel
theorem dX8_flown_56 : decode cX8_flown 56 = .ok (.getfield 188, 3) := by decide +kernel
theorem dX8_flown_59 : decode cX8_flown 59 = .ok (.ireturn, 1) := by decide +kernel
theorem dX8_flown_60 : decode cX8_flown 60 = .ok (.aload_n 0, 1) := by decide +kernel
theorem dX8_flown_61 : decode cX8_flown 61 = .ok (.getfield 60, 3) := by decide +kernel
theorem dX8_flown_64 : decode cX8_flown 64 = .ok (.getfield 191, 3) := by decide +kernel
theorem dX8_flown_67 : decode cX8_flown 67 = .ok (.ireturn, 1) := by decide +kernel
theorem dX8_flown_68 : decode cX8_flown 68 = .ok (.aload_n 0, 1) := by decide +kernel
theorem dX8_flown_69 : decode cX8_flown 69 = .ok (.getfield 60, 3) := by decide +kernel
theorem dX8_flown_72 : decode cX8_flown 72 = .ok (.getfield 194, 3) := by decide +kernel
theorem dX8_flown_75 : decode cX8_flown 75 = .ok (.ireturn, 1) := by decide +kernel
theorem dX8_flown_76 : decode cX8_flown 76 = .ok (.aload_n 0, 1) := by decide +kernel
theorem dX8_flown_77 : decode cX8_flown 77 = .ok (.getfield 60, 3) := by decide +kernel
theorem dX8_flown_80 : decode cX8_flown 80 = .ok (.getfield 197, 3) := by decide +kernel
theorem dX8_flown_83 : decode cX8_flown 83 = .ok (.ireturn, 1) := by decide +kernel
theorem dX8_flown_84 : decode cX8_flown 84 = .ok (.aload_n 0, 1) := by decide +kernel
theorem dX8_flown_85 : decode cX8_flown 85 = .ok (.getfield 60, 3) := by decide +kernel
theorem dX8_flown_88 : decode cX8_flown 88 = .ok (.getfield 200, 3) := by decide +kernel
theorem dX8_flown_91 : decode cX8_flown 91 = .ok (.ireturn, 1) := by decide +kernel
theorem dX8_flown_92 : decode cX8_flown 92 = .ok (.aload_n 0, 1) := by decide +kernel
theorem dX8_flown_93 : decode cX8_flown 93 = .ok (.getfield 60, 3) := by decide +kernel
theorem dX8_flown_96 : decode cX8_flown 96 = .ok (.getfield 203, 3) := by decide +kernel
theorem dX8_flown_99 : decode cX8_flown 99 = .ok (.ireturn, 1) := by decide +kernel
theorem dX8_flown_100 : decode cX8_flown 100 = .ok (.aload_n 0, 1) := by decide +kernel
theorem dX8_flown_101 : decode cX8_flown 101 = .ok (.getfield 60, 3) := by decide +kernel
theorem dX8_flown_104 : decode cX8_flown 104 = .ok (.getfield 206, 3) := by decide +kernel
theorem dX8_flown_107 : decode cX8_flown 107 = .ok (.ireturn, 1) := by decide +kernel
theorem dX8_flown_108 : decode cX8_flown 108 = .ok (.iconst (-1), 1) := by decide +kernel
theorem dX8_flown_109 : decode cX8_flown 109 = .ok (.ireturn, 1) := by decide +kernel
theorem dX8_out_0 : decode cX8_out 0 = .ok (.iload_n 1, 1) := by decide +kernel
theorem dX8_out_1 : decode cX8_out 1 = .ok (.iconst 0, 1) := by decide +kernel
theorem dX8_out_2 : decode cX8_out 2 = .ok (.sipush 1999, 3) := by decide +kernel
theorem dX8_out_5 : decode cX8_out 5 = .ok (.invokestatic 81, 3) := by decide +kernel
theorem dX8_out_8 : decode cX8_out 8 = .ok (.ifCond .ne 6, 3) := by decide +kernel
theorem dX8_out_11 : decode cX8_out 11 = .ok (.bipush (-2), 2) := by decide +kernel
theorem dX8_out_13 : decode cX8_out 13 = .ok (.ireturn, 1) := by decide +kernel
theorem dX8_out_14 : decode cX8_out 14 = .ok (.aload_n 0, 1) := by decide +kernel
theorem dX8_out_15 : decode cX8_out 15 = .ok (.getfield 25, 3) := by decide +kernel
theorem dX8_out_18 : decode cX8_out 18 = .ok (.invokevirtual 174, 3) := by decide +kernel
theorem dX8_out_21 : decode cX8_out 21 = .ok (.ifCond .ne 6, 3) := by decide +kernel
theorem dX8_out_24 : decode cX8_out 24 = .ok (.bipush (-3), 2) := by decide +kernel
theorem dX8_out_26 : decode cX8_out 26 = .ok (.ireturn, 1) := by decide +kernel
theorem dX8_out_27 : decode cX8_out 27 = .ok (.aload_n 0, 1) := by decide +kernel
theorem dX8_out_28 : decode cX8_out 28 = .ok (.getfield 67, 3) := by decide +kernel
theorem dX8_out_31 : decode cX8_out 31 = .ok (.invokevirtual 178, 3) := by decide +kernel
theorem dX8_out_34 : decode cX8_out 34 = .ok (.aload_n 0, 1) := by decide +kernel
theorem dX8_out_35 : decode cX8_out 35 = .ok (.getfield 67, 3) := by decide +kernel
theorem dX8_out_38 : decode cX8_out 38 = .ok (.iload_n 1, 1) := by decide +kernel
theorem dX8_out_39 : decode cX8_out 39 = .ok (.iconst 0, 1) := by decide +kernel
theorem dX8_out_40 : decode cX8_out 40 = .ok (.invokevirtual 181, 3) := by decide +kernel
theorem dX8_out_43 : decode cX8_out 43 = .ok (.aload_n 0, 1) := by decide +kernel
theorem dX8_out_44 : decode cX8_out 44 = .ok (.getfield 67, 3) := by decide +kernel
theorem dX8_out_47 : decode cX8_out 47 = .ok (.invokevirtual 209, 3) := by decide +kernel
theorem dX8_out_50 : decode cX8_out 50 = .ok (.aload_n 0, 1) := by decide +kernel
theorem dX8_out_51 : decode cX8_out 51 = .ok (.getfield 67, 3) := by decide +kernel
theorem dX8_out_54 : decode cX8_out 54 = .ok (.sipush 2000, 3) := by decide +kernel
theorem dX8_out_57 : decode cX8_out 57 = .ok (.iconst 0, 1) := by decide +kernel
theorem dX8_out_58 : decode cX8_out 58 = .ok (.invokevirtual 181, 3) := by decide +kernel
theorem dX8_out_61 : decode cX8_out 61 = .ok (.aload_n 0, 1) := by decide +kernel
theorem dX8_out_62 : decode cX8_out 62 = .ok (.getfield 67, 3) := by decide +kernel
theorem dX8_out_65 : decode cX8_out 65 = .ok (.invokevirtual 185, 3) := by decide +kernel
theorem dX8_out_68 : decode cX8_out 68 = .ok (.ireturn, 1) := by decide +kernel
theorem dX8_safe_0 : decode cX8_safe 0 = .ok (.aload_n 0, 1) := by decide +kernel
theorem dX8_safe_1 : decode cX8_safe 1 = .ok (.getfield 25, 3) := by decide +kernel
theorem dX8_safe_4 : decode cX8_safe 4 = .ok (.invokevirtual 174, 3) := by decide +kernel
theorem dX8_safe_7 : decode cX8_safe 7 = .ok (.ifCond .ne 6, 3) := by decide +kernel
theorem dX8_safe_10 : decode cX8_safe 10 = .ok (.bipush (-3), 2) := by decide +kernel
theorem dX8_safe_12 : decode cX8_safe 12 = .ok (.ireturn, 1) := by decide +kernel
theorem dX8_safe_13 : decode cX8_safe 13 = .ok (.aload_n 0, 1) := by decide +kernel
theorem dX8_safe_14 : decode cX8_safe 14 = .ok (.getfield 64, 3) := by decide +kernel
theorem dX8_safe_17 : decode cX8_safe 17 = .ok (.invokevirtual 178, 3) := by decide +kernel
theorem dX8_safe_20 : decode cX8_safe 20 = .ok (.iconst 0, 1) := by decide +kernel
theorem dX8_safe_21 : decode cX8_safe 21 = .ok (.istore_n 1, 1) := by decide +kernel
theorem dX8_safe_22 : decode cX8_safe 22 = .ok (.iconst 0, 1) := by decide +kernel
theorem dX8_safe_23 : decode cX8_safe 23 = .ok (.istore_n 2, 1) := by decide +kernel
theorem dX8_safe_24 : decode cX8_safe 24 = .ok (.iload_n 2, 1) := by decide +kernel
theorem dX8_safe_25 : decode cX8_safe 25 = .ok (.sipush 2000, 3) := by decide +kernel
theorem dX8_safe_28 : decode cX8_safe 28 = .ok (.if_icmp .ge 83, 3) := by decide +kernel
theorem dX8_safe_31 : decode cX8_safe 31 = .ok (.aload_n 0, 1) := by decide +kernel
theorem dX8_safe_32 : decode cX8_safe 32 = .ok (.getfield 64, 3) := by decide +kernel
theorem dX8_safe_35 : decode cX8_safe 35 = .ok (.invokevirtual 212, 3) := by decide +kernel
theorem dX8_safe_38 : decode cX8_safe 38 = .ok (.ifCond .eq 73, 3) := by decide +kernel
theorem dX8_safe_41 : decode cX8_safe 41 = .ok (.aload_n 0, 1) := by decide +kernel
theorem dX8_safe_42 : decode cX8_safe 42 = .ok (.getfield 64, 3) := by decide +kernel
theorem dX8_safe_45 : decode cX8_safe 45 = .ok (.getfield 203, 3) := by decide +kernel
theorem dX8_safe_48 : decode cX8_safe 48 = .ok (.iconst (-1), 1) := by decide +kernel
theorem dX8_safe_49 : decode cX8_safe 49 = .ok (.if_icmp .ne 62, 3) := by decide +kernel
theorem dX8_safe_52 : decode cX8_safe 52 = .ok (.aload_n 0, 1) := by decide +kernel
theorem dX8_safe_53 : decode cX8_safe 53 = .ok (.getfield 67, 3) := by decide +kernel
theorem dX8_safe_56 : decode cX8_safe 56 = .ok (.aload_n 0, 1) := by decide +kernel
theorem dX8_safe_57 : decode cX8_safe 57 = .ok (.getfield 64, 3) := by decide +kernel
theorem dX8_safe_60 : decode cX8_safe 60 = .ok (.invokevirtual 216, 3) := by decide +kernel
theorem dX8_safe_63 : decode cX8_safe 63 = .ok (.aload_n 0, 1) := by decide +kernel
theorem dX8_safe_64 : decode cX8_safe 64 = .ok (.getfield 67, 3) := by decide +kernel
theorem dX8_safe_67 : decode cX8_safe 67 = .ok (.invokevirtual 209, 3) := by decide +kernel
theorem dX8_safe_70 : decode cX8_safe 70 = .ok (.aload_n 0, 1) := by decide +kernel
theorem dX8_safe_71 : decode cX8_safe 71 = .ok (.getfield 67, 3) := by decide +kernel
theorem dX8_safe_74 : decode cX8_safe 74 = .ok (.sipush 2000, 3) := by decide +kernel
theorem dX8_safe_77 : decode cX8_safe 77 = .ok (.iconst 1, 1) := by decide +kernel
theorem dX8_safe_78 : decode cX8_safe 78 = .ok (.invokevirtual 181, 3) := by decide +kernel
theorem dX8_safe_81 : decode cX8_safe 81 = .ok (.aload_n 0, 1) := by decide +kernel
theorem dX8_safe_82 : decode cX8_safe 82 = .ok (.getfield 67, 3) := by decide +kernel
theorem dX8_safe_85 : decode cX8_safe 85 = .ok (.invokevirtual 185, 3) := by decide +kernel
theorem dX8_safe_88 : decode cX8_safe 88 = .ok (.ifCond .ne 6, 3) := by decide +kernel
theorem dX8_safe_91 : decode cX8_safe 91 = .ok (.iinc 1 1, 3) := by decide +kernel
theorem dX8_safe_94 : decode cX8_safe 94 = .ok (.aload_n 0, 1) := by decide +kernel
theorem dX8_safe_95 : decode cX8_safe 95 = .ok (.getfield 64, 3) := by decide +kernel
theorem dX8_safe_98 : decode cX8_safe 98 = .ok (.iload_n 2, 1) := by decide +kernel
theorem dX8_safe_99 : decode cX8_safe 99 = .ok (.iconst 1, 1) := by decide +kernel
theorem dX8_safe_100 : decode cX8_safe 100 = .ok (.iadd, 1) := by decide +kernel
theorem dX8_safe_101 : decode cX8_safe 101 = .ok (.iconst 1, 1) := by decide +kernel
theorem dX8_safe_102 : decode cX8_safe 102 = .ok (.invokevirtual 181, 3) := by decide +kernel
theorem dX8_safe_105 : decode cX8_safe 105 = .ok (.iinc 2 1, 3) := by decide +kernel
theorem dX8_safe_108 : decode cX8_safe 108 = .ok (.goto (-84), 3) := by decide +kernel
theorem dX8_safe_111 : decode cX8_safe 111 = .ok (.iload_n 1, 1) := by decide +kernel
theorem dX8_safe_112 : decode cX8_safe 112 = .ok (.ireturn, 1) := by decide +kernel
theorem dX8_cost_0 : decode cX8_cost 0 = .ok (.aload_n 0, 1) := by decide +kernel
theorem dX8_cost_1 : decode cX8_cost 1 = .ok (.getfield 16, 3) := by decide +kernel
theorem dX8_cost_4 : decode cX8_cost 4 = .ok (.iload_n 1, 1) := by decide +kernel
theorem dX8_cost_5 : decode cX8_cost 5 = .ok (.invokevirtual 89, 3) := by decide +kernel
theorem dX8_cost_8 : decode cX8_cost 8 = .ok (.ifCond .ne 5, 3) := by decide +kernel
theorem dX8_cost_11 : decode cX8_cost 11 = .ok (.iconst (-1), 1) := by decide +kernel
theorem dX8_cost_12 : decode cX8_cost 12 = .ok (.ireturn, 1) := by decide +kernel
theorem dX8_cost_13 : decode cX8_cost 13 = .ok (.iload_n 2, 1) := by decide +kernel
theorem dX8_cost_14 : decode cX8_cost 14 = .ok (.iconst 0, 1) := by decide +kernel
theorem dX8_cost_15 : decode cX8_cost 15 = .ok (.sipush 999, 3) := by decide +kernel
theorem dX8_cost_18 : decode cX8_cost 18 = .ok (.invokestatic 81, 3) := by decide +kernel
theorem dX8_cost_21 : decode cX8_cost 21 = .ok (.ifCond .ne 6, 3) := by decide +kernel
theorem dX8_cost_24 : decode cX8_cost 24 = .ok (.bipush (-2), 2) := by decide +kernel
theorem dX8_cost_26 : decode cX8_cost 26 = .ok (.ireturn, 1) := by decide +kernel
theorem dX8_cost_27 : decode cX8_cost 27 = .ok (.aload_n 0, 1) := by decide +kernel
theorem dX8_cost_28 : decode cX8_cost 28 = .ok (.getfield 16, 3) := by decide +kernel
theorem dX8_cost_31 : decode cX8_cost 31 = .ok (.iload_n 1, 1) := by decide +kernel
theorem dX8_cost_32 : decode cX8_cost 32 = .ok (.iload_n 2, 1) := by decide +kernel
theorem dX8_cost_33 : decode cX8_cost 33 = .ok (.aload_n 0, 1) := by decide +kernel
theorem dX8_cost_34 : decode cX8_cost 34 = .ok (.getfield 7, 3) := by decide +kernel
theorem dX8_cost_37 : decode cX8_cost 37 = .ok (.iconst 2, 1) := by decide +kernel
theorem dX8_cost_38 : decode cX8_cost 38 = .ok (.iaload, 1) := by decide +kernel
theorem dX8_cost_39 : decode cX8_cost 39 = .ok (.invokevirtual 220, 3) := by decide +kernel
theorem dX8_cost_42 : decode cX8_cost 42 = .ok (.ireturn, 1) := by decide +kernel
theorem dX8_price_0 : decode cX8_price 0 = .ok (.aload_n 0, 1) := by decide +kernel
theorem dX8_price_1 : decode cX8_price 1 = .ok (.getfield 25, 3) := by decide +kernel
theorem dX8_price_4 : decode cX8_price 4 = .ok (.getfield 99, 3) := by decide +kernel
theorem dX8_price_7 : decode cX8_price 7 = .ok (.ifCond .ne 6, 3) := by decide +kernel
theorem dX8_price_10 : decode cX8_price 10 = .ok (.bipush (-3), 2) := by decide +kernel
theorem dX8_price_12 : decode cX8_price 12 = .ok (.ireturn, 1) := by decide +kernel
theorem dX8_price_13 : decode cX8_price 13 = .ok (.aload_n 0, 1) := by decide +kernel
theorem dX8_price_14 : decode cX8_price 14 = .ok (.getfield 25, 3) := by decide +kernel
theorem dX8_price_17 : decode cX8_price 17 = .ok (.invokevirtual 224, 3) := by decide +kernel
theorem dX8_price_20 : decode cX8_price 20 = .ok (.ireturn, 1) := by decide +kernel
theorem dX8_buy_0 : decode cX8_buy 0 = .ok (.aload_n 0, 1) := by decide +kernel
theorem dX8_buy_1 : decode cX8_buy 1 = .ok (.getfield 25, 3) := by decide +kernel
theorem dX8_buy_4 : decode cX8_buy 4 = .ok (.getfield 99, 3) := by decide +kernel
theorem dX8_buy_7 : decode cX8_buy 7 = .ok (.ifCond .ne 6, 3) := by decide +kernel
theorem dX8_buy_10 : decode cX8_buy 10 = .ok (.bipush (-3), 2) := by decide +kernel
theorem dX8_buy_12 : decode cX8_buy 12 = .ok (.ireturn, 1) := by decide +kernel
theorem dX8_buy_13 : decode cX8_buy 13 = .ok (.iconst 0, 1) := by decide +kernel
theorem dX8_buy_14 : decode cX8_buy 14 = .ok (.istore_n 1, 1) := by decide +kernel
theorem dX8_buy_15 : decode cX8_buy 15 = .ok (.iload_n 1, 1) := by decide +kernel
theorem dX8_buy_16 : decode cX8_buy 16 = .ok (.aload_n 0, 1) := by decide +kernel
theorem dX8_buy_17 : decode cX8_buy 17 = .ok (.getfield 16, 3) := by decide +kernel
theorem dX8_buy_20 : decode cX8_buy 20 = .ok (.getfield 156, 3) := by decide +kernel
theorem dX8_buy_23 : decode cX8_buy 23 = .ok (.if_icmp .ge 44, 3) := by decide +kernel
theorem dX8_buy_26 : decode cX8_buy 26 = .ok (.aload_n 0, 1) := by decide +kernel
theorem dX8_buy_27 : decode cX8_buy 27 = .ok (.getfield 16, 3) := by decide +kernel
theorem dX8_buy_30 : decode cX8_buy 30 = .ok (.getfield 227, 3) := by decide +kernel
theorem dX8_buy_33 : decode cX8_buy 33 = .ok (.iload_n 1, 1) := by decide +kernel
theorem dX8_buy_34 : decode cX8_buy 34 = .ok (.iaload, 1) := by decide +kernel
theorem dX8_buy_35 : decode cX8_buy 35 = .ok (.aload_n 0, 1) := by decide +kernel
theorem dX8_buy_36 : decode cX8_buy 36 = .ok (.getfield 16, 3) := by decide +kernel
theorem dX8_buy_39 : decode cX8_buy 39 = .ok (.iload_n 1, 1) := by decide +kernel
theorem dX8_buy_40 : decode cX8_buy 40 = .ok (.aload_n 0, 1) := by decide +kernel
theorem dX8_buy_41 : decode cX8_buy 41 = .ok (.getfield 25, 3) := by decide +kernel
theorem dX8_buy_44 : decode cX8_buy 44 = .ok (.iload_n 1, 1) := by decide +kernel
theorem dX8_buy_45 : decode cX8_buy 45 = .ok (.invokevirtual 230, 3) := by decide +kernel
theorem dX8_buy_48 : decode cX8_buy 48 = .ok (.invokevirtual 233, 3) := by decide +kernel
theorem dX8_buy_51 : decode cX8_buy 51 = .ok (.iadd, 1) := by decide +kernel
theorem dX8_buy_52 : decode cX8_buy 52 = .ok (.sipush 900, 3) := by decide +kernel
theorem dX8_buy_55 : decode cX8_buy 55 = .ok (.if_icmp .le 6, 3) := by decide +kernel
theorem dX8_buy_58 : decode cX8_buy 58 = .ok (.bipush (-4), 2) := by decide +kernel
theorem dX8_buy_60 : decode cX8_buy 60 = .ok (.ireturn, 1) := by decide +kernel
theorem dX8_buy_61 : decode cX8_buy 61 = .ok (.iinc 1 1, 3) := by decide +kernel
theorem dX8_buy_64 : decode cX8_buy 64 = .ok (.goto (-49), 3) := by decide +kernel
theorem dX8_buy_67 : decode cX8_buy 67 = .ok (.aload_n 0, 1) := by decide +kernel
theorem dX8_buy_68 : decode cX8_buy 68 = .ok (.getfield 25, 3) := by decide +kernel
theorem dX8_buy_71 : decode cX8_buy 71 = .ok (.invokevirtual 224, 3) := by decide +kernel
theorem dX8_buy_74 : decode cX8_buy 74 = .ok (.istore_n 1, 1) := by decide +kernel
theorem dX8_buy_75 : decode cX8_buy 75 = .ok (.iconst 0, 1) := by decide +kernel
theorem dX8_buy_76 : decode cX8_buy 76 = .ok (.istore_n 2, 1) := by decide +kernel
theorem dX8_buy_77 : decode cX8_buy 77 = .ok (.iload_n 2, 1) := by decide +kernel
theorem dX8_buy_78 : decode cX8_buy 78 = .ok (.aload_n 0, 1) := by decide +kernel
theorem dX8_buy_79 : decode cX8_buy 79 = .ok (.getfield 16, 3) := by decide +kernel
theorem dX8_buy_82 : decode cX8_buy 82 = .ok (.getfield 156, 3) := by decide +kernel
theorem dX8_buy_85 : decode cX8_buy 85 = .ok (.if_icmp .ge 25, 3) := by decide +kernel
theorem dX8_buy_88 : decode cX8_buy 88 = .ok (.aload_n 0, 1) := by decide +kernel
theorem dX8_buy_89 : decode cX8_buy 89 = .ok (.getfield 16, 3) := by decide +kernel
theorem dX8_buy_92 : decode cX8_buy 92 = .ok (.iload_n 2, 1) := by decide +kernel
theorem dX8_buy_93 : decode cX8_buy 93 = .ok (.aload_n 0, 1) := by decide +kernel
theorem dX8_buy_94 : decode cX8_buy 94 = .ok (.getfield 25, 3) := by decide +kernel
theorem dX8_buy_97 : decode cX8_buy 97 = .ok (.iload_n 2, 1) := by decide +kernel
theorem dX8_buy_98 : decode cX8_buy 98 = .ok (.invokevirtual 230, 3) := by decide +kernel
theorem dX8_buy_101 : decode cX8_buy 101 = .ok (.invokevirtual 236, 3) := by decide +kernel
theorem dX8_buy_104 : decode cX8_buy 104 = .ok (.iinc 2 1, 3) := by decide +kernel
theorem dX8_buy_107 : decode cX8_buy 107 = .ok (.goto (-30), 3) := by decide +kernel
theorem dX8_buy_110 : decode cX8_buy 110 = .ok (.iload_n 1, 1) := by decide +kernel
theorem dX8_buy_111 : decode cX8_buy 111 = .ok (.ireturn, 1) := by decide +kernel
theorem dX8_keeping_0 : decode cX8_keeping 0 = .ok (.aload_n 0, 1) := by decide +kernel
theorem dX8_keeping_1 : decode cX8_keeping 1 = .ok (.getfield 25, 3) := by decide +kernel
theorem dX8_keeping_4 : decode cX8_keeping 4 = .ok (.iload_n 1, 1) := by decide +kernel
theorem dX8_keeping_5 : decode cX8_keeping 5 = .ok (.invokevirtual 103, 3) := by decide +kernel
theorem dX8_keeping_8 : decode cX8_keeping 8 = .ok (.ifCond .ne 5, 3) := by decide +kernel
theorem dX8_keeping_11 : decode cX8_keeping 11 = .ok (.iconst (-1), 1) := by decide +kernel
theorem dX8_keeping_12 : decode cX8_keeping 12 = .ok (.ireturn, 1) := by decide +kernel
theorem dX8_keeping_13 : decode cX8_keeping 13 = .ok (.iload_n 2, 1) := by decide +kernel
theorem dX8_keeping_14 : decode cX8_keeping 14 = .ok (.iconst 0, 1) := by decide +kernel
theorem dX8_keeping_15 : decode cX8_keeping 15 = .ok (.bipush 100, 2) := by decide +kernel
theorem dX8_keeping_17 : decode cX8_keeping 17 = .ok (.invokestatic 81, 3) := by decide +kernel
theorem dX8_keeping_20 : decode cX8_keeping 20 = .ok (.ifCond .eq 16, 3) := by decide +kernel
theorem dX8_keeping_23 : decode cX8_keeping 23 = .ok (.iload_n 2, 1) := by decide +kernel
theorem dX8_keeping_24 : decode cX8_keeping 24 = .ok (.aload_n 0, 1) := by decide +kernel
theorem dX8_keeping_25 : decode cX8_keeping 25 = .ok (.getfield 25, 3) := by decide +kernel
theorem dX8_keeping_28 : decode cX8_keeping 28 = .ok (.getfield 104, 3) := by decide +kernel
theorem dX8_keeping_31 : decode cX8_keeping 31 = .ok (.iload_n 1, 1) := by decide +kernel
theorem dX8_keeping_32 : decode cX8_keeping 32 = .ok (.iaload, 1) := by decide +kernel
theorem dX8_keeping_33 : decode cX8_keeping 33 = .ok (.if_icmp .le 6, 3) := by decide +kernel
theorem dX8_keeping_36 : decode cX8_keeping 36 = .ok (.bipush (-2), 2) := by decide +kernel
theorem dX8_keeping_38 : decode cX8_keeping 38 = .ok (.ireturn, 1) := by decide +kernel
theorem dX8_keeping_39 : decode cX8_keeping 39 = .ok (.aload_n 0, 1) := by decide +kernel
theorem dX8_keeping_40 : decode cX8_keeping 40 = .ok (.getfield 25, 3) := by decide +kernel
theorem dX8_keeping_43 : decode cX8_keeping 43 = .ok (.iload_n 1, 1) := by decide +kernel
theorem dX8_keeping_44 : decode cX8_keeping 44 = .ok (.iload_n 2, 1) := by decide +kernel
theorem dX8_keeping_45 : decode cX8_keeping 45 = .ok (.invokevirtual 133, 3) := by decide +kernel
theorem dX8_keeping_48 : decode cX8_keeping 48 = .ok (.ireturn, 1) := by decide +kernel
theorem dX8_even_0 : decode cX8_even 0 = .ok (.aload_n 0, 1) := by decide +kernel
theorem dX8_even_1 : decode cX8_even 1 = .ok (.getfield 25, 3) := by decide +kernel
theorem dX8_even_4 : decode cX8_even 4 = .ok (.iload_n 1, 1) := by decide +kernel
theorem dX8_even_5 : decode cX8_even 5 = .ok (.invokevirtual 103, 3) := by decide +kernel
theorem dX8_even_8 : decode cX8_even 8 = .ok (.ifCond .ne 5, 3) := by decide +kernel
theorem dX8_even_11 : decode cX8_even 11 = .ok (.iconst (-1), 1) := by decide +kernel
theorem dX8_even_12 : decode cX8_even 12 = .ok (.ireturn, 1) := by decide +kernel
theorem dX8_even_13 : decode cX8_even 13 = .ok (.iload_n 2, 1) := by decide +kernel
theorem dX8_even_14 : decode cX8_even 14 = .ok (.iconst 0, 1) := by decide +kernel
theorem dX8_even_15 : decode cX8_even 15 = .ok (.sipush 200, 3) := by decide +kernel
theorem dX8_even_18 : decode cX8_even 18 = .ok (.invokestatic 81, 3) := by decide +kernel
theorem dX8_even_21 : decode cX8_even 21 = .ok (.ifCond .eq 13, 3) := by decide +kernel
theorem dX8_even_24 : decode cX8_even 24 = .ok (.iload_n 3, 1) := by decide +kernel
theorem dX8_even_25 : decode cX8_even 25 = .ok (.iconst 0, 1) := by decide +kernel
theorem dX8_even_26 : decode cX8_even 26 = .ok (.ldc 240, 2) := by decide +kernel
theorem dX8_even_28 : decode cX8_even 28 = .ok (.invokestatic 81, 3) := by decide +kernel
theorem dX8_even_31 : decode cX8_even 31 = .ok (.ifCond .ne 6, 3) := by decide +kernel
theorem dX8_even_34 : decode cX8_even 34 = .ok (.bipush (-2), 2) := by decide +kernel
theorem dX8_even_36 : decode cX8_even 36 = .ok (.ireturn, 1) := by decide +kernel
theorem dX8_even_37 : decode cX8_even 37 = .ok (.aload_n 0, 1) := by decide +kernel
theorem dX8_even_38 : decode cX8_even 38 = .ok (.getfield 25, 3) := by decide +kernel
theorem dX8_even_41 : decode cX8_even 41 = .ok (.iload_n 1, 1) := by decide +kernel
theorem dX8_even_42 : decode cX8_even 42 = .ok (.invokevirtual 241, 3) := by decide +kernel
theorem dX8_even_45 : decode cX8_even 45 = .ok (.i2l, 1) := by decide +kernel
theorem dX8_even_46 : decode cX8_even 46 = .ok (.lstore 4, 2) := by decide +kernel
theorem dX8_even_48 : decode cX8_even 48 = .ok (.iconst 1, 1) := by decide +kernel
theorem dX8_even_49 : decode cX8_even 49 = .ok (.istore 6, 2) := by decide +kernel
theorem dX8_even_51 : decode cX8_even 51 = .ok (.iload 6, 2) := by decide +kernel
theorem dX8_even_53 : decode cX8_even 53 = .ok (.bipush 100, 2) := by decide +kernel
theorem dX8_even_55 : decode cX8_even 55 = .ok (.if_icmp .gt 53, 3) := by decide +kernel
theorem dX8_even_58 : decode cX8_even 58 = .ok (.ldc2_w 244, 3) := by decide +kernel
theorem dX8_even_61 : decode cX8_even 61 = .ok (.lload 4, 2) := by decide +kernel
theorem dX8_even_63 : decode cX8_even 63 = .ok (.lmul, 1) := by decide +kernel
theorem dX8_even_64 : decode cX8_even 64 = .ok (.ldc2_w 244, 3) := by decide +kernel
theorem dX8_even_67 : decode cX8_even 67 = .ok (.iload_n 3, 1) := by decide +kernel
theorem dX8_even_68 : decode cX8_even 68 = .ok (.i2l, 1) := by decide +kernel
theorem dX8_even_69 : decode cX8_even 69 = .ok (.lmul, 1) := by decide +kernel
theorem dX8_even_70 : decode cX8_even 70 = .ok (.ladd, 1) := by decide +kernel
theorem dX8_even_71 : decode cX8_even 71 = .ok (.iload 6, 2) := by decide +kernel
theorem dX8_even_73 : decode cX8_even 73 = .ok (.iconst 1, 1) := by decide +kernel
theorem dX8_even_74 : decode cX8_even 74 = .ok (.isub, 1) := by decide +kernel
theorem dX8_even_75 : decode cX8_even 75 = .ok (.iload_n 2, 1) := by decide +kernel
theorem dX8_even_76 : decode cX8_even 76 = .ok (.imul, 1) := by decide +kernel
theorem dX8_even_77 : decode cX8_even 77 = .ok (.i2l, 1) := by decide +kernel
theorem dX8_even_78 : decode cX8_even 78 = .ok (.lload 4, 2) := by decide +kernel
theorem dX8_even_80 : decode cX8_even 80 = .ok (.lmul, 1) := by decide +kernel
theorem dX8_even_81 : decode cX8_even 81 = .ok (.ladd, 1) := by decide +kernel
theorem dX8_even_82 : decode cX8_even 82 = .ok (.lstore 7, 2) := by decide +kernel
theorem dX8_even_84 : decode cX8_even 84 = .ok (.lload 7, 2) := by decide +kernel
theorem dX8_even_86 : decode cX8_even 86 = .ok (.bipush 100, 2) := by decide +kernel
theorem dX8_even_88 : decode cX8_even 88 = .ok (.iload 6, 2) := by decide +kernel
theorem dX8_even_90 : decode cX8_even 90 = .ok (.imul, 1) := by decide +kernel
theorem dX8_even_91 : decode cX8_even 91 = .ok (.i2l, 1) := by decide +kernel
theorem dX8_even_92 : decode cX8_even 92 = .ok (.lload 4, 2) := by decide +kernel
theorem dX8_even_94 : decode cX8_even 94 = .ok (.lmul, 1) := by decide +kernel
theorem dX8_even_95 : decode cX8_even 95 = .ok (.lcmp, 1) := by decide +kernel
theorem dX8_even_96 : decode cX8_even 96 = .ok (.ifCond .ge 6, 3) := by decide +kernel
theorem dX8_even_99 : decode cX8_even 99 = .ok (.iload 6, 2) := by decide +kernel
theorem dX8_even_101 : decode cX8_even 101 = .ok (.ireturn, 1) := by decide +kernel
theorem dX8_even_102 : decode cX8_even 102 = .ok (.iinc 6 1, 3) := by decide +kernel
theorem dX8_even_105 : decode cX8_even 105 = .ok (.goto (-54), 3) := by decide +kernel
theorem dX8_even_108 : decode cX8_even 108 = .ok (.bipush (-5), 2) := by decide +kernel
theorem dX8_even_110 : decode cX8_even 110 = .ok (.ireturn, 1) := by decide +kernel
theorem dX8_flight_0 : decode cX8_flight 0 = .ok (.iload_n 1, 1) := by decide +kernel
theorem dX8_flight_1 : decode cX8_flight 1 = .ok (.iconst 0, 1) := by decide +kernel
theorem dX8_flight_2 : decode cX8_flight 2 = .ok (.bipush 9, 2) := by decide +kernel
theorem dX8_flight_4 : decode cX8_flight 4 = .ok (.invokestatic 81, 3) := by decide +kernel
theorem dX8_flight_7 : decode cX8_flight 7 = .ok (.ifCond .eq 23, 3) := by decide +kernel
theorem dX8_flight_10 : decode cX8_flight 10 = .ok (.iload_n 2, 1) := by decide +kernel
theorem dX8_flight_11 : decode cX8_flight 11 = .ok (.iconst 0, 1) := by decide +kernel
theorem dX8_flight_12 : decode cX8_flight 12 = .ok (.bipush 9, 2) := by decide +kernel
theorem dX8_flight_14 : decode cX8_flight 14 = .ok (.invokestatic 81, 3) := by decide +kernel
theorem dX8_flight_17 : decode cX8_flight 17 = .ok (.ifCond .eq 13, 3) := by decide +kernel
theorem dX8_flight_20 : decode cX8_flight 20 = .ok (.iload_n 3, 1) := by decide +kernel
theorem dX8_flight_21 : decode cX8_flight 21 = .ok (.iconst 0, 1) := by decide +kernel
theorem dX8_flight_22 : decode cX8_flight 22 = .ok (.bipush 9, 2) := by decide +kernel
theorem dX8_flight_24 : decode cX8_flight 24 = .ok (.invokestatic 81, 3) := by decide +kernel
theorem dX8_flight_27 : decode cX8_flight 27 = .ok (.ifCond .ne 6, 3) := by decide +kernel
theorem dX8_flight_30 : decode cX8_flight 30 = .ok (.bipush (-2), 2) := by decide +kernel
theorem dX8_flight_32 : decode cX8_flight 32 = .ok (.ireturn, 1) := by decide +kernel
theorem dX8_flight_33 : decode cX8_flight 33 = .ok (.iload 4, 2) := by decide +kernel
theorem dX8_flight_35 : decode cX8_flight 35 = .ok (.iconst 0, 1) := by decide +kernel
theorem dX8_flight_36 : decode cX8_flight 36 = .ok (.bipush 11, 2) := by decide +kernel
theorem dX8_flight_38 : decode cX8_flight 38 = .ok (.invokestatic 81, 3) := by decide +kernel
theorem dX8_flight_41 : decode cX8_flight 41 = .ok (.ifCond .eq 15, 3) := by decide +kernel
theorem dX8_flight_44 : decode cX8_flight 44 = .ok (.iload 5, 2) := by decide +kernel
theorem dX8_flight_46 : decode cX8_flight 46 = .ok (.iconst 0, 1) := by decide +kernel
theorem dX8_flight_47 : decode cX8_flight 47 = .ok (.sipush 999, 3) := by decide +kernel
theorem dX8_flight_50 : decode cX8_flight 50 = .ok (.invokestatic 81, 3) := by decide +kernel
theorem dX8_flight_53 : decode cX8_flight 53 = .ok (.ifCond .ne 6, 3) := by decide +kernel
theorem dX8_flight_56 : decode cX8_flight 56 = .ok (.bipush (-2), 2) := by decide +kernel
theorem dX8_flight_58 : decode cX8_flight 58 = .ok (.ireturn, 1) := by decide +kernel
theorem dX8_flight_59 : decode cX8_flight 59 = .ok (.aload_n 0, 1) := by decide +kernel
theorem dX8_flight_60 : decode cX8_flight 60 = .ok (.getfield 77, 3) := by decide +kernel
theorem dX8_flight_63 : decode cX8_flight 63 = .ok (.iload_n 1, 1) := by decide +kernel
theorem dX8_flight_64 : decode cX8_flight 64 = .ok (.iload_n 2, 1) := by decide +kernel
theorem dX8_flight_65 : decode cX8_flight 65 = .ok (.iload_n 3, 1) := by decide +kernel
theorem dX8_flight_66 : decode cX8_flight 66 = .ok (.iload 4, 2) := by decide +kernel
theorem dX8_flight_68 : decode cX8_flight 68 = .ok (.iload 5, 2) := by decide +kernel
theorem dX8_flight_70 : decode cX8_flight 70 = .ok (.invokevirtual 246, 3) := by decide +kernel
theorem dX8_flight_73 : decode cX8_flight 73 = .ok (.ireturn, 1) := by decide +kernel
theorem dX8_deliver_0 : decode cX8_deliver 0 = .ok (.iload_n 1, 1) := by decide +kernel
theorem dX8_deliver_1 : decode cX8_deliver 1 = .ok (.iconst 0, 1) := by decide +kernel
theorem dX8_deliver_2 : decode cX8_deliver 2 = .ok (.iconst 2, 1) := by decide +kernel
theorem dX8_deliver_3 : decode cX8_deliver 3 = .ok (.invokestatic 81, 3) := by decide +kernel
theorem dX8_deliver_6 : decode cX8_deliver 6 = .ok (.ifCond .eq 13, 3) := by decide +kernel
theorem dX8_deliver_9 : decode cX8_deliver 9 = .ok (.iload_n 2, 1) := by decide +kernel
theorem dX8_deliver_10 : decode cX8_deliver 10 = .ok (.iconst 0, 1) := by decide +kernel
theorem dX8_deliver_11 : decode cX8_deliver 11 = .ok (.bipush 11, 2) := by decide +kernel
theorem dX8_deliver_13 : decode cX8_deliver 13 = .ok (.invokestatic 81, 3) := by decide +kernel
theorem dX8_deliver_16 : decode cX8_deliver 16 = .ok (.ifCond .ne 5, 3) := by decide +kernel
theorem dX8_deliver_19 : decode cX8_deliver 19 = .ok (.iconst (-1), 1) := by decide +kernel
theorem dX8_deliver_20 : decode cX8_deliver 20 = .ok (.ireturn, 1) := by decide +kernel
theorem dX8_deliver_21 : decode cX8_deliver 21 = .ok (.iload_n 3, 1) := by decide +kernel
theorem dX8_deliver_22 : decode cX8_deliver 22 = .ok (.iconst 0, 1) := by decide +kernel
theorem dX8_deliver_23 : decode cX8_deliver 23 = .ok (.bipush 9, 2) := by decide +kernel
theorem dX8_deliver_25 : decode cX8_deliver 25 = .ok (.invokestatic 81, 3) := by decide +kernel
theorem dX8_deliver_28 : decode cX8_deliver 28 = .ok (.ifCond .ne 6, 3) := by decide +kernel
theorem dX8_deliver_31 : decode cX8_deliver 31 = .ok (.bipush (-2), 2) := by decide +kernel
theorem dX8_deliver_33 : decode cX8_deliver 33 = .ok (.ireturn, 1) := by decide +kernel
theorem dX8_deliver_34 : decode cX8_deliver 34 = .ok (.aload_n 0, 1) := by decide +kernel
theorem dX8_deliver_35 : decode cX8_deliver 35 = .ok (.getfield 77, 3) := by decide +kernel
theorem dX8_deliver_38 : decode cX8_deliver 38 = .ok (.getfield 249, 3) := by decide +kernel
theorem dX8_deliver_41 : decode cX8_deliver 41 = .ok (.iload_n 1, 1) := by decide +kernel
theorem dX8_deliver_42 : decode cX8_deliver 42 = .ok (.bipush 12, 2) := by decide +kernel
theorem dX8_deliver_44 : decode cX8_deliver 44 = .ok (.imul, 1) := by decide +kernel
theorem dX8_deliver_45 : decode cX8_deliver 45 = .ok (.iload_n 2, 1) := by decide +kernel
theorem dX8_deliver_46 : decode cX8_deliver 46 = .ok (.iadd, 1) := by decide +kernel
theorem dX8_deliver_47 : decode cX8_deliver 47 = .ok (.iload_n 3, 1) := by decide +kernel
theorem dX8_deliver_48 : decode cX8_deliver 48 = .ok (.invokestatic 107, 3) := by decide +kernel
theorem dX8_deliver_51 : decode cX8_deliver 51 = .ok (.ireturn, 1) := by decide +kernel
theorem dX8_year_0 : decode cX8_year 0 = .ok (.aload_n 0, 1) := by decide +kernel
theorem dX8_year_1 : decode cX8_year 1 = .ok (.getfield 77, 3) := by decide +kernel
theorem dX8_year_4 : decode cX8_year 4 = .ok (.invokevirtual 252, 3) := by decide +kernel
theorem dX8_year_7 : decode cX8_year 7 = .ok (.aload_n 0, 1) := by decide +kernel
theorem dX8_year_8 : decode cX8_year 8 = .ok (.getfield 77, 3) := by decide +kernel
theorem dX8_year_11 : decode cX8_year 11 = .ok (.getfield 254, 3) := by decide +kernel
theorem dX8_year_14 : decode cX8_year 14 = .ok (.ireturn, 1) := by decide +kernel
theorem dX8_flights_0 : decode cX8_flights 0 = .ok (.aload_n 0, 1) := by decide +kernel
theorem dX8_flights_1 : decode cX8_flights 1 = .ok (.getfield 77, 3) := by decide +kernel
theorem dX8_flights_4 : decode cX8_flights 4 = .ok (.invokevirtual 252, 3) := by decide +kernel
theorem dX8_flights_7 : decode cX8_flights 7 = .ok (.aload_n 0, 1) := by decide +kernel
theorem dX8_flights_8 : decode cX8_flights 8 = .ok (.getfield 77, 3) := by decide +kernel
theorem dX8_flights_11 : decode cX8_flights 11 = .ok (.getfield 257, 3) := by decide +kernel
theorem dX8_flights_14 : decode cX8_flights 14 = .ok (.ireturn, 1) := by decide +kernel
theorem dX8_count_0 : decode cX8_count 0 = .ok (.iload_n 1, 1) := by decide +kernel
theorem dX8_count_1 : decode cX8_count 1 = .ok (.tableswitch 94 0 5 #[39, 47, 55, 63, 74, 85], 39) := by decide +kernel
theorem dX8_count_40 : decode cX8_count 40 = .ok (.aload_n 0, 1) := by decide +kernel
theorem dX8_count_41 : decode cX8_count 41 = .ok (.getfield 16, 3) := by decide +kernel
theorem dX8_count_44 : decode cX8_count 44 = .ok (.getfield 156, 3) := by decide +kernel
theorem dX8_count_47 : decode cX8_count 47 = .ok (.ireturn, 1) := by decide +kernel
theorem dX8_count_48 : decode cX8_count 48 = .ok (.aload_n 0, 1) := by decide +kernel
theorem dX8_count_49 : decode cX8_count 49 = .ok (.getfield 25, 3) := by decide +kernel
theorem dX8_count_52 : decode cX8_count 52 = .ok (.getfield 99, 3) := by decide +kernel
theorem dX8_count_55 : decode cX8_count 55 = .ok (.ireturn, 1) := by decide +kernel
theorem dX8_count_56 : decode cX8_count 56 = .ok (.aload_n 0, 1) := by decide +kernel
theorem dX8_count_57 : decode cX8_count 57 = .ok (.getfield 77, 3) := by decide +kernel
theorem dX8_count_60 : decode cX8_count 60 = .ok (.getfield 260, 3) := by decide +kernel
theorem dX8_count_63 : decode cX8_count 63 = .ok (.ireturn, 1) := by decide +kernel
theorem dX8_count_64 : decode cX8_count 64 = .ok (.aload_n 0, 1) := by decide +kernel
theorem dX8_count_65 : decode cX8_count 65 = .ok (.getfield 16, 3) := by decide +kernel
theorem dX8_count_68 : decode cX8_count 68 = .ok (.getfield 93, 3) := by decide +kernel
theorem dX8_count_71 : decode cX8_count 71 = .ok (.invokestatic 261, 3) := by decide +kernel
theorem dX8_count_74 : decode cX8_count 74 = .ok (.ireturn, 1) := by decide +kernel
theorem dX8_count_75 : decode cX8_count 75 = .ok (.aload_n 0, 1) := by decide +kernel
theorem dX8_count_76 : decode cX8_count 76 = .ok (.getfield 16, 3) := by decide +kernel
theorem dX8_count_79 : decode cX8_count 79 = .ok (.getfield 227, 3) := by decide +kernel
theorem dX8_count_82 : decode cX8_count 82 = .ok (.invokestatic 261, 3) := by decide +kernel
theorem dX8_count_85 : decode cX8_count 85 = .ok (.ireturn, 1) := by decide +kernel
theorem dX8_count_86 : decode cX8_count 86 = .ok (.aload_n 0, 1) := by decide +kernel
theorem dX8_count_87 : decode cX8_count 87 = .ok (.getfield 25, 3) := by decide +kernel
theorem dX8_count_90 : decode cX8_count 90 = .ok (.iconst 0, 1) := by decide +kernel
theorem dX8_count_91 : decode cX8_count 91 = .ok (.invokevirtual 130, 3) := by decide +kernel
theorem dX8_count_94 : decode cX8_count 94 = .ok (.ireturn, 1) := by decide +kernel
theorem dX8_count_95 : decode cX8_count 95 = .ok (.iconst (-1), 1) := by decide +kernel
theorem dX8_count_96 : decode cX8_count 96 = .ok (.ireturn, 1) := by decide +kernel
theorem dX8_within_0 : decode cX8_within 0 = .ok (.iload_n 0, 1) := by decide +kernel
theorem dX8_within_1 : decode cX8_within 1 = .ok (.iload_n 1, 1) := by decide +kernel
theorem dX8_within_2 : decode cX8_within 2 = .ok (.if_icmp .lt 12, 3) := by decide +kernel
theorem dX8_within_5 : decode cX8_within 5 = .ok (.iload_n 0, 1) := by decide +kernel
theorem dX8_within_6 : decode cX8_within 6 = .ok (.iload_n 2, 1) := by decide +kernel
theorem dX8_within_7 : decode cX8_within 7 = .ok (.if_icmp .gt 7, 3) := by decide +kernel
theorem dX8_within_10 : decode cX8_within 10 = .ok (.iconst 1, 1) := by decide +kernel
theorem dX8_within_11 : decode cX8_within 11 = .ok (.goto 4, 3) := by decide +kernel
theorem dX8_within_14 : decode cX8_within 14 = .ok (.iconst 0, 1) := by decide +kernel
theorem dX8_within_15 : decode cX8_within 15 = .ok (.ireturn, 1) := by decide +kernel
theorem dX8_put_0 : decode cX8_put 0 = .ok (.iload_n 1, 1) := by decide +kernel
theorem dX8_put_1 : decode cX8_put 1 = .ok (.ifCond .lt 9, 3) := by decide +kernel
theorem dX8_put_4 : decode cX8_put 4 = .ok (.iload_n 1, 1) := by decide +kernel
theorem dX8_put_5 : decode cX8_put 5 = .ok (.aload_n 0, 1) := by decide +kernel
theorem dX8_put_6 : decode cX8_put 6 = .ok (.arraylength, 1) := by decide +kernel
theorem dX8_put_7 : decode cX8_put 7 = .ok (.if_icmp .lt 5, 3) := by decide +kernel
theorem dX8_put_10 : decode cX8_put 10 = .ok (.iconst (-1), 1) := by decide +kernel
theorem dX8_put_11 : decode cX8_put 11 = .ok (.ireturn, 1) := by decide +kernel
theorem dX8_put_12 : decode cX8_put 12 = .ok (.aload_n 0, 1) := by decide +kernel
theorem dX8_put_13 : decode cX8_put 13 = .ok (.iload_n 1, 1) := by decide +kernel
theorem dX8_put_14 : decode cX8_put 14 = .ok (.iaload, 1) := by decide +kernel
theorem dX8_put_15 : decode cX8_put 15 = .ok (.istore_n 3, 1) := by decide +kernel
theorem dX8_put_16 : decode cX8_put 16 = .ok (.aload_n 0, 1) := by decide +kernel
theorem dX8_put_17 : decode cX8_put 17 = .ok (.iload_n 1, 1) := by decide +kernel
theorem dX8_put_18 : decode cX8_put 18 = .ok (.iload_n 2, 1) := by decide +kernel
theorem dX8_put_19 : decode cX8_put 19 = .ok (.iastore, 1) := by decide +kernel
theorem dX8_put_20 : decode cX8_put 20 = .ok (.iload_n 3, 1) := by decide +kernel
theorem dX8_put_21 : decode cX8_put 21 = .ok (.ireturn, 1) := by decide +kernel
theorem dX8_sumOf_0 : decode cX8_sumOf 0 = .ok (.iconst 0, 1) := by decide +kernel
theorem dX8_sumOf_1 : decode cX8_sumOf 1 = .ok (.istore_n 1, 1) := by decide +kernel
theorem dX8_sumOf_2 : decode cX8_sumOf 2 = .ok (.aload_n 0, 1) := by decide +kernel
theorem dX8_sumOf_3 : decode cX8_sumOf 3 = .ok (.astore_n 2, 1) := by decide +kernel
theorem dX8_sumOf_4 : decode cX8_sumOf 4 = .ok (.aload_n 2, 1) := by decide +kernel
theorem dX8_sumOf_5 : decode cX8_sumOf 5 = .ok (.arraylength, 1) := by decide +kernel
theorem dX8_sumOf_6 : decode cX8_sumOf 6 = .ok (.istore_n 3, 1) := by decide +kernel
theorem dX8_sumOf_7 : decode cX8_sumOf 7 = .ok (.iconst 0, 1) := by decide +kernel
theorem dX8_sumOf_8 : decode cX8_sumOf 8 = .ok (.istore 4, 2) := by decide +kernel
theorem dX8_sumOf_10 : decode cX8_sumOf 10 = .ok (.iload 4, 2) := by decide +kernel
theorem dX8_sumOf_12 : decode cX8_sumOf 12 = .ok (.iload_n 3, 1) := by decide +kernel
theorem dX8_sumOf_13 : decode cX8_sumOf 13 = .ok (.if_icmp .ge 20, 3) := by decide +kernel
theorem dX8_sumOf_16 : decode cX8_sumOf 16 = .ok (.aload_n 2, 1) := by decide +kernel
theorem dX8_sumOf_17 : decode cX8_sumOf 17 = .ok (.iload 4, 2) := by decide +kernel
theorem dX8_sumOf_19 : decode cX8_sumOf 19 = .ok (.iaload, 1) := by decide +kernel
theorem dX8_sumOf_20 : decode cX8_sumOf 20 = .ok (.istore 5, 2) := by decide +kernel
theorem dX8_sumOf_22 : decode cX8_sumOf 22 = .ok (.iload_n 1, 1) := by decide +kernel
theorem dX8_sumOf_23 : decode cX8_sumOf 23 = .ok (.iload 5, 2) := by decide +kernel
theorem dX8_sumOf_25 : decode cX8_sumOf 25 = .ok (.iadd, 1) := by decide +kernel
theorem dX8_sumOf_26 : decode cX8_sumOf 26 = .ok (.istore_n 1, 1) := by decide +kernel
theorem dX8_sumOf_27 : decode cX8_sumOf 27 = .ok (.iinc 4 1, 3) := by decide +kernel
theorem dX8_sumOf_30 : decode cX8_sumOf 30 = .ok (.goto (-20), 3) := by decide +kernel
theorem dX8_sumOf_33 : decode cX8_sumOf 33 = .ok (.iload_n 1, 1) := by decide +kernel
theorem dX8_sumOf_34 : decode cX8_sumOf 34 = .ok (.ireturn, 1) := by decide +kernel
theorem dX8_digitFor_0 : decode cX8_digitFor 0 = .ok (.iload_n 1, 1) := by decide +kernel
theorem dX8_digitFor_1 : decode cX8_digitFor 1 = .ok (.iconst 5, 1) := by decide +kernel
theorem dX8_digitFor_2 : decode cX8_digitFor 2 = .ok (.iconst 3, 1) := by decide +kernel
theorem dX8_digitFor_3 : decode cX8_digitFor 3 = .ok (.iload_n 0, 1) := by decide +kernel
theorem dX8_digitFor_4 : decode cX8_digitFor 4 = .ok (.isub, 1) := by decide +kernel
theorem dX8_digitFor_5 : decode cX8_digitFor 5 = .ok (.imul, 1) := by decide +kernel
theorem dX8_digitFor_6 : decode cX8_digitFor 6 = .ok (.ishl, 1) := by decide +kernel
theorem dX8_digitFor_7 : decode cX8_digitFor 7 = .ok (.ireturn, 1) := by decide +kernel
theorem dX8_digitIn_0 : decode cX8_digitIn 0 = .ok (.iload_n 0, 1) := by decide +kernel
theorem dX8_digitIn_1 : decode cX8_digitIn 1 = .ok (.iconst 5, 1) := by decide +kernel
theorem dX8_digitIn_2 : decode cX8_digitIn 2 = .ok (.iconst 3, 1) := by decide +kernel
theorem dX8_digitIn_3 : decode cX8_digitIn 3 = .ok (.iload_n 1, 1) := by decide +kernel
theorem dX8_digitIn_4 : decode cX8_digitIn 4 = .ok (.isub, 1) := by decide +kernel
theorem dX8_digitIn_5 : decode cX8_digitIn 5 = .ok (.imul, 1) := by decide +kernel
theorem dX8_digitIn_6 : decode cX8_digitIn 6 = .ok (.ishr, 1) := by decide +kernel
theorem dX8_digitIn_7 : decode cX8_digitIn 7 = .ok (.bipush 31, 2) := by decide +kernel
theorem dX8_digitIn_9 : decode cX8_digitIn 9 = .ok (.iand, 1) := by decide +kernel
theorem dX8_digitIn_10 : decode cX8_digitIn 10 = .ok (.ireturn, 1) := by decide +kernel
theorem dX9_init_0 : decode cX9_init 0 = .ok (.aload_n 0, 1) := by decide +kernel
theorem dX9_init_1 : decode cX9_init 1 = .ok (.invokespecial 1, 3) := by decide +kernel
theorem dX9_init_4 : decode cX9_init 4 = .ok (.aload_n 0, 1) := by decide +kernel
theorem dX9_init_5 : decode cX9_init 5 = .ok (.bipush 6, 2) := by decide +kernel
theorem dX9_init_7 : decode cX9_init 7 = .ok (.newarray .int, 2) := by decide +kernel
theorem dX9_init_9 : decode cX9_init 9 = .ok (.putfield 7, 3) := by decide +kernel
theorem dX9_init_12 : decode cX9_init 12 = .ok (.aload_n 0, 1) := by decide +kernel
theorem dX9_init_13 : decode cX9_init 13 = .ok (.bipush 6, 2) := by decide +kernel
theorem dX9_init_15 : decode cX9_init 15 = .ok (.newarray .int, 2) := by decide +kernel
theorem dX9_init_17 : decode cX9_init 17 = .ok (.putfield 13, 3) := by decide +kernel
theorem dX9_init_20 : decode cX9_init 20 = .ok (.aload_n 0, 1) := by decide +kernel
theorem dX9_init_21 : decode cX9_init 21 = .ok (.bipush 6, 2) := by decide +kernel
theorem dX9_init_23 : decode cX9_init 23 = .ok (.newarray .int, 2) := by decide +kernel
theorem dX9_init_25 : decode cX9_init 25 = .ok (.putfield 16, 3) := by decide +kernel
theorem dX9_init_28 : decode cX9_init 28 = .ok (.aload_n 0, 1) := by decide +kernel
theorem dX9_init_29 : decode cX9_init 29 = .ok (.bipush 6, 2) := by decide +kernel
theorem dX9_init_31 : decode cX9_init 31 = .ok (.newarray .int, 2) := by decide +kernel
theorem dX9_init_33 : decode cX9_init 33 = .ok (.putfield 19, 3) := by decide +kernel
theorem dX9_init_36 : decode cX9_init 36 = .ok (.aload_n 0, 1) := by decide +kernel
theorem dX9_init_37 : decode cX9_init 37 = .ok (.bipush 6, 2) := by decide +kernel
theorem dX9_init_39 : decode cX9_init 39 = .ok (.newarray .int, 2) := by decide +kernel
theorem dX9_init_41 : decode cX9_init 41 = .ok (.putfield 22, 3) := by decide +kernel
theorem dX9_init_44 : decode cX9_init 44 = .ok (.aload_n 0, 1) := by decide +kernel
theorem dX9_init_45 : decode cX9_init 45 = .ok (.bipush 6, 2) := by decide +kernel
theorem dX9_init_47 : decode cX9_init 47 = .ok (.newarray .int, 2) := by decide +kernel
theorem dX9_init_49 : decode cX9_init 49 = .ok (.putfield 25, 3) := by decide +kernel
theorem dX9_init_52 : decode cX9_init 52 = .ok (.aload_n 0, 1) := by decide +kernel
theorem dX9_init_53 : decode cX9_init 53 = .ok (.iconst 4, 1) := by decide +kernel
theorem dX9_init_54 : decode cX9_init 54 = .ok (.newarray .int, 2) := by decide +kernel
theorem dX9_init_56 : decode cX9_init 56 = .ok (.putfield 28, 3) := by decide +kernel
theorem dX9_init_59 : decode cX9_init 59 = .ok (.aload_n 0, 1) := by decide +kernel
theorem dX9_init_60 : decode cX9_init 60 = .ok (.iconst 4, 1) := by decide +kernel
theorem dX9_init_61 : decode cX9_init 61 = .ok (.newarray .int, 2) := by decide +kernel
theorem dX9_init_63 : decode cX9_init 63 = .ok (.putfield 31, 3) := by decide +kernel
theorem dX9_init_66 : decode cX9_init 66 = .ok (.aload_n 0, 1) := by decide +kernel
theorem dX9_init_67 : decode cX9_init 67 = .ok (.iconst 4, 1) := by decide +kernel
theorem dX9_init_68 : decode cX9_init 68 = .ok (.newarray .int, 2) := by decide +kernel
theorem dX9_init_70 : decode cX9_init 70 = .ok (.putfield 34, 3) := by decide +kernel
theorem dX9_init_73 : decode cX9_init 73 = .ok (.aload_n 0, 1) := by decide +kernel
theorem dX9_init_74 : decode cX9_init 74 = .ok (.iconst 4, 1) := by decide +kernel
theorem dX9_init_75 : decode cX9_init 75 = .ok (.newarray .int, 2) := by decide +kernel
theorem dX9_init_77 : decode cX9_init 77 = .ok (.putfield 37, 3) := by decide +kernel
theorem dX9_init_80 : decode cX9_init 80 = .ok (.aload_n 0, 1) := by decide +kernel
theorem dX9_init_81 : decode cX9_init 81 = .ok (.bipush 10, 2) := by decide +kernel
theorem dX9_init_83 : decode cX9_init 83 = .ok (.newarray .int, 2) := by decide +kernel
theorem dX9_init_85 : decode cX9_init 85 = .ok (.putfield 40, 3) := by decide +kernel
theorem dX9_init_88 : decode cX9_init 88 = .ok (.aload_n 0, 1) := by decide +kernel
theorem dX9_init_89 : decode cX9_init 89 = .ok (.iconst 3, 1) := by decide +kernel
theorem dX9_init_90 : decode cX9_init 90 = .ok (.newarray .int, 2) := by decide +kernel
theorem dX9_init_92 : decode cX9_init 92 = .ok (.putfield 43, 3) := by decide +kernel
theorem dX9_init_95 : decode cX9_init 95 = .ok (.aload_n 0, 1) := by decide +kernel
theorem dX9_init_96 : decode cX9_init 96 = .ok (.bipush 10, 2) := by decide +kernel
theorem dX9_init_98 : decode cX9_init 98 = .ok (.putfield 46, 3) := by decide +kernel
theorem dX9_init_101 : decode cX9_init 101 = .ok (.aload_n 0, 1) := by decide +kernel
theorem dX9_init_102 : decode cX9_init 102 = .ok (.bipush 10, 2) := by decide +kernel
theorem dX9_init_104 : decode cX9_init 104 = .ok (.putfield 50, 3) := by decide +kernel
theorem dX9_init_107 : decode cX9_init 107 = .ok (.aload_n 0, 1) := by decide +kernel
theorem dX9_init_108 : decode cX9_init 108 = .ok (.bipush 90, 2) := by decide +kernel
theorem dX9_init_110 : decode cX9_init 110 = .ok (.putfield 53, 3) := by decide +kernel
theorem dX9_init_113 : decode cX9_init 113 = .ok (.aload_n 0, 1) := by decide +kernel
theorem dX9_init_114 : decode cX9_init 114 = .ok (.iconst 4, 1) := by decide +kernel
theorem dX9_init_115 : decode cX9_init 115 = .ok (.newarray .int, 2) := by decide +kernel
theorem dX9_init_117 : decode cX9_init 117 = .ok (.putfield 56, 3) := by decide +kernel
