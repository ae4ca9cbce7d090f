theorem dX0_init_0 : decode cX0_init 0 = .ok (.aload_n 0, 1) := by decide +kernel
theorem dX0_init_1 : decode cX0_init 1 = .ok (.invokespecial 5, 3) := by decide +kernel
theorem dX0_init_4 : decode cX0_init 4 = .ok (.aload_n 0, 1) := by decide +kernel
theorem dX0_init_5 : decode cX0_init 5 = .ok (.sipush 343, 3) := by decide +kernel
theorem dX0_init_8 : decode cX0_init 8 = .ok (.newarray .int, 2) := by decide +kernel
theorem dX0_init_10 : decode cX0_init 10 = .ok (.putfield 11, 3) := by decide +kernel
theorem dX0_init_13 : decode cX0_init 13 = .ok (.aload_n 0, 1) := by decide +kernel
theorem dX0_init_14 : decode cX0_init 14 = .ok (.sipush 343, 3) := by decide +kernel
theorem dX0_init_17 : decode cX0_init 17 = .ok (.newarray .int, 2) := by decide +kernel
theorem dX0_init_19 : decode cX0_init 19 = .ok (.putfield 15, 3) := by decide +kernel
theorem dX0_init_22 : decode cX0_init 22 = .ok (.aload_n 0, 1) := by decide +kernel
theorem dX0_init_23 : decode cX0_init 23 = .ok (.sipush 343, 3) := by decide +kernel
theorem dX0_init_26 : decode cX0_init 26 = .ok (.newarray .int, 2) := by decide +kernel
theorem dX0_init_28 : decode cX0_init 28 = .ok (.putfield 18, 3) := by decide +kernel
theorem dX0_init_31 : decode cX0_init 31 = .ok (.aload_n 0, 1) := by decide +kernel
theorem dX0_init_32 : decode cX0_init 32 = .ok (.sipush 343, 3) := by decide +kernel
theorem dX0_init_35 : decode cX0_init 35 = .ok (.newarray .int, 2) := by decide +kernel
theorem dX0_init_37 : decode cX0_init 37 = .ok (.putfield 21, 3) := by decide +kernel
theorem dX0_init_40 : decode cX0_init 40 = .ok (.aload_n 0, 1) := by decide +kernel
theorem dX0_init_41 : decode cX0_init 41 = .ok (.iconst 0, 1) := by decide +kernel
theorem dX0_init_42 : decode cX0_init 42 = .ok (.putfield 24, 3) := by decide +kernel
theorem dX0_init_45 : decode cX0_init 45 = .ok (.aload_n 0, 1) := by decide +kernel
theorem dX0_init_46 : decode cX0_init 46 = .ok (.iconst 0, 1) := by decide +kernel
theorem dX0_init_47 : decode cX0_init 47 = .ok (.putfield 28, 3) := by decide +kernel
theorem dX0_init_50 : decode cX0_init 50 = .ok (.aload_n 0, 1) := by decide +kernel
theorem dX0_init_51 : decode cX0_init 51 = .ok (.iconst 0, 1) := by decide +kernel
theorem dX0_init_52 : decode cX0_init 52 = .ok (.putfield 31, 3) := by decide +kernel
theorem dX0_init_55 : decode cX0_init 55 = .ok (.aload_n 0, 1) := by decide +kernel
theorem dX0_init_56 : decode cX0_init 56 = .ok (.ldc 34, 2) := by decide +kernel
theorem dX0_init_58 : decode cX0_init 58 = .ok (.putfield 35, 3) := by decide +kernel
theorem dX0_init_61 : decode cX0_init 61 = .ok (.aload_n 0, 1) := by decide +kernel
theorem dX0_init_62 : decode cX0_init 62 = .ok (.iconst 0, 1) := by decide +kernel
theorem dX0_init_63 : decode cX0_init 63 = .ok (.putfield 38, 3) := by decide +kernel
theorem dX0_init_66 : decode cX0_init 66 = .ok (.aload_n 0, 1) := by decide +kernel
theorem dX0_init_67 : decode cX0_init 67 = .ok (.iconst 0, 1) := by decide +kernel
theorem dX0_init_68 : decode cX0_init 68 = .ok (.putfield 41, 3) := by decide +kernel
theorem dX0_init_71 : decode cX0_init 71 = .ok (.aload_n 0, 1) := by decide +kernel
theorem dX0_init_72 : decode cX0_init 72 = .ok (.iconst 0, 1) := by decide +kernel
theorem dX0_init_73 : decode cX0_init 73 = .ok (.putfield 44, 3) := by decide +kernel
theorem dX0_init_76 : decode cX0_init 76 = .ok (.aload_n 0, 1) := by decide +kernel
theorem dX0_init_77 : decode cX0_init 77 = .ok (.aload_n 1, 1) := by decide +kernel
theorem dX0_init_78 : decode cX0_init 78 = .ok (.putfield 47, 3) := by decide +kernel
theorem dX0_init_81 : decode cX0_init 81 = .ok (.aload_n 0, 1) := by decide +kernel
theorem dX0_init_82 : decode cX0_init 82 = .ok (.aload_n 1, 1) := by decide +kernel
theorem dX0_init_83 : decode cX0_init 83 = .ok (.getfield 51, 3) := by decide +kernel
theorem dX0_init_86 : decode cX0_init 86 = .ok (.putfield 57, 3) := by decide +kernel
theorem dX0_init_89 : decode cX0_init 89 = .ok (.aload_n 0, 1) := by decide +kernel
theorem dX0_init_90 : decode cX0_init 90 = .ok (.aload_n 2, 1) := by decide +kernel
theorem dX0_init_91 : decode cX0_init 91 = .ok (.putfield 58, 3) := by decide +kernel
theorem dX0_init_94 : decode cX0_init 94 = .ok (.return_, 1) := by decide +kernel
theorem dX0_optionOf_0 : decode cX0_optionOf 0 = .ok (.iload_n 0, 1) := by decide +kernel
theorem dX0_optionOf_1 : decode cX0_optionOf 1 = .ok (.iconst 3, 1) := by decide +kernel
theorem dX0_optionOf_2 : decode cX0_optionOf 2 = .ok (.imul, 1) := by decide +kernel
theorem dX0_optionOf_3 : decode cX0_optionOf 3 = .ok (.iload_n 1, 1) := by decide +kernel
theorem dX0_optionOf_4 : decode cX0_optionOf 4 = .ok (.iadd, 1) := by decide +kernel
theorem dX0_optionOf_5 : decode cX0_optionOf 5 = .ok (.iconst 1, 1) := by decide +kernel
theorem dX0_optionOf_6 : decode cX0_optionOf 6 = .ok (.isub, 1) := by decide +kernel
theorem dX0_optionOf_7 : decode cX0_optionOf 7 = .ok (.ireturn, 1) := by decide +kernel
theorem dX0_engineIn_0 : decode cX0_engineIn 0 = .ok (.iload_n 0, 1) := by decide +kernel
theorem dX0_engineIn_1 : decode cX0_engineIn 1 = .ok (.iconst 3, 1) := by decide +kernel
theorem dX0_engineIn_2 : decode cX0_engineIn 2 = .ok (.idiv, 1) := by decide +kernel
theorem dX0_engineIn_3 : decode cX0_engineIn 3 = .ok (.ireturn, 1) := by decide +kernel
theorem dX0_manyIn_0 : decode cX0_manyIn 0 = .ok (.iload_n 0, 1) := by decide +kernel
theorem dX0_manyIn_1 : decode cX0_manyIn 1 = .ok (.iconst 3, 1) := by decide +kernel
theorem dX0_manyIn_2 : decode cX0_manyIn 2 = .ok (.irem, 1) := by decide +kernel
theorem dX0_manyIn_3 : decode cX0_manyIn 3 = .ok (.iconst 1, 1) := by decide +kernel
theorem dX0_manyIn_4 : decode cX0_manyIn 4 = .ok (.iadd, 1) := by decide +kernel
theorem dX0_manyIn_5 : decode cX0_manyIn 5 = .ok (.ireturn, 1) := by decide +kernel
theorem dX0_search_0 : decode cX0_search 0 = .ok (.aload_n 0, 1) := by decide +kernel
theorem dX0_search_1 : decode cX0_search 1 = .ok (.iload_n 1, 1) := by decide +kernel
theorem dX0_search_2 : decode cX0_search 2 = .ok (.putfield 28, 3) := by decide +kernel
theorem dX0_search_5 : decode cX0_search 5 = .ok (.aload_n 0, 1) := by decide +kernel
theorem dX0_search_6 : decode cX0_search 6 = .ok (.iload_n 2, 1) := by decide +kernel
theorem dX0_search_7 : decode cX0_search 7 = .ok (.putfield 31, 3) := by decide +kernel
theorem dX0_search_10 : decode cX0_search 10 = .ok (.aload_n 0, 1) := by decide +kernel
theorem dX0_search_11 : decode cX0_search 11 = .ok (.ldc 34, 2) := by decide +kernel
theorem dX0_search_13 : decode cX0_search 13 = .ok (.putfield 35, 3) := by decide +kernel
theorem dX0_search_16 : decode cX0_search 16 = .ok (.aload_n 0, 1) := by decide +kernel
theorem dX0_search_17 : decode cX0_search 17 = .ok (.iconst 0, 1) := by decide +kernel
theorem dX0_search_18 : decode cX0_search 18 = .ok (.putfield 24, 3) := by decide +kernel
theorem dX0_search_21 : decode cX0_search 21 = .ok (.aload_n 0, 1) := by decide +kernel
theorem dX0_search_22 : decode cX0_search 22 = .ok (.aload_n 0, 1) := by decide +kernel
theorem dX0_search_23 : decode cX0_search 23 = .ok (.getfield 47, 3) := by decide +kernel
theorem dX0_search_26 : decode cX0_search 26 = .ok (.invokevirtual 62, 3) := by decide +kernel
theorem dX0_search_29 : decode cX0_search 29 = .ok (.iconst 0, 1) := by decide +kernel
theorem dX0_search_30 : decode cX0_search 30 = .ok (.iconst 0, 1) := by decide +kernel
theorem dX0_search_31 : decode cX0_search 31 = .ok (.iconst 0, 1) := by decide +kernel
theorem dX0_search_32 : decode cX0_search 32 = .ok (.invokevirtual 66, 3) := by decide +kernel
theorem dX0_search_35 : decode cX0_search 35 = .ok (.iconst 0, 1) := by decide +kernel
theorem dX0_search_36 : decode cX0_search 36 = .ok (.istore_n 3, 1) := by decide +kernel
theorem dX0_search_37 : decode cX0_search 37 = .ok (.aload_n 0, 1) := by decide +kernel
theorem dX0_search_38 : decode cX0_search 38 = .ok (.getfield 47, 3) := by decide +kernel
theorem dX0_search_41 : decode cX0_search 41 = .ok (.getfield 70, 3) := by decide +kernel
theorem dX0_search_44 : decode cX0_search 44 = .ok (.iconst 1, 1) := by decide +kernel
theorem dX0_search_45 : decode cX0_search 45 = .ok (.isub, 1) := by decide +kernel
theorem dX0_search_46 : decode cX0_search 46 = .ok (.istore 4, 2) := by decide +kernel
theorem dX0_search_48 : decode cX0_search 48 = .ok (.iload 4, 2) := by decide +kernel
theorem dX0_search_50 : decode cX0_search 50 = .ok (.ifCond .lt 27, 3) := by decide +kernel
theorem dX0_search_53 : decode cX0_search 53 = .ok (.aload_n 0, 1) := by decide +kernel
theorem dX0_search_54 : decode cX0_search 54 = .ok (.getfield 24, 3) := by decide +kernel
theorem dX0_search_57 : decode cX0_search 57 = .ok (.istore 5, 2) := by decide +kernel
theorem dX0_search_59 : decode cX0_search 59 = .ok (.aload_n 0, 1) := by decide +kernel
theorem dX0_search_60 : decode cX0_search 60 = .ok (.iload 4, 2) := by decide +kernel
theorem dX0_search_62 : decode cX0_search 62 = .ok (.iload_n 3, 1) := by decide +kernel
theorem dX0_search_63 : decode cX0_search 63 = .ok (.iload 5, 2) := by decide +kernel
theorem dX0_search_65 : decode cX0_search 65 = .ok (.invokevirtual 73, 3) := by decide +kernel
theorem dX0_search_68 : decode cX0_search 68 = .ok (.iload 5, 2) := by decide +kernel
theorem dX0_search_70 : decode cX0_search 70 = .ok (.istore_n 3, 1) := by decide +kernel
theorem dX0_search_71 : decode cX0_search 71 = .ok (.iinc 4 (-1), 3) := by decide +kernel
theorem dX0_search_74 : decode cX0_search 74 = .ok (.goto (-26), 3) := by decide +kernel
theorem dX0_search_77 : decode cX0_search 77 = .ok (.aload_n 0, 1) := by decide +kernel
theorem dX0_search_78 : decode cX0_search 78 = .ok (.getfield 35, 3) := by decide +kernel
theorem dX0_search_81 : decode cX0_search 81 = .ok (.ldc 34, 2) := by decide +kernel
theorem dX0_search_83 : decode cX0_search 83 = .ok (.if_icmp .ne 6, 3) := by decide +kernel
theorem dX0_search_86 : decode cX0_search 86 = .ok (.bipush (-5), 2) := by decide +kernel
theorem dX0_search_88 : decode cX0_search 88 = .ok (.ireturn, 1) := by decide +kernel
theorem dX0_search_89 : decode cX0_search 89 = .ok (.aload_n 0, 1) := by decide +kernel
theorem dX0_search_90 : decode cX0_search 90 = .ok (.aload_n 0, 1) := by decide +kernel
theorem dX0_search_91 : decode cX0_search 91 = .ok (.getfield 38, 3) := by decide +kernel
theorem dX0_search_94 : decode cX0_search 94 = .ok (.putfield 41, 3) := by decide +kernel
theorem dX0_search_97 : decode cX0_search 97 = .ok (.aload_n 0, 1) := by decide +kernel
theorem dX0_search_98 : decode cX0_search 98 = .ok (.aload_n 0, 1) := by decide +kernel
theorem dX0_search_99 : decode cX0_search 99 = .ok (.getfield 47, 3) := by decide +kernel
theorem dX0_search_102 : decode cX0_search 102 = .ok (.getfield 70, 3) := by decide +kernel
theorem dX0_search_105 : decode cX0_search 105 = .ok (.putfield 44, 3) := by decide +kernel
theorem dX0_search_108 : decode cX0_search 108 = .ok (.aload_n 0, 1) := by decide +kernel
theorem dX0_search_109 : decode cX0_search 109 = .ok (.getfield 35, 3) := by decide +kernel
theorem dX0_search_112 : decode cX0_search 112 = .ok (.ireturn, 1) := by decide +kernel
theorem dX0_chooseFor_0 : decode cX0_chooseFor 0 = .ok (.aload_n 0, 1) := by decide +kernel
theorem dX0_chooseFor_1 : decode cX0_chooseFor 1 = .ok (.getfield 47, 3) := by decide +kernel
theorem dX0_chooseFor_4 : decode cX0_chooseFor 4 = .ok (.iload_n 1, 1) := by decide +kernel
theorem dX0_chooseFor_5 : decode cX0_chooseFor 5 = .ok (.invokevirtual 77, 3) := by decide +kernel
theorem dX0_chooseFor_8 : decode cX0_chooseFor 8 = .ok (.ifCond .eq 19, 3) := by decide +kernel
theorem dX0_chooseFor_11 : decode cX0_chooseFor 11 = .ok (.iload_n 2, 1) := by decide +kernel
theorem dX0_chooseFor_12 : decode cX0_chooseFor 12 = .ok (.ifCond .lt 15, 3) := by decide +kernel
theorem dX0_chooseFor_15 : decode cX0_chooseFor 15 = .ok (.iload_n 2, 1) := by decide +kernel
theorem dX0_chooseFor_16 : decode cX0_chooseFor 16 = .ok (.iload_n 3, 1) := by decide +kernel
theorem dX0_chooseFor_17 : decode cX0_chooseFor 17 = .ok (.if_icmp .ge 10, 3) := by decide +kernel
theorem dX0_chooseFor_20 : decode cX0_chooseFor 20 = .ok (.iload_n 3, 1) := by decide +kernel
theorem dX0_chooseFor_21 : decode cX0_chooseFor 21 = .ok (.sipush 343, 3) := by decide +kernel
theorem dX0_chooseFor_24 : decode cX0_chooseFor 24 = .ok (.if_icmp .le 4, 3) := by decide +kernel
theorem dX0_chooseFor_27 : decode cX0_chooseFor 27 = .ok (.return_, 1) := by decide +kernel
theorem dX0_chooseFor_28 : decode cX0_chooseFor 28 = .ok (.aload_n 0, 1) := by decide +kernel
theorem dX0_chooseFor_29 : decode cX0_chooseFor 29 = .ok (.getfield 47, 3) := by decide +kernel
theorem dX0_chooseFor_32 : decode cX0_chooseFor 32 = .ok (.getfield 81, 3) := by decide +kernel
theorem dX0_chooseFor_35 : decode cX0_chooseFor 35 = .ok (.iload_n 1, 1) := by decide +kernel
theorem dX0_chooseFor_36 : decode cX0_chooseFor 36 = .ok (.iaload, 1) := by decide +kernel
theorem dX0_chooseFor_37 : decode cX0_chooseFor 37 = .ok (.aload_n 0, 1) := by decide +kernel
theorem dX0_chooseFor_38 : decode cX0_chooseFor 38 = .ok (.getfield 47, 3) := by decide +kernel
theorem dX0_chooseFor_41 : decode cX0_chooseFor 41 = .ok (.aload_n 0, 1) := by decide +kernel
theorem dX0_chooseFor_42 : decode cX0_chooseFor 42 = .ok (.getfield 47, 3) := by decide +kernel
theorem dX0_chooseFor_45 : decode cX0_chooseFor 45 = .ok (.getfield 84, 3) := by decide +kernel
theorem dX0_chooseFor_48 : decode cX0_chooseFor 48 = .ok (.iload_n 1, 1) := by decide +kernel
theorem dX0_chooseFor_49 : decode cX0_chooseFor 49 = .ok (.iaload, 1) := by decide +kernel
theorem dX0_chooseFor_50 : decode cX0_chooseFor 50 = .ok (.invokevirtual 87, 3) := by decide +kernel
theorem dX0_chooseFor_53 : decode cX0_chooseFor 53 = .ok (.iadd, 1) := by decide +kernel
theorem dX0_chooseFor_54 : decode cX0_chooseFor 54 = .ok (.istore 4, 2) := by decide +kernel
theorem dX0_chooseFor_56 : decode cX0_chooseFor 56 = .ok (.aload_n 0, 1) := by decide +kernel
theorem dX0_chooseFor_57 : decode cX0_chooseFor 57 = .ok (.getfield 11, 3) := by decide +kernel
theorem dX0_chooseFor_60 : decode cX0_chooseFor 60 = .ok (.iload_n 2, 1) := by decide +kernel
theorem dX0_chooseFor_61 : decode cX0_chooseFor 61 = .ok (.iaload, 1) := by decide +kernel
theorem dX0_chooseFor_62 : decode cX0_chooseFor 62 = .ok (.istore 5, 2) := by decide +kernel
theorem dX0_chooseFor_64 : decode cX0_chooseFor 64 = .ok (.iload 5, 2) := by decide +kernel
theorem dX0_chooseFor_66 : decode cX0_chooseFor 66 = .ok (.istore 6, 2) := by decide +kernel
theorem dX0_chooseFor_68 : decode cX0_chooseFor 68 = .ok (.iload_n 2, 1) := by decide +kernel
theorem dX0_chooseFor_69 : decode cX0_chooseFor 69 = .ok (.istore 7, 2) := by decide +kernel
theorem dX0_chooseFor_71 : decode cX0_chooseFor 71 = .ok (.iload 7, 2) := by decide +kernel
theorem dX0_chooseFor_73 : decode cX0_chooseFor 73 = .ok (.iload_n 3, 1) := by decide +kernel
theorem dX0_chooseFor_74 : decode cX0_chooseFor 74 = .ok (.if_icmp .ge 37, 3) := by decide +kernel
theorem dX0_chooseFor_77 : decode cX0_chooseFor 77 = .ok (.iload 5, 2) := by decide +kernel
theorem dX0_chooseFor_79 : decode cX0_chooseFor 79 = .ok (.aload_n 0, 1) := by decide +kernel
theorem dX0_chooseFor_80 : decode cX0_chooseFor 80 = .ok (.getfield 11, 3) := by decide +kernel
theorem dX0_chooseFor_83 : decode cX0_chooseFor 83 = .ok (.iload 7, 2) := by decide +kernel
theorem dX0_chooseFor_85 : decode cX0_chooseFor 85 = .ok (.iaload, 1) := by decide +kernel
theorem dX0_chooseFor_86 : decode cX0_chooseFor 86 = .ok (.invokestatic 91, 3) := by decide +kernel
theorem dX0_chooseFor_89 : decode cX0_chooseFor 89 = .ok (.istore 5, 2) := by decide +kernel
theorem dX0_chooseFor_91 : decode cX0_chooseFor 91 = .ok (.iload 6, 2) := by decide +kernel
theorem dX0_chooseFor_93 : decode cX0_chooseFor 93 = .ok (.aload_n 0, 1) := by decide +kernel
theorem dX0_chooseFor_94 : decode cX0_chooseFor 94 = .ok (.getfield 11, 3) := by decide +kernel
theorem dX0_chooseFor_97 : decode cX0_chooseFor 97 = .ok (.iload 7, 2) := by decide +kernel
theorem dX0_chooseFor_99 : decode cX0_chooseFor 99 = .ok (.iaload, 1) := by decide +kernel
theorem dX0_chooseFor_100 : decode cX0_chooseFor 100 = .ok (.invokestatic 97, 3) := by decide +kernel
theorem dX0_chooseFor_103 : decode cX0_chooseFor 103 = .ok (.istore 6, 2) := by decide +kernel
theorem dX0_chooseFor_105 : decode cX0_chooseFor 105 = .ok (.iinc 7 1, 3) := by decide +kernel
theorem dX0_chooseFor_108 : decode cX0_chooseFor 108 = .ok (.goto (-37), 3) := by decide +kernel
theorem dX0_chooseFor_111 : decode cX0_chooseFor 111 = .ok (.iconst 0, 1) := by decide +kernel
theorem dX0_chooseFor_112 : decode cX0_chooseFor 112 = .ok (.istore 7, 2) := by decide +kernel
theorem dX0_chooseFor_114 : decode cX0_chooseFor 114 = .ok (.iload 7, 2) := by decide +kernel
theorem dX0_chooseFor_116 : decode cX0_chooseFor 116 = .ok (.aload_n 0, 1) := by decide +kernel
theorem dX0_chooseFor_117 : decode cX0_chooseFor 117 = .ok (.getfield 57, 3) := by decide +kernel
theorem dX0_chooseFor_120 : decode cX0_chooseFor 120 = .ok (.getfield 100, 3) := by decide +kernel
theorem dX0_chooseFor_123 : decode cX0_chooseFor 123 = .ok (.if_icmp .ge 97, 3) := by decide +kernel
theorem dX0_chooseFor_126 : decode cX0_chooseFor 126 = .ok (.iload 6, 2) := by decide +kernel
theorem dX0_chooseFor_128 : decode cX0_chooseFor 128 = .ok (.iload 4, 2) := by decide +kernel
theorem dX0_chooseFor_130 : decode cX0_chooseFor 130 = .ok (.iadd, 1) := by decide +kernel
theorem dX0_chooseFor_131 : decode cX0_chooseFor 131 = .ok (.iconst 3, 1) := by decide +kernel
theorem dX0_chooseFor_132 : decode cX0_chooseFor 132 = .ok (.aload_n 0, 1) := by decide +kernel
theorem dX0_chooseFor_133 : decode cX0_chooseFor 133 = .ok (.getfield 57, 3) := by decide +kernel
theorem dX0_chooseFor_136 : decode cX0_chooseFor 136 = .ok (.getfield 103, 3) := by decide +kernel
theorem dX0_chooseFor_139 : decode cX0_chooseFor 139 = .ok (.iload 7, 2) := by decide +kernel
theorem dX0_chooseFor_141 : decode cX0_chooseFor 141 = .ok (.iaload, 1) := by decide +kernel
theorem dX0_chooseFor_142 : decode cX0_chooseFor 142 = .ok (.imul, 1) := by decide +kernel
theorem dX0_chooseFor_143 : decode cX0_chooseFor 143 = .ok (.iadd, 1) := by decide +kernel
theorem dX0_chooseFor_144 : decode cX0_chooseFor 144 = .ok (.aload_n 0, 1) := by decide +kernel
theorem dX0_chooseFor_145 : decode cX0_chooseFor 145 = .ok (.getfield 47, 3) := by decide +kernel
theorem dX0_chooseFor_148 : decode cX0_chooseFor 148 = .ok (.getfield 84, 3) := by decide +kernel
theorem dX0_chooseFor_151 : decode cX0_chooseFor 151 = .ok (.iload_n 1, 1) := by decide +kernel
theorem dX0_chooseFor_152 : decode cX0_chooseFor 152 = .ok (.iaload, 1) := by decide +kernel
theorem dX0_chooseFor_153 : decode cX0_chooseFor 153 = .ok (.iadd, 1) := by decide +kernel
theorem dX0_chooseFor_154 : decode cX0_chooseFor 154 = .ok (.istore 8, 2) := by decide +kernel
theorem dX0_chooseFor_156 : decode cX0_chooseFor 156 = .ok (.aload_n 0, 1) := by decide +kernel
theorem dX0_chooseFor_157 : decode cX0_chooseFor 157 = .ok (.getfield 58, 3) := by decide +kernel
theorem dX0_chooseFor_160 : decode cX0_chooseFor 160 = .ok (.aload_n 0, 1) := by decide +kernel
theorem dX0_chooseFor_161 : decode cX0_chooseFor 161 = .ok (.getfield 57, 3) := by decide +kernel
theorem dX0_chooseFor_164 : decode cX0_chooseFor 164 = .ok (.getfield 106, 3) := by decide +kernel
theorem dX0_chooseFor_167 : decode cX0_chooseFor 167 = .ok (.iload 7, 2) := by decide +kernel
theorem dX0_chooseFor_169 : decode cX0_chooseFor 169 = .ok (.iaload, 1) := by decide +kernel
theorem dX0_chooseFor_170 : decode cX0_chooseFor 170 = .ok (.iload 5, 2) := by decide +kernel
theorem dX0_chooseFor_172 : decode cX0_chooseFor 172 = .ok (.iload 4, 2) := by decide +kernel
theorem dX0_chooseFor_174 : decode cX0_chooseFor 174 = .ok (.iadd, 1) := by decide +kernel
theorem dX0_chooseFor_175 : decode cX0_chooseFor 175 = .ok (.iload 8, 2) := by decide +kernel
theorem dX0_chooseFor_177 : decode cX0_chooseFor 177 = .ok (.invokevirtual 109, 3) := by decide +kernel
theorem dX0_chooseFor_180 : decode cX0_chooseFor 180 = .ok (.iload_n 2, 1) := by decide +kernel
theorem dX0_chooseFor_181 : decode cX0_chooseFor 181 = .ok (.istore 9, 2) := by decide +kernel
theorem dX0_chooseFor_183 : decode cX0_chooseFor 183 = .ok (.iload 9, 2) := by decide +kernel
theorem dX0_chooseFor_185 : decode cX0_chooseFor 185 = .ok (.iload_n 3, 1) := by decide +kernel
theorem dX0_chooseFor_186 : decode cX0_chooseFor 186 = .ok (.if_icmp .ge 28, 3) := by decide +kernel
theorem dX0_chooseFor_189 : decode cX0_chooseFor 189 = .ok (.aload_n 0, 1) := by decide +kernel
theorem dX0_chooseFor_190 : decode cX0_chooseFor 190 = .ok (.iload_n 1, 1) := by decide +kernel
theorem dX0_chooseFor_191 : decode cX0_chooseFor 191 = .ok (.iload 7, 2) := by decide +kernel
theorem dX0_chooseFor_193 : decode cX0_chooseFor 193 = .ok (.iload 9, 2) := by decide +kernel
theorem dX0_chooseFor_195 : decode cX0_chooseFor 195 = .ok (.aload_n 0, 1) := by decide +kernel
theorem dX0_chooseFor_196 : decode cX0_chooseFor 196 = .ok (.getfield 11, 3) := by decide +kernel
theorem dX0_chooseFor_199 : decode cX0_chooseFor 199 = .ok (.iload 9, 2) := by decide +kernel
theorem dX0_chooseFor_201 : decode cX0_chooseFor 201 = .ok (.iaload, 1) := by decide +kernel
theorem dX0_chooseFor_202 : decode cX0_chooseFor 202 = .ok (.iload 4, 2) := by decide +kernel
theorem dX0_chooseFor_204 : decode cX0_chooseFor 204 = .ok (.iadd, 1) := by decide +kernel
theorem dX0_chooseFor_205 : decode cX0_chooseFor 205 = .ok (.invokevirtual 114, 3) := by decide +kernel
theorem dX0_chooseFor_208 : decode cX0_chooseFor 208 = .ok (.iinc 9 1, 3) := by decide +kernel
theorem dX0_chooseFor_211 : decode cX0_chooseFor 211 = .ok (.goto (-28), 3) := by decide +kernel
theorem dX0_chooseFor_214 : decode cX0_chooseFor 214 = .ok (.iinc 7 1, 3) := by decide +kernel
theorem dX0_chooseFor_217 : decode cX0_chooseFor 217 = .ok (.goto (-103), 3) := by decide +kernel
theorem dX0_chooseFor_220 : decode cX0_chooseFor 220 = .ok (.return_, 1) := by decide +kernel
theorem dX0_chooseEngine_0 : decode cX0_chooseEngine 0 = .ok (.iconst 1, 1) := by decide +kernel
theorem dX0_chooseEngine_1 : decode cX0_chooseEngine 1 = .ok (.istore 5, 2) := by decide +kernel
theorem dX0_chooseEngine_3 : decode cX0_chooseEngine 3 = .ok (.iload 5, 2) := by decide +kernel
theorem dX0_chooseEngine_5 : decode cX0_chooseEngine 5 = .ok (.iconst 3, 1) := by decide +kernel
theorem dX0_chooseEngine_6 : decode cX0_chooseEngine 6 = .ok (.if_icmp .gt 154, 3) := by decide +kernel
theorem dX0_chooseEngine_9 : decode cX0_chooseEngine 9 = .ok (.aload_n 0, 1) := by decide +kernel
theorem dX0_chooseEngine_10 : decode cX0_chooseEngine 10 = .ok (.getfield 18, 3) := by decide +kernel
theorem dX0_chooseEngine_13 : decode cX0_chooseEngine 13 = .ok (.iload_n 3, 1) := by decide +kernel
theorem dX0_chooseEngine_14 : decode cX0_chooseEngine 14 = .ok (.iaload, 1) := by decide +kernel
theorem dX0_chooseEngine_15 : decode cX0_chooseEngine 15 = .ok (.iload 5, 2) := by decide +kernel
theorem dX0_chooseEngine_17 : decode cX0_chooseEngine 17 = .ok (.aload_n 0, 1) := by decide +kernel
theorem dX0_chooseEngine_18 : decode cX0_chooseEngine 18 = .ok (.getfield 57, 3) := by decide +kernel
theorem dX0_chooseEngine_21 : decode cX0_chooseEngine 21 = .ok (.getfield 117, 3) := by decide +kernel
theorem dX0_chooseEngine_24 : decode cX0_chooseEngine 24 = .ok (.iload_n 2, 1) := by decide +kernel
theorem dX0_chooseEngine_25 : decode cX0_chooseEngine 25 = .ok (.iaload, 1) := by decide +kernel
theorem dX0_chooseEngine_26 : decode cX0_chooseEngine 26 = .ok (.imul, 1) := by decide +kernel
theorem dX0_chooseEngine_27 : decode cX0_chooseEngine 27 = .ok (.iadd, 1) := by decide +kernel
theorem dX0_chooseEngine_28 : decode cX0_chooseEngine 28 = .ok (.istore 6, 2) := by decide +kernel
theorem dX0_chooseEngine_30 : decode cX0_chooseEngine 30 = .ok (.iload 6, 2) := by decide +kernel
theorem dX0_chooseEngine_32 : decode cX0_chooseEngine 32 = .ok (.aload_n 0, 1) := by decide +kernel
theorem dX0_chooseEngine_33 : decode cX0_chooseEngine 33 = .ok (.getfield 35, 3) := by decide +kernel
theorem dX0_chooseEngine_36 : decode cX0_chooseEngine 36 = .ok (.if_icmp .le 4, 3) := by decide +kernel
theorem dX0_chooseEngine_39 : decode cX0_chooseEngine 39 = .ok (.return_, 1) := by decide +kernel
theorem dX0_chooseEngine_40 : decode cX0_chooseEngine 40 = .ok (.iload 4, 2) := by decide +kernel
theorem dX0_chooseEngine_42 : decode cX0_chooseEngine 42 = .ok (.iload 5, 2) := by decide +kernel
theorem dX0_chooseEngine_44 : decode cX0_chooseEngine 44 = .ok (.aload_n 0, 1) := by decide +kernel
theorem dX0_chooseEngine_45 : decode cX0_chooseEngine 45 = .ok (.getfield 57, 3) := by decide +kernel
theorem dX0_chooseEngine_48 : decode cX0_chooseEngine 48 = .ok (.getfield 103, 3) := by decide +kernel
theorem dX0_chooseEngine_51 : decode cX0_chooseEngine 51 = .ok (.iload_n 2, 1) := by decide +kernel
theorem dX0_chooseEngine_52 : decode cX0_chooseEngine 52 = .ok (.iaload, 1) := by decide +kernel
theorem dX0_chooseEngine_53 : decode cX0_chooseEngine 53 = .ok (.imul, 1) := by decide +kernel
theorem dX0_chooseEngine_54 : decode cX0_chooseEngine 54 = .ok (.iadd, 1) := by decide +kernel
theorem dX0_chooseEngine_55 : decode cX0_chooseEngine 55 = .ok (.istore 7, 2) := by decide +kernel
theorem dX0_chooseEngine_57 : decode cX0_chooseEngine 57 = .ok (.iload 7, 2) := by decide +kernel
theorem dX0_chooseEngine_59 : decode cX0_chooseEngine 59 = .ok (.aload_n 0, 1) := by decide +kernel
theorem dX0_chooseEngine_60 : decode cX0_chooseEngine 60 = .ok (.getfield 47, 3) := by decide +kernel
theorem dX0_chooseEngine_63 : decode cX0_chooseEngine 63 = .ok (.getfield 84, 3) := by decide +kernel
theorem dX0_chooseEngine_66 : decode cX0_chooseEngine 66 = .ok (.iload_n 1, 1) := by decide +kernel
theorem dX0_chooseEngine_67 : decode cX0_chooseEngine 67 = .ok (.iaload, 1) := by decide +kernel
theorem dX0_chooseEngine_68 : decode cX0_chooseEngine 68 = .ok (.iadd, 1) := by decide +kernel
theorem dX0_chooseEngine_69 : decode cX0_chooseEngine 69 = .ok (.istore 8, 2) := by decide +kernel
theorem dX0_chooseEngine_71 : decode cX0_chooseEngine 71 = .ok (.aload_n 0, 1) := by decide +kernel
theorem dX0_chooseEngine_72 : decode cX0_chooseEngine 72 = .ok (.iload_n 2, 1) := by decide +kernel
theorem dX0_chooseEngine_73 : decode cX0_chooseEngine 73 = .ok (.iload 5, 2) := by decide +kernel
theorem dX0_chooseEngine_75 : decode cX0_chooseEngine 75 = .ok (.iload 8, 2) := by decide +kernel
theorem dX0_chooseEngine_77 : decode cX0_chooseEngine 77 = .ok (.invokevirtual 120, 3) := by decide +kernel
theorem dX0_chooseEngine_80 : decode cX0_chooseEngine 80 = .ok (.ifCond .ne 6, 3) := by decide +kernel
theorem dX0_chooseEngine_83 : decode cX0_chooseEngine 83 = .ok (.goto 71, 3) := by decide +kernel
theorem dX0_chooseEngine_86 : decode cX0_chooseEngine 86 = .ok (.aload_n 0, 1) := by decide +kernel
theorem dX0_chooseEngine_87 : decode cX0_chooseEngine 87 = .ok (.getfield 15, 3) := by decide +kernel
theorem dX0_chooseEngine_90 : decode cX0_chooseEngine 90 = .ok (.iload_n 3, 1) := by decide +kernel
theorem dX0_chooseEngine_91 : decode cX0_chooseEngine 91 = .ok (.iaload, 1) := by decide +kernel
theorem dX0_chooseEngine_92 : decode cX0_chooseEngine 92 = .ok (.aload_n 0, 1) := by decide +kernel
theorem dX0_chooseEngine_93 : decode cX0_chooseEngine 93 = .ok (.getfield 58, 3) := by decide +kernel
theorem dX0_chooseEngine_96 : decode cX0_chooseEngine 96 = .ok (.iload 7, 2) := by decide +kernel
theorem dX0_chooseEngine_98 : decode cX0_chooseEngine 98 = .ok (.iload 8, 2) := by decide +kernel
theorem dX0_chooseEngine_100 : decode cX0_chooseEngine 100 = .ok (.invokevirtual 124, 3) := by decide +kernel
theorem dX0_chooseEngine_103 : decode cX0_chooseEngine 103 = .ok (.iadd, 1) := by decide +kernel
theorem dX0_chooseEngine_104 : decode cX0_chooseEngine 104 = .ok (.istore 9, 2) := by decide +kernel
theorem dX0_chooseEngine_106 : decode cX0_chooseEngine 106 = .ok (.aload_n 0, 1) := by decide +kernel
theorem dX0_chooseEngine_107 : decode cX0_chooseEngine 107 = .ok (.getfield 21, 3) := by decide +kernel
theorem dX0_chooseEngine_110 : decode cX0_chooseEngine 110 = .ok (.iload_n 3, 1) := by decide +kernel
theorem dX0_chooseEngine_111 : decode cX0_chooseEngine 111 = .ok (.iaload, 1) := by decide +kernel
theorem dX0_chooseEngine_112 : decode cX0_chooseEngine 112 = .ok (.iload_n 1, 1) := by decide +kernel
theorem dX0_chooseEngine_113 : decode cX0_chooseEngine 113 = .ok (.iload_n 2, 1) := by decide +kernel
theorem dX0_chooseEngine_114 : decode cX0_chooseEngine 114 = .ok (.iload 5, 2) := by decide +kernel
theorem dX0_chooseEngine_116 : decode cX0_chooseEngine 116 = .ok (.invokestatic 127, 3) := by decide +kernel
theorem dX0_chooseEngine_119 : decode cX0_chooseEngine 119 = .ok (.invokestatic 130, 3) := by decide +kernel
theorem dX0_chooseEngine_122 : decode cX0_chooseEngine 122 = .ok (.iadd, 1) := by decide +kernel
theorem dX0_chooseEngine_123 : decode cX0_chooseEngine 123 = .ok (.istore 10, 2) := by decide +kernel
theorem dX0_chooseEngine_125 : decode cX0_chooseEngine 125 = .ok (.iload_n 1, 1) := by decide +kernel
theorem dX0_chooseEngine_126 : decode cX0_chooseEngine 126 = .ok (.ifCond .ne 16, 3) := by decide +kernel
theorem dX0_chooseEngine_129 : decode cX0_chooseEngine 129 = .ok (.aload_n 0, 1) := by decide +kernel
theorem dX0_chooseEngine_130 : decode cX0_chooseEngine 130 = .ok (.iload 9, 2) := by decide +kernel
theorem dX0_chooseEngine_132 : decode cX0_chooseEngine 132 = .ok (.iload 6, 2) := by decide +kernel
theorem dX0_chooseEngine_134 : decode cX0_chooseEngine 134 = .ok (.iload 10, 2) := by decide +kernel
theorem dX0_chooseEngine_136 : decode cX0_chooseEngine 136 = .ok (.invokevirtual 133, 3) := by decide +kernel
theorem dX0_chooseEngine_139 : decode cX0_chooseEngine 139 = .ok (.goto 15, 3) := by decide +kernel
theorem dX0_chooseEngine_142 : decode cX0_chooseEngine 142 = .ok (.aload_n 0, 1) := by decide +kernel
theorem dX0_chooseEngine_143 : decode cX0_chooseEngine 143 = .ok (.iload 8, 2) := by decide +kernel
theorem dX0_chooseEngine_145 : decode cX0_chooseEngine 145 = .ok (.iload 9, 2) := by decide +kernel
theorem dX0_chooseEngine_147 : decode cX0_chooseEngine 147 = .ok (.iload 6, 2) := by decide +kernel
theorem dX0_chooseEngine_149 : decode cX0_chooseEngine 149 = .ok (.iload 10, 2) := by decide +kernel
theorem dX0_chooseEngine_151 : decode cX0_chooseEngine 151 = .ok (.invokevirtual 66, 3) := by decide +kernel
theorem dX0_chooseEngine_154 : decode cX0_chooseEngine 154 = .ok (.iinc 5 1, 3) := by decide +kernel
theorem dX0_chooseEngine_157 : decode cX0_chooseEngine 157 = .ok (.goto (-154), 3) := by decide +kernel
theorem dX0_chooseEngine_160 : decode cX0_chooseEngine 160 = .ok (.return_, 1) := by decide +kernel
theorem dX0_lifts_0 : decode cX0_lifts 0 = .ok (.iload_n 3, 1) := by decide +kernel
theorem dX0_lifts_1 : decode cX0_lifts 1 = .ok (.ifCond .le 30, 3) := by decide +kernel
theorem dX0_lifts_4 : decode cX0_lifts 4 = .ok (.bipush 100, 2) := by decide +kernel
theorem dX0_lifts_6 : decode cX0_lifts 6 = .ok (.iload_n 2, 1) := by decide +kernel
theorem dX0_lifts_7 : decode cX0_lifts 7 = .ok (.imul, 1) := by decide +kernel
theorem dX0_lifts_8 : decode cX0_lifts 8 = .ok (.aload_n 0, 1) := by decide +kernel
theorem dX0_lifts_9 : decode cX0_lifts 9 = .ok (.getfield 57, 3) := by decide +kernel
theorem dX0_lifts_12 : decode cX0_lifts 12 = .ok (.getfield 136, 3) := by decide +kernel
theorem dX0_lifts_15 : decode cX0_lifts 15 = .ok (.iload_n 1, 1) := by decide +kernel
theorem dX0_lifts_16 : decode cX0_lifts 16 = .ok (.iaload, 1) := by decide +kernel
theorem dX0_lifts_17 : decode cX0_lifts 17 = .ok (.imul, 1) := by decide +kernel
theorem dX0_lifts_18 : decode cX0_lifts 18 = .ok (.iload_n 3, 1) := by decide +kernel
theorem dX0_lifts_19 : decode cX0_lifts 19 = .ok (.idiv, 1) := by decide +kernel
theorem dX0_lifts_20 : decode cX0_lifts 20 = .ok (.aload_n 0, 1) := by decide +kernel
theorem dX0_lifts_21 : decode cX0_lifts 21 = .ok (.getfield 31, 3) := by decide +kernel
theorem dX0_lifts_24 : decode cX0_lifts 24 = .ok (.if_icmp .lt 7, 3) := by decide +kernel
theorem dX0_lifts_27 : decode cX0_lifts 27 = .ok (.iconst 1, 1) := by decide +kernel
theorem dX0_lifts_28 : decode cX0_lifts 28 = .ok (.goto 4, 3) := by decide +kernel
theorem dX0_lifts_31 : decode cX0_lifts 31 = .ok (.iconst 0, 1) := by decide +kernel
theorem dX0_lifts_32 : decode cX0_lifts 32 = .ok (.ireturn, 1) := by decide +kernel
theorem dX0_keep_0 : decode cX0_keep 0 = .ok (.aload_n 0, 1) := by decide +kernel
theorem dX0_keep_1 : decode cX0_keep 1 = .ok (.getfield 24, 3) := by decide +kernel
theorem dX0_keep_4 : decode cX0_keep 4 = .ok (.sipush 343, 3) := by decide +kernel
theorem dX0_keep_7 : decode cX0_keep 7 = .ok (.if_icmp .lt 4, 3) := by decide +kernel
theorem dX0_keep_10 : decode cX0_keep 10 = .ok (.return_, 1) := by decide +kernel
theorem dX0_keep_11 : decode cX0_keep 11 = .ok (.aload_n 0, 1) := by decide +kernel
theorem dX0_keep_12 : decode cX0_keep 12 = .ok (.getfield 11, 3) := by decide +kernel
theorem dX0_keep_15 : decode cX0_keep 15 = .ok (.aload_n 0, 1) := by decide +kernel
theorem dX0_keep_16 : decode cX0_keep 16 = .ok (.getfield 24, 3) := by decide +kernel
theorem dX0_keep_19 : decode cX0_keep 19 = .ok (.iload_n 1, 1) := by decide +kernel
theorem dX0_keep_20 : decode cX0_keep 20 = .ok (.iastore, 1) := by decide +kernel
theorem dX0_keep_21 : decode cX0_keep 21 = .ok (.aload_n 0, 1) := by decide +kernel
theorem dX0_keep_22 : decode cX0_keep 22 = .ok (.getfield 15, 3) := by decide +kernel
theorem dX0_keep_25 : decode cX0_keep 25 = .ok (.aload_n 0, 1) := by decide +kernel
theorem dX0_keep_26 : decode cX0_keep 26 = .ok (.getfield 24, 3) := by decide +kernel
theorem dX0_keep_29 : decode cX0_keep 29 = .ok (.iload_n 2, 1) := by decide +kernel
theorem dX0_keep_30 : decode cX0_keep 30 = .ok (.iastore, 1) := by decide +kernel
theorem dX0_keep_31 : decode cX0_keep 31 = .ok (.aload_n 0, 1) := by decide +kernel
theorem dX0_keep_32 : decode cX0_keep 32 = .ok (.getfield 18, 3) := by decide +kernel
theorem dX0_keep_35 : decode cX0_keep 35 = .ok (.aload_n 0, 1) := by decide +kernel
theorem dX0_keep_36 : decode cX0_keep 36 = .ok (.getfield 24, 3) := by decide +kernel
theorem dX0_keep_39 : decode cX0_keep 39 = .ok (.iload_n 3, 1) := by decide +kernel
theorem dX0_keep_40 : decode cX0_keep 40 = .ok (.iastore, 1) := by decide +kernel
theorem dX0_keep_41 : decode cX0_keep 41 = .ok (.aload_n 0, 1) := by decide +kernel
theorem dX0_keep_42 : decode cX0_keep 42 = .ok (.getfield 21, 3) := by decide +kernel
theorem dX0_keep_45 : decode cX0_keep 45 = .ok (.aload_n 0, 1) := by decide +kernel
theorem dX0_keep_46 : decode cX0_keep 46 = .ok (.getfield 24, 3) := by decide +kernel
theorem dX0_keep_49 : decode cX0_keep 49 = .ok (.iload 4, 2) := by decide +kernel
theorem dX0_keep_51 : decode cX0_keep 51 = .ok (.iastore, 1) := by decide +kernel
theorem dX0_keep_52 : decode cX0_keep 52 = .ok (.aload_n 0, 1) := by decide +kernel
theorem dX0_keep_53 : decode cX0_keep 53 = .ok (.dup, 1) := by decide +kernel
theorem dX0_keep_54 : decode cX0_keep 54 = .ok (.getfield 24, 3) := by decide +kernel
theorem dX0_keep_57 : decode cX0_keep 57 = .ok (.iconst 1, 1) := by decide +kernel
theorem dX0_keep_58 : decode cX0_keep 58 = .ok (.iadd, 1) := by decide +kernel
theorem dX0_keep_59 : decode cX0_keep 59 = .ok (.putfield 24, 3) := by decide +kernel
theorem dX0_keep_62 : decode cX0_keep 62 = .ok (.return_, 1) := by decide +kernel
theorem dX0_offer_0 : decode cX0_offer 0 = .ok (.iload_n 1, 1) := by decide +kernel
theorem dX0_offer_1 : decode cX0_offer 1 = .ok (.aload_n 0, 1) := by decide +kernel
theorem dX0_offer_2 : decode cX0_offer 2 = .ok (.getfield 28, 3) := by decide +kernel
theorem dX0_offer_5 : decode cX0_offer 5 = .ok (.if_icmp .ge 4, 3) := by decide +kernel
theorem dX0_offer_8 : decode cX0_offer 8 = .ok (.return_, 1) := by decide +kernel
theorem dX0_offer_9 : decode cX0_offer 9 = .ok (.iload_n 2, 1) := by decide +kernel
theorem dX0_offer_10 : decode cX0_offer 10 = .ok (.aload_n 0, 1) := by decide +kernel
theorem dX0_offer_11 : decode cX0_offer 11 = .ok (.getfield 35, 3) := by decide +kernel
theorem dX0_offer_14 : decode cX0_offer 14 = .ok (.if_icmp .lt 19, 3) := by decide +kernel
theorem dX0_offer_17 : decode cX0_offer 17 = .ok (.iload_n 2, 1) := by decide +kernel
theorem dX0_offer_18 : decode cX0_offer 18 = .ok (.aload_n 0, 1) := by decide +kernel
theorem dX0_offer_19 : decode cX0_offer 19 = .ok (.getfield 35, 3) := by decide +kernel
theorem dX0_offer_22 : decode cX0_offer 22 = .ok (.if_icmp .ne 21, 3) := by decide +kernel
theorem dX0_offer_25 : decode cX0_offer 25 = .ok (.iload_n 3, 1) := by decide +kernel
theorem dX0_offer_26 : decode cX0_offer 26 = .ok (.aload_n 0, 1) := by decide +kernel
theorem dX0_offer_27 : decode cX0_offer 27 = .ok (.getfield 38, 3) := by decide +kernel
theorem dX0_offer_30 : decode cX0_offer 30 = .ok (.if_icmp .ge 13, 3) := by decide +kernel
theorem dX0_offer_33 : decode cX0_offer 33 = .ok (.aload_n 0, 1) := by decide +kernel
theorem dX0_offer_34 : decode cX0_offer 34 = .ok (.iload_n 2, 1) := by decide +kernel
theorem dX0_offer_35 : decode cX0_offer 35 = .ok (.putfield 35, 3) := by decide +kernel
theorem dX0_offer_38 : decode cX0_offer 38 = .ok (.aload_n 0, 1) := by decide +kernel
theorem dX0_offer_39 : decode cX0_offer 39 = .ok (.iload_n 3, 1) := by decide +kernel
theorem dX0_offer_40 : decode cX0_offer 40 = .ok (.putfield 38, 3) := by decide +kernel
theorem dX0_offer_43 : decode cX0_offer 43 = .ok (.return_, 1) := by decide +kernel
theorem dX1_init_0 : decode cX1_init 0 = .ok (.aload_n 0, 1) := by decide +kernel
theorem dX1_init_1 : decode cX1_init 1 = .ok (.invokespecial 3, 3) := by decide +kernel
theorem dX1_init_4 : decode cX1_init 4 = .ok (.aload_n 0, 1) := by decide +kernel
theorem dX1_init_5 : decode cX1_init 5 = .ok (.bipush 6, 2) := by decide +kernel
theorem dX1_init_7 : decode cX1_init 7 = .ok (.newarray .int, 2) := by decide +kernel
theorem dX1_init_9 : decode cX1_init 9 = .ok (.putfield 9, 3) := by decide +kernel
theorem dX1_init_12 : decode cX1_init 12 = .ok (.aload_n 0, 1) := by decide +kernel
theorem dX1_init_13 : decode cX1_init 13 = .ok (.bipush 6, 2) := by decide +kernel
theorem dX1_init_15 : decode cX1_init 15 = .ok (.newarray .int, 2) := by decide +kernel
theorem dX1_init_17 : decode cX1_init 17 = .ok (.putfield 15, 3) := by decide +kernel
theorem dX1_init_20 : decode cX1_init 20 = .ok (.aload_n 0, 1) := by decide +kernel
theorem dX1_init_21 : decode cX1_init 21 = .ok (.bipush 6, 2) := by decide +kernel
theorem dX1_init_23 : decode cX1_init 23 = .ok (.newarray .int, 2) := by decide +kernel
theorem dX1_init_25 : decode cX1_init 25 = .ok (.putfield 18, 3) := by decide +kernel
theorem dX1_init_28 : decode cX1_init 28 = .ok (.aload_n 0, 1) := by decide +kernel
theorem dX1_init_29 : decode cX1_init 29 = .ok (.bipush 6, 2) := by decide +kernel
theorem dX1_init_31 : decode cX1_init 31 = .ok (.newarray .int, 2) := by decide +kernel
theorem dX1_init_33 : decode cX1_init 33 = .ok (.putfield 21, 3) := by decide +kernel
theorem dX1_init_36 : decode cX1_init 36 = .ok (.aload_n 0, 1) := by decide +kernel
theorem dX1_init_37 : decode cX1_init 37 = .ok (.bipush 6, 2) := by decide +kernel
theorem dX1_init_39 : decode cX1_init 39 = .ok (.newarray .int, 2) := by decide +kernel
theorem dX1_init_41 : decode cX1_init 41 = .ok (.putfield 24, 3) := by decide +kernel
theorem dX1_init_44 : decode cX1_init 44 = .ok (.aload_n 0, 1) := by decide +kernel
theorem dX1_init_45 : decode cX1_init 45 = .ok (.bipush 6, 2) := by decide +kernel
theorem dX1_init_47 : decode cX1_init 47 = .ok (.newarray .int, 2) := by decide +kernel
theorem dX1_init_49 : decode cX1_init 49 = .ok (.putfield 27, 3) := by decide +kernel
theorem dX1_init_52 : decode cX1_init 52 = .ok (.aload_n 0, 1) := by decide +kernel
theorem dX1_init_53 : decode cX1_init 53 = .ok (.iconst 0, 1) := by decide +kernel
theorem dX1_init_54 : decode cX1_init 54 = .ok (.putfield 30, 3) := by decide +kernel
theorem dX1_init_57 : decode cX1_init 57 = .ok (.return_, 1) := by decide +kernel
theorem dX1_has_0 : decode cX1_has 0 = .ok (.iload_n 1, 1) := by decide +kernel
theorem dX1_has_1 : decode cX1_has 1 = .ok (.ifCond .lt 15, 3) := by decide +kernel
theorem dX1_has_4 : decode cX1_has 4 = .ok (.iload_n 1, 1) := by decide +kernel
theorem dX1_has_5 : decode cX1_has 5 = .ok (.aload_n 0, 1) := by decide +kernel
theorem dX1_has_6 : decode cX1_has 6 = .ok (.getfield 30, 3) := by decide +kernel
theorem dX1_has_9 : decode cX1_has 9 = .ok (.if_icmp .ge 7, 3) := by decide +kernel
theorem dX1_has_12 : decode cX1_has 12 = .ok (.iconst 1, 1) := by decide +kernel
theorem dX1_has_13 : decode cX1_has 13 = .ok (.goto 4, 3) := by decide +kernel
theorem dX1_has_16 : decode cX1_has 16 = .ok (.iconst 0, 1) := by decide +kernel
theorem dX1_has_17 : decode cX1_has 17 = .ok (.ireturn, 1) := by decide +kernel
theorem dX1_add_0 : decode cX1_add 0 = .ok (.aload_n 0, 1) := by decide +kernel
theorem dX1_add_1 : decode cX1_add 1 = .ok (.getfield 30, 3) := by decide +kernel
theorem dX1_add_4 : decode cX1_add 4 = .ok (.bipush 6, 2) := by decide +kernel
theorem dX1_add_6 : decode cX1_add 6 = .ok (.if_icmp .lt 6, 3) := by decide +kernel
theorem dX1_add_9 : decode cX1_add 9 = .ok (.bipush (-4), 2) := by decide +kernel
theorem dX1_add_11 : decode cX1_add 11 = .ok (.ireturn, 1) := by decide +kernel
theorem dX1_add_12 : decode cX1_add 12 = .ok (.aload_n 0, 1) := by decide +kernel
theorem dX1_add_13 : decode cX1_add 13 = .ok (.getfield 9, 3) := by decide +kernel
theorem dX1_add_16 : decode cX1_add 16 = .ok (.aload_n 0, 1) := by decide +kernel
theorem dX1_add_17 : decode cX1_add 17 = .ok (.getfield 30, 3) := by decide +kernel
theorem dX1_add_20 : decode cX1_add 20 = .ok (.iload_n 1, 1) := by decide +kernel
theorem dX1_add_21 : decode cX1_add 21 = .ok (.iastore, 1) := by decide +kernel
theorem dX1_add_22 : decode cX1_add 22 = .ok (.aload_n 0, 1) := by decide +kernel
theorem dX1_add_23 : decode cX1_add 23 = .ok (.getfield 15, 3) := by decide +kernel
theorem dX1_add_26 : decode cX1_add 26 = .ok (.aload_n 0, 1) := by decide +kernel
theorem dX1_add_27 : decode cX1_add 27 = .ok (.getfield 30, 3) := by decide +kernel
theorem dX1_add_30 : decode cX1_add 30 = .ok (.iload_n 2, 1) := by decide +kernel
theorem dX1_add_31 : decode cX1_add 31 = .ok (.iastore, 1) := by decide +kernel
theorem dX1_add_32 : decode cX1_add 32 = .ok (.aload_n 0, 1) := by decide +kernel
theorem dX1_add_33 : decode cX1_add 33 = .ok (.getfield 18, 3) := by decide +kernel
theorem dX1_add_36 : decode cX1_add 36 = .ok (.aload_n 0, 1) := by decide +kernel
theorem dX1_add_37 : decode cX1_add 37 = .ok (.getfield 30, 3) := by decide +kernel
theorem dX1_add_40 : decode cX1_add 40 = .ok (.iload_n 3, 1) := by decide +kernel
theorem dX1_add_41 : decode cX1_add 41 = .ok (.iastore, 1) := by decide +kernel
theorem dX1_add_42 : decode cX1_add 42 = .ok (.aload_n 0, 1) := by decide +kernel
theorem dX1_add_43 : decode cX1_add 43 = .ok (.getfield 21, 3) := by decide +kernel
theorem dX1_add_46 : decode cX1_add 46 = .ok (.aload_n 0, 1) := by decide +kernel
theorem dX1_add_47 : decode cX1_add 47 = .ok (.getfield 30, 3) := by decide +kernel
theorem dX1_add_50 : decode cX1_add 50 = .ok (.iload 4, 2) := by decide +kernel
theorem dX1_add_52 : decode cX1_add 52 = .ok (.iastore, 1) := by decide +kernel
theorem dX1_add_53 : decode cX1_add 53 = .ok (.aload_n 0, 1) := by decide +kernel
theorem dX1_add_54 : decode cX1_add 54 = .ok (.dup, 1) := by decide +kernel
theorem dX1_add_55 : decode cX1_add 55 = .ok (.getfield 30, 3) := by decide +kernel
theorem dX1_add_58 : decode cX1_add 58 = .ok (.iconst 1, 1) := by decide +kernel
theorem dX1_add_59 : decode cX1_add 59 = .ok (.iadd, 1) := by decide +kernel
theorem dX1_add_60 : decode cX1_add 60 = .ok (.putfield 30, 3) := by decide +kernel
theorem dX1_add_63 : decode cX1_add 63 = .ok (.aload_n 0, 1) := by decide +kernel
theorem dX1_add_64 : decode cX1_add 64 = .ok (.getfield 30, 3) := by decide +kernel
theorem dX1_add_67 : decode cX1_add 67 = .ok (.iconst 1, 1) := by decide +kernel
theorem dX1_add_68 : decode cX1_add 68 = .ok (.isub, 1) := by decide +kernel
theorem dX1_add_69 : decode cX1_add 69 = .ok (.ireturn, 1) := by decide +kernel
theorem dX1_costAt_0 : decode cX1_costAt 0 = .ok (.aload_n 0, 1) := by decide +kernel
theorem dX1_costAt_1 : decode cX1_costAt 1 = .ok (.iload_n 1, 1) := by decide +kernel
theorem dX1_costAt_2 : decode cX1_costAt 2 = .ok (.invokevirtual 34, 3) := by decide +kernel
theorem dX1_costAt_5 : decode cX1_costAt 5 = .ok (.ifCond .ne 5, 3) := by decide +kernel
theorem dX1_costAt_8 : decode cX1_costAt 8 = .ok (.iconst 0, 1) := by decide +kernel
theorem dX1_costAt_9 : decode cX1_costAt 9 = .ok (.ireturn, 1) := by decide +kernel
theorem dX1_costAt_10 : decode cX1_costAt 10 = .ok (.aload_n 0, 1) := by decide +kernel
theorem dX1_costAt_11 : decode cX1_costAt 11 = .ok (.getfield 21, 3) := by decide +kernel
theorem dX1_costAt_14 : decode cX1_costAt 14 = .ok (.iload_n 1, 1) := by decide +kernel
theorem dX1_costAt_15 : decode cX1_costAt 15 = .ok (.iaload, 1) := by decide +kernel
theorem dX1_costAt_16 : decode cX1_costAt 16 = .ok (.istore 4, 2) := by decide +kernel
theorem dX1_costAt_18 : decode cX1_costAt 18 = .ok (.iconst 0, 1) := by decide +kernel
theorem dX1_costAt_19 : decode cX1_costAt 19 = .ok (.istore 5, 2) := by decide +kernel
theorem dX1_costAt_21 : decode cX1_costAt 21 = .ok (.iload 5, 2) := by decide +kernel
theorem dX1_costAt_23 : decode cX1_costAt 23 = .ok (.iload_n 2, 1) := by decide +kernel
theorem dX1_costAt_24 : decode cX1_costAt 24 = .ok (.if_icmp .ge 23, 3) := by decide +kernel
theorem dX1_costAt_27 : decode cX1_costAt 27 = .ok (.iload 4, 2) := by decide +kernel
theorem dX1_costAt_29 : decode cX1_costAt 29 = .ok (.iconst 1, 1) := by decide +kernel
theorem dX1_costAt_30 : decode cX1_costAt 30 = .ok (.if_icmp .le 17, 3) := by decide +kernel
theorem dX1_costAt_33 : decode cX1_costAt 33 = .ok (.iload 4, 2) := by decide +kernel
theorem dX1_costAt_35 : decode cX1_costAt 35 = .ok (.iload_n 3, 1) := by decide +kernel
theorem dX1_costAt_36 : decode cX1_costAt 36 = .ok (.invokestatic 38, 3) := by decide +kernel
theorem dX1_costAt_39 : decode cX1_costAt 39 = .ok (.istore 4, 2) := by decide +kernel
theorem dX1_costAt_41 : decode cX1_costAt 41 = .ok (.iinc 5 1, 3) := by decide +kernel
theorem dX1_costAt_44 : decode cX1_costAt 44 = .ok (.goto (-23), 3) := by decide +kernel
theorem dX1_costAt_47 : decode cX1_costAt 47 = .ok (.iload 4, 2) := by decide +kernel
theorem dX1_costAt_49 : decode cX1_costAt 49 = .ok (.ireturn, 1) := by decide +kernel
theorem dX1_nextCost_0 : decode cX1_nextCost 0 = .ok (.iload_n 0, 1) := by decide +kernel
theorem dX1_nextCost_1 : decode cX1_nextCost 1 = .ok (.iload_n 1, 1) := by decide +kernel
theorem dX1_nextCost_2 : decode cX1_nextCost 2 = .ok (.imul, 1) := by decide +kernel
theorem dX1_nextCost_3 : decode cX1_nextCost 3 = .ok (.bipush 100, 2) := by decide +kernel
theorem dX1_nextCost_5 : decode cX1_nextCost 5 = .ok (.idiv, 1) := by decide +kernel
theorem dX1_nextCost_6 : decode cX1_nextCost 6 = .ok (.iconst 1, 1) := by decide +kernel
theorem dX1_nextCost_7 : decode cX1_nextCost 7 = .ok (.invokestatic 42, 3) := by decide +kernel
theorem dX1_nextCost_10 : decode cX1_nextCost 10 = .ok (.ireturn, 1) := by decide +kernel
theorem dX1_missing_0 : decode cX1_missing 0 = .ok (.aload_n 0, 1) := by decide +kernel
theorem dX1_missing_1 : decode cX1_missing 1 = .ok (.iload_n 1, 1) := by decide +kernel
theorem dX1_missing_2 : decode cX1_missing 2 = .ok (.invokevirtual 34, 3) := by decide +kernel
theorem dX1_missing_5 : decode cX1_missing 5 = .ok (.ifCond .eq 18, 3) := by decide +kernel
theorem dX1_missing_8 : decode cX1_missing 8 = .ok (.iload_n 2, 1) := by decide +kernel
theorem dX1_missing_9 : decode cX1_missing 9 = .ok (.aload_n 0, 1) := by decide +kernel
theorem dX1_missing_10 : decode cX1_missing 10 = .ok (.getfield 24, 3) := by decide +kernel
theorem dX1_missing_13 : decode cX1_missing 13 = .ok (.iload_n 1, 1) := by decide +kernel
theorem dX1_missing_14 : decode cX1_missing 14 = .ok (.iaload, 1) := by decide +kernel
theorem dX1_missing_15 : decode cX1_missing 15 = .ok (.isub, 1) := by decide +kernel
theorem dX1_missing_16 : decode cX1_missing 16 = .ok (.iconst 0, 1) := by decide +kernel
theorem dX1_missing_17 : decode cX1_missing 17 = .ok (.invokestatic 42, 3) := by decide +kernel
theorem dX1_missing_20 : decode cX1_missing 20 = .ok (.goto 4, 3) := by decide +kernel
theorem dX1_missing_23 : decode cX1_missing 23 = .ok (.iconst 0, 1) := by decide +kernel
theorem dX1_missing_24 : decode cX1_missing 24 = .ok (.ireturn, 1) := by decide +kernel
theorem dX1_costOfMissing_0 : decode cX1_costOfMissing 0 = .ok (.aload_n 0, 1) := by decide +kernel
theorem dX1_costOfMissing_1 : decode cX1_costOfMissing 1 = .ok (.iload_n 1, 1) := by decide +kernel
theorem dX1_costOfMissing_2 : decode cX1_costOfMissing 2 = .ok (.iload_n 2, 1) := by decide +kernel
theorem dX1_costOfMissing_3 : decode cX1_costOfMissing 3 = .ok (.invokevirtual 47, 3) := by decide +kernel
theorem dX1_costOfMissing_6 : decode cX1_costOfMissing 6 = .ok (.istore 4, 2) := by decide +kernel
theorem dX1_costOfMissing_8 : decode cX1_costOfMissing 8 = .ok (.iload 4, 2) := by decide +kernel
theorem dX1_costOfMissing_10 : decode cX1_costOfMissing 10 = .ok (.ifCond .ne 5, 3) := by decide +kernel
theorem dX1_costOfMissing_13 : decode cX1_costOfMissing 13 = .ok (.iconst 0, 1) := by decide +kernel
theorem dX1_costOfMissing_14 : decode cX1_costOfMissing 14 = .ok (.ireturn, 1) := by decide +kernel
theorem dX1_costOfMissing_15 : decode cX1_costOfMissing 15 = .ok (.aload_n 0, 1) := by decide +kernel
theorem dX1_costOfMissing_16 : decode cX1_costOfMissing 16 = .ok (.iload_n 1, 1) := by decide +kernel
theorem dX1_costOfMissing_17 : decode cX1_costOfMissing 17 = .ok (.aload_n 0, 1) := by decide +kernel
theorem dX1_costOfMissing_18 : decode cX1_costOfMissing 18 = .ok (.getfield 27, 3) := by decide +kernel
theorem dX1_costOfMissing_21 : decode cX1_costOfMissing 21 = .ok (.iload_n 1, 1) := by decide +kernel
theorem dX1_costOfMissing_22 : decode cX1_costOfMissing 22 = .ok (.iaload, 1) := by decide +kernel
theorem dX1_costOfMissing_23 : decode cX1_costOfMissing 23 = .ok (.iload_n 3, 1) := by decide +kernel
theorem dX1_costOfMissing_24 : decode cX1_costOfMissing 24 = .ok (.invokevirtual 50, 3) := by decide +kernel
theorem dX1_costOfMissing_27 : decode cX1_costOfMissing 27 = .ok (.istore 5, 2) := by decide +kernel
theorem dX1_costOfMissing_29 : decode cX1_costOfMissing 29 = .ok (.iconst 0, 1) := by decide +kernel
theorem dX1_costOfMissing_30 : decode cX1_costOfMissing 30 = .ok (.istore 6, 2) := by decide +kernel
theorem dX1_costOfMissing_32 : decode cX1_costOfMissing 32 = .ok (.iconst 0, 1) := by decide +kernel
theorem dX1_costOfMissing_33 : decode cX1_costOfMissing 33 = .ok (.istore 7, 2) := by decide +kernel
theorem dX1_costOfMissing_35 : decode cX1_costOfMissing 35 = .ok (.iload 7, 2) := by decide +kernel
theorem dX1_costOfMissing_37 : decode cX1_costOfMissing 37 = .ok (.iload 4, 2) := by decide +kernel
theorem dX1_costOfMissing_39 : decode cX1_costOfMissing 39 = .ok (.if_icmp .ge 24, 3) := by decide +kernel
theorem dX1_costOfMissing_42 : decode cX1_costOfMissing 42 = .ok (.iload 6, 2) := by decide +kernel
theorem dX1_costOfMissing_44 : decode cX1_costOfMissing 44 = .ok (.iload 5, 2) := by decide +kernel
theorem dX1_costOfMissing_46 : decode cX1_costOfMissing 46 = .ok (.iadd, 1) := by decide +kernel
theorem dX1_costOfMissing_47 : decode cX1_costOfMissing 47 = .ok (.istore 6, 2) := by decide +kernel
theorem dX1_costOfMissing_49 : decode cX1_costOfMissing 49 = .ok (.iload 5, 2) := by decide +kernel
theorem dX1_costOfMissing_51 : decode cX1_costOfMissing 51 = .ok (.iload_n 3, 1) := by decide +kernel
theorem dX1_costOfMissing_52 : decode cX1_costOfMissing 52 = .ok (.invokestatic 38, 3) := by decide +kernel
theorem dX1_costOfMissing_55 : decode cX1_costOfMissing 55 = .ok (.istore 5, 2) := by decide +kernel
theorem dX1_costOfMissing_57 : decode cX1_costOfMissing 57 = .ok (.iinc 7 1, 3) := by decide +kernel
theorem dX1_costOfMissing_60 : decode cX1_costOfMissing 60 = .ok (.goto (-25), 3) := by decide +kernel
theorem dX1_costOfMissing_63 : decode cX1_costOfMissing 63 = .ok (.iload 6, 2) := by decide +kernel
theorem dX1_costOfMissing_65 : decode cX1_costOfMissing 65 = .ok (.ireturn, 1) := by decide +kernel
theorem dX1_take_0 : decode cX1_take 0 = .ok (.aload_n 0, 1) := by decide +kernel
theorem dX1_take_1 : decode cX1_take 1 = .ok (.iload_n 1, 1) := by decide +kernel
theorem dX1_take_2 : decode cX1_take 2 = .ok (.invokevirtual 34, 3) := by decide +kernel
theorem dX1_take_5 : decode cX1_take 5 = .ok (.ifCond .ne 4, 3) := by decide +kernel
theorem dX1_take_8 : decode cX1_take 8 = .ok (.return_, 1) := by decide +kernel
theorem dX1_take_9 : decode cX1_take 9 = .ok (.aload_n 0, 1) := by decide +kernel
theorem dX1_take_10 : decode cX1_take 10 = .ok (.iload_n 1, 1) := by decide +kernel
theorem dX1_take_11 : decode cX1_take 11 = .ok (.iload_n 2, 1) := by decide +kernel
theorem dX1_take_12 : decode cX1_take 12 = .ok (.invokevirtual 47, 3) := by decide +kernel
theorem dX1_take_15 : decode cX1_take 15 = .ok (.istore_n 3, 1) := by decide +kernel
theorem dX1_take_16 : decode cX1_take 16 = .ok (.aload_n 0, 1) := by decide +kernel
theorem dX1_take_17 : decode cX1_take 17 = .ok (.getfield 24, 3) := by decide +kernel
theorem dX1_take_20 : decode cX1_take 20 = .ok (.iload_n 1, 1) := by decide +kernel
theorem dX1_take_21 : decode cX1_take 21 = .ok (.dup2, 1) := by decide +kernel
theorem dX1_take_22 : decode cX1_take 22 = .ok (.iaload, 1) := by decide +kernel
theorem dX1_take_23 : decode cX1_take 23 = .ok (.iload_n 2, 1) := by decide +kernel
theorem dX1_take_24 : decode cX1_take 24 = .ok (.iload_n 3, 1) := by decide +kernel
theorem dX1_take_25 : decode cX1_take 25 = .ok (.isub, 1) := by decide +kernel
theorem dX1_take_26 : decode cX1_take 26 = .ok (.isub, 1) := by decide +kernel
theorem dX1_take_27 : decode cX1_take 27 = .ok (.iastore, 1) := by decide +kernel
theorem dX1_take_28 : decode cX1_take 28 = .ok (.aload_n 0, 1) := by decide +kernel
theorem dX1_take_29 : decode cX1_take 29 = .ok (.getfield 27, 3) := by decide +kernel
theorem dX1_take_32 : decode cX1_take 32 = .ok (.iload_n 1, 1) := by decide +kernel
theorem dX1_take_33 : decode cX1_take 33 = .ok (.dup2, 1) := by decide +kernel
theorem dX1_take_34 : decode cX1_take 34 = .ok (.iaload, 1) := by decide +kernel
theorem dX1_take_35 : decode cX1_take 35 = .ok (.iload_n 3, 1) := by decide +kernel
theorem dX1_take_36 : decode cX1_take 36 = .ok (.iadd, 1) := by decide +kernel
theorem dX1_take_37 : decode cX1_take 37 = .ok (.iastore, 1) := by decide +kernel
theorem dX1_take_38 : decode cX1_take 38 = .ok (.return_, 1) := by decide +kernel
theorem dX2_init_0 : decode cX2_init 0 = .ok (.aload_n 0, 1) := by decide +kernel
theorem dX2_init_1 : decode cX2_init 1 = .ok (.invokespecial 3, 3) := by decide +kernel
theorem dX2_init_4 : decode cX2_init 4 = .ok (.aload_n 0, 1) := by decide +kernel
theorem dX2_init_5 : decode cX2_init 5 = .ok (.iconst 0, 1) := by decide +kernel
theorem dX2_init_6 : decode cX2_init 6 = .ok (.putfield 9, 3) := by decide +kernel
theorem dX2_init_9 : decode cX2_init 9 = .ok (.aload_n 0, 1) := by decide +kernel
theorem dX2_init_10 : decode cX2_init 10 = .ok (.iconst 0, 1) := by decide +kernel
theorem dX2_init_11 : decode cX2_init 11 = .ok (.putfield 15, 3) := by decide +kernel
theorem dX2_init_14 : decode cX2_init 14 = .ok (.aload_n 0, 1) := by decide +kernel
theorem dX2_init_15 : decode cX2_init 15 = .ok (.iconst 0, 1) := by decide +kernel
theorem dX2_init_16 : decode cX2_init 16 = .ok (.putfield 18, 3) := by decide +kernel
theorem dX2_init_19 : decode cX2_init 19 = .ok (.aload_n 0, 1) := by decide +kernel
theorem dX2_init_20 : decode cX2_init 20 = .ok (.iconst 0, 1) := by decide +kernel
theorem dX2_init_21 : decode cX2_init 21 = .ok (.putfield 21, 3) := by decide +kernel
theorem dX2_init_24 : decode cX2_init 24 = .ok (.aload_n 0, 1) := by decide +kernel
theorem dX2_init_25 : decode cX2_init 25 = .ok (.iconst 0, 1) := by decide +kernel
theorem dX2_init_26 : decode cX2_init 26 = .ok (.putfield 24, 3) := by decide +kernel
theorem dX2_init_29 : decode cX2_init 29 = .ok (.aload_n 0, 1) := by decide +kernel
theorem dX2_init_30 : decode cX2_init 30 = .ok (.iconst 0, 1) := by decide +kernel
theorem dX2_init_31 : decode cX2_init 31 = .ok (.putfield 27, 3) := by decide +kernel
theorem dX2_init_34 : decode cX2_init 34 = .ok (.aload_n 0, 1) := by decide +kernel
theorem dX2_init_35 : decode cX2_init 35 = .ok (.iconst 0, 1) := by decide +kernel
theorem dX2_init_36 : decode cX2_init 36 = .ok (.putfield 30, 3) := by decide +kernel
theorem dX2_init_39 : decode cX2_init 39 = .ok (.aload_n 0, 1) := by decide +kernel
theorem dX2_init_40 : decode cX2_init 40 = .ok (.iconst 0, 1) := by decide +kernel
theorem dX2_init_41 : decode cX2_init 41 = .ok (.putfield 33, 3) := by decide +kernel
theorem dX2_init_44 : decode cX2_init 44 = .ok (.aload_n 0, 1) := by decide +kernel
theorem dX2_init_45 : decode cX2_init 45 = .ok (.iconst 0, 1) := by decide +kernel
theorem dX2_init_46 : decode cX2_init 46 = .ok (.putfield 36, 3) := by decide +kernel
theorem dX2_init_49 : decode cX2_init 49 = .ok (.aload_n 0, 1) := by decide +kernel
theorem dX2_init_50 : decode cX2_init 50 = .ok (.iconst 0, 1) := by decide +kernel
theorem dX2_init_51 : decode cX2_init 51 = .ok (.putfield 39, 3) := by decide +kernel
theorem dX2_init_54 : decode cX2_init 54 = .ok (.aload_n 0, 1) := by decide +kernel
theorem dX2_init_55 : decode cX2_init 55 = .ok (.iconst 0, 1) := by decide +kernel
theorem dX2_init_56 : decode cX2_init 56 = .ok (.putfield 42, 3) := by decide +kernel
theorem dX2_init_59 : decode cX2_init 59 = .ok (.aload_n 0, 1) := by decide +kernel
theorem dX2_init_60 : decode cX2_init 60 = .ok (.iconst (-1), 1) := by decide +kernel
theorem dX2_init_61 : decode cX2_init 61 = .ok (.putfield 45, 3) := by decide +kernel
theorem dX2_init_64 : decode cX2_init 64 = .ok (.aload_n 0, 1) := by decide +kernel
theorem dX2_init_65 : decode cX2_init 65 = .ok (.aload_n 1, 1) := by decide +kernel
theorem dX2_init_66 : decode cX2_init 66 = .ok (.putfield 48, 3) := by decide +kernel
theorem dX2_init_69 : decode cX2_init 69 = .ok (.aload_n 0, 1) := by decide +kernel
theorem dX2_init_70 : decode cX2_init 70 = .ok (.aload_n 2, 1) := by decide +kernel
theorem dX2_init_71 : decode cX2_init 71 = .ok (.putfield 52, 3) := by decide +kernel
theorem dX2_init_74 : decode cX2_init 74 = .ok (.return_, 1) := by decide +kernel
theorem dX2_begin_0 : decode cX2_begin 0 = .ok (.aload_n 0, 1) := by decide +kernel
theorem dX2_begin_1 : decode cX2_begin 1 = .ok (.iconst 0, 1) := by decide +kernel
theorem dX2_begin_2 : decode cX2_begin 2 = .ok (.putfield 9, 3) := by decide +kernel
theorem dX2_begin_5 : decode cX2_begin 5 = .ok (.aload_n 0, 1) := by decide +kernel
theorem dX2_begin_6 : decode cX2_begin 6 = .ok (.aload_n 0, 1) := by decide +kernel
theorem dX2_begin_7 : decode cX2_begin 7 = .ok (.getfield 48, 3) := by decide +kernel
theorem dX2_begin_10 : decode cX2_begin 10 = .ok (.iconst 0, 1) := by decide +kernel
theorem dX2_begin_11 : decode cX2_begin 11 = .ok (.invokevirtual 56, 3) := by decide +kernel
theorem dX2_begin_14 : decode cX2_begin 14 = .ok (.putfield 24, 3) := by decide +kernel
theorem dX2_begin_17 : decode cX2_begin 17 = .ok (.aload_n 0, 1) := by decide +kernel
theorem dX2_begin_18 : decode cX2_begin 18 = .ok (.aload_n 0, 1) := by decide +kernel
theorem dX2_begin_19 : decode cX2_begin 19 = .ok (.getfield 48, 3) := by decide +kernel
theorem dX2_begin_22 : decode cX2_begin 22 = .ok (.invokevirtual 62, 3) := by decide +kernel
theorem dX2_begin_25 : decode cX2_begin 25 = .ok (.putfield 27, 3) := by decide +kernel
theorem dX2_begin_28 : decode cX2_begin 28 = .ok (.aload_n 0, 1) := by decide +kernel
theorem dX2_begin_29 : decode cX2_begin 29 = .ok (.iconst 0, 1) := by decide +kernel
theorem dX2_begin_30 : decode cX2_begin 30 = .ok (.putfield 30, 3) := by decide +kernel
theorem dX2_begin_33 : decode cX2_begin 33 = .ok (.aload_n 0, 1) := by decide +kernel
theorem dX2_begin_34 : decode cX2_begin 34 = .ok (.iconst 0, 1) := by decide +kernel
theorem dX2_begin_35 : decode cX2_begin 35 = .ok (.putfield 33, 3) := by decide +kernel
theorem dX2_begin_38 : decode cX2_begin 38 = .ok (.aload_n 0, 1) := by decide +kernel
theorem dX2_begin_39 : decode cX2_begin 39 = .ok (.iconst 0, 1) := by decide +kernel
theorem dX2_begin_40 : decode cX2_begin 40 = .ok (.putfield 36, 3) := by decide +kernel
theorem dX2_begin_43 : decode cX2_begin 43 = .ok (.aload_n 0, 1) := by decide +kernel
theorem dX2_begin_44 : decode cX2_begin 44 = .ok (.iconst 0, 1) := by decide +kernel
theorem dX2_begin_45 : decode cX2_begin 45 = .ok (.putfield 39, 3) := by decide +kernel
theorem dX2_begin_48 : decode cX2_begin 48 = .ok (.aload_n 0, 1) := by decide +kernel
theorem dX2_begin_49 : decode cX2_begin 49 = .ok (.iconst 0, 1) := by decide +kernel
theorem dX2_begin_50 : decode cX2_begin 50 = .ok (.putfield 42, 3) := by decide +kernel
theorem dX2_begin_53 : decode cX2_begin 53 = .ok (.aload_n 0, 1) := by decide +kernel
theorem dX2_begin_54 : decode cX2_begin 54 = .ok (.iconst (-1), 1) := by decide +kernel
theorem dX2_begin_55 : decode cX2_begin 55 = .ok (.putfield 45, 3) := by decide +kernel
theorem dX2_begin_58 : decode cX2_begin 58 = .ok (.aload_n 0, 1) := by decide +kernel
theorem dX2_begin_59 : decode cX2_begin 59 = .ok (.invokevirtual 66, 3) := by decide +kernel
theorem dX2_begin_62 : decode cX2_begin 62 = .ok (.return_, 1) := by decide +kernel
theorem dX2_copyOf_0 : decode cX2_copyOf 0 = .ok (.aload_n 0, 1) := by decide +kernel
theorem dX2_copyOf_1 : decode cX2_copyOf 1 = .ok (.aload_n 1, 1) := by decide +kernel
theorem dX2_copyOf_2 : decode cX2_copyOf 2 = .ok (.getfield 9, 3) := by decide +kernel
theorem dX2_copyOf_5 : decode cX2_copyOf 5 = .ok (.putfield 9, 3) := by decide +kernel
theorem dX2_copyOf_8 : decode cX2_copyOf 8 = .ok (.aload_n 0, 1) := by decide +kernel
theorem dX2_copyOf_9 : decode cX2_copyOf 9 = .ok (.aload_n 1, 1) := by decide +kernel
theorem dX2_copyOf_10 : decode cX2_copyOf 10 = .ok (.getfield 15, 3) := by decide +kernel
theorem dX2_copyOf_13 : decode cX2_copyOf 13 = .ok (.putfield 15, 3) := by decide +kernel
theorem dX2_copyOf_16 : decode cX2_copyOf 16 = .ok (.aload_n 0, 1) := by decide +kernel
theorem dX2_copyOf_17 : decode cX2_copyOf 17 = .ok (.aload_n 1, 1) := by decide +kernel
theorem dX2_copyOf_18 : decode cX2_copyOf 18 = .ok (.getfield 18, 3) := by decide +kernel
theorem dX2_copyOf_21 : decode cX2_copyOf 21 = .ok (.putfield 18, 3) := by decide +kernel
theorem dX2_copyOf_24 : decode cX2_copyOf 24 = .ok (.aload_n 0, 1) := by decide +kernel
theorem dX2_copyOf_25 : decode cX2_copyOf 25 = .ok (.aload_n 1, 1) := by decide +kernel
theorem dX2_copyOf_26 : decode cX2_copyOf 26 = .ok (.getfield 21, 3) := by decide +kernel
theorem dX2_copyOf_29 : decode cX2_copyOf 29 = .ok (.putfield 21, 3) := by decide +kernel
theorem dX2_copyOf_32 : decode cX2_copyOf 32 = .ok (.aload_n 0, 1) := by decide +kernel
theorem dX2_copyOf_33 : decode cX2_copyOf 33 = .ok (.aload_n 1, 1) := by decide +kernel
theorem dX2_copyOf_34 : decode cX2_copyOf 34 = .ok (.getfield 24, 3) := by decide +kernel
theorem dX2_copyOf_37 : decode cX2_copyOf 37 = .ok (.putfield 24, 3) := by decide +kernel
theorem dX2_copyOf_40 : decode cX2_copyOf 40 = .ok (.aload_n 0, 1) := by decide +kernel
theorem dX2_copyOf_41 : decode cX2_copyOf 41 = .ok (.aload_n 1, 1) := by decide +kernel
theorem dX2_copyOf_42 : decode cX2_copyOf 42 = .ok (.getfield 27, 3) := by decide +kernel
theorem dX2_copyOf_45 : decode cX2_copyOf 45 = .ok (.putfield 27, 3) := by decide +kernel
theorem dX2_copyOf_48 : decode cX2_copyOf 48 = .ok (.aload_n 0, 1) := by decide +kernel
theorem dX2_copyOf_49 : decode cX2_copyOf 49 = .ok (.aload_n 1, 1) := by decide +kernel
theorem dX2_copyOf_50 : decode cX2_copyOf 50 = .ok (.getfield 30, 3) := by decide +kernel
theorem dX2_copyOf_53 : decode cX2_copyOf 53 = .ok (.putfield 30, 3) := by decide +kernel
theorem dX2_copyOf_56 : decode cX2_copyOf 56 = .ok (.aload_n 0, 1) := by decide +kernel
theorem dX2_copyOf_57 : decode cX2_copyOf 57 = .ok (.aload_n 1, 1) := by decide +kernel
theorem dX2_copyOf_58 : decode cX2_copyOf 58 = .ok (.getfield 33, 3) := by decide +kernel
theorem dX2_copyOf_61 : decode cX2_copyOf 61 = .ok (.putfield 33, 3) := by decide +kernel
theorem dX2_copyOf_64 : decode cX2_copyOf 64 = .ok (.aload_n 0, 1) := by decide +kernel
theorem dX2_copyOf_65 : decode cX2_copyOf 65 = .ok (.aload_n 1, 1) := by decide +kernel
theorem dX2_copyOf_66 : decode cX2_copyOf 66 = .ok (.getfield 36, 3) := by decide +kernel
theorem dX2_copyOf_69 : decode cX2_copyOf 69 = .ok (.putfield 36, 3) := by decide +kernel
theorem dX2_copyOf_72 : decode cX2_copyOf 72 = .ok (.aload_n 0, 1) := by decide +kernel
theorem dX2_copyOf_73 : decode cX2_copyOf 73 = .ok (.aload_n 1, 1) := by decide +kernel
theorem dX2_copyOf_74 : decode cX2_copyOf 74 = .ok (.getfield 39, 3) := by decide +kernel
theorem dX2_copyOf_77 : decode cX2_copyOf 77 = .ok (.putfield 39, 3) := by decide +kernel
theorem dX2_copyOf_80 : decode cX2_copyOf 80 = .ok (.aload_n 0, 1) := by decide +kernel
theorem dX2_copyOf_81 : decode cX2_copyOf 81 = .ok (.aload_n 1, 1) := by decide +kernel
theorem dX2_copyOf_82 : decode cX2_copyOf 82 = .ok (.getfield 42, 3) := by decide +kernel
theorem dX2_copyOf_85 : decode cX2_copyOf 85 = .ok (.putfield 42, 3) := by decide +kernel
theorem dX2_copyOf_88 : decode cX2_copyOf 88 = .ok (.aload_n 0, 1) := by decide +kernel
theorem dX2_copyOf_89 : decode cX2_copyOf 89 = .ok (.aload_n 1, 1) := by decide +kernel
theorem dX2_copyOf_90 : decode cX2_copyOf 90 = .ok (.getfield 45, 3) := by decide +kernel
theorem dX2_copyOf_93 : decode cX2_copyOf 93 = .ok (.putfield 45, 3) := by decide +kernel
theorem dX2_copyOf_96 : decode cX2_copyOf 96 = .ok (.return_, 1) := by decide +kernel
theorem dX2_goesOn_0 : decode cX2_goesOn 0 = .ok (.aload_n 0, 1) := by decide +kernel
theorem dX2_goesOn_1 : decode cX2_goesOn 1 = .ok (.getfield 27, 3) := by decide +kernel
theorem dX2_goesOn_4 : decode cX2_goesOn 4 = .ok (.ifCond .le 17, 3) := by decide +kernel
theorem dX2_goesOn_7 : decode cX2_goesOn 7 = .ok (.aload_n 0, 1) := by decide +kernel
theorem dX2_goesOn_8 : decode cX2_goesOn 8 = .ok (.getfield 30, 3) := by decide +kernel
theorem dX2_goesOn_11 : decode cX2_goesOn 11 = .ok (.sipush 2000, 3) := by decide +kernel
theorem dX2_goesOn_14 : decode cX2_goesOn 14 = .ok (.if_icmp .ge 7, 3) := by decide +kernel
theorem dX2_goesOn_17 : decode cX2_goesOn 17 = .ok (.iconst 1, 1) := by decide +kernel
theorem dX2_goesOn_18 : decode cX2_goesOn 18 = .ok (.goto 4, 3) := by decide +kernel
theorem dX2_goesOn_21 : decode cX2_goesOn 21 = .ok (.iconst 0, 1) := by decide +kernel
theorem dX2_goesOn_22 : decode cX2_goesOn 22 = .ok (.ireturn, 1) := by decide +kernel
theorem dX2_readyLowest_0 : decode cX2_readyLowest 0 = .ok (.aload_n 0, 1) := by decide +kernel
theorem dX2_readyLowest_1 : decode cX2_readyLowest 1 = .ok (.getfield 48, 3) := by decide +kernel
theorem dX2_readyLowest_4 : decode cX2_readyLowest 4 = .ok (.aload_n 0, 1) := by decide +kernel
theorem dX2_readyLowest_5 : decode cX2_readyLowest 5 = .ok (.getfield 9, 3) := by decide +kernel
theorem dX2_readyLowest_8 : decode cX2_readyLowest 8 = .ok (.invokevirtual 69, 3) := by decide +kernel
theorem dX2_readyLowest_11 : decode cX2_readyLowest 11 = .ok (.istore_n 1, 1) := by decide +kernel
theorem dX2_readyLowest_12 : decode cX2_readyLowest 12 = .ok (.aload_n 0, 1) := by decide +kernel
theorem dX2_readyLowest_13 : decode cX2_readyLowest 13 = .ok (.iload_n 1, 1) := by decide +kernel
theorem dX2_readyLowest_14 : decode cX2_readyLowest 14 = .ok (.ifCond .eq 18, 3) := by decide +kernel
theorem dX2_readyLowest_17 : decode cX2_readyLowest 17 = .ok (.aload_n 0, 1) := by decide +kernel
theorem dX2_readyLowest_18 : decode cX2_readyLowest 18 = .ok (.getfield 48, 3) := by decide +kernel
theorem dX2_readyLowest_21 : decode cX2_readyLowest 21 = .ok (.getfield 73, 3) := by decide +kernel
theorem dX2_readyLowest_24 : decode cX2_readyLowest 24 = .ok (.aload_n 0, 1) := by decide +kernel
theorem dX2_readyLowest_25 : decode cX2_readyLowest 25 = .ok (.getfield 9, 3) := by decide +kernel
theorem dX2_readyLowest_28 : decode cX2_readyLowest 28 = .ok (.iaload, 1) := by decide +kernel
theorem dX2_readyLowest_29 : decode cX2_readyLowest 29 = .ok (.goto 4, 3) := by decide +kernel
theorem dX2_readyLowest_32 : decode cX2_readyLowest 32 = .ok (.iconst 0, 1) := by decide +kernel
theorem dX2_readyLowest_33 : decode cX2_readyLowest 33 = .ok (.putfield 15, 3) := by decide +kernel
theorem dX2_readyLowest_36 : decode cX2_readyLowest 36 = .ok (.aload_n 0, 1) := by decide +kernel
theorem dX2_readyLowest_37 : decode cX2_readyLowest 37 = .ok (.iload_n 1, 1) := by decide +kernel
theorem dX2_readyLowest_38 : decode cX2_readyLowest 38 = .ok (.ifCond .eq 18, 3) := by decide +kernel
theorem dX2_readyLowest_41 : decode cX2_readyLowest 41 = .ok (.aload_n 0, 1) := by decide +kernel
theorem dX2_readyLowest_42 : decode cX2_readyLowest 42 = .ok (.getfield 48, 3) := by decide +kernel
theorem dX2_readyLowest_45 : decode cX2_readyLowest 45 = .ok (.getfield 77, 3) := by decide +kernel
theorem dX2_readyLowest_48 : decode cX2_readyLowest 48 = .ok (.aload_n 0, 1) := by decide +kernel
theorem dX2_readyLowest_49 : decode cX2_readyLowest 49 = .ok (.getfield 9, 3) := by decide +kernel
theorem dX2_readyLowest_52 : decode cX2_readyLowest 52 = .ok (.iaload, 1) := by decide +kernel
theorem dX2_readyLowest_53 : decode cX2_readyLowest 53 = .ok (.goto 4, 3) := by decide +kernel
theorem dX2_readyLowest_56 : decode cX2_readyLowest 56 = .ok (.iconst 0, 1) := by decide +kernel
theorem dX2_readyLowest_57 : decode cX2_readyLowest 57 = .ok (.putfield 18, 3) := by decide +kernel
theorem dX2_readyLowest_60 : decode cX2_readyLowest 60 = .ok (.aload_n 0, 1) := by decide +kernel
theorem dX2_readyLowest_61 : decode cX2_readyLowest 61 = .ok (.iload_n 1, 1) := by decide +kernel
theorem dX2_readyLowest_62 : decode cX2_readyLowest 62 = .ok (.ifCond .eq 29, 3) := by decide +kernel
theorem dX2_readyLowest_65 : decode cX2_readyLowest 65 = .ok (.aload_n 0, 1) := by decide +kernel
theorem dX2_readyLowest_66 : decode cX2_readyLowest 66 = .ok (.getfield 48, 3) := by decide +kernel
theorem dX2_readyLowest_69 : decode cX2_readyLowest 69 = .ok (.getfield 80, 3) := by decide +kernel
theorem dX2_readyLowest_72 : decode cX2_readyLowest 72 = .ok (.getfield 84, 3) := by decide +kernel
theorem dX2_readyLowest_75 : decode cX2_readyLowest 75 = .ok (.aload_n 0, 1) := by decide +kernel
theorem dX2_readyLowest_76 : decode cX2_readyLowest 76 = .ok (.getfield 48, 3) := by decide +kernel
theorem dX2_readyLowest_79 : decode cX2_readyLowest 79 = .ok (.getfield 88, 3) := by decide +kernel
theorem dX2_readyLowest_82 : decode cX2_readyLowest 82 = .ok (.aload_n 0, 1) := by decide +kernel
theorem dX2_readyLowest_83 : decode cX2_readyLowest 83 = .ok (.getfield 9, 3) := by decide +kernel
theorem dX2_readyLowest_86 : decode cX2_readyLowest 86 = .ok (.iaload, 1) := by decide +kernel
theorem dX2_readyLowest_87 : decode cX2_readyLowest 87 = .ok (.iaload, 1) := by decide +kernel
theorem dX2_readyLowest_88 : decode cX2_readyLowest 88 = .ok (.goto 4, 3) := by decide +kernel
theorem dX2_readyLowest_91 : decode cX2_readyLowest 91 = .ok (.iconst 0, 1) := by decide +kernel
theorem dX2_readyLowest_92 : decode cX2_readyLowest 92 = .ok (.putfield 21, 3) := by decide +kernel
theorem dX2_readyLowest_95 : decode cX2_readyLowest 95 = .ok (.return_, 1) := by decide +kernel
theorem dX2_dropLowest_0 : decode cX2_dropLowest 0 = .ok (.aload_n 0, 1) := by decide +kernel
theorem dX2_dropLowest_1 : decode cX2_dropLowest 1 = .ok (.dup, 1) := by decide +kernel
theorem dX2_dropLowest_2 : decode cX2_dropLowest 2 = .ok (.getfield 24, 3) := by decide +kernel
theorem dX2_dropLowest_5 : decode cX2_dropLowest 5 = .ok (.aload_n 0, 1) := by decide +kernel
theorem dX2_dropLowest_6 : decode cX2_dropLowest 6 = .ok (.getfield 48, 3) := by decide +kernel
theorem dX2_dropLowest_9 : decode cX2_dropLowest 9 = .ok (.aload_n 0, 1) := by decide +kernel
theorem dX2_dropLowest_10 : decode cX2_dropLowest 10 = .ok (.getfield 9, 3) := by decide +kernel
theorem dX2_dropLowest_13 : decode cX2_dropLowest 13 = .ok (.invokevirtual 91, 3) := by decide +kernel
theorem dX2_dropLowest_16 : decode cX2_dropLowest 16 = .ok (.aload_n 0, 1) := by decide +kernel
theorem dX2_dropLowest_17 : decode cX2_dropLowest 17 = .ok (.getfield 15, 3) := by decide +kernel
theorem dX2_dropLowest_20 : decode cX2_dropLowest 20 = .ok (.iadd, 1) := by decide +kernel
theorem dX2_dropLowest_21 : decode cX2_dropLowest 21 = .ok (.isub, 1) := by decide +kernel
theorem dX2_dropLowest_22 : decode cX2_dropLowest 22 = .ok (.putfield 24, 3) := by decide +kernel
theorem dX2_dropLowest_25 : decode cX2_dropLowest 25 = .ok (.aload_n 0, 1) := by decide +kernel
theorem dX2_dropLowest_26 : decode cX2_dropLowest 26 = .ok (.dup, 1) := by decide +kernel
theorem dX2_dropLowest_27 : decode cX2_dropLowest 27 = .ok (.getfield 27, 3) := by decide +kernel
theorem dX2_dropLowest_30 : decode cX2_dropLowest 30 = .ok (.aload_n 0, 1) := by decide +kernel
theorem dX2_dropLowest_31 : decode cX2_dropLowest 31 = .ok (.getfield 15, 3) := by decide +kernel
theorem dX2_dropLowest_34 : decode cX2_dropLowest 34 = .ok (.isub, 1) := by decide +kernel
theorem dX2_dropLowest_35 : decode cX2_dropLowest 35 = .ok (.putfield 27, 3) := by decide +kernel
theorem dX2_dropLowest_38 : decode cX2_dropLowest 38 = .ok (.aload_n 0, 1) := by decide +kernel
theorem dX2_dropLowest_39 : decode cX2_dropLowest 39 = .ok (.dup, 1) := by decide +kernel
theorem dX2_dropLowest_40 : decode cX2_dropLowest 40 = .ok (.getfield 9, 3) := by decide +kernel
theorem dX2_dropLowest_43 : decode cX2_dropLowest 43 = .ok (.iconst 1, 1) := by decide +kernel
theorem dX2_dropLowest_44 : decode cX2_dropLowest 44 = .ok (.iadd, 1) := by decide +kernel
theorem dX2_dropLowest_45 : decode cX2_dropLowest 45 = .ok (.putfield 9, 3) := by decide +kernel
theorem dX2_dropLowest_48 : decode cX2_dropLowest 48 = .ok (.aload_n 0, 1) := by decide +kernel
theorem dX2_dropLowest_49 : decode cX2_dropLowest 49 = .ok (.invokevirtual 66, 3) := by decide +kernel
theorem dX2_dropLowest_52 : decode cX2_dropLowest 52 = .ok (.return_, 1) := by decide +kernel
theorem dX2_loseEngine_0 : decode cX2_loseEngine 0 = .ok (.aload_n 0, 1) := by decide +kernel
theorem dX2_loseEngine_1 : decode cX2_loseEngine 1 = .ok (.invokevirtual 94, 3) := by decide +kernel
theorem dX2_loseEngine_4 : decode cX2_loseEngine 4 = .ok (.ifCond .ne 4, 3) := by decide +kernel
theorem dX2_loseEngine_7 : decode cX2_loseEngine 7 = .ok (.return_, 1) := by decide +kernel
theorem dX2_loseEngine_8 : decode cX2_loseEngine 8 = .ok (.iconst 0, 1) := by decide +kernel
theorem dX2_loseEngine_9 : decode cX2_loseEngine 9 = .ok (.istore_n 1, 1) := by decide +kernel
theorem dX2_loseEngine_10 : decode cX2_loseEngine 10 = .ok (.iload_n 1, 1) := by decide +kernel
theorem dX2_loseEngine_11 : decode cX2_loseEngine 11 = .ok (.iconst 4, 1) := by decide +kernel
theorem dX2_loseEngine_12 : decode cX2_loseEngine 12 = .ok (.if_icmp .ge 20, 3) := by decide +kernel
theorem dX2_loseEngine_15 : decode cX2_loseEngine 15 = .ok (.aload_n 0, 1) := by decide +kernel
theorem dX2_loseEngine_16 : decode cX2_loseEngine 16 = .ok (.getfield 15, 3) := by decide +kernel
theorem dX2_loseEngine_19 : decode cX2_loseEngine 19 = .ok (.ifCond .ne 13, 3) := by decide +kernel
theorem dX2_loseEngine_22 : decode cX2_loseEngine 22 = .ok (.aload_n 0, 1) := by decide +kernel
theorem dX2_loseEngine_23 : decode cX2_loseEngine 23 = .ok (.invokevirtual 98, 3) := by decide +kernel
theorem dX2_loseEngine_26 : decode cX2_loseEngine 26 = .ok (.iinc 1 1, 3) := by decide +kernel
theorem dX2_loseEngine_29 : decode cX2_loseEngine 29 = .ok (.goto (-19), 3) := by decide +kernel
theorem dX2_loseEngine_32 : decode cX2_loseEngine 32 = .ok (.aload_n 0, 1) := by decide +kernel
theorem dX2_loseEngine_33 : decode cX2_loseEngine 33 = .ok (.dup, 1) := by decide +kernel
theorem dX2_loseEngine_34 : decode cX2_loseEngine 34 = .ok (.getfield 18, 3) := by decide +kernel
theorem dX2_loseEngine_37 : decode cX2_loseEngine 37 = .ok (.iconst 1, 1) := by decide +kernel
theorem dX2_loseEngine_38 : decode cX2_loseEngine 38 = .ok (.isub, 1) := by decide +kernel
theorem dX2_loseEngine_39 : decode cX2_loseEngine 39 = .ok (.putfield 18, 3) := by decide +kernel
theorem dX2_loseEngine_42 : decode cX2_loseEngine 42 = .ok (.aload_n 0, 1) := by decide +kernel
theorem dX2_loseEngine_43 : decode cX2_loseEngine 43 = .ok (.getfield 18, 3) := by decide +kernel
theorem dX2_loseEngine_46 : decode cX2_loseEngine 46 = .ok (.iconst 1, 1) := by decide +kernel
theorem dX2_loseEngine_47 : decode cX2_loseEngine 47 = .ok (.if_icmp .ge 7, 3) := by decide +kernel
theorem dX2_loseEngine_50 : decode cX2_loseEngine 50 = .ok (.aload_n 0, 1) := by decide +kernel
theorem dX2_loseEngine_51 : decode cX2_loseEngine 51 = .ok (.invokevirtual 98, 3) := by decide +kernel
theorem dX2_loseEngine_54 : decode cX2_loseEngine 54 = .ok (.return_, 1) := by decide +kernel
theorem dX2_goOn_0 : decode cX2_goOn 0 = .ok (.iconst 0, 1) := by decide +kernel
theorem dX2_goOn_1 : decode cX2_goOn 1 = .ok (.istore_n 3, 1) := by decide +kernel
theorem dX2_goOn_2 : decode cX2_goOn 2 = .ok (.iload_n 3, 1) := by decide +kernel
theorem dX2_goOn_3 : decode cX2_goOn 3 = .ok (.iconst 4, 1) := by decide +kernel
theorem dX2_goOn_4 : decode cX2_goOn 4 = .ok (.if_icmp .ge 54, 3) := by decide +kernel
theorem dX2_goOn_7 : decode cX2_goOn 7 = .ok (.aload_n 0, 1) := by decide +kernel
theorem dX2_goOn_8 : decode cX2_goOn 8 = .ok (.invokevirtual 94, 3) := by decide +kernel
theorem dX2_goOn_11 : decode cX2_goOn 11 = .ok (.ifCond .eq 47, 3) := by decide +kernel
theorem dX2_goOn_14 : decode cX2_goOn 14 = .ok (.aload_n 0, 1) := by decide +kernel
theorem dX2_goOn_15 : decode cX2_goOn 15 = .ok (.getfield 30, 3) := by decide +kernel
theorem dX2_goOn_18 : decode cX2_goOn 18 = .ok (.iload_n 1, 1) := by decide +kernel
theorem dX2_goOn_19 : decode cX2_goOn 19 = .ok (.if_icmp .ge 39, 3) := by decide +kernel
theorem dX2_goOn_22 : decode cX2_goOn 22 = .ok (.aload_n 0, 1) := by decide +kernel
theorem dX2_goOn_23 : decode cX2_goOn 23 = .ok (.iload_n 1, 1) := by decide +kernel
theorem dX2_goOn_24 : decode cX2_goOn 24 = .ok (.iload_n 2, 1) := by decide +kernel
theorem dX2_goOn_25 : decode cX2_goOn 25 = .ok (.invokevirtual 101, 3) := by decide +kernel
theorem dX2_goOn_28 : decode cX2_goOn 28 = .ok (.aload_n 0, 1) := by decide +kernel
theorem dX2_goOn_29 : decode cX2_goOn 29 = .ok (.getfield 15, 3) := by decide +kernel
theorem dX2_goOn_32 : decode cX2_goOn 32 = .ok (.ifCond .ne 7, 3) := by decide +kernel
theorem dX2_goOn_35 : decode cX2_goOn 35 = .ok (.aload_n 0, 1) := by decide +kernel
theorem dX2_goOn_36 : decode cX2_goOn 36 = .ok (.invokevirtual 98, 3) := by decide +kernel
theorem dX2_goOn_39 : decode cX2_goOn 39 = .ok (.iload_n 2, 1) := by decide +kernel
theorem dX2_goOn_40 : decode cX2_goOn 40 = .ok (.ifCond .eq 12, 3) := by decide +kernel
theorem dX2_goOn_43 : decode cX2_goOn 43 = .ok (.aload_n 0, 1) := by decide +kernel
theorem dX2_goOn_44 : decode cX2_goOn 44 = .ok (.getfield 45, 3) := by decide +kernel
theorem dX2_goOn_47 : decode cX2_goOn 47 = .ok (.iconst (-1), 1) := by decide +kernel
theorem dX2_goOn_48 : decode cX2_goOn 48 = .ok (.if_icmp .eq 4, 3) := by decide +kernel
theorem dX2_goOn_51 : decode cX2_goOn 51 = .ok (.return_, 1) := by decide +kernel
theorem dX2_goOn_52 : decode cX2_goOn 52 = .ok (.iinc 3 1, 3) := by decide +kernel
theorem dX2_goOn_55 : decode cX2_goOn 55 = .ok (.goto (-53), 3) := by decide +kernel
theorem dX2_goOn_58 : decode cX2_goOn 58 = .ok (.return_, 1) := by decide +kernel
theorem dX2_burnLowest_0 : decode cX2_burnLowest 0 = .ok (.aload_n 0, 1) := by decide +kernel
theorem dX2_burnLowest_1 : decode cX2_burnLowest 1 = .ok (.getfield 33, 3) := by decide +kernel
theorem dX2_burnLowest_4 : decode cX2_burnLowest 4 = .ok (.istore_n 3, 1) := by decide +kernel
theorem dX2_burnLowest_5 : decode cX2_burnLowest 5 = .ok (.aload_n 0, 1) := by decide +kernel
theorem dX2_burnLowest_6 : decode cX2_burnLowest 6 = .ok (.getfield 36, 3) := by decide +kernel
theorem dX2_burnLowest_9 : decode cX2_burnLowest 9 = .ok (.istore 4, 2) := by decide +kernel
theorem dX2_burnLowest_11 : decode cX2_burnLowest 11 = .ok (.aload_n 0, 1) := by decide +kernel
theorem dX2_burnLowest_12 : decode cX2_burnLowest 12 = .ok (.getfield 24, 3) := by decide +kernel
theorem dX2_burnLowest_15 : decode cX2_burnLowest 15 = .ok (.istore 5, 2) := by decide +kernel
theorem dX2_burnLowest_17 : decode cX2_burnLowest 17 = .ok (.aload_n 0, 1) := by decide +kernel
theorem dX2_burnLowest_18 : decode cX2_burnLowest 18 = .ok (.getfield 15, 3) := by decide +kernel
theorem dX2_burnLowest_21 : decode cX2_burnLowest 21 = .ok (.istore 6, 2) := by decide +kernel
theorem dX2_burnLowest_23 : decode cX2_burnLowest 23 = .ok (.aload_n 0, 1) := by decide +kernel
theorem dX2_burnLowest_24 : decode cX2_burnLowest 24 = .ok (.getfield 30, 3) := by decide +kernel
theorem dX2_burnLowest_27 : decode cX2_burnLowest 27 = .ok (.istore 7, 2) := by decide +kernel
theorem dX2_burnLowest_29 : decode cX2_burnLowest 29 = .ok (.iload 6, 2) := by decide +kernel
theorem dX2_burnLowest_31 : decode cX2_burnLowest 31 = .ok (.ifCond .le 173, 3) := by decide +kernel
theorem dX2_burnLowest_34 : decode cX2_burnLowest 34 = .ok (.iload 7, 2) := by decide +kernel
theorem dX2_burnLowest_36 : decode cX2_burnLowest 36 = .ok (.iload_n 1, 1) := by decide +kernel
theorem dX2_burnLowest_37 : decode cX2_burnLowest 37 = .ok (.if_icmp .ge 167, 3) := by decide +kernel
theorem dX2_burnLowest_40 : decode cX2_burnLowest 40 = .ok (.iload 7, 2) := by decide +kernel
theorem dX2_burnLowest_42 : decode cX2_burnLowest 42 = .ok (.sipush 2000, 3) := by decide +kernel
theorem dX2_burnLowest_45 : decode cX2_burnLowest 45 = .ok (.if_icmp .ge 159, 3) := by decide +kernel
theorem dX2_burnLowest_48 : decode cX2_burnLowest 48 = .ok (.iload 5, 2) := by decide +kernel
theorem dX2_burnLowest_50 : decode cX2_burnLowest 50 = .ok (.ifCond .le 154, 3) := by decide +kernel
theorem dX2_burnLowest_53 : decode cX2_burnLowest 53 = .ok (.aload_n 0, 1) := by decide +kernel
theorem dX2_burnLowest_54 : decode cX2_burnLowest 54 = .ok (.getfield 18, 3) := by decide +kernel
theorem dX2_burnLowest_57 : decode cX2_burnLowest 57 = .ok (.ifCond .le 147, 3) := by decide +kernel
theorem dX2_burnLowest_60 : decode cX2_burnLowest 60 = .ok (.iload 6, 2) := by decide +kernel
theorem dX2_burnLowest_62 : decode cX2_burnLowest 62 = .ok (.aload_n 0, 1) := by decide +kernel
theorem dX2_burnLowest_63 : decode cX2_burnLowest 63 = .ok (.getfield 18, 3) := by decide +kernel
theorem dX2_burnLowest_66 : decode cX2_burnLowest 66 = .ok (.invokestatic 105, 3) := by decide +kernel
theorem dX2_burnLowest_69 : decode cX2_burnLowest 69 = .ok (.istore 8, 2) := by decide +kernel
theorem dX2_burnLowest_71 : decode cX2_burnLowest 71 = .ok (.aload_n 0, 1) := by decide +kernel
theorem dX2_burnLowest_72 : decode cX2_burnLowest 72 = .ok (.getfield 52, 3) := by decide +kernel
theorem dX2_burnLowest_75 : decode cX2_burnLowest 75 = .ok (.iload 4, 2) := by decide +kernel
theorem dX2_burnLowest_77 : decode cX2_burnLowest 77 = .ok (.iload_n 3, 1) := by decide +kernel
theorem dX2_burnLowest_78 : decode cX2_burnLowest 78 = .ok (.invokevirtual 111, 3) := by decide +kernel
theorem dX2_burnLowest_81 : decode cX2_burnLowest 81 = .ok (.istore 9, 2) := by decide +kernel
theorem dX2_burnLowest_83 : decode cX2_burnLowest 83 = .ok (.iload 9, 2) := by decide +kernel
theorem dX2_burnLowest_85 : decode cX2_burnLowest 85 = .ok (.aload_n 0, 1) := by decide +kernel
theorem dX2_burnLowest_86 : decode cX2_burnLowest 86 = .ok (.getfield 39, 3) := by decide +kernel
theorem dX2_burnLowest_89 : decode cX2_burnLowest 89 = .ok (.if_icmp .le 11, 3) := by decide +kernel
theorem dX2_burnLowest_92 : decode cX2_burnLowest 92 = .ok (.aload_n 0, 1) := by decide +kernel
theorem dX2_burnLowest_93 : decode cX2_burnLowest 93 = .ok (.iload 9, 2) := by decide +kernel
theorem dX2_burnLowest_95 : decode cX2_burnLowest 95 = .ok (.iload 7, 2) := by decide +kernel
theorem dX2_burnLowest_97 : decode cX2_burnLowest 97 = .ok (.invokevirtual 116, 3) := by decide +kernel
theorem dX2_burnLowest_100 : decode cX2_burnLowest 100 = .ok (.bipush 100, 2) := by decide +kernel
theorem dX2_burnLowest_102 : decode cX2_burnLowest 102 = .ok (.aload_n 0, 1) := by decide +kernel
theorem dX2_burnLowest_103 : decode cX2_burnLowest 103 = .ok (.getfield 21, 3) := by decide +kernel
theorem dX2_burnLowest_106 : decode cX2_burnLowest 106 = .ok (.iload 8, 2) := by decide +kernel
theorem dX2_burnLowest_108 : decode cX2_burnLowest 108 = .ok (.imul, 1) := by decide +kernel
theorem dX2_burnLowest_109 : decode cX2_burnLowest 109 = .ok (.iload 5, 2) := by decide +kernel
theorem dX2_burnLowest_111 : decode cX2_burnLowest 111 = .ok (.isub, 1) := by decide +kernel
theorem dX2_burnLowest_112 : decode cX2_burnLowest 112 = .ok (.imul, 1) := by decide +kernel
theorem dX2_burnLowest_113 : decode cX2_burnLowest 113 = .ok (.istore 10, 2) := by decide +kernel
theorem dX2_burnLowest_115 : decode cX2_burnLowest 115 = .ok (.iload 4, 2) := by decide +kernel
theorem dX2_burnLowest_117 : decode cX2_burnLowest 117 = .ok (.iload 4, 2) := by decide +kernel
theorem dX2_burnLowest_119 : decode cX2_burnLowest 119 = .ok (.ifCond .ge 11, 3) := by decide +kernel
theorem dX2_burnLowest_122 : decode cX2_burnLowest 122 = .ok (.iload 10, 2) := by decide +kernel
theorem dX2_burnLowest_124 : decode cX2_burnLowest 124 = .ok (.iload 9, 2) := by decide +kernel
theorem dX2_burnLowest_126 : decode cX2_burnLowest 126 = .ok (.iadd, 1) := by decide +kernel
theorem dX2_burnLowest_127 : decode cX2_burnLowest 127 = .ok (.goto 8, 3) := by decide +kernel
theorem dX2_burnLowest_130 : decode cX2_burnLowest 130 = .ok (.iload 10, 2) := by decide +kernel
theorem dX2_burnLowest_132 : decode cX2_burnLowest 132 = .ok (.iload 9, 2) := by decide +kernel
theorem dX2_burnLowest_134 : decode cX2_burnLowest 134 = .ok (.isub, 1) := by decide +kernel
theorem dX2_burnLowest_135 : decode cX2_burnLowest 135 = .ok (.iload 5, 2) := by decide +kernel
theorem dX2_burnLowest_137 : decode cX2_burnLowest 137 = .ok (.idiv, 1) := by decide +kernel
theorem dX2_burnLowest_138 : decode cX2_burnLowest 138 = .ok (.iadd, 1) := by decide +kernel
theorem dX2_burnLowest_139 : decode cX2_burnLowest 139 = .ok (.istore 4, 2) := by decide +kernel
theorem dX2_burnLowest_141 : decode cX2_burnLowest 141 = .ok (.ldc 120, 2) := by decide +kernel
theorem dX2_burnLowest_143 : decode cX2_burnLowest 143 = .ok (.iload 4, 2) := by decide +kernel
theorem dX2_burnLowest_145 : decode cX2_burnLowest 145 = .ok (.ldc 121, 2) := by decide +kernel
theorem dX2_burnLowest_147 : decode cX2_burnLowest 147 = .ok (.invokestatic 105, 3) := by decide +kernel
theorem dX2_burnLowest_150 : decode cX2_burnLowest 150 = .ok (.invokestatic 122, 3) := by decide +kernel
theorem dX2_burnLowest_153 : decode cX2_burnLowest 153 = .ok (.istore 4, 2) := by decide +kernel
theorem dX2_burnLowest_155 : decode cX2_burnLowest 155 = .ok (.iload_n 3, 1) := by decide +kernel
theorem dX2_burnLowest_156 : decode cX2_burnLowest 156 = .ok (.iload 4, 2) := by decide +kernel
theorem dX2_burnLowest_158 : decode cX2_burnLowest 158 = .ok (.iadd, 1) := by decide +kernel
theorem dX2_burnLowest_159 : decode cX2_burnLowest 159 = .ok (.istore_n 3, 1) := by decide +kernel
theorem dX2_burnLowest_160 : decode cX2_burnLowest 160 = .ok (.iload_n 3, 1) := by decide +kernel
theorem dX2_burnLowest_161 : decode cX2_burnLowest 161 = .ok (.ifCond .ge 8, 3) := by decide +kernel
theorem dX2_burnLowest_164 : decode cX2_burnLowest 164 = .ok (.iconst 0, 1) := by decide +kernel
theorem dX2_burnLowest_165 : decode cX2_burnLowest 165 = .ok (.istore_n 3, 1) := by decide +kernel
theorem dX2_burnLowest_166 : decode cX2_burnLowest 166 = .ok (.iconst 0, 1) := by decide +kernel
theorem dX2_burnLowest_167 : decode cX2_burnLowest 167 = .ok (.istore 4, 2) := by decide +kernel
theorem dX2_burnLowest_169 : decode cX2_burnLowest 169 = .ok (.iload 6, 2) := by decide +kernel
theorem dX2_burnLowest_171 : decode cX2_burnLowest 171 = .ok (.iload 8, 2) := by decide +kernel
theorem dX2_burnLowest_173 : decode cX2_burnLowest 173 = .ok (.isub, 1) := by decide +kernel
theorem dX2_burnLowest_174 : decode cX2_burnLowest 174 = .ok (.istore 6, 2) := by decide +kernel
theorem dX2_burnLowest_176 : decode cX2_burnLowest 176 = .ok (.iload 5, 2) := by decide +kernel
theorem dX2_burnLowest_178 : decode cX2_burnLowest 178 = .ok (.iload 8, 2) := by decide +kernel
theorem dX2_burnLowest_180 : decode cX2_burnLowest 180 = .ok (.isub, 1) := by decide +kernel
theorem dX2_burnLowest_181 : decode cX2_burnLowest 181 = .ok (.istore 5, 2) := by decide +kernel
theorem dX2_burnLowest_183 : decode cX2_burnLowest 183 = .ok (.iinc 7 1, 3) := by decide +kernel
theorem dX2_burnLowest_186 : decode cX2_burnLowest 186 = .ok (.iload_n 2, 1) := by decide +kernel
theorem dX2_burnLowest_187 : decode cX2_burnLowest 187 = .ok (.ifCond .eq 14, 3) := by decide +kernel
theorem dX2_burnLowest_190 : decode cX2_burnLowest 190 = .ok (.aload_n 0, 1) := by decide +kernel
theorem dX2_burnLowest_191 : decode cX2_burnLowest 191 = .ok (.getfield 45, 3) := by decide +kernel
theorem dX2_burnLowest_194 : decode cX2_burnLowest 194 = .ok (.iconst (-1), 1) := by decide +kernel
theorem dX2_burnLowest_195 : decode cX2_burnLowest 195 = .ok (.if_icmp .eq 6, 3) := by decide +kernel
theorem dX2_burnLowest_198 : decode cX2_burnLowest 198 = .ok (.goto 6, 3) := by decide +kernel
theorem dX2_burnLowest_201 : decode cX2_burnLowest 201 = .ok (.goto (-172), 3) := by decide +kernel
theorem dX2_burnLowest_204 : decode cX2_burnLowest 204 = .ok (.aload_n 0, 1) := by decide +kernel
theorem dX2_burnLowest_205 : decode cX2_burnLowest 205 = .ok (.iload_n 3, 1) := by decide +kernel
theorem dX2_burnLowest_206 : decode cX2_burnLowest 206 = .ok (.putfield 33, 3) := by decide +kernel
theorem dX2_burnLowest_209 : decode cX2_burnLowest 209 = .ok (.aload_n 0, 1) := by decide +kernel
theorem dX2_burnLowest_210 : decode cX2_burnLowest 210 = .ok (.iload 4, 2) := by decide +kernel
theorem dX2_burnLowest_212 : decode cX2_burnLowest 212 = .ok (.putfield 36, 3) := by decide +kernel
theorem dX2_burnLowest_215 : decode cX2_burnLowest 215 = .ok (.aload_n 0, 1) := by decide +kernel
theorem dX2_burnLowest_216 : decode cX2_burnLowest 216 = .ok (.iload 5, 2) := by decide +kernel
theorem dX2_burnLowest_218 : decode cX2_burnLowest 218 = .ok (.putfield 24, 3) := by decide +kernel
theorem dX2_burnLowest_221 : decode cX2_burnLowest 221 = .ok (.aload_n 0, 1) := by decide +kernel
theorem dX2_burnLowest_222 : decode cX2_burnLowest 222 = .ok (.dup, 1) := by decide +kernel
theorem dX2_burnLowest_223 : decode cX2_burnLowest 223 = .ok (.getfield 27, 3) := by decide +kernel
theorem dX2_burnLowest_226 : decode cX2_burnLowest 226 = .ok (.aload_n 0, 1) := by decide +kernel
theorem dX2_burnLowest_227 : decode cX2_burnLowest 227 = .ok (.getfield 15, 3) := by decide +kernel
theorem dX2_burnLowest_230 : decode cX2_burnLowest 230 = .ok (.iload 6, 2) := by decide +kernel
theorem dX2_burnLowest_232 : decode cX2_burnLowest 232 = .ok (.isub, 1) := by decide +kernel
theorem dX2_burnLowest_233 : decode cX2_burnLowest 233 = .ok (.isub, 1) := by decide +kernel
theorem dX2_burnLowest_234 : decode cX2_burnLowest 234 = .ok (.putfield 27, 3) := by decide +kernel
theorem dX2_burnLowest_237 : decode cX2_burnLowest 237 = .ok (.aload_n 0, 1) := by decide +kernel
theorem dX2_burnLowest_238 : decode cX2_burnLowest 238 = .ok (.iload 6, 2) := by decide +kernel
theorem dX2_burnLowest_240 : decode cX2_burnLowest 240 = .ok (.putfield 15, 3) := by decide +kernel
theorem dX2_burnLowest_243 : decode cX2_burnLowest 243 = .ok (.aload_n 0, 1) := by decide +kernel
theorem dX2_burnLowest_244 : decode cX2_burnLowest 244 = .ok (.iload 7, 2) := by decide +kernel
theorem dX2_burnLowest_246 : decode cX2_burnLowest 246 = .ok (.putfield 30, 3) := by decide +kernel
theorem dX2_burnLowest_249 : decode cX2_burnLowest 249 = .ok (.return_, 1) := by decide +kernel
theorem dX2_noteLoading_0 : decode cX2_noteLoading 0 = .ok (.aload_n 0, 1) := by decide +kernel
theorem dX2_noteLoading_1 : decode cX2_noteLoading 1 = .ok (.iload_n 1, 1) := by decide +kernel
theorem dX2_noteLoading_2 : decode cX2_noteLoading 2 = .ok (.putfield 39, 3) := by decide +kernel
theorem dX2_noteLoading_5 : decode cX2_noteLoading 5 = .ok (.aload_n 0, 1) := by decide +kernel
theorem dX2_noteLoading_6 : decode cX2_noteLoading 6 = .ok (.iload_n 2, 1) := by decide +kernel
theorem dX2_noteLoading_7 : decode cX2_noteLoading 7 = .ok (.putfield 42, 3) := by decide +kernel
theorem dX2_noteLoading_10 : decode cX2_noteLoading 10 = .ok (.aload_n 0, 1) := by decide +kernel
theorem dX2_noteLoading_11 : decode cX2_noteLoading 11 = .ok (.getfield 45, 3) := by decide +kernel
theorem dX2_noteLoading_14 : decode cX2_noteLoading 14 = .ok (.iconst (-1), 1) := by decide +kernel
theorem dX2_noteLoading_15 : decode cX2_noteLoading 15 = .ok (.if_icmp .ne 21, 3) := by decide +kernel
theorem dX2_noteLoading_18 : decode cX2_noteLoading 18 = .ok (.iload_n 1, 1) := by decide +kernel
theorem dX2_noteLoading_19 : decode cX2_noteLoading 19 = .ok (.aload_n 0, 1) := by decide +kernel
theorem dX2_noteLoading_20 : decode cX2_noteLoading 20 = .ok (.getfield 52, 3) := by decide +kernel
theorem dX2_noteLoading_23 : decode cX2_noteLoading 23 = .ok (.getfield 125, 3) := by decide +kernel
theorem dX2_noteLoading_26 : decode cX2_noteLoading 26 = .ok (.iconst 0, 1) := by decide +kernel
theorem dX2_noteLoading_27 : decode cX2_noteLoading 27 = .ok (.iaload, 1) := by decide +kernel
theorem dX2_noteLoading_28 : decode cX2_noteLoading 28 = .ok (.if_icmp .le 8, 3) := by decide +kernel
theorem dX2_noteLoading_31 : decode cX2_noteLoading 31 = .ok (.aload_n 0, 1) := by decide +kernel
theorem dX2_noteLoading_32 : decode cX2_noteLoading 32 = .ok (.iload_n 2, 1) := by decide +kernel
theorem dX2_noteLoading_33 : decode cX2_noteLoading 33 = .ok (.putfield 45, 3) := by decide +kernel
theorem dX2_noteLoading_36 : decode cX2_noteLoading 36 = .ok (.return_, 1) := by decide +kernel
theorem dX2_breakNow_0 : decode cX2_breakNow 0 = .ok (.aload_n 0, 1) := by decide +kernel
theorem dX2_breakNow_1 : decode cX2_breakNow 1 = .ok (.getfield 45, 3) := by decide +kernel
theorem dX2_breakNow_4 : decode cX2_breakNow 4 = .ok (.iconst (-1), 1) := by decide +kernel
theorem dX2_breakNow_5 : decode cX2_breakNow 5 = .ok (.if_icmp .eq 5, 3) := by decide +kernel
theorem dX2_breakNow_8 : decode cX2_breakNow 8 = .ok (.iconst 1, 1) := by decide +kernel
theorem dX2_breakNow_9 : decode cX2_breakNow 9 = .ok (.ireturn, 1) := by decide +kernel
theorem dX2_breakNow_10 : decode cX2_breakNow 10 = .ok (.aload_n 0, 1) := by decide +kernel
theorem dX2_breakNow_11 : decode cX2_breakNow 11 = .ok (.getfield 33, 3) := by decide +kernel
theorem dX2_breakNow_14 : decode cX2_breakNow 14 = .ok (.aload_n 0, 1) := by decide +kernel
theorem dX2_breakNow_15 : decode cX2_breakNow 15 = .ok (.getfield 52, 3) := by decide +kernel
theorem dX2_breakNow_18 : decode cX2_breakNow 18 = .ok (.getfield 125, 3) := by decide +kernel
theorem dX2_breakNow_21 : decode cX2_breakNow 21 = .ok (.iconst 1, 1) := by decide +kernel
theorem dX2_breakNow_22 : decode cX2_breakNow 22 = .ok (.iaload, 1) := by decide +kernel
theorem dX2_breakNow_23 : decode cX2_breakNow 23 = .ok (.if_icmp .ge 5, 3) := by decide +kernel
theorem dX2_breakNow_26 : decode cX2_breakNow 26 = .ok (.iconst 2, 1) := by decide +kernel
theorem dX2_breakNow_27 : decode cX2_breakNow 27 = .ok (.ireturn, 1) := by decide +kernel
theorem dX2_breakNow_28 : decode cX2_breakNow 28 = .ok (.aload_n 0, 1) := by decide +kernel
theorem dX2_breakNow_29 : decode cX2_breakNow 29 = .ok (.getfield 36, 3) := by decide +kernel
theorem dX2_breakNow_32 : decode cX2_breakNow 32 = .ok (.aload_n 0, 1) := by decide +kernel
theorem dX2_breakNow_33 : decode cX2_breakNow 33 = .ok (.getfield 52, 3) := by decide +kernel
theorem dX2_breakNow_36 : decode cX2_breakNow 36 = .ok (.getfield 125, 3) := by decide +kernel
theorem dX2_breakNow_39 : decode cX2_breakNow 39 = .ok (.iconst 2, 1) := by decide +kernel
theorem dX2_breakNow_40 : decode cX2_breakNow 40 = .ok (.iaload, 1) := by decide +kernel
theorem dX2_breakNow_41 : decode cX2_breakNow 41 = .ok (.if_icmp .ge 7, 3) := by decide +kernel
theorem dX2_breakNow_44 : decode cX2_breakNow 44 = .ok (.iconst 3, 1) := by decide +kernel
theorem dX2_breakNow_45 : decode cX2_breakNow 45 = .ok (.goto 4, 3) := by decide +kernel
theorem dX2_breakNow_48 : decode cX2_breakNow 48 = .ok (.iconst 0, 1) := by decide +kernel
theorem dX2_breakNow_49 : decode cX2_breakNow 49 = .ok (.ireturn, 1) := by decide +kernel
theorem dX3_init_0 : decode cX3_init 0 = .ok (.aload_n 0, 1) := by decide +kernel
theorem dX3_init_1 : decode cX3_init 1 = .ok (.invokespecial 3, 3) := by decide +kernel
theorem dX3_init_4 : decode cX3_init 4 = .ok (.aload_n 0, 1) := by decide +kernel
theorem dX3_init_5 : decode cX3_init 5 = .ok (.sipush 1492, 3) := by decide +kernel
theorem dX3_init_8 : decode cX3_init 8 = .ok (.newarray .int, 2) := by decide +kernel
theorem dX3_init_10 : decode cX3_init 10 = .ok (.putfield 11, 3) := by decide +kernel
theorem dX3_init_13 : decode cX3_init 13 = .ok (.aload_n 0, 1) := by decide +kernel
theorem dX3_init_14 : decode cX3_init 14 = .ok (.iconst 0, 1) := by decide +kernel
theorem dX3_init_15 : decode cX3_init 15 = .ok (.putfield 15, 3) := by decide +kernel
theorem dX3_init_18 : decode cX3_init 18 = .ok (.aload_n 0, 1) := by decide +kernel
theorem dX3_init_19 : decode cX3_init 19 = .ok (.iconst 0, 1) := by decide +kernel
theorem dX3_init_20 : decode cX3_init 20 = .ok (.putfield 19, 3) := by decide +kernel
theorem dX3_init_23 : decode cX3_init 23 = .ok (.return_, 1) := by decide +kernel
theorem dX3_ready_0 : decode cX3_ready 0 = .ok (.aload_n 0, 1) := by decide +kernel
theorem dX3_ready_1 : decode cX3_ready 1 = .ok (.iload_n 2, 1) := by decide +kernel
theorem dX3_ready_2 : decode cX3_ready 2 = .ok (.iconst 0, 1) := by decide +kernel
theorem dX3_ready_3 : decode cX3_ready 3 = .ok (.invokestatic 22, 3) := by decide +kernel
theorem dX3_ready_6 : decode cX3_ready 6 = .ok (.putfield 15, 3) := by decide +kernel
theorem dX3_ready_9 : decode cX3_ready 9 = .ok (.aload_n 0, 1) := by decide +kernel
theorem dX3_ready_10 : decode cX3_ready 10 = .ok (.iload_n 3, 1) := by decide +kernel
theorem dX3_ready_11 : decode cX3_ready 11 = .ok (.aload_n 0, 1) := by decide +kernel
theorem dX3_ready_12 : decode cX3_ready 12 = .ok (.getfield 15, 3) := by decide +kernel
theorem dX3_ready_15 : decode cX3_ready 15 = .ok (.sipush 1491, 3) := by decide +kernel
theorem dX3_ready_18 : decode cX3_ready 18 = .ok (.iadd, 1) := by decide +kernel
theorem dX3_ready_19 : decode cX3_ready 19 = .ok (.invokestatic 28, 3) := by decide +kernel
theorem dX3_ready_22 : decode cX3_ready 22 = .ok (.putfield 19, 3) := by decide +kernel
theorem dX3_ready_25 : decode cX3_ready 25 = .ok (.sipush 1000, 3) := by decide +kernel
theorem dX3_ready_28 : decode cX3_ready 28 = .ok (.iload_n 1, 1) := by decide +kernel
theorem dX3_ready_29 : decode cX3_ready 29 = .ok (.imul, 1) := by decide +kernel
theorem dX3_ready_30 : decode cX3_ready 30 = .ok (.istore 4, 2) := by decide +kernel
theorem dX3_ready_32 : decode cX3_ready 32 = .ok (.iconst 0, 1) := by decide +kernel
theorem dX3_ready_33 : decode cX3_ready 33 = .ok (.istore 5, 2) := by decide +kernel
theorem dX3_ready_35 : decode cX3_ready 35 = .ok (.aload_n 0, 1) := by decide +kernel
theorem dX3_ready_36 : decode cX3_ready 36 = .ok (.getfield 15, 3) := by decide +kernel
theorem dX3_ready_39 : decode cX3_ready 39 = .ok (.iconst 1, 1) := by decide +kernel
theorem dX3_ready_40 : decode cX3_ready 40 = .ok (.iadd, 1) := by decide +kernel
theorem dX3_ready_41 : decode cX3_ready 41 = .ok (.istore 6, 2) := by decide +kernel
theorem dX3_ready_43 : decode cX3_ready 43 = .ok (.iload 6, 2) := by decide +kernel
theorem dX3_ready_45 : decode cX3_ready 45 = .ok (.aload_n 0, 1) := by decide +kernel
