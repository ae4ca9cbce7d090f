theorem dX3_ready_46 : decode cX3_ready 46 = .ok (.getfield 19, 3) := by decide +kernel
theorem dX3_ready_49 : decode cX3_ready 49 = .ok (.if_icmp .gt 33, 3) := by decide +kernel
theorem dX3_ready_52 : decode cX3_ready 52 = .ok (.iload 5, 2) := by decide +kernel
theorem dX3_ready_54 : decode cX3_ready 54 = .ok (.iload 4, 2) := by decide +kernel
theorem dX3_ready_56 : decode cX3_ready 56 = .ok (.iload 6, 2) := by decide +kernel
theorem dX3_ready_58 : decode cX3_ready 58 = .ok (.idiv, 1) := by decide +kernel
theorem dX3_ready_59 : decode cX3_ready 59 = .ok (.iadd, 1) := by decide +kernel
theorem dX3_ready_60 : decode cX3_ready 60 = .ok (.istore 5, 2) := by decide +kernel
theorem dX3_ready_62 : decode cX3_ready 62 = .ok (.aload_n 0, 1) := by decide +kernel
theorem dX3_ready_63 : decode cX3_ready 63 = .ok (.getfield 11, 3) := by decide +kernel
theorem dX3_ready_66 : decode cX3_ready 66 = .ok (.iload 6, 2) := by decide +kernel
theorem dX3_ready_68 : decode cX3_ready 68 = .ok (.aload_n 0, 1) := by decide +kernel
theorem dX3_ready_69 : decode cX3_ready 69 = .ok (.getfield 15, 3) := by decide +kernel
theorem dX3_ready_72 : decode cX3_ready 72 = .ok (.isub, 1) := by decide +kernel
theorem dX3_ready_73 : decode cX3_ready 73 = .ok (.iload 5, 2) := by decide +kernel
theorem dX3_ready_75 : decode cX3_ready 75 = .ok (.iastore, 1) := by decide +kernel
theorem dX3_ready_76 : decode cX3_ready 76 = .ok (.iinc 6 1, 3) := by decide +kernel
theorem dX3_ready_79 : decode cX3_ready 79 = .ok (.goto (-36), 3) := by decide +kernel
theorem dX3_ready_82 : decode cX3_ready 82 = .ok (.return_, 1) := by decide +kernel
theorem dX3_between_0 : decode cX3_between 0 = .ok (.iload_n 1, 1) := by decide +kernel
theorem dX3_between_1 : decode cX3_between 1 = .ok (.aload_n 0, 1) := by decide +kernel
theorem dX3_between_2 : decode cX3_between 2 = .ok (.getfield 15, 3) := by decide +kernel
theorem dX3_between_5 : decode cX3_between 5 = .ok (.if_icmp .lt 16, 3) := by decide +kernel
theorem dX3_between_8 : decode cX3_between 8 = .ok (.iload_n 2, 1) := by decide +kernel
theorem dX3_between_9 : decode cX3_between 9 = .ok (.iload_n 1, 1) := by decide +kernel
theorem dX3_between_10 : decode cX3_between 10 = .ok (.if_icmp .lt 11, 3) := by decide +kernel
theorem dX3_between_13 : decode cX3_between 13 = .ok (.iload_n 2, 1) := by decide +kernel
theorem dX3_between_14 : decode cX3_between 14 = .ok (.aload_n 0, 1) := by decide +kernel
theorem dX3_between_15 : decode cX3_between 15 = .ok (.getfield 19, 3) := by decide +kernel
theorem dX3_between_18 : decode cX3_between 18 = .ok (.if_icmp .le 5, 3) := by decide +kernel
theorem dX3_between_21 : decode cX3_between 21 = .ok (.iconst 0, 1) := by decide +kernel
theorem dX3_between_22 : decode cX3_between 22 = .ok (.ireturn, 1) := by decide +kernel
theorem dX3_between_23 : decode cX3_between 23 = .ok (.aload_n 0, 1) := by decide +kernel
theorem dX3_between_24 : decode cX3_between 24 = .ok (.getfield 11, 3) := by decide +kernel
theorem dX3_between_27 : decode cX3_between 27 = .ok (.iload_n 2, 1) := by decide +kernel
theorem dX3_between_28 : decode cX3_between 28 = .ok (.aload_n 0, 1) := by decide +kernel
theorem dX3_between_29 : decode cX3_between 29 = .ok (.getfield 15, 3) := by decide +kernel
theorem dX3_between_32 : decode cX3_between 32 = .ok (.isub, 1) := by decide +kernel
theorem dX3_between_33 : decode cX3_between 33 = .ok (.iaload, 1) := by decide +kernel
theorem dX3_between_34 : decode cX3_between 34 = .ok (.aload_n 0, 1) := by decide +kernel
theorem dX3_between_35 : decode cX3_between 35 = .ok (.getfield 11, 3) := by decide +kernel
theorem dX3_between_38 : decode cX3_between 38 = .ok (.iload_n 1, 1) := by decide +kernel
theorem dX3_between_39 : decode cX3_between 39 = .ok (.aload_n 0, 1) := by decide +kernel
theorem dX3_between_40 : decode cX3_between 40 = .ok (.getfield 15, 3) := by decide +kernel
theorem dX3_between_43 : decode cX3_between 43 = .ok (.isub, 1) := by decide +kernel
theorem dX3_between_44 : decode cX3_between 44 = .ok (.iaload, 1) := by decide +kernel
theorem dX3_between_45 : decode cX3_between 45 = .ok (.isub, 1) := by decide +kernel
theorem dX3_between_46 : decode cX3_between 46 = .ok (.ireturn, 1) := by decide +kernel
theorem dX4_init_0 : decode cX4_init 0 = .ok (.aload_n 0, 1) := by decide +kernel
theorem dX4_init_1 : decode cX4_init 1 = .ok (.invokespecial 3, 3) := by decide +kernel
theorem dX4_init_4 : decode cX4_init 4 = .ok (.aload_n 0, 1) := by decide +kernel
theorem dX4_init_5 : decode cX4_init 5 = .ok (.iconst 4, 1) := by decide +kernel
theorem dX4_init_6 : decode cX4_init 6 = .ok (.newarray .int, 2) := by decide +kernel
theorem dX4_init_8 : decode cX4_init 8 = .ok (.putfield 9, 3) := by decide +kernel
theorem dX4_init_11 : decode cX4_init 11 = .ok (.aload_n 0, 1) := by decide +kernel
theorem dX4_init_12 : decode cX4_init 12 = .ok (.iconst 4, 1) := by decide +kernel
theorem dX4_init_13 : decode cX4_init 13 = .ok (.newarray .int, 2) := by decide +kernel
theorem dX4_init_15 : decode cX4_init 15 = .ok (.putfield 15, 3) := by decide +kernel
theorem dX4_init_18 : decode cX4_init 18 = .ok (.aload_n 0, 1) := by decide +kernel
theorem dX4_init_19 : decode cX4_init 19 = .ok (.iconst 4, 1) := by decide +kernel
theorem dX4_init_20 : decode cX4_init 20 = .ok (.newarray .int, 2) := by decide +kernel
theorem dX4_init_22 : decode cX4_init 22 = .ok (.putfield 18, 3) := by decide +kernel
theorem dX4_init_25 : decode cX4_init 25 = .ok (.aload_n 0, 1) := by decide +kernel
theorem dX4_init_26 : decode cX4_init 26 = .ok (.iconst 4, 1) := by decide +kernel
theorem dX4_init_27 : decode cX4_init 27 = .ok (.newarray .int, 2) := by decide +kernel
theorem dX4_init_29 : decode cX4_init 29 = .ok (.putfield 21, 3) := by decide +kernel
theorem dX4_init_32 : decode cX4_init 32 = .ok (.aload_n 0, 1) := by decide +kernel
theorem dX4_init_33 : decode cX4_init 33 = .ok (.iconst 0, 1) := by decide +kernel
theorem dX4_init_34 : decode cX4_init 34 = .ok (.putfield 24, 3) := by decide +kernel
theorem dX4_init_37 : decode cX4_init 37 = .ok (.aload_n 0, 1) := by decide +kernel
theorem dX4_init_38 : decode cX4_init 38 = .ok (.aload_n 1, 1) := by decide +kernel
theorem dX4_init_39 : decode cX4_init 39 = .ok (.putfield 28, 3) := by decide +kernel
theorem dX4_init_42 : decode cX4_init 42 = .ok (.aload_n 0, 1) := by decide +kernel
theorem dX4_init_43 : decode cX4_init 43 = .ok (.aload_n 2, 1) := by decide +kernel
theorem dX4_init_44 : decode cX4_init 44 = .ok (.putfield 32, 3) := by decide +kernel
theorem dX4_init_47 : decode cX4_init 47 = .ok (.return_, 1) := by decide +kernel
theorem dX4_has_0 : decode cX4_has 0 = .ok (.iload_n 1, 1) := by decide +kernel
theorem dX4_has_1 : decode cX4_has 1 = .ok (.ifCond .lt 15, 3) := by decide +kernel
theorem dX4_has_4 : decode cX4_has 4 = .ok (.iload_n 1, 1) := by decide +kernel
theorem dX4_has_5 : decode cX4_has 5 = .ok (.aload_n 0, 1) := by decide +kernel
theorem dX4_has_6 : decode cX4_has 6 = .ok (.getfield 24, 3) := by decide +kernel
theorem dX4_has_9 : decode cX4_has 9 = .ok (.if_icmp .ge 7, 3) := by decide +kernel
theorem dX4_has_12 : decode cX4_has 12 = .ok (.iconst 1, 1) := by decide +kernel
theorem dX4_has_13 : decode cX4_has 13 = .ok (.goto 4, 3) := by decide +kernel
theorem dX4_has_16 : decode cX4_has 16 = .ok (.iconst 0, 1) := by decide +kernel
theorem dX4_has_17 : decode cX4_has 17 = .ok (.ireturn, 1) := by decide +kernel
theorem dX4_addOnTop_0 : decode cX4_addOnTop 0 = .ok (.aload_n 0, 1) := by decide +kernel
theorem dX4_addOnTop_1 : decode cX4_addOnTop 1 = .ok (.getfield 24, 3) := by decide +kernel
theorem dX4_addOnTop_4 : decode cX4_addOnTop 4 = .ok (.iconst 4, 1) := by decide +kernel
theorem dX4_addOnTop_5 : decode cX4_addOnTop 5 = .ok (.if_icmp .lt 6, 3) := by decide +kernel
theorem dX4_addOnTop_8 : decode cX4_addOnTop 8 = .ok (.bipush (-4), 2) := by decide +kernel
theorem dX4_addOnTop_10 : decode cX4_addOnTop 10 = .ok (.ireturn, 1) := by decide +kernel
theorem dX4_addOnTop_11 : decode cX4_addOnTop 11 = .ok (.aload_n 0, 1) := by decide +kernel
theorem dX4_addOnTop_12 : decode cX4_addOnTop 12 = .ok (.getfield 9, 3) := by decide +kernel
theorem dX4_addOnTop_15 : decode cX4_addOnTop 15 = .ok (.aload_n 0, 1) := by decide +kernel
theorem dX4_addOnTop_16 : decode cX4_addOnTop 16 = .ok (.getfield 24, 3) := by decide +kernel
theorem dX4_addOnTop_19 : decode cX4_addOnTop 19 = .ok (.iload_n 1, 1) := by decide +kernel
theorem dX4_addOnTop_20 : decode cX4_addOnTop 20 = .ok (.iastore, 1) := by decide +kernel
theorem dX4_addOnTop_21 : decode cX4_addOnTop 21 = .ok (.aload_n 0, 1) := by decide +kernel
theorem dX4_addOnTop_22 : decode cX4_addOnTop 22 = .ok (.getfield 15, 3) := by decide +kernel
theorem dX4_addOnTop_25 : decode cX4_addOnTop 25 = .ok (.aload_n 0, 1) := by decide +kernel
theorem dX4_addOnTop_26 : decode cX4_addOnTop 26 = .ok (.getfield 24, 3) := by decide +kernel
theorem dX4_addOnTop_29 : decode cX4_addOnTop 29 = .ok (.iload_n 2, 1) := by decide +kernel
theorem dX4_addOnTop_30 : decode cX4_addOnTop 30 = .ok (.iastore, 1) := by decide +kernel
theorem dX4_addOnTop_31 : decode cX4_addOnTop 31 = .ok (.aload_n 0, 1) := by decide +kernel
theorem dX4_addOnTop_32 : decode cX4_addOnTop 32 = .ok (.getfield 18, 3) := by decide +kernel
theorem dX4_addOnTop_35 : decode cX4_addOnTop 35 = .ok (.aload_n 0, 1) := by decide +kernel
theorem dX4_addOnTop_36 : decode cX4_addOnTop 36 = .ok (.getfield 24, 3) := by decide +kernel
theorem dX4_addOnTop_39 : decode cX4_addOnTop 39 = .ok (.iload_n 3, 1) := by decide +kernel
theorem dX4_addOnTop_40 : decode cX4_addOnTop 40 = .ok (.iastore, 1) := by decide +kernel
theorem dX4_addOnTop_41 : decode cX4_addOnTop 41 = .ok (.aload_n 0, 1) := by decide +kernel
theorem dX4_addOnTop_42 : decode cX4_addOnTop 42 = .ok (.getfield 21, 3) := by decide +kernel
theorem dX4_addOnTop_45 : decode cX4_addOnTop 45 = .ok (.aload_n 0, 1) := by decide +kernel
theorem dX4_addOnTop_46 : decode cX4_addOnTop 46 = .ok (.getfield 24, 3) := by decide +kernel
theorem dX4_addOnTop_49 : decode cX4_addOnTop 49 = .ok (.iload 4, 2) := by decide +kernel
theorem dX4_addOnTop_51 : decode cX4_addOnTop 51 = .ok (.iastore, 1) := by decide +kernel
theorem dX4_addOnTop_52 : decode cX4_addOnTop 52 = .ok (.aload_n 0, 1) := by decide +kernel
theorem dX4_addOnTop_53 : decode cX4_addOnTop 53 = .ok (.dup, 1) := by decide +kernel
theorem dX4_addOnTop_54 : decode cX4_addOnTop 54 = .ok (.getfield 24, 3) := by decide +kernel
theorem dX4_addOnTop_57 : decode cX4_addOnTop 57 = .ok (.iconst 1, 1) := by decide +kernel
theorem dX4_addOnTop_58 : decode cX4_addOnTop 58 = .ok (.iadd, 1) := by decide +kernel
theorem dX4_addOnTop_59 : decode cX4_addOnTop 59 = .ok (.putfield 24, 3) := by decide +kernel
theorem dX4_addOnTop_62 : decode cX4_addOnTop 62 = .ok (.aload_n 0, 1) := by decide +kernel
theorem dX4_addOnTop_63 : decode cX4_addOnTop 63 = .ok (.getfield 24, 3) := by decide +kernel
theorem dX4_addOnTop_66 : decode cX4_addOnTop 66 = .ok (.ireturn, 1) := by decide +kernel
theorem dX4_load_0 : decode cX4_load 0 = .ok (.aload_n 0, 1) := by decide +kernel
theorem dX4_load_1 : decode cX4_load 1 = .ok (.getfield 32, 3) := by decide +kernel
theorem dX4_load_4 : decode cX4_load 4 = .ok (.iconst 0, 1) := by decide +kernel
theorem dX4_load_5 : decode cX4_load 5 = .ok (.iaload, 1) := by decide +kernel
theorem dX4_load_6 : decode cX4_load 6 = .ok (.ireturn, 1) := by decide +kernel
theorem dX4_tankFor_0 : decode cX4_tankFor 0 = .ok (.iload_n 1, 1) := by decide +kernel
theorem dX4_tankFor_1 : decode cX4_tankFor 1 = .ok (.aload_n 0, 1) := by decide +kernel
theorem dX4_tankFor_2 : decode cX4_tankFor 2 = .ok (.getfield 32, 3) := by decide +kernel
theorem dX4_tankFor_5 : decode cX4_tankFor 5 = .ok (.iconst 1, 1) := by decide +kernel
theorem dX4_tankFor_6 : decode cX4_tankFor 6 = .ok (.iaload, 1) := by decide +kernel
theorem dX4_tankFor_7 : decode cX4_tankFor 7 = .ok (.imul, 1) := by decide +kernel
theorem dX4_tankFor_8 : decode cX4_tankFor 8 = .ok (.bipush 99, 2) := by decide +kernel
theorem dX4_tankFor_10 : decode cX4_tankFor 10 = .ok (.iadd, 1) := by decide +kernel
theorem dX4_tankFor_11 : decode cX4_tankFor 11 = .ok (.bipush 100, 2) := by decide +kernel
theorem dX4_tankFor_13 : decode cX4_tankFor 13 = .ok (.idiv, 1) := by decide +kernel
theorem dX4_tankFor_14 : decode cX4_tankFor 14 = .ok (.ireturn, 1) := by decide +kernel
theorem dX4_dryOf_0 : decode cX4_dryOf 0 = .ok (.aload_n 0, 1) := by decide +kernel
theorem dX4_dryOf_1 : decode cX4_dryOf 1 = .ok (.iload_n 1, 1) := by decide +kernel
theorem dX4_dryOf_2 : decode cX4_dryOf 2 = .ok (.invokevirtual 35, 3) := by decide +kernel
theorem dX4_dryOf_5 : decode cX4_dryOf 5 = .ok (.ifCond .eq 22, 3) := by decide +kernel
theorem dX4_dryOf_8 : decode cX4_dryOf 8 = .ok (.aload_n 0, 1) := by decide +kernel
theorem dX4_dryOf_9 : decode cX4_dryOf 9 = .ok (.iload_n 1, 1) := by decide +kernel
theorem dX4_dryOf_10 : decode cX4_dryOf 10 = .ok (.invokevirtual 39, 3) := by decide +kernel
theorem dX4_dryOf_13 : decode cX4_dryOf 13 = .ok (.aload_n 0, 1) := by decide +kernel
theorem dX4_dryOf_14 : decode cX4_dryOf 14 = .ok (.aload_n 0, 1) := by decide +kernel
theorem dX4_dryOf_15 : decode cX4_dryOf 15 = .ok (.getfield 18, 3) := by decide +kernel
theorem dX4_dryOf_18 : decode cX4_dryOf 18 = .ok (.iload_n 1, 1) := by decide +kernel
theorem dX4_dryOf_19 : decode cX4_dryOf 19 = .ok (.iaload, 1) := by decide +kernel
theorem dX4_dryOf_20 : decode cX4_dryOf 20 = .ok (.invokevirtual 43, 3) := by decide +kernel
theorem dX4_dryOf_23 : decode cX4_dryOf 23 = .ok (.iadd, 1) := by decide +kernel
theorem dX4_dryOf_24 : decode cX4_dryOf 24 = .ok (.goto 4, 3) := by decide +kernel
theorem dX4_dryOf_27 : decode cX4_dryOf 27 = .ok (.iconst 0, 1) := by decide +kernel
theorem dX4_dryOf_28 : decode cX4_dryOf 28 = .ok (.ireturn, 1) := by decide +kernel
theorem dX4_bareOf_0 : decode cX4_bareOf 0 = .ok (.aload_n 0, 1) := by decide +kernel
theorem dX4_bareOf_1 : decode cX4_bareOf 1 = .ok (.iload_n 1, 1) := by decide +kernel
theorem dX4_bareOf_2 : decode cX4_bareOf 2 = .ok (.invokevirtual 35, 3) := by decide +kernel
theorem dX4_bareOf_5 : decode cX4_bareOf 5 = .ok (.ifCond .eq 34, 3) := by decide +kernel
theorem dX4_bareOf_8 : decode cX4_bareOf 8 = .ok (.aload_n 0, 1) := by decide +kernel
theorem dX4_bareOf_9 : decode cX4_bareOf 9 = .ok (.getfield 15, 3) := by decide +kernel
theorem dX4_bareOf_12 : decode cX4_bareOf 12 = .ok (.iload_n 1, 1) := by decide +kernel
theorem dX4_bareOf_13 : decode cX4_bareOf 13 = .ok (.iaload, 1) := by decide +kernel
theorem dX4_bareOf_14 : decode cX4_bareOf 14 = .ok (.aload_n 0, 1) := by decide +kernel
theorem dX4_bareOf_15 : decode cX4_bareOf 15 = .ok (.getfield 28, 3) := by decide +kernel
theorem dX4_bareOf_18 : decode cX4_bareOf 18 = .ok (.getfield 46, 3) := by decide +kernel
theorem dX4_bareOf_21 : decode cX4_bareOf 21 = .ok (.aload_n 0, 1) := by decide +kernel
theorem dX4_bareOf_22 : decode cX4_bareOf 22 = .ok (.getfield 9, 3) := by decide +kernel
theorem dX4_bareOf_25 : decode cX4_bareOf 25 = .ok (.iload_n 1, 1) := by decide +kernel
theorem dX4_bareOf_26 : decode cX4_bareOf 26 = .ok (.iaload, 1) := by decide +kernel
theorem dX4_bareOf_27 : decode cX4_bareOf 27 = .ok (.iaload, 1) := by decide +kernel
theorem dX4_bareOf_28 : decode cX4_bareOf 28 = .ok (.imul, 1) := by decide +kernel
theorem dX4_bareOf_29 : decode cX4_bareOf 29 = .ok (.aload_n 0, 1) := by decide +kernel
theorem dX4_bareOf_30 : decode cX4_bareOf 30 = .ok (.getfield 21, 3) := by decide +kernel
theorem dX4_bareOf_33 : decode cX4_bareOf 33 = .ok (.iload_n 1, 1) := by decide +kernel
theorem dX4_bareOf_34 : decode cX4_bareOf 34 = .ok (.iaload, 1) := by decide +kernel
theorem dX4_bareOf_35 : decode cX4_bareOf 35 = .ok (.iadd, 1) := by decide +kernel
theorem dX4_bareOf_36 : decode cX4_bareOf 36 = .ok (.goto 4, 3) := by decide +kernel
theorem dX4_bareOf_39 : decode cX4_bareOf 39 = .ok (.iconst 0, 1) := by decide +kernel
theorem dX4_bareOf_40 : decode cX4_bareOf 40 = .ok (.ireturn, 1) := by decide +kernel
theorem dX4_exhaustOf_0 : decode cX4_exhaustOf 0 = .ok (.aload_n 0, 1) := by decide +kernel
theorem dX4_exhaustOf_1 : decode cX4_exhaustOf 1 = .ok (.iload_n 1, 1) := by decide +kernel
theorem dX4_exhaustOf_2 : decode cX4_exhaustOf 2 = .ok (.invokevirtual 35, 3) := by decide +kernel
theorem dX4_exhaustOf_5 : decode cX4_exhaustOf 5 = .ok (.ifCond .eq 20, 3) := by decide +kernel
theorem dX4_exhaustOf_8 : decode cX4_exhaustOf 8 = .ok (.aload_n 0, 1) := by decide +kernel
theorem dX4_exhaustOf_9 : decode cX4_exhaustOf 9 = .ok (.getfield 28, 3) := by decide +kernel
theorem dX4_exhaustOf_12 : decode cX4_exhaustOf 12 = .ok (.getfield 51, 3) := by decide +kernel
theorem dX4_exhaustOf_15 : decode cX4_exhaustOf 15 = .ok (.aload_n 0, 1) := by decide +kernel
theorem dX4_exhaustOf_16 : decode cX4_exhaustOf 16 = .ok (.getfield 9, 3) := by decide +kernel
theorem dX4_exhaustOf_19 : decode cX4_exhaustOf 19 = .ok (.iload_n 1, 1) := by decide +kernel
theorem dX4_exhaustOf_20 : decode cX4_exhaustOf 20 = .ok (.iaload, 1) := by decide +kernel
theorem dX4_exhaustOf_21 : decode cX4_exhaustOf 21 = .ok (.iaload, 1) := by decide +kernel
theorem dX4_exhaustOf_22 : decode cX4_exhaustOf 22 = .ok (.goto 4, 3) := by decide +kernel
theorem dX4_exhaustOf_25 : decode cX4_exhaustOf 25 = .ok (.iconst 0, 1) := by decide +kernel
theorem dX4_exhaustOf_26 : decode cX4_exhaustOf 26 = .ok (.ireturn, 1) := by decide +kernel
theorem dX4_massFrom_0 : decode cX4_massFrom 0 = .ok (.aload_n 0, 1) := by decide +kernel
theorem dX4_massFrom_1 : decode cX4_massFrom 1 = .ok (.invokevirtual 54, 3) := by decide +kernel
theorem dX4_massFrom_4 : decode cX4_massFrom 4 = .ok (.istore_n 2, 1) := by decide +kernel
theorem dX4_massFrom_5 : decode cX4_massFrom 5 = .ok (.iload_n 1, 1) := by decide +kernel
theorem dX4_massFrom_6 : decode cX4_massFrom 6 = .ok (.iconst 0, 1) := by decide +kernel
theorem dX4_massFrom_7 : decode cX4_massFrom 7 = .ok (.invokestatic 58, 3) := by decide +kernel
theorem dX4_massFrom_10 : decode cX4_massFrom 10 = .ok (.istore_n 3, 1) := by decide +kernel
theorem dX4_massFrom_11 : decode cX4_massFrom 11 = .ok (.iload_n 3, 1) := by decide +kernel
theorem dX4_massFrom_12 : decode cX4_massFrom 12 = .ok (.aload_n 0, 1) := by decide +kernel
theorem dX4_massFrom_13 : decode cX4_massFrom 13 = .ok (.getfield 24, 3) := by decide +kernel
theorem dX4_massFrom_16 : decode cX4_massFrom 16 = .ok (.if_icmp .ge 24, 3) := by decide +kernel
theorem dX4_massFrom_19 : decode cX4_massFrom 19 = .ok (.iload_n 2, 1) := by decide +kernel
theorem dX4_massFrom_20 : decode cX4_massFrom 20 = .ok (.aload_n 0, 1) := by decide +kernel
theorem dX4_massFrom_21 : decode cX4_massFrom 21 = .ok (.iload_n 3, 1) := by decide +kernel
theorem dX4_massFrom_22 : decode cX4_massFrom 22 = .ok (.invokevirtual 64, 3) := by decide +kernel
theorem dX4_massFrom_25 : decode cX4_massFrom 25 = .ok (.aload_n 0, 1) := by decide +kernel
theorem dX4_massFrom_26 : decode cX4_massFrom 26 = .ok (.getfield 18, 3) := by decide +kernel
theorem dX4_massFrom_29 : decode cX4_massFrom 29 = .ok (.iload_n 3, 1) := by decide +kernel
theorem dX4_massFrom_30 : decode cX4_massFrom 30 = .ok (.iaload, 1) := by decide +kernel
theorem dX4_massFrom_31 : decode cX4_massFrom 31 = .ok (.iadd, 1) := by decide +kernel
theorem dX4_massFrom_32 : decode cX4_massFrom 32 = .ok (.iadd, 1) := by decide +kernel
theorem dX4_massFrom_33 : decode cX4_massFrom 33 = .ok (.istore_n 2, 1) := by decide +kernel
theorem dX4_massFrom_34 : decode cX4_massFrom 34 = .ok (.iinc 3 1, 3) := by decide +kernel
theorem dX4_massFrom_37 : decode cX4_massFrom 37 = .ok (.goto (-26), 3) := by decide +kernel
theorem dX4_massFrom_40 : decode cX4_massFrom 40 = .ok (.iload_n 2, 1) := by decide +kernel
theorem dX4_massFrom_41 : decode cX4_massFrom 41 = .ok (.ireturn, 1) := by decide +kernel
theorem dX4_allStuff_0 : decode cX4_allStuff 0 = .ok (.iconst 0, 1) := by decide +kernel
theorem dX4_allStuff_1 : decode cX4_allStuff 1 = .ok (.istore_n 1, 1) := by decide +kernel
theorem dX4_allStuff_2 : decode cX4_allStuff 2 = .ok (.iconst 0, 1) := by decide +kernel
theorem dX4_allStuff_3 : decode cX4_allStuff 3 = .ok (.istore_n 2, 1) := by decide +kernel
theorem dX4_allStuff_4 : decode cX4_allStuff 4 = .ok (.iload_n 2, 1) := by decide +kernel
theorem dX4_allStuff_5 : decode cX4_allStuff 5 = .ok (.aload_n 0, 1) := by decide +kernel
theorem dX4_allStuff_6 : decode cX4_allStuff 6 = .ok (.getfield 24, 3) := by decide +kernel
theorem dX4_allStuff_9 : decode cX4_allStuff 9 = .ok (.if_icmp .ge 18, 3) := by decide +kernel
theorem dX4_allStuff_12 : decode cX4_allStuff 12 = .ok (.iload_n 1, 1) := by decide +kernel
theorem dX4_allStuff_13 : decode cX4_allStuff 13 = .ok (.aload_n 0, 1) := by decide +kernel
theorem dX4_allStuff_14 : decode cX4_allStuff 14 = .ok (.getfield 18, 3) := by decide +kernel
theorem dX4_allStuff_17 : decode cX4_allStuff 17 = .ok (.iload_n 2, 1) := by decide +kernel
theorem dX4_allStuff_18 : decode cX4_allStuff 18 = .ok (.iaload, 1) := by decide +kernel
theorem dX4_allStuff_19 : decode cX4_allStuff 19 = .ok (.iadd, 1) := by decide +kernel
theorem dX4_allStuff_20 : decode cX4_allStuff 20 = .ok (.istore_n 1, 1) := by decide +kernel
theorem dX4_allStuff_21 : decode cX4_allStuff 21 = .ok (.iinc 2 1, 3) := by decide +kernel
theorem dX4_allStuff_24 : decode cX4_allStuff 24 = .ok (.goto (-20), 3) := by decide +kernel
theorem dX4_allStuff_27 : decode cX4_allStuff 27 = .ok (.iload_n 1, 1) := by decide +kernel
theorem dX4_allStuff_28 : decode cX4_allStuff 28 = .ok (.ireturn, 1) := by decide +kernel
theorem dX4_lowOf_0 : decode cX4_lowOf 0 = .ok (.aload_n 0, 1) := by decide +kernel
theorem dX4_lowOf_1 : decode cX4_lowOf 1 = .ok (.iload_n 1, 1) := by decide +kernel
theorem dX4_lowOf_2 : decode cX4_lowOf 2 = .ok (.invokevirtual 35, 3) := by decide +kernel
theorem dX4_lowOf_5 : decode cX4_lowOf 5 = .ok (.ifCond .ne 5, 3) := by decide +kernel
theorem dX4_lowOf_8 : decode cX4_lowOf 8 = .ok (.iconst 0, 1) := by decide +kernel
theorem dX4_lowOf_9 : decode cX4_lowOf 9 = .ok (.ireturn, 1) := by decide +kernel
theorem dX4_lowOf_10 : decode cX4_lowOf 10 = .ok (.sipush 1000, 3) := by decide +kernel
theorem dX4_lowOf_13 : decode cX4_lowOf 13 = .ok (.aload_n 0, 1) := by decide +kernel
theorem dX4_lowOf_14 : decode cX4_lowOf 14 = .ok (.iload_n 1, 1) := by decide +kernel
theorem dX4_lowOf_15 : decode cX4_lowOf 15 = .ok (.invokevirtual 67, 3) := by decide +kernel
theorem dX4_lowOf_18 : decode cX4_lowOf 18 = .ok (.imul, 1) := by decide +kernel
theorem dX4_lowOf_19 : decode cX4_lowOf 19 = .ok (.istore_n 3, 1) := by decide +kernel
theorem dX4_lowOf_20 : decode cX4_lowOf 20 = .ok (.aload_n 0, 1) := by decide +kernel
theorem dX4_lowOf_21 : decode cX4_lowOf 21 = .ok (.iload_n 1, 1) := by decide +kernel
theorem dX4_lowOf_22 : decode cX4_lowOf 22 = .ok (.invokevirtual 70, 3) := by decide +kernel
theorem dX4_lowOf_25 : decode cX4_lowOf 25 = .ok (.istore 4, 2) := by decide +kernel
theorem dX4_lowOf_27 : decode cX4_lowOf 27 = .ok (.iconst 0, 1) := by decide +kernel
theorem dX4_lowOf_28 : decode cX4_lowOf 28 = .ok (.istore 5, 2) := by decide +kernel
theorem dX4_lowOf_30 : decode cX4_lowOf 30 = .ok (.iload_n 2, 1) := by decide +kernel
theorem dX4_lowOf_31 : decode cX4_lowOf 31 = .ok (.istore 6, 2) := by decide +kernel
theorem dX4_lowOf_33 : decode cX4_lowOf 33 = .ok (.iload 6, 2) := by decide +kernel
theorem dX4_lowOf_35 : decode cX4_lowOf 35 = .ok (.aload_n 0, 1) := by decide +kernel
theorem dX4_lowOf_36 : decode cX4_lowOf 36 = .ok (.getfield 18, 3) := by decide +kernel
theorem dX4_lowOf_39 : decode cX4_lowOf 39 = .ok (.iload_n 1, 1) := by decide +kernel
theorem dX4_lowOf_40 : decode cX4_lowOf 40 = .ok (.iaload, 1) := by decide +kernel
theorem dX4_lowOf_41 : decode cX4_lowOf 41 = .ok (.if_icmp .ge 26, 3) := by decide +kernel
theorem dX4_lowOf_44 : decode cX4_lowOf 44 = .ok (.iload 4, 2) := by decide +kernel
theorem dX4_lowOf_46 : decode cX4_lowOf 46 = .ok (.ifCond .le 21, 3) := by decide +kernel
theorem dX4_lowOf_49 : decode cX4_lowOf 49 = .ok (.iload 5, 2) := by decide +kernel
theorem dX4_lowOf_51 : decode cX4_lowOf 51 = .ok (.iload_n 3, 1) := by decide +kernel
theorem dX4_lowOf_52 : decode cX4_lowOf 52 = .ok (.iload 4, 2) := by decide +kernel
theorem dX4_lowOf_54 : decode cX4_lowOf 54 = .ok (.idiv, 1) := by decide +kernel
theorem dX4_lowOf_55 : decode cX4_lowOf 55 = .ok (.iadd, 1) := by decide +kernel
theorem dX4_lowOf_56 : decode cX4_lowOf 56 = .ok (.istore 5, 2) := by decide +kernel
theorem dX4_lowOf_58 : decode cX4_lowOf 58 = .ok (.iinc 4 (-1), 3) := by decide +kernel
theorem dX4_lowOf_61 : decode cX4_lowOf 61 = .ok (.iinc 6 1, 3) := by decide +kernel
theorem dX4_lowOf_64 : decode cX4_lowOf 64 = .ok (.goto (-31), 3) := by decide +kernel
theorem dX4_lowOf_67 : decode cX4_lowOf 67 = .ok (.iload 5, 2) := by decide +kernel
theorem dX4_lowOf_69 : decode cX4_lowOf 69 = .ok (.ireturn, 1) := by decide +kernel
theorem dX4_highOf_0 : decode cX4_highOf 0 = .ok (.aload_n 0, 1) := by decide +kernel
theorem dX4_highOf_1 : decode cX4_highOf 1 = .ok (.iload_n 1, 1) := by decide +kernel
theorem dX4_highOf_2 : decode cX4_highOf 2 = .ok (.invokevirtual 35, 3) := by decide +kernel
theorem dX4_highOf_5 : decode cX4_highOf 5 = .ok (.ifCond .ne 5, 3) := by decide +kernel
theorem dX4_highOf_8 : decode cX4_highOf 8 = .ok (.iconst 0, 1) := by decide +kernel
theorem dX4_highOf_9 : decode cX4_highOf 9 = .ok (.ireturn, 1) := by decide +kernel
theorem dX4_highOf_10 : decode cX4_highOf 10 = .ok (.sipush 1000, 3) := by decide +kernel
theorem dX4_highOf_13 : decode cX4_highOf 13 = .ok (.aload_n 0, 1) := by decide +kernel
theorem dX4_highOf_14 : decode cX4_highOf 14 = .ok (.iload_n 1, 1) := by decide +kernel
theorem dX4_highOf_15 : decode cX4_highOf 15 = .ok (.invokevirtual 67, 3) := by decide +kernel
theorem dX4_highOf_18 : decode cX4_highOf 18 = .ok (.imul, 1) := by decide +kernel
theorem dX4_highOf_19 : decode cX4_highOf 19 = .ok (.istore_n 2, 1) := by decide +kernel
theorem dX4_highOf_20 : decode cX4_highOf 20 = .ok (.aload_n 0, 1) := by decide +kernel
theorem dX4_highOf_21 : decode cX4_highOf 21 = .ok (.iload_n 1, 1) := by decide +kernel
theorem dX4_highOf_22 : decode cX4_highOf 22 = .ok (.invokevirtual 70, 3) := by decide +kernel
theorem dX4_highOf_25 : decode cX4_highOf 25 = .ok (.iconst 1, 1) := by decide +kernel
theorem dX4_highOf_26 : decode cX4_highOf 26 = .ok (.isub, 1) := by decide +kernel
theorem dX4_highOf_27 : decode cX4_highOf 27 = .ok (.istore_n 3, 1) := by decide +kernel
theorem dX4_highOf_28 : decode cX4_highOf 28 = .ok (.iconst 0, 1) := by decide +kernel
theorem dX4_highOf_29 : decode cX4_highOf 29 = .ok (.istore 4, 2) := by decide +kernel
theorem dX4_highOf_31 : decode cX4_highOf 31 = .ok (.iconst 0, 1) := by decide +kernel
theorem dX4_highOf_32 : decode cX4_highOf 32 = .ok (.istore 5, 2) := by decide +kernel
theorem dX4_highOf_34 : decode cX4_highOf 34 = .ok (.iload 5, 2) := by decide +kernel
theorem dX4_highOf_36 : decode cX4_highOf 36 = .ok (.aload_n 0, 1) := by decide +kernel
theorem dX4_highOf_37 : decode cX4_highOf 37 = .ok (.getfield 18, 3) := by decide +kernel
theorem dX4_highOf_40 : decode cX4_highOf 40 = .ok (.iload_n 1, 1) := by decide +kernel
theorem dX4_highOf_41 : decode cX4_highOf 41 = .ok (.iaload, 1) := by decide +kernel
theorem dX4_highOf_42 : decode cX4_highOf 42 = .ok (.if_icmp .ge 28, 3) := by decide +kernel
theorem dX4_highOf_45 : decode cX4_highOf 45 = .ok (.iload_n 3, 1) := by decide +kernel
theorem dX4_highOf_46 : decode cX4_highOf 46 = .ok (.ifCond .le 24, 3) := by decide +kernel
theorem dX4_highOf_49 : decode cX4_highOf 49 = .ok (.iload 4, 2) := by decide +kernel
theorem dX4_highOf_51 : decode cX4_highOf 51 = .ok (.iload_n 2, 1) := by decide +kernel
theorem dX4_highOf_52 : decode cX4_highOf 52 = .ok (.iload_n 3, 1) := by decide +kernel
theorem dX4_highOf_53 : decode cX4_highOf 53 = .ok (.iadd, 1) := by decide +kernel
theorem dX4_highOf_54 : decode cX4_highOf 54 = .ok (.iconst 1, 1) := by decide +kernel
theorem dX4_highOf_55 : decode cX4_highOf 55 = .ok (.isub, 1) := by decide +kernel
theorem dX4_highOf_56 : decode cX4_highOf 56 = .ok (.iload_n 3, 1) := by decide +kernel
theorem dX4_highOf_57 : decode cX4_highOf 57 = .ok (.idiv, 1) := by decide +kernel
theorem dX4_highOf_58 : decode cX4_highOf 58 = .ok (.iadd, 1) := by decide +kernel
theorem dX4_highOf_59 : decode cX4_highOf 59 = .ok (.istore 4, 2) := by decide +kernel
theorem dX4_highOf_61 : decode cX4_highOf 61 = .ok (.iinc 3 (-1), 3) := by decide +kernel
theorem dX4_highOf_64 : decode cX4_highOf 64 = .ok (.iinc 5 1, 3) := by decide +kernel
theorem dX4_highOf_67 : decode cX4_highOf 67 = .ok (.goto (-33), 3) := by decide +kernel
theorem dX4_highOf_70 : decode cX4_highOf 70 = .ok (.iload 4, 2) := by decide +kernel
theorem dX4_highOf_72 : decode cX4_highOf 72 = .ok (.ireturn, 1) := by decide +kernel
theorem dX4_liftOf_0 : decode cX4_liftOf 0 = .ok (.aload_n 0, 1) := by decide +kernel
theorem dX4_liftOf_1 : decode cX4_liftOf 1 = .ok (.iload_n 1, 1) := by decide +kernel
theorem dX4_liftOf_2 : decode cX4_liftOf 2 = .ok (.invokevirtual 35, 3) := by decide +kernel
theorem dX4_liftOf_5 : decode cX4_liftOf 5 = .ok (.ifCond .ne 5, 3) := by decide +kernel
theorem dX4_liftOf_8 : decode cX4_liftOf 8 = .ok (.iconst 0, 1) := by decide +kernel
theorem dX4_liftOf_9 : decode cX4_liftOf 9 = .ok (.ireturn, 1) := by decide +kernel
theorem dX4_liftOf_10 : decode cX4_liftOf 10 = .ok (.aload_n 0, 1) := by decide +kernel
theorem dX4_liftOf_11 : decode cX4_liftOf 11 = .ok (.iload_n 1, 1) := by decide +kernel
theorem dX4_liftOf_12 : decode cX4_liftOf 12 = .ok (.invokevirtual 70, 3) := by decide +kernel
theorem dX4_liftOf_15 : decode cX4_liftOf 15 = .ok (.istore_n 2, 1) := by decide +kernel
theorem dX4_liftOf_16 : decode cX4_liftOf 16 = .ok (.iload_n 2, 1) := by decide +kernel
theorem dX4_liftOf_17 : decode cX4_liftOf 17 = .ok (.iconst 1, 1) := by decide +kernel
theorem dX4_liftOf_18 : decode cX4_liftOf 18 = .ok (.if_icmp .ge 7, 3) := by decide +kernel
theorem dX4_liftOf_21 : decode cX4_liftOf 21 = .ok (.iconst 0, 1) := by decide +kernel
theorem dX4_liftOf_22 : decode cX4_liftOf 22 = .ok (.goto 29, 3) := by decide +kernel
theorem dX4_liftOf_25 : decode cX4_liftOf 25 = .ok (.bipush 100, 2) := by decide +kernel
theorem dX4_liftOf_27 : decode cX4_liftOf 27 = .ok (.aload_n 0, 1) := by decide +kernel
theorem dX4_liftOf_28 : decode cX4_liftOf 28 = .ok (.getfield 28, 3) := by decide +kernel
theorem dX4_liftOf_31 : decode cX4_liftOf 31 = .ok (.getfield 73, 3) := by decide +kernel
theorem dX4_liftOf_34 : decode cX4_liftOf 34 = .ok (.aload_n 0, 1) := by decide +kernel
theorem dX4_liftOf_35 : decode cX4_liftOf 35 = .ok (.getfield 9, 3) := by decide +kernel
theorem dX4_liftOf_38 : decode cX4_liftOf 38 = .ok (.iload_n 1, 1) := by decide +kernel
theorem dX4_liftOf_39 : decode cX4_liftOf 39 = .ok (.iaload, 1) := by decide +kernel
theorem dX4_liftOf_40 : decode cX4_liftOf 40 = .ok (.iaload, 1) := by decide +kernel
theorem dX4_liftOf_41 : decode cX4_liftOf 41 = .ok (.imul, 1) := by decide +kernel
theorem dX4_liftOf_42 : decode cX4_liftOf 42 = .ok (.aload_n 0, 1) := by decide +kernel
theorem dX4_liftOf_43 : decode cX4_liftOf 43 = .ok (.getfield 15, 3) := by decide +kernel
theorem dX4_liftOf_46 : decode cX4_liftOf 46 = .ok (.iload_n 1, 1) := by decide +kernel
theorem dX4_liftOf_47 : decode cX4_liftOf 47 = .ok (.iaload, 1) := by decide +kernel
theorem dX4_liftOf_48 : decode cX4_liftOf 48 = .ok (.imul, 1) := by decide +kernel
theorem dX4_liftOf_49 : decode cX4_liftOf 49 = .ok (.iload_n 2, 1) := by decide +kernel
theorem dX4_liftOf_50 : decode cX4_liftOf 50 = .ok (.idiv, 1) := by decide +kernel
theorem dX4_liftOf_51 : decode cX4_liftOf 51 = .ok (.ireturn, 1) := by decide +kernel
theorem dX4_enginesCost_0 : decode cX4_enginesCost 0 = .ok (.aload_n 0, 1) := by decide +kernel
theorem dX4_enginesCost_1 : decode cX4_enginesCost 1 = .ok (.iload_n 1, 1) := by decide +kernel
theorem dX4_enginesCost_2 : decode cX4_enginesCost 2 = .ok (.invokevirtual 35, 3) := by decide +kernel
theorem dX4_enginesCost_5 : decode cX4_enginesCost 5 = .ok (.ifCond .eq 27, 3) := by decide +kernel
theorem dX4_enginesCost_8 : decode cX4_enginesCost 8 = .ok (.aload_n 0, 1) := by decide +kernel
theorem dX4_enginesCost_9 : decode cX4_enginesCost 9 = .ok (.getfield 15, 3) := by decide +kernel
theorem dX4_enginesCost_12 : decode cX4_enginesCost 12 = .ok (.iload_n 1, 1) := by decide +kernel
theorem dX4_enginesCost_13 : decode cX4_enginesCost 13 = .ok (.iaload, 1) := by decide +kernel
theorem dX4_enginesCost_14 : decode cX4_enginesCost 14 = .ok (.aload_n 0, 1) := by decide +kernel
theorem dX4_enginesCost_15 : decode cX4_enginesCost 15 = .ok (.getfield 28, 3) := by decide +kernel
theorem dX4_enginesCost_18 : decode cX4_enginesCost 18 = .ok (.getfield 76, 3) := by decide +kernel
theorem dX4_enginesCost_21 : decode cX4_enginesCost 21 = .ok (.aload_n 0, 1) := by decide +kernel
theorem dX4_enginesCost_22 : decode cX4_enginesCost 22 = .ok (.getfield 9, 3) := by decide +kernel
theorem dX4_enginesCost_25 : decode cX4_enginesCost 25 = .ok (.iload_n 1, 1) := by decide +kernel
theorem dX4_enginesCost_26 : decode cX4_enginesCost 26 = .ok (.iaload, 1) := by decide +kernel
theorem dX4_enginesCost_27 : decode cX4_enginesCost 27 = .ok (.iaload, 1) := by decide +kernel
theorem dX4_enginesCost_28 : decode cX4_enginesCost 28 = .ok (.imul, 1) := by decide +kernel
theorem dX4_enginesCost_29 : decode cX4_enginesCost 29 = .ok (.goto 4, 3) := by decide +kernel
theorem dX4_enginesCost_32 : decode cX4_enginesCost 32 = .ok (.iconst 0, 1) := by decide +kernel
theorem dX4_enginesCost_33 : decode cX4_enginesCost 33 = .ok (.ireturn, 1) := by decide +kernel
theorem dX4_neededOf_0 : decode cX4_neededOf 0 = .ok (.iconst 0, 1) := by decide +kernel
theorem dX4_neededOf_1 : decode cX4_neededOf 1 = .ok (.istore_n 2, 1) := by decide +kernel
theorem dX4_neededOf_2 : decode cX4_neededOf 2 = .ok (.iconst 0, 1) := by decide +kernel
theorem dX4_neededOf_3 : decode cX4_neededOf 3 = .ok (.istore_n 3, 1) := by decide +kernel
theorem dX4_neededOf_4 : decode cX4_neededOf 4 = .ok (.iload_n 3, 1) := by decide +kernel
theorem dX4_neededOf_5 : decode cX4_neededOf 5 = .ok (.aload_n 0, 1) := by decide +kernel
theorem dX4_neededOf_6 : decode cX4_neededOf 6 = .ok (.getfield 24, 3) := by decide +kernel
theorem dX4_neededOf_9 : decode cX4_neededOf 9 = .ok (.if_icmp .ge 28, 3) := by decide +kernel
theorem dX4_neededOf_12 : decode cX4_neededOf 12 = .ok (.aload_n 0, 1) := by decide +kernel
theorem dX4_neededOf_13 : decode cX4_neededOf 13 = .ok (.getfield 9, 3) := by decide +kernel
theorem dX4_neededOf_16 : decode cX4_neededOf 16 = .ok (.iload_n 3, 1) := by decide +kernel
theorem dX4_neededOf_17 : decode cX4_neededOf 17 = .ok (.iaload, 1) := by decide +kernel
theorem dX4_neededOf_18 : decode cX4_neededOf 18 = .ok (.iload_n 1, 1) := by decide +kernel
theorem dX4_neededOf_19 : decode cX4_neededOf 19 = .ok (.if_icmp .ne 12, 3) := by decide +kernel
theorem dX4_neededOf_22 : decode cX4_neededOf 22 = .ok (.iload_n 2, 1) := by decide +kernel
theorem dX4_neededOf_23 : decode cX4_neededOf 23 = .ok (.aload_n 0, 1) := by decide +kernel
theorem dX4_neededOf_24 : decode cX4_neededOf 24 = .ok (.getfield 15, 3) := by decide +kernel
theorem dX4_neededOf_27 : decode cX4_neededOf 27 = .ok (.iload_n 3, 1) := by decide +kernel
theorem dX4_neededOf_28 : decode cX4_neededOf 28 = .ok (.iaload, 1) := by decide +kernel
theorem dX4_neededOf_29 : decode cX4_neededOf 29 = .ok (.iadd, 1) := by decide +kernel
theorem dX4_neededOf_30 : decode cX4_neededOf 30 = .ok (.istore_n 2, 1) := by decide +kernel
theorem dX4_neededOf_31 : decode cX4_neededOf 31 = .ok (.iinc 3 1, 3) := by decide +kernel
theorem dX4_neededOf_34 : decode cX4_neededOf 34 = .ok (.goto (-30), 3) := by decide +kernel
theorem dX4_neededOf_37 : decode cX4_neededOf 37 = .ok (.iload_n 2, 1) := by decide +kernel
theorem dX4_neededOf_38 : decode cX4_neededOf 38 = .ok (.ireturn, 1) := by decide +kernel
theorem dX4_priceNow_0 : decode cX4_priceNow 0 = .ok (.iconst 0, 1) := by decide +kernel
theorem dX4_priceNow_1 : decode cX4_priceNow 1 = .ok (.istore_n 1, 1) := by decide +kernel
theorem dX4_priceNow_2 : decode cX4_priceNow 2 = .ok (.iconst 0, 1) := by decide +kernel
theorem dX4_priceNow_3 : decode cX4_priceNow 3 = .ok (.istore_n 2, 1) := by decide +kernel
theorem dX4_priceNow_4 : decode cX4_priceNow 4 = .ok (.iload_n 2, 1) := by decide +kernel
theorem dX4_priceNow_5 : decode cX4_priceNow 5 = .ok (.aload_n 0, 1) := by decide +kernel
theorem dX4_priceNow_6 : decode cX4_priceNow 6 = .ok (.getfield 28, 3) := by decide +kernel
theorem dX4_priceNow_9 : decode cX4_priceNow 9 = .ok (.getfield 79, 3) := by decide +kernel
theorem dX4_priceNow_12 : decode cX4_priceNow 12 = .ok (.if_icmp .ge 31, 3) := by decide +kernel
theorem dX4_priceNow_15 : decode cX4_priceNow 15 = .ok (.iload_n 1, 1) := by decide +kernel
theorem dX4_priceNow_16 : decode cX4_priceNow 16 = .ok (.aload_n 0, 1) := by decide +kernel
theorem dX4_priceNow_17 : decode cX4_priceNow 17 = .ok (.getfield 28, 3) := by decide +kernel
theorem dX4_priceNow_20 : decode cX4_priceNow 20 = .ok (.iload_n 2, 1) := by decide +kernel
theorem dX4_priceNow_21 : decode cX4_priceNow 21 = .ok (.aload_n 0, 1) := by decide +kernel
theorem dX4_priceNow_22 : decode cX4_priceNow 22 = .ok (.iload_n 2, 1) := by decide +kernel
theorem dX4_priceNow_23 : decode cX4_priceNow 23 = .ok (.invokevirtual 80, 3) := by decide +kernel
theorem dX4_priceNow_26 : decode cX4_priceNow 26 = .ok (.aload_n 0, 1) := by decide +kernel
theorem dX4_priceNow_27 : decode cX4_priceNow 27 = .ok (.getfield 32, 3) := by decide +kernel
theorem dX4_priceNow_30 : decode cX4_priceNow 30 = .ok (.iconst 2, 1) := by decide +kernel
theorem dX4_priceNow_31 : decode cX4_priceNow 31 = .ok (.iaload, 1) := by decide +kernel
theorem dX4_priceNow_32 : decode cX4_priceNow 32 = .ok (.invokevirtual 83, 3) := by decide +kernel
theorem dX4_priceNow_35 : decode cX4_priceNow 35 = .ok (.iadd, 1) := by decide +kernel
theorem dX4_priceNow_36 : decode cX4_priceNow 36 = .ok (.istore_n 1, 1) := by decide +kernel
theorem dX4_priceNow_37 : decode cX4_priceNow 37 = .ok (.iinc 2 1, 3) := by decide +kernel
theorem dX4_priceNow_40 : decode cX4_priceNow 40 = .ok (.goto (-36), 3) := by decide +kernel
theorem dX4_priceNow_43 : decode cX4_priceNow 43 = .ok (.iconst 0, 1) := by decide +kernel
theorem dX4_priceNow_44 : decode cX4_priceNow 44 = .ok (.istore_n 2, 1) := by decide +kernel
theorem dX4_priceNow_45 : decode cX4_priceNow 45 = .ok (.iload_n 2, 1) := by decide +kernel
theorem dX4_priceNow_46 : decode cX4_priceNow 46 = .ok (.aload_n 0, 1) := by decide +kernel
theorem dX4_priceNow_47 : decode cX4_priceNow 47 = .ok (.getfield 24, 3) := by decide +kernel
theorem dX4_priceNow_50 : decode cX4_priceNow 50 = .ok (.if_icmp .ge 40, 3) := by decide +kernel
theorem dX4_priceNow_53 : decode cX4_priceNow 53 = .ok (.iload_n 1, 1) := by decide +kernel
theorem dX4_priceNow_54 : decode cX4_priceNow 54 = .ok (.aload_n 0, 1) := by decide +kernel
theorem dX4_priceNow_55 : decode cX4_priceNow 55 = .ok (.getfield 21, 3) := by decide +kernel
theorem dX4_priceNow_58 : decode cX4_priceNow 58 = .ok (.iload_n 2, 1) := by decide +kernel
theorem dX4_priceNow_59 : decode cX4_priceNow 59 = .ok (.iaload, 1) := by decide +kernel
theorem dX4_priceNow_60 : decode cX4_priceNow 60 = .ok (.iadd, 1) := by decide +kernel
theorem dX4_priceNow_61 : decode cX4_priceNow 61 = .ok (.istore_n 1, 1) := by decide +kernel
theorem dX4_priceNow_62 : decode cX4_priceNow 62 = .ok (.iload_n 1, 1) := by decide +kernel
theorem dX4_priceNow_63 : decode cX4_priceNow 63 = .ok (.aload_n 0, 1) := by decide +kernel
theorem dX4_priceNow_64 : decode cX4_priceNow 64 = .ok (.getfield 18, 3) := by decide +kernel
theorem dX4_priceNow_67 : decode cX4_priceNow 67 = .ok (.iload_n 2, 1) := by decide +kernel
theorem dX4_priceNow_68 : decode cX4_priceNow 68 = .ok (.iaload, 1) := by decide +kernel
theorem dX4_priceNow_69 : decode cX4_priceNow 69 = .ok (.ifCond .le 12, 3) := by decide +kernel
theorem dX4_priceNow_72 : decode cX4_priceNow 72 = .ok (.aload_n 0, 1) := by decide +kernel
theorem dX4_priceNow_73 : decode cX4_priceNow 73 = .ok (.getfield 32, 3) := by decide +kernel
theorem dX4_priceNow_76 : decode cX4_priceNow 76 = .ok (.iconst 1, 1) := by decide +kernel
theorem dX4_priceNow_77 : decode cX4_priceNow 77 = .ok (.iaload, 1) := by decide +kernel
theorem dX4_priceNow_78 : decode cX4_priceNow 78 = .ok (.goto 4, 3) := by decide +kernel
theorem dX4_priceNow_81 : decode cX4_priceNow 81 = .ok (.iconst 0, 1) := by decide +kernel
theorem dX4_priceNow_82 : decode cX4_priceNow 82 = .ok (.iadd, 1) := by decide +kernel
theorem dX4_priceNow_83 : decode cX4_priceNow 83 = .ok (.istore_n 1, 1) := by decide +kernel
theorem dX4_priceNow_84 : decode cX4_priceNow 84 = .ok (.iinc 2 1, 3) := by decide +kernel
theorem dX4_priceNow_87 : decode cX4_priceNow 87 = .ok (.goto (-42), 3) := by decide +kernel
theorem dX4_priceNow_90 : decode cX4_priceNow 90 = .ok (.iload_n 1, 1) := by decide +kernel
theorem dX4_priceNow_91 : decode cX4_priceNow 91 = .ok (.ireturn, 1) := by decide +kernel
theorem dX5_init_0 : decode cX5_init 0 = .ok (.aload_n 0, 1) := by decide +kernel
theorem dX5_init_1 : decode cX5_init 1 = .ok (.invokespecial 3, 3) := by decide +kernel
theorem dX5_init_4 : decode cX5_init 4 = .ok (.aload_n 0, 1) := by decide +kernel
theorem dX5_init_5 : decode cX5_init 5 = .ok (.bipush 10, 2) := by decide +kernel
theorem dX5_init_7 : decode cX5_init 7 = .ok (.newarray .int, 2) := by decide +kernel
theorem dX5_init_9 : decode cX5_init 9 = .ok (.putfield 9, 3) := by decide +kernel
theorem dX5_init_12 : decode cX5_init 12 = .ok (.aload_n 0, 1) := by decide +kernel
theorem dX5_init_13 : decode cX5_init 13 = .ok (.iconst 3, 1) := by decide +kernel
theorem dX5_init_14 : decode cX5_init 14 = .ok (.newarray .int, 2) := by decide +kernel
theorem dX5_init_16 : decode cX5_init 16 = .ok (.dup, 1) := by decide +kernel
theorem dX5_init_17 : decode cX5_init 17 = .ok (.iconst 0, 1) := by decide +kernel
theorem dX5_init_18 : decode cX5_init 18 = .ok (.ldc 15, 2) := by decide +kernel
theorem dX5_init_20 : decode cX5_init 20 = .ok (.iastore, 1) := by decide +kernel
theorem dX5_init_21 : decode cX5_init 21 = .ok (.dup, 1) := by decide +kernel
theorem dX5_init_22 : decode cX5_init 22 = .ok (.iconst 1, 1) := by decide +kernel
theorem dX5_init_23 : decode cX5_init 23 = .ok (.iconst 0, 1) := by decide +kernel
theorem dX5_init_24 : decode cX5_init 24 = .ok (.iastore, 1) := by decide +kernel
theorem dX5_init_25 : decode cX5_init 25 = .ok (.dup, 1) := by decide +kernel
theorem dX5_init_26 : decode cX5_init 26 = .ok (.iconst 2, 1) := by decide +kernel
theorem dX5_init_27 : decode cX5_init 27 = .ok (.iconst 0, 1) := by decide +kernel
theorem dX5_init_28 : decode cX5_init 28 = .ok (.iastore, 1) := by decide +kernel
theorem dX5_init_29 : decode cX5_init 29 = .ok (.putfield 16, 3) := by decide +kernel
theorem dX5_init_32 : decode cX5_init 32 = .ok (.iconst 0, 1) := by decide +kernel
theorem dX5_init_33 : decode cX5_init 33 = .ok (.istore_n 1, 1) := by decide +kernel
theorem dX5_init_34 : decode cX5_init 34 = .ok (.iload_n 1, 1) := by decide +kernel
theorem dX5_init_35 : decode cX5_init 35 = .ok (.bipush 10, 2) := by decide +kernel
theorem dX5_init_37 : decode cX5_init 37 = .ok (.if_icmp .ge 22, 3) := by decide +kernel
theorem dX5_init_40 : decode cX5_init 40 = .ok (.aload_n 0, 1) := by decide +kernel
theorem dX5_init_41 : decode cX5_init 41 = .ok (.getfield 9, 3) := by decide +kernel
theorem dX5_init_44 : decode cX5_init 44 = .ok (.iload_n 1, 1) := by decide +kernel
theorem dX5_init_45 : decode cX5_init 45 = .ok (.bipush 100, 2) := by decide +kernel
theorem dX5_init_47 : decode cX5_init 47 = .ok (.bipush 10, 2) := by decide +kernel
theorem dX5_init_49 : decode cX5_init 49 = .ok (.iload_n 1, 1) := by decide +kernel
theorem dX5_init_50 : decode cX5_init 50 = .ok (.imul, 1) := by decide +kernel
theorem dX5_init_51 : decode cX5_init 51 = .ok (.isub, 1) := by decide +kernel
theorem dX5_init_52 : decode cX5_init 52 = .ok (.iastore, 1) := by decide +kernel
theorem dX5_init_53 : decode cX5_init 53 = .ok (.iinc 1 1, 3) := by decide +kernel
theorem dX5_init_56 : decode cX5_init 56 = .ok (.goto (-22), 3) := by decide +kernel
theorem dX5_init_59 : decode cX5_init 59 = .ok (.return_, 1) := by decide +kernel
theorem dX5_dragOf_0 : decode cX5_dragOf 0 = .ok (.iload_n 1, 1) := by decide +kernel
theorem dX5_dragOf_1 : decode cX5_dragOf 1 = .ok (.ifCond .eq 14, 3) := by decide +kernel
theorem dX5_dragOf_4 : decode cX5_dragOf 4 = .ok (.iload_n 2, 1) := by decide +kernel
theorem dX5_dragOf_5 : decode cX5_dragOf 5 = .ok (.ifCond .lt 10, 3) := by decide +kernel
theorem dX5_dragOf_8 : decode cX5_dragOf 8 = .ok (.iload_n 2, 1) := by decide +kernel
theorem dX5_dragOf_9 : decode cX5_dragOf 9 = .ok (.sipush 10000, 3) := by decide +kernel
theorem dX5_dragOf_12 : decode cX5_dragOf 12 = .ok (.if_icmp .lt 5, 3) := by decide +kernel
theorem dX5_dragOf_15 : decode cX5_dragOf 15 = .ok (.iconst 0, 1) := by decide +kernel
theorem dX5_dragOf_16 : decode cX5_dragOf 16 = .ok (.ireturn, 1) := by decide +kernel
theorem dX5_dragOf_17 : decode cX5_dragOf 17 = .ok (.iload_n 1, 1) := by decide +kernel
theorem dX5_dragOf_18 : decode cX5_dragOf 18 = .ok (.i2l, 1) := by decide +kernel
theorem dX5_dragOf_19 : decode cX5_dragOf 19 = .ok (.iload_n 1, 1) := by decide +kernel
theorem dX5_dragOf_20 : decode cX5_dragOf 20 = .ok (.i2l, 1) := by decide +kernel
theorem dX5_dragOf_21 : decode cX5_dragOf 21 = .ok (.lmul, 1) := by decide +kernel
theorem dX5_dragOf_22 : decode cX5_dragOf 22 = .ok (.ldc2_w 19, 3) := by decide +kernel
theorem dX5_dragOf_25 : decode cX5_dragOf 25 = .ok (.ldiv, 1) := by decide +kernel
theorem dX5_dragOf_26 : decode cX5_dragOf 26 = .ok (.lstore_n 3, 1) := by decide +kernel
theorem dX5_dragOf_27 : decode cX5_dragOf 27 = .ok (.lload_n 3, 1) := by decide +kernel
theorem dX5_dragOf_28 : decode cX5_dragOf 28 = .ok (.aload_n 0, 1) := by decide +kernel
theorem dX5_dragOf_29 : decode cX5_dragOf 29 = .ok (.getfield 9, 3) := by decide +kernel
theorem dX5_dragOf_32 : decode cX5_dragOf 32 = .ok (.iload_n 2, 1) := by decide +kernel
theorem dX5_dragOf_33 : decode cX5_dragOf 33 = .ok (.sipush 1000, 3) := by decide +kernel
theorem dX5_dragOf_36 : decode cX5_dragOf 36 = .ok (.idiv, 1) := by decide +kernel
theorem dX5_dragOf_37 : decode cX5_dragOf 37 = .ok (.iaload, 1) := by decide +kernel
theorem dX5_dragOf_38 : decode cX5_dragOf 38 = .ok (.i2l, 1) := by decide +kernel
theorem dX5_dragOf_39 : decode cX5_dragOf 39 = .ok (.lmul, 1) := by decide +kernel
theorem dX5_dragOf_40 : decode cX5_dragOf 40 = .ok (.ldc2_w 19, 3) := by decide +kernel
theorem dX5_dragOf_43 : decode cX5_dragOf 43 = .ok (.ldiv, 1) := by decide +kernel
theorem dX5_dragOf_44 : decode cX5_dragOf 44 = .ok (.l2i, 1) := by decide +kernel
theorem dX5_dragOf_45 : decode cX5_dragOf 45 = .ok (.ireturn, 1) := by decide +kernel
theorem dX6_init_0 : decode cX6_init 0 = .ok (.aload_n 0, 1) := by decide +kernel
theorem dX6_init_1 : decode cX6_init 1 = .ok (.invokespecial 3, 3) := by decide +kernel
theorem dX6_init_4 : decode cX6_init 4 = .ok (.aload_n 0, 1) := by decide +kernel
theorem dX6_init_5 : decode cX6_init 5 = .ok (.bipush 84, 2) := by decide +kernel
theorem dX6_init_7 : decode cX6_init 7 = .ok (.newarray .int, 2) := by decide +kernel
theorem dX6_init_9 : decode cX6_init 9 = .ok (.putfield 11, 3) := by decide +kernel
theorem dX6_init_12 : decode cX6_init 12 = .ok (.aload_n 0, 1) := by decide +kernel
theorem dX6_init_13 : decode cX6_init 13 = .ok (.bipush 84, 2) := by decide +kernel
theorem dX6_init_15 : decode cX6_init 15 = .ok (.newarray .int, 2) := by decide +kernel
theorem dX6_init_17 : decode cX6_init 17 = .ok (.putfield 15, 3) := by decide +kernel
theorem dX6_init_20 : decode cX6_init 20 = .ok (.aload_n 0, 1) := by decide +kernel
theorem dX6_init_21 : decode cX6_init 21 = .ok (.iconst 1, 1) := by decide +kernel
theorem dX6_init_22 : decode cX6_init 22 = .ok (.putfield 18, 3) := by decide +kernel
theorem dX6_init_25 : decode cX6_init 25 = .ok (.aload_n 0, 1) := by decide +kernel
theorem dX6_init_26 : decode cX6_init 26 = .ok (.iconst 0, 1) := by decide +kernel
theorem dX6_init_27 : decode cX6_init 27 = .ok (.putfield 22, 3) := by decide +kernel
theorem dX6_init_30 : decode cX6_init 30 = .ok (.aload_n 0, 1) := by decide +kernel
theorem dX6_init_31 : decode cX6_init 31 = .ok (.iconst 0, 1) := by decide +kernel
theorem dX6_init_32 : decode cX6_init 32 = .ok (.putfield 25, 3) := by decide +kernel
theorem dX6_init_35 : decode cX6_init 35 = .ok (.aload_n 0, 1) := by decide +kernel
theorem dX6_init_36 : decode cX6_init 36 = .ok (.aload_n 1, 1) := by decide +kernel
theorem dX6_init_37 : decode cX6_init 37 = .ok (.putfield 28, 3) := by decide +kernel
theorem dX6_init_40 : decode cX6_init 40 = .ok (.aload_n 0, 1) := by decide +kernel
theorem dX6_init_41 : decode cX6_init 41 = .ok (.aload_n 2, 1) := by decide +kernel
theorem dX6_init_42 : decode cX6_init 42 = .ok (.putfield 32, 3) := by decide +kernel
theorem dX6_init_45 : decode cX6_init 45 = .ok (.return_, 1) := by decide +kernel
theorem dX6_search_0 : decode cX6_search 0 = .ok (.aload_n 0, 1) := by decide +kernel
theorem dX6_search_1 : decode cX6_search 1 = .ok (.iload_n 2, 1) := by decide +kernel
theorem dX6_search_2 : decode cX6_search 2 = .ok (.putfield 18, 3) := by decide +kernel
theorem dX6_search_5 : decode cX6_search 5 = .ok (.aload_n 0, 1) := by decide +kernel
theorem dX6_search_6 : decode cX6_search 6 = .ok (.aload_n 0, 1) := by decide +kernel
theorem dX6_search_7 : decode cX6_search 7 = .ok (.getfield 28, 3) := by decide +kernel
theorem dX6_search_10 : decode cX6_search 10 = .ok (.getfield 36, 3) := by decide +kernel
theorem dX6_search_13 : decode cX6_search 13 = .ok (.putfield 25, 3) := by decide +kernel
theorem dX6_search_16 : decode cX6_search 16 = .ok (.iconst 0, 1) := by decide +kernel
theorem dX6_search_17 : decode cX6_search 17 = .ok (.istore_n 3, 1) := by decide +kernel
theorem dX6_search_18 : decode cX6_search 18 = .ok (.iload_n 3, 1) := by decide +kernel
theorem dX6_search_19 : decode cX6_search 19 = .ok (.aload_n 0, 1) := by decide +kernel
theorem dX6_search_20 : decode cX6_search 20 = .ok (.getfield 11, 3) := by decide +kernel
theorem dX6_search_23 : decode cX6_search 23 = .ok (.arraylength, 1) := by decide +kernel
theorem dX6_search_24 : decode cX6_search 24 = .ok (.if_icmp .ge 16, 3) := by decide +kernel
theorem dX6_search_27 : decode cX6_search 27 = .ok (.aload_n 0, 1) := by decide +kernel
theorem dX6_search_28 : decode cX6_search 28 = .ok (.getfield 11, 3) := by decide +kernel
theorem dX6_search_31 : decode cX6_search 31 = .ok (.iload_n 3, 1) := by decide +kernel
theorem dX6_search_32 : decode cX6_search 32 = .ok (.iconst (-1), 1) := by decide +kernel
theorem dX6_search_33 : decode cX6_search 33 = .ok (.iastore, 1) := by decide +kernel
theorem dX6_search_34 : decode cX6_search 34 = .ok (.iinc 3 1, 3) := by decide +kernel
theorem dX6_search_37 : decode cX6_search 37 = .ok (.goto (-19), 3) := by decide +kernel
theorem dX6_search_40 : decode cX6_search 40 = .ok (.aload_n 0, 1) := by decide +kernel
theorem dX6_search_41 : decode cX6_search 41 = .ok (.getfield 11, 3) := by decide +kernel
theorem dX6_search_44 : decode cX6_search 44 = .ok (.iconst 0, 1) := by decide +kernel
theorem dX6_search_45 : decode cX6_search 45 = .ok (.iconst 0, 1) := by decide +kernel
theorem dX6_search_46 : decode cX6_search 46 = .ok (.iastore, 1) := by decide +kernel
theorem dX6_search_47 : decode cX6_search 47 = .ok (.aload_n 0, 1) := by decide +kernel
theorem dX6_search_48 : decode cX6_search 48 = .ok (.getfield 15, 3) := by decide +kernel
theorem dX6_search_51 : decode cX6_search 51 = .ok (.iconst 0, 1) := by decide +kernel
theorem dX6_search_52 : decode cX6_search 52 = .ok (.iconst 0, 1) := by decide +kernel
theorem dX6_search_53 : decode cX6_search 53 = .ok (.iastore, 1) := by decide +kernel
theorem dX6_search_54 : decode cX6_search 54 = .ok (.aload_n 0, 1) := by decide +kernel
theorem dX6_search_55 : decode cX6_search 55 = .ok (.getfield 28, 3) := by decide +kernel
theorem dX6_search_58 : decode cX6_search 58 = .ok (.invokevirtual 41, 3) := by decide +kernel
theorem dX6_search_61 : decode cX6_search 61 = .ok (.istore_n 3, 1) := by decide +kernel
theorem dX6_search_62 : decode cX6_search 62 = .ok (.aload_n 0, 1) := by decide +kernel
theorem dX6_search_63 : decode cX6_search 63 = .ok (.getfield 25, 3) := by decide +kernel
theorem dX6_search_66 : decode cX6_search 66 = .ok (.iconst 1, 1) := by decide +kernel
theorem dX6_search_67 : decode cX6_search 67 = .ok (.isub, 1) := by decide +kernel
theorem dX6_search_68 : decode cX6_search 68 = .ok (.istore 4, 2) := by decide +kernel
theorem dX6_search_70 : decode cX6_search 70 = .ok (.iload 4, 2) := by decide +kernel
theorem dX6_search_72 : decode cX6_search 72 = .ok (.ifCond .lt 86, 3) := by decide +kernel
theorem dX6_search_75 : decode cX6_search 75 = .ok (.iload_n 3, 1) := by decide +kernel
theorem dX6_search_76 : decode cX6_search 76 = .ok (.aload_n 0, 1) := by decide +kernel
theorem dX6_search_77 : decode cX6_search 77 = .ok (.getfield 28, 3) := by decide +kernel
theorem dX6_search_80 : decode cX6_search 80 = .ok (.iload 4, 2) := by decide +kernel
theorem dX6_search_82 : decode cX6_search 82 = .ok (.invokevirtual 45, 3) := by decide +kernel
theorem dX6_search_85 : decode cX6_search 85 = .ok (.iadd, 1) := by decide +kernel
theorem dX6_search_86 : decode cX6_search 86 = .ok (.istore_n 3, 1) := by decide +kernel
theorem dX6_search_87 : decode cX6_search 87 = .ok (.iload_n 3, 1) := by decide +kernel
theorem dX6_search_88 : decode cX6_search 88 = .ok (.iload_n 1, 1) := by decide +kernel
theorem dX6_search_89 : decode cX6_search 89 = .ok (.aload_n 0, 1) := by decide +kernel
theorem dX6_search_90 : decode cX6_search 90 = .ok (.getfield 18, 3) := by decide +kernel
theorem dX6_search_93 : decode cX6_search 93 = .ok (.imul, 1) := by decide +kernel
theorem dX6_search_94 : decode cX6_search 94 = .ok (.iadd, 1) := by decide +kernel
theorem dX6_search_95 : decode cX6_search 95 = .ok (.aload_n 0, 1) := by decide +kernel
theorem dX6_search_96 : decode cX6_search 96 = .ok (.iload_n 1, 1) := by decide +kernel
theorem dX6_search_97 : decode cX6_search 97 = .ok (.invokevirtual 49, 3) := by decide +kernel
theorem dX6_search_100 : decode cX6_search 100 = .ok (.iadd, 1) := by decide +kernel
theorem dX6_search_101 : decode cX6_search 101 = .ok (.iconst 4, 1) := by decide +kernel
theorem dX6_search_102 : decode cX6_search 102 = .ok (.iadd, 1) := by decide +kernel
theorem dX6_search_103 : decode cX6_search 103 = .ok (.istore 5, 2) := by decide +kernel
theorem dX6_search_105 : decode cX6_search 105 = .ok (.aload_n 0, 1) := by decide +kernel
theorem dX6_search_106 : decode cX6_search 106 = .ok (.getfield 32, 3) := by decide +kernel
theorem dX6_search_109 : decode cX6_search 109 = .ok (.aload_n 0, 1) := by decide +kernel
theorem dX6_search_110 : decode cX6_search 110 = .ok (.getfield 28, 3) := by decide +kernel
theorem dX6_search_113 : decode cX6_search 113 = .ok (.iload 4, 2) := by decide +kernel
theorem dX6_search_115 : decode cX6_search 115 = .ok (.invokevirtual 52, 3) := by decide +kernel
theorem dX6_search_118 : decode cX6_search 118 = .ok (.iload_n 3, 1) := by decide +kernel
theorem dX6_search_119 : decode cX6_search 119 = .ok (.iload 5, 2) := by decide +kernel
theorem dX6_search_121 : decode cX6_search 121 = .ok (.invokevirtual 55, 3) := by decide +kernel
theorem dX6_search_124 : decode cX6_search 124 = .ok (.iload_n 1, 1) := by decide +kernel
theorem dX6_search_125 : decode cX6_search 125 = .ok (.bipush 20, 2) := by decide +kernel
theorem dX6_search_127 : decode cX6_search 127 = .ok (.invokestatic 61, 3) := by decide +kernel
theorem dX6_search_130 : decode cX6_search 130 = .ok (.istore 6, 2) := by decide +kernel
theorem dX6_search_132 : decode cX6_search 132 = .ok (.iload 6, 2) := by decide +kernel
theorem dX6_search_134 : decode cX6_search 134 = .ok (.ifCond .le 18, 3) := by decide +kernel
theorem dX6_search_137 : decode cX6_search 137 = .ok (.aload_n 0, 1) := by decide +kernel
theorem dX6_search_138 : decode cX6_search 138 = .ok (.iload 4, 2) := by decide +kernel
theorem dX6_search_140 : decode cX6_search 140 = .ok (.iload_n 3, 1) := by decide +kernel
theorem dX6_search_141 : decode cX6_search 141 = .ok (.iload 6, 2) := by decide +kernel
theorem dX6_search_143 : decode cX6_search 143 = .ok (.invokevirtual 67, 3) := by decide +kernel
theorem dX6_search_146 : decode cX6_search 146 = .ok (.iinc 6 (-1), 3) := by decide +kernel
theorem dX6_search_149 : decode cX6_search 149 = .ok (.goto (-17), 3) := by decide +kernel
theorem dX6_search_152 : decode cX6_search 152 = .ok (.iinc 4 (-1), 3) := by decide +kernel
theorem dX6_search_155 : decode cX6_search 155 = .ok (.goto (-85), 3) := by decide +kernel
theorem dX6_search_158 : decode cX6_search 158 = .ok (.aload_n 0, 1) := by decide +kernel
theorem dX6_search_159 : decode cX6_search 159 = .ok (.iload_n 1, 1) := by decide +kernel
theorem dX6_search_160 : decode cX6_search 160 = .ok (.invokevirtual 70, 3) := by decide +kernel
theorem dX6_search_163 : decode cX6_search 163 = .ok (.ireturn, 1) := by decide +kernel
theorem dX6_tankFor_0 : decode cX6_tankFor 0 = .ok (.aload_n 0, 1) := by decide +kernel
theorem dX6_tankFor_1 : decode cX6_tankFor 1 = .ok (.getfield 28, 3) := by decide +kernel
theorem dX6_tankFor_4 : decode cX6_tankFor 4 = .ok (.iload_n 1, 1) := by decide +kernel
theorem dX6_tankFor_5 : decode cX6_tankFor 5 = .ok (.aload_n 0, 1) := by decide +kernel
theorem dX6_tankFor_6 : decode cX6_tankFor 6 = .ok (.getfield 18, 3) := by decide +kernel
theorem dX6_tankFor_9 : decode cX6_tankFor 9 = .ok (.imul, 1) := by decide +kernel
theorem dX6_tankFor_10 : decode cX6_tankFor 10 = .ok (.invokevirtual 73, 3) := by decide +kernel
theorem dX6_tankFor_13 : decode cX6_tankFor 13 = .ok (.ireturn, 1) := by decide +kernel
theorem dX6_fill_0 : decode cX6_fill 0 = .ok (.iconst 1, 1) := by decide +kernel
theorem dX6_fill_1 : decode cX6_fill 1 = .ok (.istore 4, 2) := by decide +kernel
theorem dX6_fill_3 : decode cX6_fill 3 = .ok (.iload 4, 2) := by decide +kernel
theorem dX6_fill_5 : decode cX6_fill 5 = .ok (.iload_n 3, 1) := by decide +kernel
theorem dX6_fill_6 : decode cX6_fill 6 = .ok (.if_icmp .gt 154, 3) := by decide +kernel
theorem dX6_fill_9 : decode cX6_fill 9 = .ok (.iload_n 3, 1) := by decide +kernel
theorem dX6_fill_10 : decode cX6_fill 10 = .ok (.iload 4, 2) := by decide +kernel
theorem dX6_fill_12 : decode cX6_fill 12 = .ok (.isub, 1) := by decide +kernel
theorem dX6_fill_13 : decode cX6_fill 13 = .ok (.istore 5, 2) := by decide +kernel
theorem dX6_fill_15 : decode cX6_fill 15 = .ok (.aload_n 0, 1) := by decide +kernel
theorem dX6_fill_16 : decode cX6_fill 16 = .ok (.iload 5, 2) := by decide +kernel
theorem dX6_fill_18 : decode cX6_fill 18 = .ok (.invokevirtual 49, 3) := by decide +kernel
theorem dX6_fill_21 : decode cX6_fill 21 = .ok (.aload_n 0, 1) := by decide +kernel
theorem dX6_fill_22 : decode cX6_fill 22 = .ok (.iload 4, 2) := by decide +kernel
theorem dX6_fill_24 : decode cX6_fill 24 = .ok (.invokevirtual 49, 3) := by decide +kernel
theorem dX6_fill_27 : decode cX6_fill 27 = .ok (.iadd, 1) := by decide +kernel
theorem dX6_fill_28 : decode cX6_fill 28 = .ok (.istore 6, 2) := by decide +kernel
theorem dX6_fill_30 : decode cX6_fill 30 = .ok (.iload 6, 2) := by decide +kernel
theorem dX6_fill_32 : decode cX6_fill 32 = .ok (.aload_n 0, 1) := by decide +kernel
theorem dX6_fill_33 : decode cX6_fill 33 = .ok (.iload_n 3, 1) := by decide +kernel
theorem dX6_fill_34 : decode cX6_fill 34 = .ok (.invokevirtual 49, 3) := by decide +kernel
theorem dX6_fill_37 : decode cX6_fill 37 = .ok (.isub, 1) := by decide +kernel
theorem dX6_fill_38 : decode cX6_fill 38 = .ok (.istore 7, 2) := by decide +kernel
theorem dX6_fill_40 : decode cX6_fill 40 = .ok (.iload_n 2, 1) := by decide +kernel
theorem dX6_fill_41 : decode cX6_fill 41 = .ok (.iload 5, 2) := by decide +kernel
theorem dX6_fill_43 : decode cX6_fill 43 = .ok (.aload_n 0, 1) := by decide +kernel
theorem dX6_fill_44 : decode cX6_fill 44 = .ok (.getfield 18, 3) := by decide +kernel
theorem dX6_fill_47 : decode cX6_fill 47 = .ok (.imul, 1) := by decide +kernel
theorem dX6_fill_48 : decode cX6_fill 48 = .ok (.iadd, 1) := by decide +kernel
theorem dX6_fill_49 : decode cX6_fill 49 = .ok (.iload 6, 2) := by decide +kernel
theorem dX6_fill_51 : decode cX6_fill 51 = .ok (.iadd, 1) := by decide +kernel
theorem dX6_fill_52 : decode cX6_fill 52 = .ok (.istore 8, 2) := by decide +kernel
theorem dX6_fill_54 : decode cX6_fill 54 = .ok (.iconst 0, 1) := by decide +kernel
theorem dX6_fill_55 : decode cX6_fill 55 = .ok (.istore 9, 2) := by decide +kernel
theorem dX6_fill_57 : decode cX6_fill 57 = .ok (.iload 9, 2) := by decide +kernel
theorem dX6_fill_59 : decode cX6_fill 59 = .ok (.iconst 4, 1) := by decide +kernel
theorem dX6_fill_60 : decode cX6_fill 60 = .ok (.if_icmp .ge 94, 3) := by decide +kernel
theorem dX6_fill_63 : decode cX6_fill 63 = .ok (.iload 5, 2) := by decide +kernel
theorem dX6_fill_65 : decode cX6_fill 65 = .ok (.iconst 4, 1) := by decide +kernel
theorem dX6_fill_66 : decode cX6_fill 66 = .ok (.imul, 1) := by decide +kernel
theorem dX6_fill_67 : decode cX6_fill 67 = .ok (.iload 9, 2) := by decide +kernel
theorem dX6_fill_69 : decode cX6_fill 69 = .ok (.iadd, 1) := by decide +kernel
theorem dX6_fill_70 : decode cX6_fill 70 = .ok (.istore 10, 2) := by decide +kernel
theorem dX6_fill_72 : decode cX6_fill 72 = .ok (.aload_n 0, 1) := by decide +kernel
theorem dX6_fill_73 : decode cX6_fill 73 = .ok (.getfield 11, 3) := by decide +kernel
theorem dX6_fill_76 : decode cX6_fill 76 = .ok (.iload 10, 2) := by decide +kernel
theorem dX6_fill_78 : decode cX6_fill 78 = .ok (.iaload, 1) := by decide +kernel
theorem dX6_fill_79 : decode cX6_fill 79 = .ok (.iconst (-1), 1) := by decide +kernel
theorem dX6_fill_80 : decode cX6_fill 80 = .ok (.if_icmp .eq 68, 3) := by decide +kernel
theorem dX6_fill_83 : decode cX6_fill 83 = .ok (.iload 8, 2) := by decide +kernel
theorem dX6_fill_85 : decode cX6_fill 85 = .ok (.iload 9, 2) := by decide +kernel
theorem dX6_fill_87 : decode cX6_fill 87 = .ok (.iadd, 1) := by decide +kernel
theorem dX6_fill_88 : decode cX6_fill 88 = .ok (.istore 11, 2) := by decide +kernel
theorem dX6_fill_90 : decode cX6_fill 90 = .ok (.aload_n 0, 1) := by decide +kernel
theorem dX6_fill_91 : decode cX6_fill 91 = .ok (.getfield 11, 3) := by decide +kernel
theorem dX6_fill_94 : decode cX6_fill 94 = .ok (.iload 10, 2) := by decide +kernel
theorem dX6_fill_96 : decode cX6_fill 96 = .ok (.iaload, 1) := by decide +kernel
theorem dX6_fill_97 : decode cX6_fill 97 = .ok (.aload_n 0, 1) := by decide +kernel
theorem dX6_fill_98 : decode cX6_fill 98 = .ok (.getfield 32, 3) := by decide +kernel
theorem dX6_fill_101 : decode cX6_fill 101 = .ok (.iload 11, 2) := by decide +kernel
theorem dX6_fill_103 : decode cX6_fill 103 = .ok (.iload 11, 2) := by decide +kernel
theorem dX6_fill_105 : decode cX6_fill 105 = .ok (.iload 4, 2) := by decide +kernel
theorem dX6_fill_107 : decode cX6_fill 107 = .ok (.aload_n 0, 1) := by decide +kernel
theorem dX6_fill_108 : decode cX6_fill 108 = .ok (.getfield 18, 3) := by decide +kernel
theorem dX6_fill_111 : decode cX6_fill 111 = .ok (.imul, 1) := by decide +kernel
theorem dX6_fill_112 : decode cX6_fill 112 = .ok (.iadd, 1) := by decide +kernel
theorem dX6_fill_113 : decode cX6_fill 113 = .ok (.invokevirtual 74, 3) := by decide +kernel
theorem dX6_fill_116 : decode cX6_fill 116 = .ok (.iadd, 1) := by decide +kernel
theorem dX6_fill_117 : decode cX6_fill 117 = .ok (.istore 12, 2) := by decide +kernel
theorem dX6_fill_119 : decode cX6_fill 119 = .ok (.aload_n 0, 1) := by decide +kernel
theorem dX6_fill_120 : decode cX6_fill 120 = .ok (.iload_n 3, 1) := by decide +kernel
theorem dX6_fill_121 : decode cX6_fill 121 = .ok (.iconst 4, 1) := by decide +kernel
theorem dX6_fill_122 : decode cX6_fill 122 = .ok (.imul, 1) := by decide +kernel
theorem dX6_fill_123 : decode cX6_fill 123 = .ok (.iload 9, 2) := by decide +kernel
theorem dX6_fill_125 : decode cX6_fill 125 = .ok (.iadd, 1) := by decide +kernel
theorem dX6_fill_126 : decode cX6_fill 126 = .ok (.iload 7, 2) := by decide +kernel
theorem dX6_fill_128 : decode cX6_fill 128 = .ok (.iadd, 1) := by decide +kernel
theorem dX6_fill_129 : decode cX6_fill 129 = .ok (.iload 12, 2) := by decide +kernel
theorem dX6_fill_131 : decode cX6_fill 131 = .ok (.aload_n 0, 1) := by decide +kernel
theorem dX6_fill_132 : decode cX6_fill 132 = .ok (.getfield 15, 3) := by decide +kernel
theorem dX6_fill_135 : decode cX6_fill 135 = .ok (.iload 10, 2) := by decide +kernel
theorem dX6_fill_137 : decode cX6_fill 137 = .ok (.iaload, 1) := by decide +kernel
theorem dX6_fill_138 : decode cX6_fill 138 = .ok (.iload_n 1, 1) := by decide +kernel
theorem dX6_fill_139 : decode cX6_fill 139 = .ok (.iload 4, 2) := by decide +kernel
theorem dX6_fill_141 : decode cX6_fill 141 = .ok (.invokestatic 77, 3) := by decide +kernel
theorem dX6_fill_144 : decode cX6_fill 144 = .ok (.iadd, 1) := by decide +kernel
theorem dX6_fill_145 : decode cX6_fill 145 = .ok (.invokevirtual 80, 3) := by decide +kernel
theorem dX6_fill_148 : decode cX6_fill 148 = .ok (.iinc 9 1, 3) := by decide +kernel
theorem dX6_fill_151 : decode cX6_fill 151 = .ok (.goto (-94), 3) := by decide +kernel
theorem dX6_fill_154 : decode cX6_fill 154 = .ok (.iinc 4 1, 3) := by decide +kernel
theorem dX6_fill_157 : decode cX6_fill 157 = .ok (.goto (-154), 3) := by decide +kernel
theorem dX6_fill_160 : decode cX6_fill 160 = .ok (.return_, 1) := by decide +kernel
theorem dX6_offer_0 : decode cX6_offer 0 = .ok (.iload_n 1, 1) := by decide +kernel
theorem dX6_offer_1 : decode cX6_offer 1 = .ok (.ifCond .lt 36, 3) := by decide +kernel
theorem dX6_offer_4 : decode cX6_offer 4 = .ok (.iload_n 1, 1) := by decide +kernel
theorem dX6_offer_5 : decode cX6_offer 5 = .ok (.aload_n 0, 1) := by decide +kernel
theorem dX6_offer_6 : decode cX6_offer 6 = .ok (.getfield 11, 3) := by decide +kernel
theorem dX6_offer_9 : decode cX6_offer 9 = .ok (.arraylength, 1) := by decide +kernel
theorem dX6_offer_10 : decode cX6_offer 10 = .ok (.if_icmp .ge 27, 3) := by decide +kernel
theorem dX6_offer_13 : decode cX6_offer 13 = .ok (.iload_n 2, 1) := by decide +kernel
theorem dX6_offer_14 : decode cX6_offer 14 = .ok (.aload_n 0, 1) := by decide +kernel
theorem dX6_offer_15 : decode cX6_offer 15 = .ok (.getfield 11, 3) := by decide +kernel
theorem dX6_offer_18 : decode cX6_offer 18 = .ok (.iload_n 1, 1) := by decide +kernel
theorem dX6_offer_19 : decode cX6_offer 19 = .ok (.iaload, 1) := by decide +kernel
theorem dX6_offer_20 : decode cX6_offer 20 = .ok (.if_icmp .le 17, 3) := by decide +kernel
theorem dX6_offer_23 : decode cX6_offer 23 = .ok (.aload_n 0, 1) := by decide +kernel
theorem dX6_offer_24 : decode cX6_offer 24 = .ok (.getfield 11, 3) := by decide +kernel
theorem dX6_offer_27 : decode cX6_offer 27 = .ok (.iload_n 1, 1) := by decide +kernel
theorem dX6_offer_28 : decode cX6_offer 28 = .ok (.iload_n 2, 1) := by decide +kernel
theorem dX6_offer_29 : decode cX6_offer 29 = .ok (.iastore, 1) := by decide +kernel
theorem dX6_offer_30 : decode cX6_offer 30 = .ok (.aload_n 0, 1) := by decide +kernel
theorem dX6_offer_31 : decode cX6_offer 31 = .ok (.getfield 15, 3) := by decide +kernel
theorem dX6_offer_34 : decode cX6_offer 34 = .ok (.iload_n 1, 1) := by decide +kernel
theorem dX6_offer_35 : decode cX6_offer 35 = .ok (.iload_n 3, 1) := by decide +kernel
theorem dX6_offer_36 : decode cX6_offer 36 = .ok (.iastore, 1) := by decide +kernel
theorem dX6_offer_37 : decode cX6_offer 37 = .ok (.return_, 1) := by decide +kernel
theorem dX6_tellBest_0 : decode cX6_tellBest 0 = .ok (.iconst (-1), 1) := by decide +kernel
theorem dX6_tellBest_1 : decode cX6_tellBest 1 = .ok (.istore_n 2, 1) := by decide +kernel
theorem dX6_tellBest_2 : decode cX6_tellBest 2 = .ok (.iconst 0, 1) := by decide +kernel
theorem dX6_tellBest_3 : decode cX6_tellBest 3 = .ok (.istore_n 3, 1) := by decide +kernel
theorem dX6_tellBest_4 : decode cX6_tellBest 4 = .ok (.iload_n 3, 1) := by decide +kernel
theorem dX6_tellBest_5 : decode cX6_tellBest 5 = .ok (.iconst 4, 1) := by decide +kernel
theorem dX6_tellBest_6 : decode cX6_tellBest 6 = .ok (.if_icmp .ge 100, 3) := by decide +kernel
theorem dX6_tellBest_9 : decode cX6_tellBest 9 = .ok (.iload_n 1, 1) := by decide +kernel
theorem dX6_tellBest_10 : decode cX6_tellBest 10 = .ok (.iconst 4, 1) := by decide +kernel
theorem dX6_tellBest_11 : decode cX6_tellBest 11 = .ok (.imul, 1) := by decide +kernel
theorem dX6_tellBest_12 : decode cX6_tellBest 12 = .ok (.iload_n 3, 1) := by decide +kernel
theorem dX6_tellBest_13 : decode cX6_tellBest 13 = .ok (.iadd, 1) := by decide +kernel
theorem dX6_tellBest_14 : decode cX6_tellBest 14 = .ok (.istore 4, 2) := by decide +kernel
theorem dX6_tellBest_16 : decode cX6_tellBest 16 = .ok (.iload 4, 2) := by decide +kernel
theorem dX6_tellBest_18 : decode cX6_tellBest 18 = .ok (.ifCond .lt 82, 3) := by decide +kernel
theorem dX6_tellBest_21 : decode cX6_tellBest 21 = .ok (.iload 4, 2) := by decide +kernel
theorem dX6_tellBest_23 : decode cX6_tellBest 23 = .ok (.aload_n 0, 1) := by decide +kernel
theorem dX6_tellBest_24 : decode cX6_tellBest 24 = .ok (.getfield 11, 3) := by decide +kernel
theorem dX6_tellBest_27 : decode cX6_tellBest 27 = .ok (.arraylength, 1) := by decide +kernel
theorem dX6_tellBest_28 : decode cX6_tellBest 28 = .ok (.if_icmp .ge 72, 3) := by decide +kernel
theorem dX6_tellBest_31 : decode cX6_tellBest 31 = .ok (.aload_n 0, 1) := by decide +kernel
theorem dX6_tellBest_32 : decode cX6_tellBest 32 = .ok (.getfield 11, 3) := by decide +kernel
theorem dX6_tellBest_35 : decode cX6_tellBest 35 = .ok (.iload 4, 2) := by decide +kernel
theorem dX6_tellBest_37 : decode cX6_tellBest 37 = .ok (.iaload, 1) := by decide +kernel
theorem dX6_tellBest_38 : decode cX6_tellBest 38 = .ok (.iconst (-1), 1) := by decide +kernel
theorem dX6_tellBest_39 : decode cX6_tellBest 39 = .ok (.if_icmp .ne 6, 3) := by decide +kernel
theorem dX6_tellBest_42 : decode cX6_tellBest 42 = .ok (.goto 58, 3) := by decide +kernel
theorem dX6_tellBest_45 : decode cX6_tellBest 45 = .ok (.aload_n 0, 1) := by decide +kernel
theorem dX6_tellBest_46 : decode cX6_tellBest 46 = .ok (.getfield 11, 3) := by decide +kernel
theorem dX6_tellBest_49 : decode cX6_tellBest 49 = .ok (.iload 4, 2) := by decide +kernel
theorem dX6_tellBest_51 : decode cX6_tellBest 51 = .ok (.iaload, 1) := by decide +kernel
theorem dX6_tellBest_52 : decode cX6_tellBest 52 = .ok (.iload_n 2, 1) := by decide +kernel
theorem dX6_tellBest_53 : decode cX6_tellBest 53 = .ok (.if_icmp .gt 28, 3) := by decide +kernel
theorem dX6_tellBest_56 : decode cX6_tellBest 56 = .ok (.aload_n 0, 1) := by decide +kernel
theorem dX6_tellBest_57 : decode cX6_tellBest 57 = .ok (.getfield 11, 3) := by decide +kernel
theorem dX6_tellBest_60 : decode cX6_tellBest 60 = .ok (.iload 4, 2) := by decide +kernel
theorem dX6_tellBest_62 : decode cX6_tellBest 62 = .ok (.iaload, 1) := by decide +kernel
theorem dX6_tellBest_63 : decode cX6_tellBest 63 = .ok (.iload_n 2, 1) := by decide +kernel
theorem dX6_tellBest_64 : decode cX6_tellBest 64 = .ok (.if_icmp .ne 36, 3) := by decide +kernel
theorem dX6_tellBest_67 : decode cX6_tellBest 67 = .ok (.aload_n 0, 1) := by decide +kernel
theorem dX6_tellBest_68 : decode cX6_tellBest 68 = .ok (.getfield 15, 3) := by decide +kernel
theorem dX6_tellBest_71 : decode cX6_tellBest 71 = .ok (.iload 4, 2) := by decide +kernel
theorem dX6_tellBest_73 : decode cX6_tellBest 73 = .ok (.iaload, 1) := by decide +kernel
theorem dX6_tellBest_74 : decode cX6_tellBest 74 = .ok (.aload_n 0, 1) := by decide +kernel
theorem dX6_tellBest_75 : decode cX6_tellBest 75 = .ok (.getfield 22, 3) := by decide +kernel
theorem dX6_tellBest_78 : decode cX6_tellBest 78 = .ok (.if_icmp .ge 22, 3) := by decide +kernel
theorem dX6_tellBest_81 : decode cX6_tellBest 81 = .ok (.aload_n 0, 1) := by decide +kernel
theorem dX6_tellBest_82 : decode cX6_tellBest 82 = .ok (.getfield 11, 3) := by decide +kernel
theorem dX6_tellBest_85 : decode cX6_tellBest 85 = .ok (.iload 4, 2) := by decide +kernel
theorem dX6_tellBest_87 : decode cX6_tellBest 87 = .ok (.iaload, 1) := by decide +kernel
theorem dX6_tellBest_88 : decode cX6_tellBest 88 = .ok (.istore_n 2, 1) := by decide +kernel
theorem dX6_tellBest_89 : decode cX6_tellBest 89 = .ok (.aload_n 0, 1) := by decide +kernel
theorem dX6_tellBest_90 : decode cX6_tellBest 90 = .ok (.aload_n 0, 1) := by decide +kernel
theorem dX6_tellBest_91 : decode cX6_tellBest 91 = .ok (.getfield 15, 3) := by decide +kernel
theorem dX6_tellBest_94 : decode cX6_tellBest 94 = .ok (.iload 4, 2) := by decide +kernel
theorem dX6_tellBest_96 : decode cX6_tellBest 96 = .ok (.iaload, 1) := by decide +kernel
theorem dX6_tellBest_97 : decode cX6_tellBest 97 = .ok (.putfield 22, 3) := by decide +kernel
theorem dX6_tellBest_100 : decode cX6_tellBest 100 = .ok (.iinc 3 1, 3) := by decide +kernel
theorem dX6_tellBest_103 : decode cX6_tellBest 103 = .ok (.goto (-99), 3) := by decide +kernel
theorem dX6_tellBest_106 : decode cX6_tellBest 106 = .ok (.iload_n 2, 1) := by decide +kernel
theorem dX6_tellBest_107 : decode cX6_tellBest 107 = .ok (.ireturn, 1) := by decide +kernel
theorem dX7_init_0 : decode cX7_init 0 = .ok (.aload_n 0, 1) := by decide +kernel
theorem dX7_init_1 : decode cX7_init 1 = .ok (.invokespecial 3, 3) := by decide +kernel
theorem dX7_init_4 : decode cX7_init 4 = .ok (.aload_n 0, 1) := by decide +kernel
theorem dX7_init_5 : decode cX7_init 5 = .ok (.bipush 30, 2) := by decide +kernel
theorem dX7_init_7 : decode cX7_init 7 = .ok (.newarray .int, 2) := by decide +kernel
theorem dX7_init_9 : decode cX7_init 9 = .ok (.putfield 9, 3) := by decide +kernel
theorem dX7_init_12 : decode cX7_init 12 = .ok (.aload_n 0, 1) := by decide +kernel
theorem dX7_init_13 : decode cX7_init 13 = .ok (.bipush 10, 2) := by decide +kernel
theorem dX7_init_15 : decode cX7_init 15 = .ok (.newarray .int, 2) := by decide +kernel
theorem dX7_init_17 : decode cX7_init 17 = .ok (.putfield 15, 3) := by decide +kernel
theorem dX7_init_20 : decode cX7_init 20 = .ok (.aload_n 0, 1) := by decide +kernel
theorem dX7_init_21 : decode cX7_init 21 = .ok (.bipush 10, 2) := by decide +kernel
theorem dX7_init_23 : decode cX7_init 23 = .ok (.newarray .int, 2) := by decide +kernel
theorem dX7_init_25 : decode cX7_init 25 = .ok (.putfield 18, 3) := by decide +kernel
theorem dX7_init_28 : decode cX7_init 28 = .ok (.aload_n 0, 1) := by decide +kernel
theorem dX7_init_29 : decode cX7_init 29 = .ok (.bipush 10, 2) := by decide +kernel
theorem dX7_init_31 : decode cX7_init 31 = .ok (.newarray .int, 2) := by decide +kernel
theorem dX7_init_33 : decode cX7_init 33 = .ok (.putfield 21, 3) := by decide +kernel
theorem dX7_init_36 : decode cX7_init 36 = .ok (.aload_n 0, 1) := by decide +kernel
theorem dX7_init_37 : decode cX7_init 37 = .ok (.bipush 36, 2) := by decide +kernel
theorem dX7_init_39 : decode cX7_init 39 = .ok (.newarray .int, 2) := by decide +kernel
theorem dX7_init_41 : decode cX7_init 41 = .ok (.putfield 24, 3) := by decide +kernel
theorem dX7_init_44 : decode cX7_init 44 = .ok (.aload_n 0, 1) := by decide +kernel
theorem dX7_init_45 : decode cX7_init 45 = .ok (.bipush 36, 2) := by decide +kernel
theorem dX7_init_47 : decode cX7_init 47 = .ok (.newarray .int, 2) := by decide +kernel
theorem dX7_init_49 : decode cX7_init 49 = .ok (.putfield 27, 3) := by decide +kernel
theorem dX7_init_52 : decode cX7_init 52 = .ok (.aload_n 0, 1) := by decide +kernel
theorem dX7_init_53 : decode cX7_init 53 = .ok (.iconst 0, 1) := by decide +kernel
theorem dX7_init_54 : decode cX7_init 54 = .ok (.putfield 30, 3) := by decide +kernel
theorem dX7_init_57 : decode cX7_init 57 = .ok (.aload_n 0, 1) := by decide +kernel
theorem dX7_init_58 : decode cX7_init 58 = .ok (.iconst 0, 1) := by decide +kernel
theorem dX7_init_59 : decode cX7_init 59 = .ok (.putfield 34, 3) := by decide +kernel
theorem dX7_init_62 : decode cX7_init 62 = .ok (.aload_n 0, 1) := by decide +kernel
theorem dX7_init_63 : decode cX7_init 63 = .ok (.iconst 0, 1) := by decide +kernel
theorem dX7_init_64 : decode cX7_init 64 = .ok (.putfield 37, 3) := by decide +kernel
theorem dX7_init_67 : decode cX7_init 67 = .ok (.return_, 1) := by decide +kernel
theorem dX7_add_0 : decode cX7_add 0 = .ok (.aload_n 0, 1) := by decide +kernel
theorem dX7_add_1 : decode cX7_add 1 = .ok (.getfield 30, 3) := by decide +kernel
theorem dX7_add_4 : decode cX7_add 4 = .ok (.bipush 10, 2) := by decide +kernel
theorem dX7_add_6 : decode cX7_add 6 = .ok (.if_icmp .lt 6, 3) := by decide +kernel
theorem dX7_add_9 : decode cX7_add 9 = .ok (.bipush (-4), 2) := by decide +kernel
theorem dX7_add_11 : decode cX7_add 11 = .ok (.ireturn, 1) := by decide +kernel
theorem dX7_add_12 : decode cX7_add 12 = .ok (.aload_n 0, 1) := by decide +kernel
theorem dX7_add_13 : decode cX7_add 13 = .ok (.getfield 9, 3) := by decide +kernel
theorem dX7_add_16 : decode cX7_add 16 = .ok (.aload_n 0, 1) := by decide +kernel
theorem dX7_add_17 : decode cX7_add 17 = .ok (.getfield 30, 3) := by decide +kernel
theorem dX7_add_20 : decode cX7_add 20 = .ok (.iconst 3, 1) := by decide +kernel
theorem dX7_add_21 : decode cX7_add 21 = .ok (.imul, 1) := by decide +kernel
theorem dX7_add_22 : decode cX7_add 22 = .ok (.iload_n 1, 1) := by decide +kernel
theorem dX7_add_23 : decode cX7_add 23 = .ok (.iastore, 1) := by decide +kernel
theorem dX7_add_24 : decode cX7_add 24 = .ok (.aload_n 0, 1) := by decide +kernel
theorem dX7_add_25 : decode cX7_add 25 = .ok (.getfield 9, 3) := by decide +kernel
theorem dX7_add_28 : decode cX7_add 28 = .ok (.aload_n 0, 1) := by decide +kernel
theorem dX7_add_29 : decode cX7_add 29 = .ok (.getfield 30, 3) := by decide +kernel
theorem dX7_add_32 : decode cX7_add 32 = .ok (.iconst 3, 1) := by decide +kernel
theorem dX7_add_33 : decode cX7_add 33 = .ok (.imul, 1) := by decide +kernel
theorem dX7_add_34 : decode cX7_add 34 = .ok (.iconst 1, 1) := by decide +kernel
theorem dX7_add_35 : decode cX7_add 35 = .ok (.iadd, 1) := by decide +kernel
theorem dX7_add_36 : decode cX7_add 36 = .ok (.iload_n 2, 1) := by decide +kernel
theorem dX7_add_37 : decode cX7_add 37 = .ok (.iastore, 1) := by decide +kernel
theorem dX7_add_38 : decode cX7_add 38 = .ok (.aload_n 0, 1) := by decide +kernel
theorem dX7_add_39 : decode cX7_add 39 = .ok (.getfield 9, 3) := by decide +kernel
theorem dX7_add_42 : decode cX7_add 42 = .ok (.aload_n 0, 1) := by decide +kernel
theorem dX7_add_43 : decode cX7_add 43 = .ok (.getfield 30, 3) := by decide +kernel
theorem dX7_add_46 : decode cX7_add 46 = .ok (.iconst 3, 1) := by decide +kernel
theorem dX7_add_47 : decode cX7_add 47 = .ok (.imul, 1) := by decide +kernel
theorem dX7_add_48 : decode cX7_add 48 = .ok (.iconst 2, 1) := by decide +kernel
theorem dX7_add_49 : decode cX7_add 49 = .ok (.iadd, 1) := by decide +kernel
theorem dX7_add_50 : decode cX7_add 50 = .ok (.iload_n 3, 1) := by decide +kernel
theorem dX7_add_51 : decode cX7_add 51 = .ok (.iastore, 1) := by decide +kernel
theorem dX7_add_52 : decode cX7_add 52 = .ok (.aload_n 0, 1) := by decide +kernel
theorem dX7_add_53 : decode cX7_add 53 = .ok (.getfield 15, 3) := by decide +kernel
theorem dX7_add_56 : decode cX7_add 56 = .ok (.aload_n 0, 1) := by decide +kernel
theorem dX7_add_57 : decode cX7_add 57 = .ok (.getfield 30, 3) := by decide +kernel
theorem dX7_add_60 : decode cX7_add 60 = .ok (.iload 4, 2) := by decide +kernel
theorem dX7_add_62 : decode cX7_add 62 = .ok (.iastore, 1) := by decide +kernel
theorem dX7_add_63 : decode cX7_add 63 = .ok (.aload_n 0, 1) := by decide +kernel
theorem dX7_add_64 : decode cX7_add 64 = .ok (.getfield 18, 3) := by decide +kernel
theorem dX7_add_67 : decode cX7_add 67 = .ok (.aload_n 0, 1) := by decide +kernel
theorem dX7_add_68 : decode cX7_add 68 = .ok (.getfield 30, 3) := by decide +kernel
theorem dX7_add_71 : decode cX7_add 71 = .ok (.iload 5, 2) := by decide +kernel
theorem dX7_add_73 : decode cX7_add 73 = .ok (.iastore, 1) := by decide +kernel
theorem dX7_add_74 : decode cX7_add 74 = .ok (.aload_n 0, 1) := by decide +kernel
theorem dX7_add_75 : decode cX7_add 75 = .ok (.getfield 30, 3) := by decide +kernel
theorem dX7_add_78 : decode cX7_add 78 = .ok (.istore 6, 2) := by decide +kernel
theorem dX7_add_80 : decode cX7_add 80 = .ok (.iload 6, 2) := by decide +kernel
theorem dX7_add_82 : decode cX7_add 82 = .ok (.ifCond .le 44, 3) := by decide +kernel
theorem dX7_add_85 : decode cX7_add 85 = .ok (.aload_n 0, 1) := by decide +kernel
theorem dX7_add_86 : decode cX7_add 86 = .ok (.getfield 15, 3) := by decide +kernel
theorem dX7_add_89 : decode cX7_add 89 = .ok (.aload_n 0, 1) := by decide +kernel
theorem dX7_add_90 : decode cX7_add 90 = .ok (.getfield 21, 3) := by decide +kernel
theorem dX7_add_93 : decode cX7_add 93 = .ok (.iload 6, 2) := by decide +kernel
theorem dX7_add_95 : decode cX7_add 95 = .ok (.iconst 1, 1) := by decide +kernel
theorem dX7_add_96 : decode cX7_add 96 = .ok (.isub, 1) := by decide +kernel
theorem dX7_add_97 : decode cX7_add 97 = .ok (.iaload, 1) := by decide +kernel
theorem dX7_add_98 : decode cX7_add 98 = .ok (.iaload, 1) := by decide +kernel
theorem dX7_add_99 : decode cX7_add 99 = .ok (.iload 4, 2) := by decide +kernel
theorem dX7_add_101 : decode cX7_add 101 = .ok (.if_icmp .le 25, 3) := by decide +kernel
theorem dX7_add_104 : decode cX7_add 104 = .ok (.aload_n 0, 1) := by decide +kernel
theorem dX7_add_105 : decode cX7_add 105 = .ok (.getfield 21, 3) := by decide +kernel
theorem dX7_add_108 : decode cX7_add 108 = .ok (.iload 6, 2) := by decide +kernel
theorem dX7_add_110 : decode cX7_add 110 = .ok (.aload_n 0, 1) := by decide +kernel
theorem dX7_add_111 : decode cX7_add 111 = .ok (.getfield 21, 3) := by decide +kernel
theorem dX7_add_114 : decode cX7_add 114 = .ok (.iload 6, 2) := by decide +kernel
theorem dX7_add_116 : decode cX7_add 116 = .ok (.iconst 1, 1) := by decide +kernel
theorem dX7_add_117 : decode cX7_add 117 = .ok (.isub, 1) := by decide +kernel
theorem dX7_add_118 : decode cX7_add 118 = .ok (.iaload, 1) := by decide +kernel
theorem dX7_add_119 : decode cX7_add 119 = .ok (.iastore, 1) := by decide +kernel
theorem dX7_add_120 : decode cX7_add 120 = .ok (.iinc 6 (-1), 3) := by decide +kernel
theorem dX7_add_123 : decode cX7_add 123 = .ok (.goto (-43), 3) := by decide +kernel
theorem dX7_add_126 : decode cX7_add 126 = .ok (.aload_n 0, 1) := by decide +kernel
theorem dX7_add_127 : decode cX7_add 127 = .ok (.getfield 21, 3) := by decide +kernel
theorem dX7_add_130 : decode cX7_add 130 = .ok (.iload 6, 2) := by decide +kernel
theorem dX7_add_132 : decode cX7_add 132 = .ok (.aload_n 0, 1) := by decide +kernel
theorem dX7_add_133 : decode cX7_add 133 = .ok (.getfield 30, 3) := by decide +kernel
theorem dX7_add_136 : decode cX7_add 136 = .ok (.iastore, 1) := by decide +kernel
theorem dX7_add_137 : decode cX7_add 137 = .ok (.aload_n 0, 1) := by decide +kernel
theorem dX7_add_138 : decode cX7_add 138 = .ok (.dup, 1) := by decide +kernel
theorem dX7_add_139 : decode cX7_add 139 = .ok (.getfield 30, 3) := by decide +kernel
theorem dX7_add_142 : decode cX7_add 142 = .ok (.iconst 1, 1) := by decide +kernel
theorem dX7_add_143 : decode cX7_add 143 = .ok (.iadd, 1) := by decide +kernel
theorem dX7_add_144 : decode cX7_add 144 = .ok (.putfield 30, 3) := by decide +kernel
theorem dX7_add_147 : decode cX7_add 147 = .ok (.aload_n 0, 1) := by decide +kernel
theorem dX7_add_148 : decode cX7_add 148 = .ok (.getfield 30, 3) := by decide +kernel
theorem dX7_add_151 : decode cX7_add 151 = .ok (.iconst 1, 1) := by decide +kernel
theorem dX7_add_152 : decode cX7_add 152 = .ok (.isub, 1) := by decide +kernel
theorem dX7_add_153 : decode cX7_add 153 = .ok (.ireturn, 1) := by decide +kernel
theorem dX7_search_0 : decode cX7_search 0 = .ok (.iconst 0, 1) := by decide +kernel
theorem dX7_search_1 : decode cX7_search 1 = .ok (.istore_n 1, 1) := by decide +kernel
theorem dX7_search_2 : decode cX7_search 2 = .ok (.iload_n 1, 1) := by decide +kernel
theorem dX7_search_3 : decode cX7_search 3 = .ok (.iconst 3, 1) := by decide +kernel
theorem dX7_search_4 : decode cX7_search 4 = .ok (.if_icmp .ge 51, 3) := by decide +kernel
theorem dX7_search_7 : decode cX7_search 7 = .ok (.iconst 0, 1) := by decide +kernel
theorem dX7_search_8 : decode cX7_search 8 = .ok (.istore_n 2, 1) := by decide +kernel
theorem dX7_search_9 : decode cX7_search 9 = .ok (.iconst 0, 1) := by decide +kernel
theorem dX7_search_10 : decode cX7_search 10 = .ok (.istore_n 3, 1) := by decide +kernel
theorem dX7_search_11 : decode cX7_search 11 = .ok (.iload_n 3, 1) := by decide +kernel
theorem dX7_search_12 : decode cX7_search 12 = .ok (.bipush 12, 2) := by decide +kernel
theorem dX7_search_14 : decode cX7_search 14 = .ok (.if_icmp .ge 35, 3) := by decide +kernel
theorem dX7_search_17 : decode cX7_search 17 = .ok (.iload_n 2, 1) := by decide +kernel
theorem dX7_search_18 : decode cX7_search 18 = .ok (.aload_n 0, 1) := by decide +kernel
theorem dX7_search_19 : decode cX7_search 19 = .ok (.getfield 24, 3) := by decide +kernel
theorem dX7_search_22 : decode cX7_search 22 = .ok (.iload_n 1, 1) := by decide +kernel
theorem dX7_search_23 : decode cX7_search 23 = .ok (.bipush 12, 2) := by decide +kernel
theorem dX7_search_25 : decode cX7_search 25 = .ok (.imul, 1) := by decide +kernel
theorem dX7_search_26 : decode cX7_search 26 = .ok (.iload_n 3, 1) := by decide +kernel
theorem dX7_search_27 : decode cX7_search 27 = .ok (.iadd, 1) := by decide +kernel
theorem dX7_search_28 : decode cX7_search 28 = .ok (.iaload, 1) := by decide +kernel
theorem dX7_search_29 : decode cX7_search 29 = .ok (.iadd, 1) := by decide +kernel
theorem dX7_search_30 : decode cX7_search 30 = .ok (.istore_n 2, 1) := by decide +kernel
theorem dX7_search_31 : decode cX7_search 31 = .ok (.aload_n 0, 1) := by decide +kernel
theorem dX7_search_32 : decode cX7_search 32 = .ok (.getfield 27, 3) := by decide +kernel
theorem dX7_search_35 : decode cX7_search 35 = .ok (.iload_n 1, 1) := by decide +kernel
theorem dX7_search_36 : decode cX7_search 36 = .ok (.bipush 12, 2) := by decide +kernel
theorem dX7_search_38 : decode cX7_search 38 = .ok (.imul, 1) := by decide +kernel
theorem dX7_search_39 : decode cX7_search 39 = .ok (.iload_n 3, 1) := by decide +kernel
theorem dX7_search_40 : decode cX7_search 40 = .ok (.iadd, 1) := by decide +kernel
theorem dX7_search_41 : decode cX7_search 41 = .ok (.iload_n 2, 1) := by decide +kernel
theorem dX7_search_42 : decode cX7_search 42 = .ok (.iastore, 1) := by decide +kernel
theorem dX7_search_43 : decode cX7_search 43 = .ok (.iinc 3 1, 3) := by decide +kernel
theorem dX7_search_46 : decode cX7_search 46 = .ok (.goto (-35), 3) := by decide +kernel
theorem dX7_search_49 : decode cX7_search 49 = .ok (.iinc 1 1, 3) := by decide +kernel
theorem dX7_search_52 : decode cX7_search 52 = .ok (.goto (-50), 3) := by decide +kernel
theorem dX7_search_55 : decode cX7_search 55 = .ok (.aload_n 0, 1) := by decide +kernel
theorem dX7_search_56 : decode cX7_search 56 = .ok (.iconst 0, 1) := by decide +kernel
theorem dX7_search_57 : decode cX7_search 57 = .ok (.putfield 34, 3) := by decide +kernel
theorem dX7_search_60 : decode cX7_search 60 = .ok (.aload_n 0, 1) := by decide +kernel
theorem dX7_search_61 : decode cX7_search 61 = .ok (.iconst 0, 1) := by decide +kernel
theorem dX7_search_62 : decode cX7_search 62 = .ok (.putfield 37, 3) := by decide +kernel
theorem dX7_search_65 : decode cX7_search 65 = .ok (.aload_n 0, 1) := by decide +kernel
theorem dX7_search_66 : decode cX7_search 66 = .ok (.iconst 0, 1) := by decide +kernel
theorem dX7_search_67 : decode cX7_search 67 = .ok (.iconst 0, 1) := by decide +kernel
theorem dX7_search_68 : decode cX7_search 68 = .ok (.iconst 0, 1) := by decide +kernel
theorem dX7_search_69 : decode cX7_search 69 = .ok (.iconst 0, 1) := by decide +kernel
theorem dX7_search_70 : decode cX7_search 70 = .ok (.iconst 0, 1) := by decide +kernel
theorem dX7_search_71 : decode cX7_search 71 = .ok (.iconst 0, 1) := by decide +kernel
theorem dX7_search_72 : decode cX7_search 72 = .ok (.invokevirtual 40, 3) := by decide +kernel
theorem dX7_search_75 : decode cX7_search 75 = .ok (.return_, 1) := by decide +kernel
theorem dX7_choose_0 : decode cX7_choose 0 = .ok (.iload_n 1, 1) := by decide +kernel
theorem dX7_choose_1 : decode cX7_choose 1 = .ok (.ifCond .lt 11, 3) := by decide +kernel
theorem dX7_choose_4 : decode cX7_choose 4 = .ok (.iload_n 1, 1) := by decide +kernel
theorem dX7_choose_5 : decode cX7_choose 5 = .ok (.aload_n 0, 1) := by decide +kernel
theorem dX7_choose_6 : decode cX7_choose 6 = .ok (.getfield 30, 3) := by decide +kernel
theorem dX7_choose_9 : decode cX7_choose 9 = .ok (.if_icmp .lt 12, 3) := by decide +kernel
theorem dX7_choose_12 : decode cX7_choose 12 = .ok (.aload_n 0, 1) := by decide +kernel
theorem dX7_choose_13 : decode cX7_choose 13 = .ok (.iload 5, 2) := by decide +kernel
theorem dX7_choose_15 : decode cX7_choose 15 = .ok (.iload 6, 2) := by decide +kernel
theorem dX7_choose_17 : decode cX7_choose 17 = .ok (.invokevirtual 44, 3) := by decide +kernel
theorem dX7_choose_20 : decode cX7_choose 20 = .ok (.return_, 1) := by decide +kernel
theorem dX7_choose_21 : decode cX7_choose 21 = .ok (.aload_n 0, 1) := by decide +kernel
theorem dX7_choose_22 : decode cX7_choose 22 = .ok (.iload_n 1, 1) := by decide +kernel
theorem dX7_choose_23 : decode cX7_choose 23 = .ok (.iconst 1, 1) := by decide +kernel
theorem dX7_choose_24 : decode cX7_choose 24 = .ok (.iadd, 1) := by decide +kernel
theorem dX7_choose_25 : decode cX7_choose 25 = .ok (.iload_n 2, 1) := by decide +kernel
theorem dX7_choose_26 : decode cX7_choose 26 = .ok (.iload_n 3, 1) := by decide +kernel
theorem dX7_choose_27 : decode cX7_choose 27 = .ok (.iload 4, 2) := by decide +kernel
theorem dX7_choose_29 : decode cX7_choose 29 = .ok (.iload 5, 2) := by decide +kernel
theorem dX7_choose_31 : decode cX7_choose 31 = .ok (.iload 6, 2) := by decide +kernel
theorem dX7_choose_33 : decode cX7_choose 33 = .ok (.invokevirtual 40, 3) := by decide +kernel
theorem dX7_choose_36 : decode cX7_choose 36 = .ok (.aload_n 0, 1) := by decide +kernel
theorem dX7_choose_37 : decode cX7_choose 37 = .ok (.getfield 21, 3) := by decide +kernel
theorem dX7_choose_40 : decode cX7_choose 40 = .ok (.iload_n 1, 1) := by decide +kernel
theorem dX7_choose_41 : decode cX7_choose 41 = .ok (.iaload, 1) := by decide +kernel
theorem dX7_choose_42 : decode cX7_choose 42 = .ok (.istore 7, 2) := by decide +kernel
theorem dX7_choose_44 : decode cX7_choose 44 = .ok (.aload_n 0, 1) := by decide +kernel
theorem dX7_choose_45 : decode cX7_choose 45 = .ok (.getfield 15, 3) := by decide +kernel
theorem dX7_choose_48 : decode cX7_choose 48 = .ok (.iload 7, 2) := by decide +kernel
theorem dX7_choose_50 : decode cX7_choose 50 = .ok (.iaload, 1) := by decide +kernel
theorem dX7_choose_51 : decode cX7_choose 51 = .ok (.istore 8, 2) := by decide +kernel
theorem dX7_choose_53 : decode cX7_choose 53 = .ok (.iload_n 2, 1) := by decide +kernel
theorem dX7_choose_54 : decode cX7_choose 54 = .ok (.aload_n 0, 1) := by decide +kernel
theorem dX7_choose_55 : decode cX7_choose 55 = .ok (.getfield 9, 3) := by decide +kernel
theorem dX7_choose_58 : decode cX7_choose 58 = .ok (.iload 7, 2) := by decide +kernel
theorem dX7_choose_60 : decode cX7_choose 60 = .ok (.iconst 3, 1) := by decide +kernel
theorem dX7_choose_61 : decode cX7_choose 61 = .ok (.imul, 1) := by decide +kernel
theorem dX7_choose_62 : decode cX7_choose 62 = .ok (.iaload, 1) := by decide +kernel
theorem dX7_choose_63 : decode cX7_choose 63 = .ok (.iadd, 1) := by decide +kernel
theorem dX7_choose_64 : decode cX7_choose 64 = .ok (.istore 9, 2) := by decide +kernel
theorem dX7_choose_66 : decode cX7_choose 66 = .ok (.iload_n 3, 1) := by decide +kernel
theorem dX7_choose_67 : decode cX7_choose 67 = .ok (.aload_n 0, 1) := by decide +kernel
theorem dX7_choose_68 : decode cX7_choose 68 = .ok (.getfield 9, 3) := by decide +kernel
theorem dX7_choose_71 : decode cX7_choose 71 = .ok (.iload 7, 2) := by decide +kernel
theorem dX7_choose_73 : decode cX7_choose 73 = .ok (.iconst 3, 1) := by decide +kernel
theorem dX7_choose_74 : decode cX7_choose 74 = .ok (.imul, 1) := by decide +kernel
theorem dX7_choose_75 : decode cX7_choose 75 = .ok (.iconst 1, 1) := by decide +kernel
theorem dX7_choose_76 : decode cX7_choose 76 = .ok (.iadd, 1) := by decide +kernel
theorem dX7_choose_77 : decode cX7_choose 77 = .ok (.iaload, 1) := by decide +kernel
theorem dX7_choose_78 : decode cX7_choose 78 = .ok (.iadd, 1) := by decide +kernel
theorem dX7_choose_79 : decode cX7_choose 79 = .ok (.istore 10, 2) := by decide +kernel
theorem dX7_choose_81 : decode cX7_choose 81 = .ok (.iload 4, 2) := by decide +kernel
theorem dX7_choose_83 : decode cX7_choose 83 = .ok (.aload_n 0, 1) := by decide +kernel
theorem dX7_choose_84 : decode cX7_choose 84 = .ok (.getfield 9, 3) := by decide +kernel
theorem dX7_choose_87 : decode cX7_choose 87 = .ok (.iload 7, 2) := by decide +kernel
theorem dX7_choose_89 : decode cX7_choose 89 = .ok (.iconst 3, 1) := by decide +kernel
theorem dX7_choose_90 : decode cX7_choose 90 = .ok (.imul, 1) := by decide +kernel
theorem dX7_choose_91 : decode cX7_choose 91 = .ok (.iconst 2, 1) := by decide +kernel
theorem dX7_choose_92 : decode cX7_choose 92 = .ok (.iadd, 1) := by decide +kernel
theorem dX7_choose_93 : decode cX7_choose 93 = .ok (.iaload, 1) := by decide +kernel
theorem dX7_choose_94 : decode cX7_choose 94 = .ok (.iadd, 1) := by decide +kernel
theorem dX7_choose_95 : decode cX7_choose 95 = .ok (.istore 11, 2) := by decide +kernel
theorem dX7_choose_97 : decode cX7_choose 97 = .ok (.iload 9, 2) := by decide +kernel
theorem dX7_choose_99 : decode cX7_choose 99 = .ok (.aload_n 0, 1) := by decide +kernel
theorem dX7_choose_100 : decode cX7_choose 100 = .ok (.getfield 27, 3) := by decide +kernel
theorem dX7_choose_103 : decode cX7_choose 103 = .ok (.iload 8, 2) := by decide +kernel
theorem dX7_choose_105 : decode cX7_choose 105 = .ok (.iaload, 1) := by decide +kernel
theorem dX7_choose_106 : decode cX7_choose 106 = .ok (.if_icmp .gt 63, 3) := by decide +kernel
theorem dX7_choose_109 : decode cX7_choose 109 = .ok (.iload 10, 2) := by decide +kernel
theorem dX7_choose_111 : decode cX7_choose 111 = .ok (.aload_n 0, 1) := by decide +kernel
theorem dX7_choose_112 : decode cX7_choose 112 = .ok (.getfield 27, 3) := by decide +kernel
theorem dX7_choose_115 : decode cX7_choose 115 = .ok (.bipush 12, 2) := by decide +kernel
theorem dX7_choose_117 : decode cX7_choose 117 = .ok (.iload 8, 2) := by decide +kernel
theorem dX7_choose_119 : decode cX7_choose 119 = .ok (.iadd, 1) := by decide +kernel
theorem dX7_choose_120 : decode cX7_choose 120 = .ok (.iaload, 1) := by decide +kernel
theorem dX7_choose_121 : decode cX7_choose 121 = .ok (.if_icmp .gt 48, 3) := by decide +kernel
theorem dX7_choose_124 : decode cX7_choose 124 = .ok (.iload 11, 2) := by decide +kernel
theorem dX7_choose_126 : decode cX7_choose 126 = .ok (.aload_n 0, 1) := by decide +kernel
theorem dX7_choose_127 : decode cX7_choose 127 = .ok (.getfield 27, 3) := by decide +kernel
theorem dX7_choose_130 : decode cX7_choose 130 = .ok (.bipush 24, 2) := by decide +kernel
theorem dX7_choose_132 : decode cX7_choose 132 = .ok (.iload 8, 2) := by decide +kernel
theorem dX7_choose_134 : decode cX7_choose 134 = .ok (.iadd, 1) := by decide +kernel
theorem dX7_choose_135 : decode cX7_choose 135 = .ok (.iaload, 1) := by decide +kernel
theorem dX7_choose_136 : decode cX7_choose 136 = .ok (.if_icmp .gt 33, 3) := by decide +kernel
theorem dX7_choose_139 : decode cX7_choose 139 = .ok (.aload_n 0, 1) := by decide +kernel
theorem dX7_choose_140 : decode cX7_choose 140 = .ok (.iload_n 1, 1) := by decide +kernel
theorem dX7_choose_141 : decode cX7_choose 141 = .ok (.iconst 1, 1) := by decide +kernel
theorem dX7_choose_142 : decode cX7_choose 142 = .ok (.iadd, 1) := by decide +kernel
theorem dX7_choose_143 : decode cX7_choose 143 = .ok (.iload 9, 2) := by decide +kernel
theorem dX7_choose_145 : decode cX7_choose 145 = .ok (.iload 10, 2) := by decide +kernel
