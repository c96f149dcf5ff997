theorem dX0_init_0 : decode cX0_init 0 = .ok (.aload_n 0, 1) := by decide +kernel
theorem dX0_init_1 : decode cX0_init 1 = .ok (.invokespecial 3, 3) := by decide +kernel
theorem dX0_init_4 : decode cX0_init 4 = .ok (.aload_n 0, 1) := by decide +kernel
theorem dX0_init_5 : decode cX0_init 5 = .ok (.bipush 7, 2) := by decide +kernel
theorem dX0_init_7 : decode cX0_init 7 = .ok (.newarray .int, 2) := by decide +kernel
theorem dX0_init_9 : decode cX0_init 9 = .ok (.putfield 9, 3) := by decide +kernel
theorem dX0_init_12 : decode cX0_init 12 = .ok (.aload_n 0, 1) := by decide +kernel
theorem dX0_init_13 : decode cX0_init 13 = .ok (.bipush 7, 2) := by decide +kernel
theorem dX0_init_15 : decode cX0_init 15 = .ok (.newarray .int, 2) := by decide +kernel
theorem dX0_init_17 : decode cX0_init 17 = .ok (.putfield 15, 3) := by decide +kernel
theorem dX0_init_20 : decode cX0_init 20 = .ok (.aload_n 0, 1) := by decide +kernel
theorem dX0_init_21 : decode cX0_init 21 = .ok (.bipush 7, 2) := by decide +kernel
theorem dX0_init_23 : decode cX0_init 23 = .ok (.newarray .int, 2) := by decide +kernel
theorem dX0_init_25 : decode cX0_init 25 = .ok (.putfield 18, 3) := by decide +kernel
theorem dX0_init_28 : decode cX0_init 28 = .ok (.aload_n 0, 1) := by decide +kernel
theorem dX0_init_29 : decode cX0_init 29 = .ok (.bipush 7, 2) := by decide +kernel
theorem dX0_init_31 : decode cX0_init 31 = .ok (.newarray .int, 2) := by decide +kernel
theorem dX0_init_33 : decode cX0_init 33 = .ok (.putfield 21, 3) := by decide +kernel
theorem dX0_init_36 : decode cX0_init 36 = .ok (.aload_n 0, 1) := by decide +kernel
theorem dX0_init_37 : decode cX0_init 37 = .ok (.bipush 24, 2) := by decide +kernel
theorem dX0_init_39 : decode cX0_init 39 = .ok (.newarray .int, 2) := by decide +kernel
theorem dX0_init_41 : decode cX0_init 41 = .ok (.putfield 24, 3) := by decide +kernel
theorem dX0_init_44 : decode cX0_init 44 = .ok (.return_, 1) := by decide +kernel
theorem dX0_begin_0 : decode cX0_begin 0 = .ok (.aload_n 0, 1) := by decide +kernel
theorem dX0_begin_1 : decode cX0_begin 1 = .ok (.bipush 12, 2) := by decide +kernel
theorem dX0_begin_3 : decode cX0_begin 3 = .ok (.putfield 27, 3) := by decide +kernel
theorem dX0_begin_6 : decode cX0_begin 6 = .ok (.aload_n 0, 1) := by decide +kernel
theorem dX0_begin_7 : decode cX0_begin 7 = .ok (.iconst 5, 1) := by decide +kernel
theorem dX0_begin_8 : decode cX0_begin 8 = .ok (.putfield 31, 3) := by decide +kernel
theorem dX0_begin_11 : decode cX0_begin 11 = .ok (.aload_n 0, 1) := by decide +kernel
theorem dX0_begin_12 : decode cX0_begin 12 = .ok (.bipush 6, 2) := by decide +kernel
theorem dX0_begin_14 : decode cX0_begin 14 = .ok (.putfield 34, 3) := by decide +kernel
theorem dX0_begin_17 : decode cX0_begin 17 = .ok (.aload_n 0, 1) := by decide +kernel
theorem dX0_begin_18 : decode cX0_begin 18 = .ok (.iconst 0, 1) := by decide +kernel
theorem dX0_begin_19 : decode cX0_begin 19 = .ok (.putfield 37, 3) := by decide +kernel
theorem dX0_begin_22 : decode cX0_begin 22 = .ok (.aload_n 0, 1) := by decide +kernel
theorem dX0_begin_23 : decode cX0_begin 23 = .ok (.getfield 24, 3) := by decide +kernel
theorem dX0_begin_26 : decode cX0_begin 26 = .ok (.bipush 10, 2) := by decide +kernel
theorem dX0_begin_28 : decode cX0_begin 28 = .ok (.invokestatic 40, 3) := by decide +kernel
theorem dX0_begin_31 : decode cX0_begin 31 = .ok (.return_, 1) := by decide +kernel
theorem dX0_copyFrom_0 : decode cX0_copyFrom 0 = .ok (.aload_n 0, 1) := by decide +kernel
theorem dX0_copyFrom_1 : decode cX0_copyFrom 1 = .ok (.aload_n 1, 1) := by decide +kernel
theorem dX0_copyFrom_2 : decode cX0_copyFrom 2 = .ok (.getfield 27, 3) := by decide +kernel
theorem dX0_copyFrom_5 : decode cX0_copyFrom 5 = .ok (.putfield 27, 3) := by decide +kernel
theorem dX0_copyFrom_8 : decode cX0_copyFrom 8 = .ok (.aload_n 0, 1) := by decide +kernel
theorem dX0_copyFrom_9 : decode cX0_copyFrom 9 = .ok (.aload_n 1, 1) := by decide +kernel
theorem dX0_copyFrom_10 : decode cX0_copyFrom 10 = .ok (.getfield 31, 3) := by decide +kernel
theorem dX0_copyFrom_13 : decode cX0_copyFrom 13 = .ok (.putfield 31, 3) := by decide +kernel
theorem dX0_copyFrom_16 : decode cX0_copyFrom 16 = .ok (.aload_n 0, 1) := by decide +kernel
theorem dX0_copyFrom_17 : decode cX0_copyFrom 17 = .ok (.aload_n 1, 1) := by decide +kernel
theorem dX0_copyFrom_18 : decode cX0_copyFrom 18 = .ok (.getfield 34, 3) := by decide +kernel
theorem dX0_copyFrom_21 : decode cX0_copyFrom 21 = .ok (.putfield 34, 3) := by decide +kernel
theorem dX0_copyFrom_24 : decode cX0_copyFrom 24 = .ok (.aload_n 0, 1) := by decide +kernel
theorem dX0_copyFrom_25 : decode cX0_copyFrom 25 = .ok (.aload_n 1, 1) := by decide +kernel
theorem dX0_copyFrom_26 : decode cX0_copyFrom 26 = .ok (.getfield 37, 3) := by decide +kernel
theorem dX0_copyFrom_29 : decode cX0_copyFrom 29 = .ok (.putfield 37, 3) := by decide +kernel
theorem dX0_copyFrom_32 : decode cX0_copyFrom 32 = .ok (.aload_n 1, 1) := by decide +kernel
theorem dX0_copyFrom_33 : decode cX0_copyFrom 33 = .ok (.getfield 9, 3) := by decide +kernel
theorem dX0_copyFrom_36 : decode cX0_copyFrom 36 = .ok (.iconst 0, 1) := by decide +kernel
theorem dX0_copyFrom_37 : decode cX0_copyFrom 37 = .ok (.aload_n 0, 1) := by decide +kernel
theorem dX0_copyFrom_38 : decode cX0_copyFrom 38 = .ok (.getfield 9, 3) := by decide +kernel
theorem dX0_copyFrom_41 : decode cX0_copyFrom 41 = .ok (.iconst 0, 1) := by decide +kernel
theorem dX0_copyFrom_42 : decode cX0_copyFrom 42 = .ok (.bipush 7, 2) := by decide +kernel
theorem dX0_copyFrom_44 : decode cX0_copyFrom 44 = .ok (.invokestatic 46, 3) := by decide +kernel
theorem dX0_copyFrom_47 : decode cX0_copyFrom 47 = .ok (.aload_n 1, 1) := by decide +kernel
theorem dX0_copyFrom_48 : decode cX0_copyFrom 48 = .ok (.getfield 15, 3) := by decide +kernel
theorem dX0_copyFrom_51 : decode cX0_copyFrom 51 = .ok (.iconst 0, 1) := by decide +kernel
theorem dX0_copyFrom_52 : decode cX0_copyFrom 52 = .ok (.aload_n 0, 1) := by decide +kernel
theorem dX0_copyFrom_53 : decode cX0_copyFrom 53 = .ok (.getfield 15, 3) := by decide +kernel
theorem dX0_copyFrom_56 : decode cX0_copyFrom 56 = .ok (.iconst 0, 1) := by decide +kernel
theorem dX0_copyFrom_57 : decode cX0_copyFrom 57 = .ok (.bipush 7, 2) := by decide +kernel
theorem dX0_copyFrom_59 : decode cX0_copyFrom 59 = .ok (.invokestatic 46, 3) := by decide +kernel
theorem dX0_copyFrom_62 : decode cX0_copyFrom 62 = .ok (.aload_n 1, 1) := by decide +kernel
theorem dX0_copyFrom_63 : decode cX0_copyFrom 63 = .ok (.getfield 18, 3) := by decide +kernel
theorem dX0_copyFrom_66 : decode cX0_copyFrom 66 = .ok (.iconst 0, 1) := by decide +kernel
theorem dX0_copyFrom_67 : decode cX0_copyFrom 67 = .ok (.aload_n 0, 1) := by decide +kernel
theorem dX0_copyFrom_68 : decode cX0_copyFrom 68 = .ok (.getfield 18, 3) := by decide +kernel
theorem dX0_copyFrom_71 : decode cX0_copyFrom 71 = .ok (.iconst 0, 1) := by decide +kernel
theorem dX0_copyFrom_72 : decode cX0_copyFrom 72 = .ok (.bipush 7, 2) := by decide +kernel
theorem dX0_copyFrom_74 : decode cX0_copyFrom 74 = .ok (.invokestatic 46, 3) := by decide +kernel
theorem dX0_copyFrom_77 : decode cX0_copyFrom 77 = .ok (.aload_n 1, 1) := by decide +kernel
theorem dX0_copyFrom_78 : decode cX0_copyFrom 78 = .ok (.getfield 21, 3) := by decide +kernel
theorem dX0_copyFrom_81 : decode cX0_copyFrom 81 = .ok (.iconst 0, 1) := by decide +kernel
theorem dX0_copyFrom_82 : decode cX0_copyFrom 82 = .ok (.aload_n 0, 1) := by decide +kernel
theorem dX0_copyFrom_83 : decode cX0_copyFrom 83 = .ok (.getfield 21, 3) := by decide +kernel
theorem dX0_copyFrom_86 : decode cX0_copyFrom 86 = .ok (.iconst 0, 1) := by decide +kernel
theorem dX0_copyFrom_87 : decode cX0_copyFrom 87 = .ok (.bipush 7, 2) := by decide +kernel
theorem dX0_copyFrom_89 : decode cX0_copyFrom 89 = .ok (.invokestatic 46, 3) := by decide +kernel
theorem dX0_copyFrom_92 : decode cX0_copyFrom 92 = .ok (.aload_n 1, 1) := by decide +kernel
theorem dX0_copyFrom_93 : decode cX0_copyFrom 93 = .ok (.getfield 24, 3) := by decide +kernel
theorem dX0_copyFrom_96 : decode cX0_copyFrom 96 = .ok (.iconst 0, 1) := by decide +kernel
theorem dX0_copyFrom_97 : decode cX0_copyFrom 97 = .ok (.aload_n 0, 1) := by decide +kernel
theorem dX0_copyFrom_98 : decode cX0_copyFrom 98 = .ok (.getfield 24, 3) := by decide +kernel
theorem dX0_copyFrom_101 : decode cX0_copyFrom 101 = .ok (.iconst 0, 1) := by decide +kernel
theorem dX0_copyFrom_102 : decode cX0_copyFrom 102 = .ok (.bipush 24, 2) := by decide +kernel
theorem dX0_copyFrom_104 : decode cX0_copyFrom 104 = .ok (.invokestatic 46, 3) := by decide +kernel
theorem dX0_copyFrom_107 : decode cX0_copyFrom 107 = .ok (.return_, 1) := by decide +kernel
theorem dX0_has_0 : decode cX0_has 0 = .ok (.iload_n 1, 1) := by decide +kernel
theorem dX0_has_1 : decode cX0_has 1 = .ok (.ifCond .lt 15, 3) := by decide +kernel
theorem dX0_has_4 : decode cX0_has 4 = .ok (.iload_n 1, 1) := by decide +kernel
theorem dX0_has_5 : decode cX0_has 5 = .ok (.aload_n 0, 1) := by decide +kernel
theorem dX0_has_6 : decode cX0_has 6 = .ok (.getfield 37, 3) := by decide +kernel
theorem dX0_has_9 : decode cX0_has 9 = .ok (.if_icmp .ge 7, 3) := by decide +kernel
theorem dX0_has_12 : decode cX0_has 12 = .ok (.iconst 1, 1) := by decide +kernel
theorem dX0_has_13 : decode cX0_has 13 = .ok (.goto 4, 3) := by decide +kernel
theorem dX0_has_16 : decode cX0_has 16 = .ok (.iconst 0, 1) := by decide +kernel
theorem dX0_has_17 : decode cX0_has 17 = .ok (.ireturn, 1) := by decide +kernel
theorem dX0_hasSlot_0 : decode cX0_hasSlot 0 = .ok (.iload_n 1, 1) := by decide +kernel
theorem dX0_hasSlot_1 : decode cX0_hasSlot 1 = .ok (.ifCond .lt 15, 3) := by decide +kernel
theorem dX0_hasSlot_4 : decode cX0_hasSlot 4 = .ok (.iload_n 1, 1) := by decide +kernel
theorem dX0_hasSlot_5 : decode cX0_hasSlot 5 = .ok (.aload_n 0, 1) := by decide +kernel
theorem dX0_hasSlot_6 : decode cX0_hasSlot 6 = .ok (.getfield 27, 3) := by decide +kernel
theorem dX0_hasSlot_9 : decode cX0_hasSlot 9 = .ok (.if_icmp .ge 7, 3) := by decide +kernel
theorem dX0_hasSlot_12 : decode cX0_hasSlot 12 = .ok (.iconst 1, 1) := by decide +kernel
theorem dX0_hasSlot_13 : decode cX0_hasSlot 13 = .ok (.goto 4, 3) := by decide +kernel
theorem dX0_hasSlot_16 : decode cX0_hasSlot 16 = .ok (.iconst 0, 1) := by decide +kernel
theorem dX0_hasSlot_17 : decode cX0_hasSlot 17 = .ok (.ireturn, 1) := by decide +kernel
theorem dX0_strikes_0 : decode cX0_strikes 0 = .ok (.aload_n 0, 1) := by decide +kernel
theorem dX0_strikes_1 : decode cX0_strikes 1 = .ok (.getfield 9, 3) := by decide +kernel
theorem dX0_strikes_4 : decode cX0_strikes 4 = .ok (.iload_n 1, 1) := by decide +kernel
theorem dX0_strikes_5 : decode cX0_strikes 5 = .ok (.iaload, 1) := by decide +kernel
theorem dX0_strikes_6 : decode cX0_strikes 6 = .ok (.iconst 3, 1) := by decide +kernel
theorem dX0_strikes_7 : decode cX0_strikes 7 = .ok (.if_icmp .ne 20, 3) := by decide +kernel
theorem dX0_strikes_10 : decode cX0_strikes 10 = .ok (.aload_n 0, 1) := by decide +kernel
theorem dX0_strikes_11 : decode cX0_strikes 11 = .ok (.getfield 18, 3) := by decide +kernel
theorem dX0_strikes_14 : decode cX0_strikes 14 = .ok (.iload_n 1, 1) := by decide +kernel
theorem dX0_strikes_15 : decode cX0_strikes 15 = .ok (.iaload, 1) := by decide +kernel
theorem dX0_strikes_16 : decode cX0_strikes 16 = .ok (.aload_n 0, 1) := by decide +kernel
theorem dX0_strikes_17 : decode cX0_strikes 17 = .ok (.getfield 34, 3) := by decide +kernel
theorem dX0_strikes_20 : decode cX0_strikes 20 = .ok (.if_icmp .le 7, 3) := by decide +kernel
theorem dX0_strikes_23 : decode cX0_strikes 23 = .ok (.iconst 1, 1) := by decide +kernel
theorem dX0_strikes_24 : decode cX0_strikes 24 = .ok (.goto 4, 3) := by decide +kernel
theorem dX0_strikes_27 : decode cX0_strikes 27 = .ok (.iconst 0, 1) := by decide +kernel
theorem dX0_strikes_28 : decode cX0_strikes 28 = .ok (.ireturn, 1) := by decide +kernel
theorem dX0_sideAt_0 : decode cX0_sideAt 0 = .ok (.iload_n 2, 1) := by decide +kernel
theorem dX0_sideAt_1 : decode cX0_sideAt 1 = .ok (.aload_n 0, 1) := by decide +kernel
theorem dX0_sideAt_2 : decode cX0_sideAt 2 = .ok (.getfield 15, 3) := by decide +kernel
theorem dX0_sideAt_5 : decode cX0_sideAt 5 = .ok (.iload_n 1, 1) := by decide +kernel
theorem dX0_sideAt_6 : decode cX0_sideAt 6 = .ok (.iaload, 1) := by decide +kernel
theorem dX0_sideAt_7 : decode cX0_sideAt 7 = .ok (.iadd, 1) := by decide +kernel
theorem dX0_sideAt_8 : decode cX0_sideAt 8 = .ok (.iconst 1, 1) := by decide +kernel
theorem dX0_sideAt_9 : decode cX0_sideAt 9 = .ok (.isub, 1) := by decide +kernel
theorem dX0_sideAt_10 : decode cX0_sideAt 10 = .ok (.aload_n 0, 1) := by decide +kernel
theorem dX0_sideAt_11 : decode cX0_sideAt 11 = .ok (.getfield 31, 3) := by decide +kernel
theorem dX0_sideAt_14 : decode cX0_sideAt 14 = .ok (.if_icmp .ge 5, 3) := by decide +kernel
theorem dX0_sideAt_17 : decode cX0_sideAt 17 = .ok (.iconst 1, 1) := by decide +kernel
theorem dX0_sideAt_18 : decode cX0_sideAt 18 = .ok (.ireturn, 1) := by decide +kernel
theorem dX0_sideAt_19 : decode cX0_sideAt 19 = .ok (.iload_n 2, 1) := by decide +kernel
theorem dX0_sideAt_20 : decode cX0_sideAt 20 = .ok (.aload_n 0, 1) := by decide +kernel
theorem dX0_sideAt_21 : decode cX0_sideAt 21 = .ok (.getfield 31, 3) := by decide +kernel
theorem dX0_sideAt_24 : decode cX0_sideAt 24 = .ok (.if_icmp .le 7, 3) := by decide +kernel
theorem dX0_sideAt_27 : decode cX0_sideAt 27 = .ok (.iconst 4, 1) := by decide +kernel
theorem dX0_sideAt_28 : decode cX0_sideAt 28 = .ok (.goto 4, 3) := by decide +kernel
theorem dX0_sideAt_31 : decode cX0_sideAt 31 = .ok (.iconst 2, 1) := by decide +kernel
theorem dX0_sideAt_32 : decode cX0_sideAt 32 = .ok (.ireturn, 1) := by decide +kernel
theorem dX1_init_0 : decode cX1_init 0 = .ok (.aload_n 0, 1) := by decide +kernel
theorem dX1_init_1 : decode cX1_init 1 = .ok (.invokespecial 3, 3) := by decide +kernel
theorem dX1_init_4 : decode cX1_init 4 = .ok (.aload_n 0, 1) := by decide +kernel
theorem dX1_init_5 : decode cX1_init 5 = .ok (.bipush 7, 2) := by decide +kernel
theorem dX1_init_7 : decode cX1_init 7 = .ok (.newarray .int, 2) := by decide +kernel
theorem dX1_init_9 : decode cX1_init 9 = .ok (.putfield 9, 3) := by decide +kernel
theorem dX1_init_12 : decode cX1_init 12 = .ok (.aload_n 0, 1) := by decide +kernel
theorem dX1_init_13 : decode cX1_init 13 = .ok (.bipush 7, 2) := by decide +kernel
theorem dX1_init_15 : decode cX1_init 15 = .ok (.newarray .int, 2) := by decide +kernel
theorem dX1_init_17 : decode cX1_init 17 = .ok (.putfield 15, 3) := by decide +kernel
theorem dX1_init_20 : decode cX1_init 20 = .ok (.aload_n 0, 1) := by decide +kernel
theorem dX1_init_21 : decode cX1_init 21 = .ok (.aload_n 1, 1) := by decide +kernel
theorem dX1_init_22 : decode cX1_init 22 = .ok (.putfield 18, 3) := by decide +kernel
theorem dX1_init_25 : decode cX1_init 25 = .ok (.aload_n 0, 1) := by decide +kernel
theorem dX1_init_26 : decode cX1_init 26 = .ok (.new 22, 3) := by decide +kernel
theorem dX1_init_29 : decode cX1_init 29 = .ok (.dup, 1) := by decide +kernel
theorem dX1_init_30 : decode cX1_init 30 = .ok (.aload_n 1, 1) := by decide +kernel
theorem dX1_init_31 : decode cX1_init 31 = .ok (.invokespecial 24, 3) := by decide +kernel
theorem dX1_init_34 : decode cX1_init 34 = .ok (.putfield 27, 3) := by decide +kernel
theorem dX1_init_37 : decode cX1_init 37 = .ok (.return_, 1) := by decide +kernel
theorem dX1_find_0 : decode cX1_find 0 = .ok (.aload_n 0, 1) := by decide +kernel
theorem dX1_find_1 : decode cX1_find 1 = .ok (.getfield 31, 3) := by decide +kernel
theorem dX1_find_4 : decode cX1_find 4 = .ok (.ifCond .eq 20, 3) := by decide +kernel
theorem dX1_find_7 : decode cX1_find 7 = .ok (.aload_n 0, 1) := by decide +kernel
theorem dX1_find_8 : decode cX1_find 8 = .ok (.getfield 35, 3) := by decide +kernel
theorem dX1_find_11 : decode cX1_find 11 = .ok (.iload_n 1, 1) := by decide +kernel
theorem dX1_find_12 : decode cX1_find 12 = .ok (.if_icmp .ne 12, 3) := by decide +kernel
theorem dX1_find_15 : decode cX1_find 15 = .ok (.aload_n 0, 1) := by decide +kernel
theorem dX1_find_16 : decode cX1_find 16 = .ok (.getfield 39, 3) := by decide +kernel
theorem dX1_find_19 : decode cX1_find 19 = .ok (.iload_n 2, 1) := by decide +kernel
theorem dX1_find_20 : decode cX1_find 20 = .ok (.if_icmp .ne 4, 3) := by decide +kernel
theorem dX1_find_23 : decode cX1_find 23 = .ok (.return_, 1) := by decide +kernel
theorem dX1_find_24 : decode cX1_find 24 = .ok (.aload_n 0, 1) := by decide +kernel
theorem dX1_find_25 : decode cX1_find 25 = .ok (.iload_n 2, 1) := by decide +kernel
theorem dX1_find_26 : decode cX1_find 26 = .ok (.invokevirtual 42, 3) := by decide +kernel
theorem dX1_find_29 : decode cX1_find 29 = .ok (.iconst 1, 1) := by decide +kernel
theorem dX1_find_30 : decode cX1_find 30 = .ok (.aload_n 0, 1) := by decide +kernel
theorem dX1_find_31 : decode cX1_find 31 = .ok (.getfield 18, 3) := by decide +kernel
theorem dX1_find_34 : decode cX1_find 34 = .ok (.getfield 46, 3) := by decide +kernel
theorem dX1_find_37 : decode cX1_find 37 = .ok (.ishl, 1) := by decide +kernel
theorem dX1_find_38 : decode cX1_find 38 = .ok (.iconst 1, 1) := by decide +kernel
theorem dX1_find_39 : decode cX1_find 39 = .ok (.isub, 1) := by decide +kernel
theorem dX1_find_40 : decode cX1_find 40 = .ok (.iload_n 1, 1) := by decide +kernel
theorem dX1_find_41 : decode cX1_find 41 = .ok (.iconst (-1), 1) := by decide +kernel
theorem dX1_find_42 : decode cX1_find 42 = .ok (.ixor, 1) := by decide +kernel
theorem dX1_find_43 : decode cX1_find 43 = .ok (.iand, 1) := by decide +kernel
theorem dX1_find_44 : decode cX1_find 44 = .ok (.istore_n 3, 1) := by decide +kernel
theorem dX1_find_45 : decode cX1_find 45 = .ok (.aload_n 0, 1) := by decide +kernel
theorem dX1_find_46 : decode cX1_find 46 = .ok (.aload_n 0, 1) := by decide +kernel
theorem dX1_find_47 : decode cX1_find 47 = .ok (.iload_n 3, 1) := by decide +kernel
theorem dX1_find_48 : decode cX1_find 48 = .ok (.iload_n 2, 1) := by decide +kernel
theorem dX1_find_49 : decode cX1_find 49 = .ok (.invokevirtual 51, 3) := by decide +kernel
theorem dX1_find_52 : decode cX1_find 52 = .ok (.putfield 55, 3) := by decide +kernel
theorem dX1_find_55 : decode cX1_find 55 = .ok (.aload_n 0, 1) := by decide +kernel
theorem dX1_find_56 : decode cX1_find 56 = .ok (.iload_n 3, 1) := by decide +kernel
theorem dX1_find_57 : decode cX1_find 57 = .ok (.invokestatic 58, 3) := by decide +kernel
theorem dX1_find_60 : decode cX1_find 60 = .ok (.putfield 64, 3) := by decide +kernel
theorem dX1_find_63 : decode cX1_find 63 = .ok (.aload_n 0, 1) := by decide +kernel
theorem dX1_find_64 : decode cX1_find 64 = .ok (.iconst (-1), 1) := by decide +kernel
theorem dX1_find_65 : decode cX1_find 65 = .ok (.putfield 67, 3) := by decide +kernel
theorem dX1_find_68 : decode cX1_find 68 = .ok (.aload_n 0, 1) := by decide +kernel
theorem dX1_find_69 : decode cX1_find 69 = .ok (.iconst 0, 1) := by decide +kernel
theorem dX1_find_70 : decode cX1_find 70 = .ok (.iconst 0, 1) := by decide +kernel
theorem dX1_find_71 : decode cX1_find 71 = .ok (.iload_n 3, 1) := by decide +kernel
theorem dX1_find_72 : decode cX1_find 72 = .ok (.iconst 0, 1) := by decide +kernel
theorem dX1_find_73 : decode cX1_find 73 = .ok (.invokevirtual 70, 3) := by decide +kernel
theorem dX1_find_76 : decode cX1_find 76 = .ok (.aload_n 0, 1) := by decide +kernel
theorem dX1_find_77 : decode cX1_find 77 = .ok (.iconst 1, 1) := by decide +kernel
theorem dX1_find_78 : decode cX1_find 78 = .ok (.putfield 31, 3) := by decide +kernel
theorem dX1_find_81 : decode cX1_find 81 = .ok (.aload_n 0, 1) := by decide +kernel
theorem dX1_find_82 : decode cX1_find 82 = .ok (.iload_n 1, 1) := by decide +kernel
theorem dX1_find_83 : decode cX1_find 83 = .ok (.putfield 35, 3) := by decide +kernel
theorem dX1_find_86 : decode cX1_find 86 = .ok (.aload_n 0, 1) := by decide +kernel
theorem dX1_find_87 : decode cX1_find 87 = .ok (.iload_n 2, 1) := by decide +kernel
theorem dX1_find_88 : decode cX1_find 88 = .ok (.putfield 39, 3) := by decide +kernel
theorem dX1_find_91 : decode cX1_find 91 = .ok (.return_, 1) := by decide +kernel
theorem dX1_empty_0 : decode cX1_empty 0 = .ok (.aload_n 0, 1) := by decide +kernel
theorem dX1_empty_1 : decode cX1_empty 1 = .ok (.getfield 27, 3) := by decide +kernel
theorem dX1_empty_4 : decode cX1_empty 4 = .ok (.invokevirtual 74, 3) := by decide +kernel
theorem dX1_empty_7 : decode cX1_empty 7 = .ok (.aload_n 0, 1) := by decide +kernel
theorem dX1_empty_8 : decode cX1_empty 8 = .ok (.getfield 27, 3) := by decide +kernel
theorem dX1_empty_11 : decode cX1_empty 11 = .ok (.iload_n 1, 1) := by decide +kernel
theorem dX1_empty_12 : decode cX1_empty 12 = .ok (.putfield 77, 3) := by decide +kernel
theorem dX1_empty_15 : decode cX1_empty 15 = .ok (.return_, 1) := by decide +kernel
theorem dX1_hopefulOf_0 : decode cX1_hopefulOf 0 = .ok (.iconst 0, 1) := by decide +kernel
theorem dX1_hopefulOf_1 : decode cX1_hopefulOf 1 = .ok (.istore_n 3, 1) := by decide +kernel
theorem dX1_hopefulOf_2 : decode cX1_hopefulOf 2 = .ok (.iconst 0, 1) := by decide +kernel
theorem dX1_hopefulOf_3 : decode cX1_hopefulOf 3 = .ok (.istore 4, 2) := by decide +kernel
theorem dX1_hopefulOf_5 : decode cX1_hopefulOf 5 = .ok (.iload 4, 2) := by decide +kernel
theorem dX1_hopefulOf_7 : decode cX1_hopefulOf 7 = .ok (.aload_n 0, 1) := by decide +kernel
theorem dX1_hopefulOf_8 : decode cX1_hopefulOf 8 = .ok (.getfield 18, 3) := by decide +kernel
theorem dX1_hopefulOf_11 : decode cX1_hopefulOf 11 = .ok (.getfield 46, 3) := by decide +kernel
theorem dX1_hopefulOf_14 : decode cX1_hopefulOf 14 = .ok (.if_icmp .ge 42, 3) := by decide +kernel
theorem dX1_hopefulOf_17 : decode cX1_hopefulOf 17 = .ok (.aload_n 0, 1) := by decide +kernel
theorem dX1_hopefulOf_18 : decode cX1_hopefulOf 18 = .ok (.getfield 18, 3) := by decide +kernel
theorem dX1_hopefulOf_21 : decode cX1_hopefulOf 21 = .ok (.getfield 80, 3) := by decide +kernel
theorem dX1_hopefulOf_24 : decode cX1_hopefulOf 24 = .ok (.iload 4, 2) := by decide +kernel
theorem dX1_hopefulOf_26 : decode cX1_hopefulOf 26 = .ok (.iaload, 1) := by decide +kernel
theorem dX1_hopefulOf_27 : decode cX1_hopefulOf 27 = .ok (.iload_n 2, 1) := by decide +kernel
theorem dX1_hopefulOf_28 : decode cX1_hopefulOf 28 = .ok (.if_icmp .gt 22, 3) := by decide +kernel
theorem dX1_hopefulOf_31 : decode cX1_hopefulOf 31 = .ok (.aload_n 0, 1) := by decide +kernel
theorem dX1_hopefulOf_32 : decode cX1_hopefulOf 32 = .ok (.getfield 18, 3) := by decide +kernel
theorem dX1_hopefulOf_35 : decode cX1_hopefulOf 35 = .ok (.iload 4, 2) := by decide +kernel
theorem dX1_hopefulOf_37 : decode cX1_hopefulOf 37 = .ok (.invokevirtual 83, 3) := by decide +kernel
theorem dX1_hopefulOf_40 : decode cX1_hopefulOf 40 = .ok (.ifCond .ne 10, 3) := by decide +kernel
theorem dX1_hopefulOf_43 : decode cX1_hopefulOf 43 = .ok (.iload_n 3, 1) := by decide +kernel
theorem dX1_hopefulOf_44 : decode cX1_hopefulOf 44 = .ok (.iconst 1, 1) := by decide +kernel
theorem dX1_hopefulOf_45 : decode cX1_hopefulOf 45 = .ok (.iload 4, 2) := by decide +kernel
theorem dX1_hopefulOf_47 : decode cX1_hopefulOf 47 = .ok (.ishl, 1) := by decide +kernel
theorem dX1_hopefulOf_48 : decode cX1_hopefulOf 48 = .ok (.ior, 1) := by decide +kernel
theorem dX1_hopefulOf_49 : decode cX1_hopefulOf 49 = .ok (.istore_n 3, 1) := by decide +kernel
theorem dX1_hopefulOf_50 : decode cX1_hopefulOf 50 = .ok (.iinc 4 1, 3) := by decide +kernel
theorem dX1_hopefulOf_53 : decode cX1_hopefulOf 53 = .ok (.goto (-48), 3) := by decide +kernel
theorem dX1_hopefulOf_56 : decode cX1_hopefulOf 56 = .ok (.iload_n 3, 1) := by decide +kernel
theorem dX1_hopefulOf_57 : decode cX1_hopefulOf 57 = .ok (.iload_n 1, 1) := by decide +kernel
theorem dX1_hopefulOf_58 : decode cX1_hopefulOf 58 = .ok (.iand, 1) := by decide +kernel
theorem dX1_hopefulOf_59 : decode cX1_hopefulOf 59 = .ok (.ireturn, 1) := by decide +kernel
theorem dX1_search_0 : decode cX1_search 0 = .ok (.aload_n 0, 1) := by decide +kernel
theorem dX1_search_1 : decode cX1_search 1 = .ok (.iload_n 3, 1) := by decide +kernel
theorem dX1_search_2 : decode cX1_search 2 = .ok (.iload_n 2, 1) := by decide +kernel
theorem dX1_search_3 : decode cX1_search 3 = .ok (.invokevirtual 87, 3) := by decide +kernel
theorem dX1_search_6 : decode cX1_search 6 = .ok (.istore 5, 2) := by decide +kernel
theorem dX1_search_8 : decode cX1_search 8 = .ok (.iload_n 1, 1) := by decide +kernel
theorem dX1_search_9 : decode cX1_search 9 = .ok (.bipush 7, 2) := by decide +kernel
theorem dX1_search_11 : decode cX1_search 11 = .ok (.if_icmp .gt 23, 3) := by decide +kernel
theorem dX1_search_14 : decode cX1_search 14 = .ok (.iload 4, 2) := by decide +kernel
theorem dX1_search_16 : decode cX1_search 16 = .ok (.iload 5, 2) := by decide +kernel
theorem dX1_search_18 : decode cX1_search 18 = .ok (.aload_n 0, 1) := by decide +kernel
theorem dX1_search_19 : decode cX1_search 19 = .ok (.getfield 55, 3) := by decide +kernel
theorem dX1_search_22 : decode cX1_search 22 = .ok (.iand, 1) := by decide +kernel
theorem dX1_search_23 : decode cX1_search 23 = .ok (.invokestatic 58, 3) := by decide +kernel
theorem dX1_search_26 : decode cX1_search 26 = .ok (.iadd, 1) := by decide +kernel
theorem dX1_search_27 : decode cX1_search 27 = .ok (.aload_n 0, 1) := by decide +kernel
theorem dX1_search_28 : decode cX1_search 28 = .ok (.getfield 67, 3) := by decide +kernel
theorem dX1_search_31 : decode cX1_search 31 = .ok (.if_icmp .gt 4, 3) := by decide +kernel
theorem dX1_search_34 : decode cX1_search 34 = .ok (.return_, 1) := by decide +kernel
theorem dX1_search_35 : decode cX1_search 35 = .ok (.iload 5, 2) := by decide +kernel
theorem dX1_search_37 : decode cX1_search 37 = .ok (.ifCond .ne 12, 3) := by decide +kernel
theorem dX1_search_40 : decode cX1_search 40 = .ok (.aload_n 0, 1) := by decide +kernel
theorem dX1_search_41 : decode cX1_search 41 = .ok (.iload_n 1, 1) := by decide +kernel
theorem dX1_search_42 : decode cX1_search 42 = .ok (.iload_n 3, 1) := by decide +kernel
theorem dX1_search_43 : decode cX1_search 43 = .ok (.iload 4, 2) := by decide +kernel
theorem dX1_search_45 : decode cX1_search 45 = .ok (.invokevirtual 90, 3) := by decide +kernel
theorem dX1_search_48 : decode cX1_search 48 = .ok (.return_, 1) := by decide +kernel
theorem dX1_search_49 : decode cX1_search 49 = .ok (.iconst 0, 1) := by decide +kernel
theorem dX1_search_50 : decode cX1_search 50 = .ok (.istore 6, 2) := by decide +kernel
theorem dX1_search_52 : decode cX1_search 52 = .ok (.iload 6, 2) := by decide +kernel
theorem dX1_search_54 : decode cX1_search 54 = .ok (.aload_n 0, 1) := by decide +kernel
theorem dX1_search_55 : decode cX1_search 55 = .ok (.getfield 18, 3) := by decide +kernel
theorem dX1_search_58 : decode cX1_search 58 = .ok (.getfield 46, 3) := by decide +kernel
theorem dX1_search_61 : decode cX1_search 61 = .ok (.if_icmp .ge 117, 3) := by decide +kernel
theorem dX1_search_64 : decode cX1_search 64 = .ok (.iload_n 1, 1) := by decide +kernel
theorem dX1_search_65 : decode cX1_search 65 = .ok (.bipush 7, 2) := by decide +kernel
theorem dX1_search_67 : decode cX1_search 67 = .ok (.if_icmp .ge 111, 3) := by decide +kernel
theorem dX1_search_70 : decode cX1_search 70 = .ok (.iconst 1, 1) := by decide +kernel
theorem dX1_search_71 : decode cX1_search 71 = .ok (.iload 6, 2) := by decide +kernel
theorem dX1_search_73 : decode cX1_search 73 = .ok (.ishl, 1) := by decide +kernel
theorem dX1_search_74 : decode cX1_search 74 = .ok (.istore 7, 2) := by decide +kernel
theorem dX1_search_76 : decode cX1_search 76 = .ok (.iload_n 3, 1) := by decide +kernel
theorem dX1_search_77 : decode cX1_search 77 = .ok (.iload 7, 2) := by decide +kernel
theorem dX1_search_79 : decode cX1_search 79 = .ok (.iand, 1) := by decide +kernel
theorem dX1_search_80 : decode cX1_search 80 = .ok (.ifCond .eq 92, 3) := by decide +kernel
theorem dX1_search_83 : decode cX1_search 83 = .ok (.aload_n 0, 1) := by decide +kernel
theorem dX1_search_84 : decode cX1_search 84 = .ok (.getfield 9, 3) := by decide +kernel
theorem dX1_search_87 : decode cX1_search 87 = .ok (.iload_n 1, 1) := by decide +kernel
theorem dX1_search_88 : decode cX1_search 88 = .ok (.iload 6, 2) := by decide +kernel
theorem dX1_search_90 : decode cX1_search 90 = .ok (.iastore, 1) := by decide +kernel
theorem dX1_search_91 : decode cX1_search 91 = .ok (.iload 5, 2) := by decide +kernel
theorem dX1_search_93 : decode cX1_search 93 = .ok (.iload 7, 2) := by decide +kernel
theorem dX1_search_95 : decode cX1_search 95 = .ok (.iand, 1) := by decide +kernel
theorem dX1_search_96 : decode cX1_search 96 = .ok (.ifCond .eq 60, 3) := by decide +kernel
theorem dX1_search_99 : decode cX1_search 99 = .ok (.aload_n 0, 1) := by decide +kernel
theorem dX1_search_100 : decode cX1_search 100 = .ok (.iload 6, 2) := by decide +kernel
theorem dX1_search_102 : decode cX1_search 102 = .ok (.iload_n 2, 1) := by decide +kernel
theorem dX1_search_103 : decode cX1_search 103 = .ok (.invokevirtual 94, 3) := by decide +kernel
theorem dX1_search_106 : decode cX1_search 106 = .ok (.istore 8, 2) := by decide +kernel
theorem dX1_search_108 : decode cX1_search 108 = .ok (.aload_n 0, 1) := by decide +kernel
theorem dX1_search_109 : decode cX1_search 109 = .ok (.getfield 27, 3) := by decide +kernel
theorem dX1_search_112 : decode cX1_search 112 = .ok (.aload_n 0, 1) := by decide +kernel
theorem dX1_search_113 : decode cX1_search 113 = .ok (.getfield 27, 3) := by decide +kernel
theorem dX1_search_116 : decode cX1_search 116 = .ok (.getfield 77, 3) := by decide +kernel
theorem dX1_search_119 : decode cX1_search 119 = .ok (.invokevirtual 97, 3) := by decide +kernel
theorem dX1_search_122 : decode cX1_search 122 = .ok (.invokestatic 58, 3) := by decide +kernel
theorem dX1_search_125 : decode cX1_search 125 = .ok (.istore 9, 2) := by decide +kernel
theorem dX1_search_127 : decode cX1_search 127 = .ok (.aload_n 0, 1) := by decide +kernel
theorem dX1_search_128 : decode cX1_search 128 = .ok (.iload_n 1, 1) := by decide +kernel
theorem dX1_search_129 : decode cX1_search 129 = .ok (.iconst 1, 1) := by decide +kernel
theorem dX1_search_130 : decode cX1_search 130 = .ok (.iadd, 1) := by decide +kernel
theorem dX1_search_131 : decode cX1_search 131 = .ok (.iload 8, 2) := by decide +kernel
theorem dX1_search_133 : decode cX1_search 133 = .ok (.iload_n 3, 1) := by decide +kernel
theorem dX1_search_134 : decode cX1_search 134 = .ok (.iload 7, 2) := by decide +kernel
theorem dX1_search_136 : decode cX1_search 136 = .ok (.iconst (-1), 1) := by decide +kernel
theorem dX1_search_137 : decode cX1_search 137 = .ok (.ixor, 1) := by decide +kernel
theorem dX1_search_138 : decode cX1_search 138 = .ok (.iand, 1) := by decide +kernel
theorem dX1_search_139 : decode cX1_search 139 = .ok (.iload 9, 2) := by decide +kernel
theorem dX1_search_141 : decode cX1_search 141 = .ok (.invokevirtual 70, 3) := by decide +kernel
theorem dX1_search_144 : decode cX1_search 144 = .ok (.aload_n 0, 1) := by decide +kernel
theorem dX1_search_145 : decode cX1_search 145 = .ok (.getfield 27, 3) := by decide +kernel
theorem dX1_search_148 : decode cX1_search 148 = .ok (.iload 6, 2) := by decide +kernel
theorem dX1_search_150 : decode cX1_search 150 = .ok (.invokevirtual 100, 3) := by decide +kernel
theorem dX1_search_153 : decode cX1_search 153 = .ok (.goto 19, 3) := by decide +kernel
theorem dX1_search_156 : decode cX1_search 156 = .ok (.aload_n 0, 1) := by decide +kernel
theorem dX1_search_157 : decode cX1_search 157 = .ok (.iload_n 1, 1) := by decide +kernel
theorem dX1_search_158 : decode cX1_search 158 = .ok (.iconst 1, 1) := by decide +kernel
theorem dX1_search_159 : decode cX1_search 159 = .ok (.iadd, 1) := by decide +kernel
theorem dX1_search_160 : decode cX1_search 160 = .ok (.iload_n 2, 1) := by decide +kernel
theorem dX1_search_161 : decode cX1_search 161 = .ok (.iload_n 3, 1) := by decide +kernel
theorem dX1_search_162 : decode cX1_search 162 = .ok (.iload 7, 2) := by decide +kernel
theorem dX1_search_164 : decode cX1_search 164 = .ok (.iconst (-1), 1) := by decide +kernel
theorem dX1_search_165 : decode cX1_search 165 = .ok (.ixor, 1) := by decide +kernel
theorem dX1_search_166 : decode cX1_search 166 = .ok (.iand, 1) := by decide +kernel
theorem dX1_search_167 : decode cX1_search 167 = .ok (.iload 4, 2) := by decide +kernel
theorem dX1_search_169 : decode cX1_search 169 = .ok (.invokevirtual 70, 3) := by decide +kernel
theorem dX1_search_172 : decode cX1_search 172 = .ok (.iinc 6 1, 3) := by decide +kernel
theorem dX1_search_175 : decode cX1_search 175 = .ok (.goto (-123), 3) := by decide +kernel
theorem dX1_search_178 : decode cX1_search 178 = .ok (.return_, 1) := by decide +kernel
theorem dX1_fittingOf_0 : decode cX1_fittingOf 0 = .ok (.iconst 0, 1) := by decide +kernel
theorem dX1_fittingOf_1 : decode cX1_fittingOf 1 = .ok (.istore_n 3, 1) := by decide +kernel
theorem dX1_fittingOf_2 : decode cX1_fittingOf 2 = .ok (.iconst 0, 1) := by decide +kernel
theorem dX1_fittingOf_3 : decode cX1_fittingOf 3 = .ok (.istore 4, 2) := by decide +kernel
theorem dX1_fittingOf_5 : decode cX1_fittingOf 5 = .ok (.iload 4, 2) := by decide +kernel
theorem dX1_fittingOf_7 : decode cX1_fittingOf 7 = .ok (.aload_n 0, 1) := by decide +kernel
theorem dX1_fittingOf_8 : decode cX1_fittingOf 8 = .ok (.getfield 18, 3) := by decide +kernel
theorem dX1_fittingOf_11 : decode cX1_fittingOf 11 = .ok (.getfield 46, 3) := by decide +kernel
theorem dX1_fittingOf_14 : decode cX1_fittingOf 14 = .ok (.if_icmp .ge 38, 3) := by decide +kernel
theorem dX1_fittingOf_17 : decode cX1_fittingOf 17 = .ok (.iload_n 2, 1) := by decide +kernel
theorem dX1_fittingOf_18 : decode cX1_fittingOf 18 = .ok (.aload_n 0, 1) := by decide +kernel
theorem dX1_fittingOf_19 : decode cX1_fittingOf 19 = .ok (.getfield 18, 3) := by decide +kernel
theorem dX1_fittingOf_22 : decode cX1_fittingOf 22 = .ok (.getfield 103, 3) := by decide +kernel
theorem dX1_fittingOf_25 : decode cX1_fittingOf 25 = .ok (.iload 4, 2) := by decide +kernel
theorem dX1_fittingOf_27 : decode cX1_fittingOf 27 = .ok (.iaload, 1) := by decide +kernel
theorem dX1_fittingOf_28 : decode cX1_fittingOf 28 = .ok (.iadd, 1) := by decide +kernel
theorem dX1_fittingOf_29 : decode cX1_fittingOf 29 = .ok (.aload_n 0, 1) := by decide +kernel
theorem dX1_fittingOf_30 : decode cX1_fittingOf 30 = .ok (.getfield 18, 3) := by decide +kernel
theorem dX1_fittingOf_33 : decode cX1_fittingOf 33 = .ok (.getfield 106, 3) := by decide +kernel
theorem dX1_fittingOf_36 : decode cX1_fittingOf 36 = .ok (.if_icmp .gt 10, 3) := by decide +kernel
theorem dX1_fittingOf_39 : decode cX1_fittingOf 39 = .ok (.iload_n 3, 1) := by decide +kernel
theorem dX1_fittingOf_40 : decode cX1_fittingOf 40 = .ok (.iconst 1, 1) := by decide +kernel
theorem dX1_fittingOf_41 : decode cX1_fittingOf 41 = .ok (.iload 4, 2) := by decide +kernel
theorem dX1_fittingOf_43 : decode cX1_fittingOf 43 = .ok (.ishl, 1) := by decide +kernel
theorem dX1_fittingOf_44 : decode cX1_fittingOf 44 = .ok (.ior, 1) := by decide +kernel
theorem dX1_fittingOf_45 : decode cX1_fittingOf 45 = .ok (.istore_n 3, 1) := by decide +kernel
theorem dX1_fittingOf_46 : decode cX1_fittingOf 46 = .ok (.iinc 4 1, 3) := by decide +kernel
theorem dX1_fittingOf_49 : decode cX1_fittingOf 49 = .ok (.goto (-44), 3) := by decide +kernel
theorem dX1_fittingOf_52 : decode cX1_fittingOf 52 = .ok (.iload_n 3, 1) := by decide +kernel
theorem dX1_fittingOf_53 : decode cX1_fittingOf 53 = .ok (.iload_n 1, 1) := by decide +kernel
theorem dX1_fittingOf_54 : decode cX1_fittingOf 54 = .ok (.iand, 1) := by decide +kernel
theorem dX1_fittingOf_55 : decode cX1_fittingOf 55 = .ok (.ireturn, 1) := by decide +kernel
theorem dX1_settle_0 : decode cX1_settle 0 = .ok (.aload_n 0, 1) := by decide +kernel
theorem dX1_settle_1 : decode cX1_settle 1 = .ok (.iload_n 3, 1) := by decide +kernel
theorem dX1_settle_2 : decode cX1_settle 2 = .ok (.putfield 67, 3) := by decide +kernel
theorem dX1_settle_5 : decode cX1_settle 5 = .ok (.aload_n 0, 1) := by decide +kernel
theorem dX1_settle_6 : decode cX1_settle 6 = .ok (.getfield 9, 3) := by decide +kernel
theorem dX1_settle_9 : decode cX1_settle 9 = .ok (.iconst 0, 1) := by decide +kernel
theorem dX1_settle_10 : decode cX1_settle 10 = .ok (.aload_n 0, 1) := by decide +kernel
theorem dX1_settle_11 : decode cX1_settle 11 = .ok (.getfield 15, 3) := by decide +kernel
theorem dX1_settle_14 : decode cX1_settle 14 = .ok (.iconst 0, 1) := by decide +kernel
theorem dX1_settle_15 : decode cX1_settle 15 = .ok (.iload_n 1, 1) := by decide +kernel
theorem dX1_settle_16 : decode cX1_settle 16 = .ok (.bipush 7, 2) := by decide +kernel
theorem dX1_settle_18 : decode cX1_settle 18 = .ok (.invokestatic 109, 3) := by decide +kernel
theorem dX1_settle_21 : decode cX1_settle 21 = .ok (.invokestatic 114, 3) := by decide +kernel
theorem dX1_settle_24 : decode cX1_settle 24 = .ok (.iload_n 1, 1) := by decide +kernel
theorem dX1_settle_25 : decode cX1_settle 25 = .ok (.istore 4, 2) := by decide +kernel
theorem dX1_settle_27 : decode cX1_settle 27 = .ok (.iconst 0, 1) := by decide +kernel
theorem dX1_settle_28 : decode cX1_settle 28 = .ok (.istore 5, 2) := by decide +kernel
theorem dX1_settle_30 : decode cX1_settle 30 = .ok (.iload 5, 2) := by decide +kernel
theorem dX1_settle_32 : decode cX1_settle 32 = .ok (.aload_n 0, 1) := by decide +kernel
theorem dX1_settle_33 : decode cX1_settle 33 = .ok (.getfield 18, 3) := by decide +kernel
theorem dX1_settle_36 : decode cX1_settle 36 = .ok (.getfield 46, 3) := by decide +kernel
theorem dX1_settle_39 : decode cX1_settle 39 = .ok (.if_icmp .ge 38, 3) := by decide +kernel
theorem dX1_settle_42 : decode cX1_settle 42 = .ok (.iload 4, 2) := by decide +kernel
theorem dX1_settle_44 : decode cX1_settle 44 = .ok (.bipush 7, 2) := by decide +kernel
theorem dX1_settle_46 : decode cX1_settle 46 = .ok (.if_icmp .ge 31, 3) := by decide +kernel
theorem dX1_settle_49 : decode cX1_settle 49 = .ok (.iload_n 2, 1) := by decide +kernel
theorem dX1_settle_50 : decode cX1_settle 50 = .ok (.iload 5, 2) := by decide +kernel
theorem dX1_settle_52 : decode cX1_settle 52 = .ok (.ishr, 1) := by decide +kernel
theorem dX1_settle_53 : decode cX1_settle 53 = .ok (.iconst 1, 1) := by decide +kernel
theorem dX1_settle_54 : decode cX1_settle 54 = .ok (.iand, 1) := by decide +kernel
theorem dX1_settle_55 : decode cX1_settle 55 = .ok (.iconst 1, 1) := by decide +kernel
theorem dX1_settle_56 : decode cX1_settle 56 = .ok (.if_icmp .ne 15, 3) := by decide +kernel
theorem dX1_settle_59 : decode cX1_settle 59 = .ok (.aload_n 0, 1) := by decide +kernel
theorem dX1_settle_60 : decode cX1_settle 60 = .ok (.getfield 15, 3) := by decide +kernel
theorem dX1_settle_63 : decode cX1_settle 63 = .ok (.iload 4, 2) := by decide +kernel
theorem dX1_settle_65 : decode cX1_settle 65 = .ok (.iload 5, 2) := by decide +kernel
theorem dX1_settle_67 : decode cX1_settle 67 = .ok (.iastore, 1) := by decide +kernel
theorem dX1_settle_68 : decode cX1_settle 68 = .ok (.iinc 4 1, 3) := by decide +kernel
theorem dX1_settle_71 : decode cX1_settle 71 = .ok (.iinc 5 1, 3) := by decide +kernel
theorem dX1_settle_74 : decode cX1_settle 74 = .ok (.goto (-44), 3) := by decide +kernel
theorem dX1_settle_77 : decode cX1_settle 77 = .ok (.return_, 1) := by decide +kernel
theorem dX1_putLookingIn_0 : decode cX1_putLookingIn 0 = .ok (.aload_n 0, 1) := by decide +kernel
theorem dX1_putLookingIn_1 : decode cX1_putLookingIn 1 = .ok (.getfield 18, 3) := by decide +kernel
theorem dX1_putLookingIn_4 : decode cX1_putLookingIn 4 = .ok (.iload_n 1, 1) := by decide +kernel
theorem dX1_putLookingIn_5 : decode cX1_putLookingIn 5 = .ok (.iload_n 2, 1) := by decide +kernel
theorem dX1_putLookingIn_6 : decode cX1_putLookingIn 6 = .ok (.invokevirtual 120, 3) := by decide +kernel
theorem dX1_putLookingIn_9 : decode cX1_putLookingIn 9 = .ok (.iconst 1, 1) := by decide +kernel
theorem dX1_putLookingIn_10 : decode cX1_putLookingIn 10 = .ok (.if_icmp .ne 7, 3) := by decide +kernel
theorem dX1_putLookingIn_13 : decode cX1_putLookingIn 13 = .ok (.iconst 1, 1) := by decide +kernel
theorem dX1_putLookingIn_14 : decode cX1_putLookingIn 14 = .ok (.goto 4, 3) := by decide +kernel
theorem dX1_putLookingIn_17 : decode cX1_putLookingIn 17 = .ok (.iconst 0, 1) := by decide +kernel
theorem dX1_putLookingIn_18 : decode cX1_putLookingIn 18 = .ok (.istore_n 3, 1) := by decide +kernel
theorem dX1_putLookingIn_19 : decode cX1_putLookingIn 19 = .ok (.aload_n 0, 1) := by decide +kernel
theorem dX1_putLookingIn_20 : decode cX1_putLookingIn 20 = .ok (.getfield 27, 3) := by decide +kernel
theorem dX1_putLookingIn_23 : decode cX1_putLookingIn 23 = .ok (.iload_n 1, 1) := by decide +kernel
theorem dX1_putLookingIn_24 : decode cX1_putLookingIn 24 = .ok (.iload_n 2, 1) := by decide +kernel
theorem dX1_putLookingIn_25 : decode cX1_putLookingIn 25 = .ok (.iload_n 3, 1) := by decide +kernel
theorem dX1_putLookingIn_26 : decode cX1_putLookingIn 26 = .ok (.invokevirtual 123, 3) := by decide +kernel
theorem dX1_putLookingIn_29 : decode cX1_putLookingIn 29 = .ok (.iload_n 2, 1) := by decide +kernel
theorem dX1_putLookingIn_30 : decode cX1_putLookingIn 30 = .ok (.aload_n 0, 1) := by decide +kernel
theorem dX1_putLookingIn_31 : decode cX1_putLookingIn 31 = .ok (.getfield 18, 3) := by decide +kernel
theorem dX1_putLookingIn_34 : decode cX1_putLookingIn 34 = .ok (.getfield 103, 3) := by decide +kernel
theorem dX1_putLookingIn_37 : decode cX1_putLookingIn 37 = .ok (.iload_n 1, 1) := by decide +kernel
theorem dX1_putLookingIn_38 : decode cX1_putLookingIn 38 = .ok (.iaload, 1) := by decide +kernel
theorem dX1_putLookingIn_39 : decode cX1_putLookingIn 39 = .ok (.iadd, 1) := by decide +kernel
theorem dX1_putLookingIn_40 : decode cX1_putLookingIn 40 = .ok (.ireturn, 1) := by decide +kernel
theorem dX1_putIfRoom_0 : decode cX1_putIfRoom 0 = .ok (.iload_n 2, 1) := by decide +kernel
theorem dX1_putIfRoom_1 : decode cX1_putIfRoom 1 = .ok (.aload_n 0, 1) := by decide +kernel
theorem dX1_putIfRoom_2 : decode cX1_putIfRoom 2 = .ok (.getfield 18, 3) := by decide +kernel
theorem dX1_putIfRoom_5 : decode cX1_putIfRoom 5 = .ok (.getfield 103, 3) := by decide +kernel
theorem dX1_putIfRoom_8 : decode cX1_putIfRoom 8 = .ok (.iload_n 1, 1) := by decide +kernel
theorem dX1_putIfRoom_9 : decode cX1_putIfRoom 9 = .ok (.iaload, 1) := by decide +kernel
theorem dX1_putIfRoom_10 : decode cX1_putIfRoom 10 = .ok (.iadd, 1) := by decide +kernel
theorem dX1_putIfRoom_11 : decode cX1_putIfRoom 11 = .ok (.aload_n 0, 1) := by decide +kernel
theorem dX1_putIfRoom_12 : decode cX1_putIfRoom 12 = .ok (.getfield 18, 3) := by decide +kernel
theorem dX1_putIfRoom_15 : decode cX1_putIfRoom 15 = .ok (.getfield 106, 3) := by decide +kernel
theorem dX1_putIfRoom_18 : decode cX1_putIfRoom 18 = .ok (.if_icmp .gt 12, 3) := by decide +kernel
theorem dX1_putIfRoom_21 : decode cX1_putIfRoom 21 = .ok (.aload_n 0, 1) := by decide +kernel
theorem dX1_putIfRoom_22 : decode cX1_putIfRoom 22 = .ok (.iload_n 1, 1) := by decide +kernel
theorem dX1_putIfRoom_23 : decode cX1_putIfRoom 23 = .ok (.iload_n 2, 1) := by decide +kernel
theorem dX1_putIfRoom_24 : decode cX1_putIfRoom 24 = .ok (.invokevirtual 94, 3) := by decide +kernel
theorem dX1_putIfRoom_27 : decode cX1_putIfRoom 27 = .ok (.goto 4, 3) := by decide +kernel
theorem dX1_putIfRoom_30 : decode cX1_putIfRoom 30 = .ok (.iload_n 2, 1) := by decide +kernel
theorem dX1_putIfRoom_31 : decode cX1_putIfRoom 31 = .ok (.ireturn, 1) := by decide +kernel
theorem dX1_countByNumber_0 : decode cX1_countByNumber 0 = .ok (.aload_n 0, 1) := by decide +kernel
theorem dX1_countByNumber_1 : decode cX1_countByNumber 1 = .ok (.iload_n 2, 1) := by decide +kernel
theorem dX1_countByNumber_2 : decode cX1_countByNumber 2 = .ok (.invokevirtual 42, 3) := by decide +kernel
theorem dX1_countByNumber_5 : decode cX1_countByNumber 5 = .ok (.iconst 0, 1) := by decide +kernel
theorem dX1_countByNumber_6 : decode cX1_countByNumber 6 = .ok (.istore_n 3, 1) := by decide +kernel
theorem dX1_countByNumber_7 : decode cX1_countByNumber 7 = .ok (.iconst 0, 1) := by decide +kernel
theorem dX1_countByNumber_8 : decode cX1_countByNumber 8 = .ok (.istore 4, 2) := by decide +kernel
theorem dX1_countByNumber_10 : decode cX1_countByNumber 10 = .ok (.iload 4, 2) := by decide +kernel
theorem dX1_countByNumber_12 : decode cX1_countByNumber 12 = .ok (.aload_n 0, 1) := by decide +kernel
theorem dX1_countByNumber_13 : decode cX1_countByNumber 13 = .ok (.getfield 18, 3) := by decide +kernel
theorem dX1_countByNumber_16 : decode cX1_countByNumber 16 = .ok (.getfield 46, 3) := by decide +kernel
theorem dX1_countByNumber_19 : decode cX1_countByNumber 19 = .ok (.if_icmp .ge 26, 3) := by decide +kernel
theorem dX1_countByNumber_22 : decode cX1_countByNumber 22 = .ok (.iload_n 1, 1) := by decide +kernel
theorem dX1_countByNumber_23 : decode cX1_countByNumber 23 = .ok (.iload 4, 2) := by decide +kernel
theorem dX1_countByNumber_25 : decode cX1_countByNumber 25 = .ok (.ishr, 1) := by decide +kernel
theorem dX1_countByNumber_26 : decode cX1_countByNumber 26 = .ok (.iconst 1, 1) := by decide +kernel
theorem dX1_countByNumber_27 : decode cX1_countByNumber 27 = .ok (.iand, 1) := by decide +kernel
theorem dX1_countByNumber_28 : decode cX1_countByNumber 28 = .ok (.ifCond .ne 11, 3) := by decide +kernel
theorem dX1_countByNumber_31 : decode cX1_countByNumber 31 = .ok (.aload_n 0, 1) := by decide +kernel
theorem dX1_countByNumber_32 : decode cX1_countByNumber 32 = .ok (.iload 4, 2) := by decide +kernel
theorem dX1_countByNumber_34 : decode cX1_countByNumber 34 = .ok (.iload_n 3, 1) := by decide +kernel
theorem dX1_countByNumber_35 : decode cX1_countByNumber 35 = .ok (.invokevirtual 126, 3) := by decide +kernel
theorem dX1_countByNumber_38 : decode cX1_countByNumber 38 = .ok (.istore_n 3, 1) := by decide +kernel
theorem dX1_countByNumber_39 : decode cX1_countByNumber 39 = .ok (.iinc 4 1, 3) := by decide +kernel
theorem dX1_countByNumber_42 : decode cX1_countByNumber 42 = .ok (.goto (-32), 3) := by decide +kernel
theorem dX1_countByNumber_45 : decode cX1_countByNumber 45 = .ok (.aload_n 0, 1) := by decide +kernel
theorem dX1_countByNumber_46 : decode cX1_countByNumber 46 = .ok (.getfield 27, 3) := by decide +kernel
theorem dX1_countByNumber_49 : decode cX1_countByNumber 49 = .ok (.invokevirtual 129, 3) := by decide +kernel
theorem dX1_countByNumber_52 : decode cX1_countByNumber 52 = .ok (.ireturn, 1) := by decide +kernel
theorem dX1_countByHeight_0 : decode cX1_countByHeight 0 = .ok (.aload_n 0, 1) := by decide +kernel
theorem dX1_countByHeight_1 : decode cX1_countByHeight 1 = .ok (.iload_n 2, 1) := by decide +kernel
theorem dX1_countByHeight_2 : decode cX1_countByHeight 2 = .ok (.invokevirtual 42, 3) := by decide +kernel
theorem dX1_countByHeight_5 : decode cX1_countByHeight 5 = .ok (.iconst 0, 1) := by decide +kernel
theorem dX1_countByHeight_6 : decode cX1_countByHeight 6 = .ok (.istore_n 3, 1) := by decide +kernel
theorem dX1_countByHeight_7 : decode cX1_countByHeight 7 = .ok (.bipush 9, 2) := by decide +kernel
theorem dX1_countByHeight_9 : decode cX1_countByHeight 9 = .ok (.istore 4, 2) := by decide +kernel
theorem dX1_countByHeight_11 : decode cX1_countByHeight 11 = .ok (.iload 4, 2) := by decide +kernel
theorem dX1_countByHeight_13 : decode cX1_countByHeight 13 = .ok (.iconst 1, 1) := by decide +kernel
theorem dX1_countByHeight_14 : decode cX1_countByHeight 14 = .ok (.if_icmp .lt 62, 3) := by decide +kernel
theorem dX1_countByHeight_17 : decode cX1_countByHeight 17 = .ok (.iconst 0, 1) := by decide +kernel
theorem dX1_countByHeight_18 : decode cX1_countByHeight 18 = .ok (.istore 5, 2) := by decide +kernel
theorem dX1_countByHeight_20 : decode cX1_countByHeight 20 = .ok (.iload 5, 2) := by decide +kernel
theorem dX1_countByHeight_22 : decode cX1_countByHeight 22 = .ok (.aload_n 0, 1) := by decide +kernel
theorem dX1_countByHeight_23 : decode cX1_countByHeight 23 = .ok (.getfield 18, 3) := by decide +kernel
theorem dX1_countByHeight_26 : decode cX1_countByHeight 26 = .ok (.getfield 46, 3) := by decide +kernel
theorem dX1_countByHeight_29 : decode cX1_countByHeight 29 = .ok (.if_icmp .ge 41, 3) := by decide +kernel
theorem dX1_countByHeight_32 : decode cX1_countByHeight 32 = .ok (.aload_n 0, 1) := by decide +kernel
theorem dX1_countByHeight_33 : decode cX1_countByHeight 33 = .ok (.getfield 18, 3) := by decide +kernel
theorem dX1_countByHeight_36 : decode cX1_countByHeight 36 = .ok (.getfield 133, 3) := by decide +kernel
theorem dX1_countByHeight_39 : decode cX1_countByHeight 39 = .ok (.iload 5, 2) := by decide +kernel
theorem dX1_countByHeight_41 : decode cX1_countByHeight 41 = .ok (.iaload, 1) := by decide +kernel
theorem dX1_countByHeight_42 : decode cX1_countByHeight 42 = .ok (.iload 4, 2) := by decide +kernel
theorem dX1_countByHeight_44 : decode cX1_countByHeight 44 = .ok (.if_icmp .ne 20, 3) := by decide +kernel
theorem dX1_countByHeight_47 : decode cX1_countByHeight 47 = .ok (.iload_n 1, 1) := by decide +kernel
theorem dX1_countByHeight_48 : decode cX1_countByHeight 48 = .ok (.iload 5, 2) := by decide +kernel
theorem dX1_countByHeight_50 : decode cX1_countByHeight 50 = .ok (.ishr, 1) := by decide +kernel
theorem dX1_countByHeight_51 : decode cX1_countByHeight 51 = .ok (.iconst 1, 1) := by decide +kernel
theorem dX1_countByHeight_52 : decode cX1_countByHeight 52 = .ok (.iand, 1) := by decide +kernel
theorem dX1_countByHeight_53 : decode cX1_countByHeight 53 = .ok (.ifCond .ne 11, 3) := by decide +kernel
theorem dX1_countByHeight_56 : decode cX1_countByHeight 56 = .ok (.aload_n 0, 1) := by decide +kernel
theorem dX1_countByHeight_57 : decode cX1_countByHeight 57 = .ok (.iload 5, 2) := by decide +kernel
theorem dX1_countByHeight_59 : decode cX1_countByHeight 59 = .ok (.iload_n 3, 1) := by decide +kernel
theorem dX1_countByHeight_60 : decode cX1_countByHeight 60 = .ok (.invokevirtual 126, 3) := by decide +kernel
theorem dX1_countByHeight_63 : decode cX1_countByHeight 63 = .ok (.istore_n 3, 1) := by decide +kernel
theorem dX1_countByHeight_64 : decode cX1_countByHeight 64 = .ok (.iinc 5 1, 3) := by decide +kernel
theorem dX1_countByHeight_67 : decode cX1_countByHeight 67 = .ok (.goto (-47), 3) := by decide +kernel
theorem dX1_countByHeight_70 : decode cX1_countByHeight 70 = .ok (.iinc 4 (-1), 3) := by decide +kernel
theorem dX1_countByHeight_73 : decode cX1_countByHeight 73 = .ok (.goto (-62), 3) := by decide +kernel
theorem dX1_countByHeight_76 : decode cX1_countByHeight 76 = .ok (.aload_n 0, 1) := by decide +kernel
theorem dX1_countByHeight_77 : decode cX1_countByHeight 77 = .ok (.getfield 27, 3) := by decide +kernel
theorem dX1_countByHeight_80 : decode cX1_countByHeight 80 = .ok (.invokevirtual 129, 3) := by decide +kernel
theorem dX1_countByHeight_83 : decode cX1_countByHeight 83 = .ok (.ireturn, 1) := by decide +kernel
theorem dX2_init_0 : decode cX2_init 0 = .ok (.aload_n 0, 1) := by decide +kernel
theorem dX2_init_1 : decode cX2_init 1 = .ok (.invokespecial 3, 3) := by decide +kernel
theorem dX2_init_4 : decode cX2_init 4 = .ok (.aload_n 0, 1) := by decide +kernel
theorem dX2_init_5 : decode cX2_init 5 = .ok (.bipush 7, 2) := by decide +kernel
theorem dX2_init_7 : decode cX2_init 7 = .ok (.newarray .int, 2) := by decide +kernel
theorem dX2_init_9 : decode cX2_init 9 = .ok (.putfield 9, 3) := by decide +kernel
theorem dX2_init_12 : decode cX2_init 12 = .ok (.aload_n 0, 1) := by decide +kernel
theorem dX2_init_13 : decode cX2_init 13 = .ok (.bipush 7, 2) := by decide +kernel
theorem dX2_init_15 : decode cX2_init 15 = .ok (.newarray .int, 2) := by decide +kernel
theorem dX2_init_17 : decode cX2_init 17 = .ok (.putfield 15, 3) := by decide +kernel
theorem dX2_init_20 : decode cX2_init 20 = .ok (.aload_n 0, 1) := by decide +kernel
theorem dX2_init_21 : decode cX2_init 21 = .ok (.bipush 7, 2) := by decide +kernel
theorem dX2_init_23 : decode cX2_init 23 = .ok (.newarray .int, 2) := by decide +kernel
theorem dX2_init_25 : decode cX2_init 25 = .ok (.putfield 18, 3) := by decide +kernel
theorem dX2_init_28 : decode cX2_init 28 = .ok (.aload_n 0, 1) := by decide +kernel
theorem dX2_init_29 : decode cX2_init 29 = .ok (.aload_n 1, 1) := by decide +kernel
theorem dX2_init_30 : decode cX2_init 30 = .ok (.putfield 21, 3) := by decide +kernel
theorem dX2_init_33 : decode cX2_init 33 = .ok (.return_, 1) := by decide +kernel
theorem dX2_copyFrom_0 : decode cX2_copyFrom 0 = .ok (.aload_n 1, 1) := by decide +kernel
theorem dX2_copyFrom_1 : decode cX2_copyFrom 1 = .ok (.getfield 9, 3) := by decide +kernel
theorem dX2_copyFrom_4 : decode cX2_copyFrom 4 = .ok (.iconst 0, 1) := by decide +kernel
theorem dX2_copyFrom_5 : decode cX2_copyFrom 5 = .ok (.aload_n 0, 1) := by decide +kernel
theorem dX2_copyFrom_6 : decode cX2_copyFrom 6 = .ok (.getfield 9, 3) := by decide +kernel
theorem dX2_copyFrom_9 : decode cX2_copyFrom 9 = .ok (.iconst 0, 1) := by decide +kernel
theorem dX2_copyFrom_10 : decode cX2_copyFrom 10 = .ok (.bipush 7, 2) := by decide +kernel
theorem dX2_copyFrom_12 : decode cX2_copyFrom 12 = .ok (.invokestatic 25, 3) := by decide +kernel
theorem dX2_copyFrom_15 : decode cX2_copyFrom 15 = .ok (.aload_n 1, 1) := by decide +kernel
theorem dX2_copyFrom_16 : decode cX2_copyFrom 16 = .ok (.getfield 15, 3) := by decide +kernel
theorem dX2_copyFrom_19 : decode cX2_copyFrom 19 = .ok (.iconst 0, 1) := by decide +kernel
theorem dX2_copyFrom_20 : decode cX2_copyFrom 20 = .ok (.aload_n 0, 1) := by decide +kernel
theorem dX2_copyFrom_21 : decode cX2_copyFrom 21 = .ok (.getfield 15, 3) := by decide +kernel
theorem dX2_copyFrom_24 : decode cX2_copyFrom 24 = .ok (.iconst 0, 1) := by decide +kernel
theorem dX2_copyFrom_25 : decode cX2_copyFrom 25 = .ok (.bipush 7, 2) := by decide +kernel
theorem dX2_copyFrom_27 : decode cX2_copyFrom 27 = .ok (.invokestatic 25, 3) := by decide +kernel
theorem dX2_copyFrom_30 : decode cX2_copyFrom 30 = .ok (.aload_n 1, 1) := by decide +kernel
theorem dX2_copyFrom_31 : decode cX2_copyFrom 31 = .ok (.getfield 18, 3) := by decide +kernel
theorem dX2_copyFrom_34 : decode cX2_copyFrom 34 = .ok (.iconst 0, 1) := by decide +kernel
theorem dX2_copyFrom_35 : decode cX2_copyFrom 35 = .ok (.aload_n 0, 1) := by decide +kernel
theorem dX2_copyFrom_36 : decode cX2_copyFrom 36 = .ok (.getfield 18, 3) := by decide +kernel
theorem dX2_copyFrom_39 : decode cX2_copyFrom 39 = .ok (.iconst 0, 1) := by decide +kernel
theorem dX2_copyFrom_40 : decode cX2_copyFrom 40 = .ok (.bipush 7, 2) := by decide +kernel
theorem dX2_copyFrom_42 : decode cX2_copyFrom 42 = .ok (.invokestatic 25, 3) := by decide +kernel
theorem dX2_copyFrom_45 : decode cX2_copyFrom 45 = .ok (.aload_n 0, 1) := by decide +kernel
theorem dX2_copyFrom_46 : decode cX2_copyFrom 46 = .ok (.aload_n 1, 1) := by decide +kernel
theorem dX2_copyFrom_47 : decode cX2_copyFrom 47 = .ok (.getfield 31, 3) := by decide +kernel
theorem dX2_copyFrom_50 : decode cX2_copyFrom 50 = .ok (.putfield 31, 3) := by decide +kernel
theorem dX2_copyFrom_53 : decode cX2_copyFrom 53 = .ok (.aload_n 0, 1) := by decide +kernel
theorem dX2_copyFrom_54 : decode cX2_copyFrom 54 = .ok (.aload_n 1, 1) := by decide +kernel
theorem dX2_copyFrom_55 : decode cX2_copyFrom 55 = .ok (.getfield 35, 3) := by decide +kernel
theorem dX2_copyFrom_58 : decode cX2_copyFrom 58 = .ok (.putfield 35, 3) := by decide +kernel
theorem dX2_copyFrom_61 : decode cX2_copyFrom 61 = .ok (.return_, 1) := by decide +kernel
theorem dX2_stand_0 : decode cX2_stand 0 = .ok (.aload_n 0, 1) := by decide +kernel
theorem dX2_stand_1 : decode cX2_stand 1 = .ok (.getfield 9, 3) := by decide +kernel
theorem dX2_stand_4 : decode cX2_stand 4 = .ok (.iload_n 1, 1) := by decide +kernel
theorem dX2_stand_5 : decode cX2_stand 5 = .ok (.iload_n 2, 1) := by decide +kernel
theorem dX2_stand_6 : decode cX2_stand 6 = .ok (.iastore, 1) := by decide +kernel
theorem dX2_stand_7 : decode cX2_stand 7 = .ok (.aload_n 0, 1) := by decide +kernel
theorem dX2_stand_8 : decode cX2_stand 8 = .ok (.getfield 15, 3) := by decide +kernel
theorem dX2_stand_11 : decode cX2_stand 11 = .ok (.iload_n 1, 1) := by decide +kernel
theorem dX2_stand_12 : decode cX2_stand 12 = .ok (.iload_n 3, 1) := by decide +kernel
theorem dX2_stand_13 : decode cX2_stand 13 = .ok (.iastore, 1) := by decide +kernel
theorem dX2_stand_14 : decode cX2_stand 14 = .ok (.aload_n 0, 1) := by decide +kernel
theorem dX2_stand_15 : decode cX2_stand 15 = .ok (.getfield 18, 3) := by decide +kernel
theorem dX2_stand_18 : decode cX2_stand 18 = .ok (.iload_n 1, 1) := by decide +kernel
theorem dX2_stand_19 : decode cX2_stand 19 = .ok (.aload_n 0, 1) := by decide +kernel
theorem dX2_stand_20 : decode cX2_stand 20 = .ok (.getfield 21, 3) := by decide +kernel
theorem dX2_stand_23 : decode cX2_stand 23 = .ok (.iload_n 1, 1) := by decide +kernel
theorem dX2_stand_24 : decode cX2_stand 24 = .ok (.iload_n 2, 1) := by decide +kernel
theorem dX2_stand_25 : decode cX2_stand 25 = .ok (.invokevirtual 38, 3) := by decide +kernel
theorem dX2_stand_28 : decode cX2_stand 28 = .ok (.iastore, 1) := by decide +kernel
theorem dX2_stand_29 : decode cX2_stand 29 = .ok (.return_, 1) := by decide +kernel
theorem dX2_leave_0 : decode cX2_leave 0 = .ok (.aload_n 0, 1) := by decide +kernel
theorem dX2_leave_1 : decode cX2_leave 1 = .ok (.getfield 9, 3) := by decide +kernel
theorem dX2_leave_4 : decode cX2_leave 4 = .ok (.iload_n 1, 1) := by decide +kernel
theorem dX2_leave_5 : decode cX2_leave 5 = .ok (.iconst (-1), 1) := by decide +kernel
theorem dX2_leave_6 : decode cX2_leave 6 = .ok (.iastore, 1) := by decide +kernel
theorem dX2_leave_7 : decode cX2_leave 7 = .ok (.aload_n 0, 1) := by decide +kernel
theorem dX2_leave_8 : decode cX2_leave 8 = .ok (.getfield 15, 3) := by decide +kernel
theorem dX2_leave_11 : decode cX2_leave 11 = .ok (.iload_n 1, 1) := by decide +kernel
theorem dX2_leave_12 : decode cX2_leave 12 = .ok (.iconst 0, 1) := by decide +kernel
theorem dX2_leave_13 : decode cX2_leave 13 = .ok (.iastore, 1) := by decide +kernel
theorem dX2_leave_14 : decode cX2_leave 14 = .ok (.aload_n 0, 1) := by decide +kernel
theorem dX2_leave_15 : decode cX2_leave 15 = .ok (.getfield 18, 3) := by decide +kernel
theorem dX2_leave_18 : decode cX2_leave 18 = .ok (.iload_n 1, 1) := by decide +kernel
theorem dX2_leave_19 : decode cX2_leave 19 = .ok (.iconst 0, 1) := by decide +kernel
theorem dX2_leave_20 : decode cX2_leave 20 = .ok (.iastore, 1) := by decide +kernel
theorem dX2_leave_21 : decode cX2_leave 21 = .ok (.return_, 1) := by decide +kernel
theorem dX2_leaveAll_0 : decode cX2_leaveAll 0 = .ok (.iconst 0, 1) := by decide +kernel
theorem dX2_leaveAll_1 : decode cX2_leaveAll 1 = .ok (.istore_n 1, 1) := by decide +kernel
theorem dX2_leaveAll_2 : decode cX2_leaveAll 2 = .ok (.iload_n 1, 1) := by decide +kernel
theorem dX2_leaveAll_3 : decode cX2_leaveAll 3 = .ok (.bipush 7, 2) := by decide +kernel
theorem dX2_leaveAll_5 : decode cX2_leaveAll 5 = .ok (.if_icmp .ge 14, 3) := by decide +kernel
theorem dX2_leaveAll_8 : decode cX2_leaveAll 8 = .ok (.aload_n 0, 1) := by decide +kernel
theorem dX2_leaveAll_9 : decode cX2_leaveAll 9 = .ok (.iload_n 1, 1) := by decide +kernel
theorem dX2_leaveAll_10 : decode cX2_leaveAll 10 = .ok (.invokevirtual 44, 3) := by decide +kernel
theorem dX2_leaveAll_13 : decode cX2_leaveAll 13 = .ok (.iinc 1 1, 3) := by decide +kernel
theorem dX2_leaveAll_16 : decode cX2_leaveAll 16 = .ok (.goto (-14), 3) := by decide +kernel
theorem dX2_leaveAll_19 : decode cX2_leaveAll 19 = .ok (.return_, 1) := by decide +kernel
theorem dX2_isIn_0 : decode cX2_isIn 0 = .ok (.aload_n 0, 1) := by decide +kernel
theorem dX2_isIn_1 : decode cX2_isIn 1 = .ok (.getfield 18, 3) := by decide +kernel
theorem dX2_isIn_4 : decode cX2_isIn 4 = .ok (.iload_n 1, 1) := by decide +kernel
theorem dX2_isIn_5 : decode cX2_isIn 5 = .ok (.iaload, 1) := by decide +kernel
theorem dX2_isIn_6 : decode cX2_isIn 6 = .ok (.ifCond .eq 7, 3) := by decide +kernel
theorem dX2_isIn_9 : decode cX2_isIn 9 = .ok (.iconst 1, 1) := by decide +kernel
theorem dX2_isIn_10 : decode cX2_isIn 10 = .ok (.goto 4, 3) := by decide +kernel
theorem dX2_isIn_13 : decode cX2_isIn 13 = .ok (.iconst 0, 1) := by decide +kernel
theorem dX2_isIn_14 : decode cX2_isIn 14 = .ok (.ireturn, 1) := by decide +kernel
theorem dX2_isWashed_0 : decode cX2_isWashed 0 = .ok (.aload_n 0, 1) := by decide +kernel
theorem dX2_isWashed_1 : decode cX2_isWashed 1 = .ok (.getfield 31, 3) := by decide +kernel
theorem dX2_isWashed_4 : decode cX2_isWashed 4 = .ok (.iload_n 1, 1) := by decide +kernel
theorem dX2_isWashed_5 : decode cX2_isWashed 5 = .ok (.ishr, 1) := by decide +kernel
theorem dX2_isWashed_6 : decode cX2_isWashed 6 = .ok (.iconst 1, 1) := by decide +kernel
theorem dX2_isWashed_7 : decode cX2_isWashed 7 = .ok (.iand, 1) := by decide +kernel
theorem dX2_isWashed_8 : decode cX2_isWashed 8 = .ok (.iconst 1, 1) := by decide +kernel
theorem dX2_isWashed_9 : decode cX2_isWashed 9 = .ok (.if_icmp .ne 7, 3) := by decide +kernel
theorem dX2_isWashed_12 : decode cX2_isWashed 12 = .ok (.iconst 1, 1) := by decide +kernel
theorem dX2_isWashed_13 : decode cX2_isWashed 13 = .ok (.goto 4, 3) := by decide +kernel
theorem dX2_isWashed_16 : decode cX2_isWashed 16 = .ok (.iconst 0, 1) := by decide +kernel
theorem dX2_isWashed_17 : decode cX2_isWashed 17 = .ok (.ireturn, 1) := by decide +kernel
theorem dX2_inBits_0 : decode cX2_inBits 0 = .ok (.iconst 0, 1) := by decide +kernel
theorem dX2_inBits_1 : decode cX2_inBits 1 = .ok (.istore_n 1, 1) := by decide +kernel
theorem dX2_inBits_2 : decode cX2_inBits 2 = .ok (.iconst 0, 1) := by decide +kernel
theorem dX2_inBits_3 : decode cX2_inBits 3 = .ok (.istore_n 2, 1) := by decide +kernel
theorem dX2_inBits_4 : decode cX2_inBits 4 = .ok (.iload_n 2, 1) := by decide +kernel
theorem dX2_inBits_5 : decode cX2_inBits 5 = .ok (.aload_n 0, 1) := by decide +kernel
theorem dX2_inBits_6 : decode cX2_inBits 6 = .ok (.getfield 21, 3) := by decide +kernel
theorem dX2_inBits_9 : decode cX2_inBits 9 = .ok (.getfield 48, 3) := by decide +kernel
theorem dX2_inBits_12 : decode cX2_inBits 12 = .ok (.if_icmp .ge 23, 3) := by decide +kernel
theorem dX2_inBits_15 : decode cX2_inBits 15 = .ok (.aload_n 0, 1) := by decide +kernel
theorem dX2_inBits_16 : decode cX2_inBits 16 = .ok (.iload_n 2, 1) := by decide +kernel
theorem dX2_inBits_17 : decode cX2_inBits 17 = .ok (.invokevirtual 51, 3) := by decide +kernel
theorem dX2_inBits_20 : decode cX2_inBits 20 = .ok (.ifCond .eq 9, 3) := by decide +kernel
theorem dX2_inBits_23 : decode cX2_inBits 23 = .ok (.iload_n 1, 1) := by decide +kernel
theorem dX2_inBits_24 : decode cX2_inBits 24 = .ok (.iconst 1, 1) := by decide +kernel
theorem dX2_inBits_25 : decode cX2_inBits 25 = .ok (.iload_n 2, 1) := by decide +kernel
theorem dX2_inBits_26 : decode cX2_inBits 26 = .ok (.ishl, 1) := by decide +kernel
theorem dX2_inBits_27 : decode cX2_inBits 27 = .ok (.ior, 1) := by decide +kernel
theorem dX2_inBits_28 : decode cX2_inBits 28 = .ok (.istore_n 1, 1) := by decide +kernel
theorem dX2_inBits_29 : decode cX2_inBits 29 = .ok (.iinc 2 1, 3) := by decide +kernel
theorem dX2_inBits_32 : decode cX2_inBits 32 = .ok (.goto (-28), 3) := by decide +kernel
theorem dX2_inBits_35 : decode cX2_inBits 35 = .ok (.iload_n 1, 1) := by decide +kernel
