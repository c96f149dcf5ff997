theorem dX5_init_0 : decode cX5_init 0 = .ok (.aload_n 0, 1) := by decide +kernel
theorem dX5_init_1 : decode cX5_init 1 = .ok (.invokespecial 1, 3) := by decide +kernel
theorem dX5_init_4 : decode cX5_init 4 = .ok (.aload_n 0, 1) := by decide +kernel
theorem dX5_init_5 : decode cX5_init 5 = .ok (.sipush 200, 3) := by decide +kernel
theorem dX5_init_8 : decode cX5_init 8 = .ok (.newarray .int, 2) := by decide +kernel
theorem dX5_init_10 : decode cX5_init 10 = .ok (.putfield 9, 3) := by decide +kernel
theorem dX5_init_13 : decode cX5_init 13 = .ok (.aload_n 0, 1) := by decide +kernel
theorem dX5_init_14 : decode cX5_init 14 = .ok (.new 13, 3) := by decide +kernel
theorem dX5_init_17 : decode cX5_init 17 = .ok (.dup, 1) := by decide +kernel
theorem dX5_init_18 : decode cX5_init 18 = .ok (.invokespecial 15, 3) := by decide +kernel
theorem dX5_init_21 : decode cX5_init 21 = .ok (.putfield 16, 3) := by decide +kernel
theorem dX5_init_24 : decode cX5_init 24 = .ok (.aload_n 0, 1) := by decide +kernel
theorem dX5_init_25 : decode cX5_init 25 = .ok (.new 20, 3) := by decide +kernel
theorem dX5_init_28 : decode cX5_init 28 = .ok (.dup, 1) := by decide +kernel
theorem dX5_init_29 : decode cX5_init 29 = .ok (.invokespecial 22, 3) := by decide +kernel
theorem dX5_init_32 : decode cX5_init 32 = .ok (.putfield 23, 3) := by decide +kernel
theorem dX5_init_35 : decode cX5_init 35 = .ok (.aload_n 0, 1) := by decide +kernel
theorem dX5_init_36 : decode cX5_init 36 = .ok (.new 27, 3) := by decide +kernel
theorem dX5_init_39 : decode cX5_init 39 = .ok (.dup, 1) := by decide +kernel
theorem dX5_init_40 : decode cX5_init 40 = .ok (.aload_n 0, 1) := by decide +kernel
theorem dX5_init_41 : decode cX5_init 41 = .ok (.getfield 23, 3) := by decide +kernel
theorem dX5_init_44 : decode cX5_init 44 = .ok (.invokespecial 29, 3) := by decide +kernel
theorem dX5_init_47 : decode cX5_init 47 = .ok (.putfield 32, 3) := by decide +kernel
theorem dX5_init_50 : decode cX5_init 50 = .ok (.aload_n 0, 1) := by decide +kernel
theorem dX5_init_51 : decode cX5_init 51 = .ok (.new 27, 3) := by decide +kernel
theorem dX5_init_54 : decode cX5_init 54 = .ok (.dup, 1) := by decide +kernel
theorem dX5_init_55 : decode cX5_init 55 = .ok (.aload_n 0, 1) := by decide +kernel
theorem dX5_init_56 : decode cX5_init 56 = .ok (.getfield 23, 3) := by decide +kernel
theorem dX5_init_59 : decode cX5_init 59 = .ok (.invokespecial 29, 3) := by decide +kernel
theorem dX5_init_62 : decode cX5_init 62 = .ok (.putfield 36, 3) := by decide +kernel
theorem dX5_init_65 : decode cX5_init 65 = .ok (.aload_n 0, 1) := by decide +kernel
theorem dX5_init_66 : decode cX5_init 66 = .ok (.new 39, 3) := by decide +kernel
theorem dX5_init_69 : decode cX5_init 69 = .ok (.dup, 1) := by decide +kernel
theorem dX5_init_70 : decode cX5_init 70 = .ok (.aload_n 0, 1) := by decide +kernel
theorem dX5_init_71 : decode cX5_init 71 = .ok (.getfield 23, 3) := by decide +kernel
theorem dX5_init_74 : decode cX5_init 74 = .ok (.invokespecial 41, 3) := by decide +kernel
theorem dX5_init_77 : decode cX5_init 77 = .ok (.putfield 42, 3) := by decide +kernel
theorem dX5_init_80 : decode cX5_init 80 = .ok (.aload_n 0, 1) := by decide +kernel
theorem dX5_init_81 : decode cX5_init 81 = .ok (.new 46, 3) := by decide +kernel
theorem dX5_init_84 : decode cX5_init 84 = .ok (.dup, 1) := by decide +kernel
theorem dX5_init_85 : decode cX5_init 85 = .ok (.bipush 8, 2) := by decide +kernel
theorem dX5_init_87 : decode cX5_init 87 = .ok (.invokespecial 48, 3) := by decide +kernel
theorem dX5_init_90 : decode cX5_init 90 = .ok (.putfield 51, 3) := by decide +kernel
theorem dX5_init_93 : decode cX5_init 93 = .ok (.aload_n 0, 1) := by decide +kernel
theorem dX5_init_94 : decode cX5_init 94 = .ok (.new 46, 3) := by decide +kernel
theorem dX5_init_97 : decode cX5_init 97 = .ok (.dup, 1) := by decide +kernel
theorem dX5_init_98 : decode cX5_init 98 = .ok (.iconst 2, 1) := by decide +kernel
theorem dX5_init_99 : decode cX5_init 99 = .ok (.invokespecial 48, 3) := by decide +kernel
theorem dX5_init_102 : decode cX5_init 102 = .ok (.putfield 55, 3) := by decide +kernel
theorem dX5_init_105 : decode cX5_init 105 = .ok (.ldc 58, 2) := by decide +kernel
theorem dX5_init_107 : decode cX5_init 107 = .ok (.invokevirtual 60, 3) := by decide +kernel
theorem dX5_init_110 : decode cX5_init 110 = .ok (.sipush 200, 3) := by decide +kernel
theorem dX5_init_113 : decode cX5_init 113 = .ok (.invokestatic 66, 3) := by decide +kernel
theorem dX5_init_116 : decode cX5_init 116 = .ok (.istore_n 1, 1) := by decide +kernel
theorem dX5_init_117 : decode cX5_init 117 = .ok (.iconst 0, 1) := by decide +kernel
theorem dX5_init_118 : decode cX5_init 118 = .ok (.istore_n 2, 1) := by decide +kernel
theorem dX5_init_119 : decode cX5_init 119 = .ok (.iload_n 2, 1) := by decide +kernel
theorem dX5_init_120 : decode cX5_init 120 = .ok (.iload_n 1, 1) := by decide +kernel
theorem dX5_init_121 : decode cX5_init 121 = .ok (.if_icmp .ge 21, 3) := by decide +kernel
theorem dX5_init_124 : decode cX5_init 124 = .ok (.aload_n 0, 1) := by decide +kernel
theorem dX5_init_125 : decode cX5_init 125 = .ok (.getfield 9, 3) := by decide +kernel
theorem dX5_init_128 : decode cX5_init 128 = .ok (.iload_n 2, 1) := by decide +kernel
theorem dX5_init_129 : decode cX5_init 129 = .ok (.ldc 58, 2) := by decide +kernel
theorem dX5_init_131 : decode cX5_init 131 = .ok (.iload_n 2, 1) := by decide +kernel
theorem dX5_init_132 : decode cX5_init 132 = .ok (.invokevirtual 72, 3) := by decide +kernel
theorem dX5_init_135 : decode cX5_init 135 = .ok (.iastore, 1) := by decide +kernel
theorem dX5_init_136 : decode cX5_init 136 = .ok (.iinc 2 1, 3) := by decide +kernel
theorem dX5_init_139 : decode cX5_init 139 = .ok (.goto (-20), 3) := by decide +kernel
theorem dX5_init_142 : decode cX5_init 142 = .ok (.aload_n 0, 1) := by decide +kernel
theorem dX5_init_143 : decode cX5_init 143 = .ok (.getfield 16, 3) := by decide +kernel
theorem dX5_init_146 : decode cX5_init 146 = .ok (.aload_n 0, 1) := by decide +kernel
theorem dX5_init_147 : decode cX5_init 147 = .ok (.getfield 9, 3) := by decide +kernel
theorem dX5_init_150 : decode cX5_init 150 = .ok (.iload_n 1, 1) := by decide +kernel
theorem dX5_init_151 : decode cX5_init 151 = .ok (.invokevirtual 76, 3) := by decide +kernel
theorem dX5_init_154 : decode cX5_init 154 = .ok (.pop, 1) := by decide +kernel
theorem dX5_init_155 : decode cX5_init 155 = .ok (.aload_n 0, 1) := by decide +kernel
theorem dX5_init_156 : decode cX5_init 156 = .ok (.invokevirtual 80, 3) := by decide +kernel
theorem dX5_init_159 : decode cX5_init 159 = .ok (.return_, 1) := by decide +kernel
theorem dX5_write_0 : decode cX5_write 0 = .ok (.iload_n 1, 1) := by decide +kernel
theorem dX5_write_1 : decode cX5_write 1 = .ok (.bipush 32, 2) := by decide +kernel
theorem dX5_write_3 : decode cX5_write 3 = .ok (.if_icmp .lt 9, 3) := by decide +kernel
theorem dX5_write_6 : decode cX5_write 6 = .ok (.iload_n 1, 1) := by decide +kernel
theorem dX5_write_7 : decode cX5_write 7 = .ok (.bipush 126, 2) := by decide +kernel
theorem dX5_write_9 : decode cX5_write 9 = .ok (.if_icmp .le 5, 3) := by decide +kernel
theorem dX5_write_12 : decode cX5_write 12 = .ok (.iconst (-1), 1) := by decide +kernel
theorem dX5_write_13 : decode cX5_write 13 = .ok (.ireturn, 1) := by decide +kernel
theorem dX5_write_14 : decode cX5_write 14 = .ok (.aload_n 0, 1) := by decide +kernel
theorem dX5_write_15 : decode cX5_write 15 = .ok (.getfield 83, 3) := by decide +kernel
theorem dX5_write_18 : decode cX5_write 18 = .ok (.sipush 200, 3) := by decide +kernel
theorem dX5_write_21 : decode cX5_write 21 = .ok (.if_icmp .lt 6, 3) := by decide +kernel
theorem dX5_write_24 : decode cX5_write 24 = .ok (.bipush (-3), 2) := by decide +kernel
theorem dX5_write_26 : decode cX5_write 26 = .ok (.ireturn, 1) := by decide +kernel
theorem dX5_write_27 : decode cX5_write 27 = .ok (.aload_n 0, 1) := by decide +kernel
theorem dX5_write_28 : decode cX5_write 28 = .ok (.getfield 9, 3) := by decide +kernel
theorem dX5_write_31 : decode cX5_write 31 = .ok (.aload_n 0, 1) := by decide +kernel
theorem dX5_write_32 : decode cX5_write 32 = .ok (.getfield 83, 3) := by decide +kernel
theorem dX5_write_35 : decode cX5_write 35 = .ok (.iload_n 1, 1) := by decide +kernel
theorem dX5_write_36 : decode cX5_write 36 = .ok (.iastore, 1) := by decide +kernel
theorem dX5_write_37 : decode cX5_write 37 = .ok (.aload_n 0, 1) := by decide +kernel
theorem dX5_write_38 : decode cX5_write 38 = .ok (.dup, 1) := by decide +kernel
theorem dX5_write_39 : decode cX5_write 39 = .ok (.getfield 83, 3) := by decide +kernel
theorem dX5_write_42 : decode cX5_write 42 = .ok (.iconst 1, 1) := by decide +kernel
theorem dX5_write_43 : decode cX5_write 43 = .ok (.iadd, 1) := by decide +kernel
theorem dX5_write_44 : decode cX5_write 44 = .ok (.putfield 83, 3) := by decide +kernel
theorem dX5_write_47 : decode cX5_write 47 = .ok (.aload_n 0, 1) := by decide +kernel
theorem dX5_write_48 : decode cX5_write 48 = .ok (.getfield 83, 3) := by decide +kernel
theorem dX5_write_51 : decode cX5_write 51 = .ok (.ireturn, 1) := by decide +kernel
theorem dX5_wipe_0 : decode cX5_wipe 0 = .ok (.aload_n 0, 1) := by decide +kernel
theorem dX5_wipe_1 : decode cX5_wipe 1 = .ok (.getfield 83, 3) := by decide +kernel
theorem dX5_wipe_4 : decode cX5_wipe 4 = .ok (.istore_n 1, 1) := by decide +kernel
theorem dX5_wipe_5 : decode cX5_wipe 5 = .ok (.aload_n 0, 1) := by decide +kernel
theorem dX5_wipe_6 : decode cX5_wipe 6 = .ok (.iconst 0, 1) := by decide +kernel
theorem dX5_wipe_7 : decode cX5_wipe 7 = .ok (.putfield 83, 3) := by decide +kernel
theorem dX5_wipe_10 : decode cX5_wipe 10 = .ok (.iload_n 1, 1) := by decide +kernel
theorem dX5_wipe_11 : decode cX5_wipe 11 = .ok (.ireturn, 1) := by decide +kernel
theorem dX5_fault_0 : decode cX5_fault 0 = .ok (.aload_n 0, 1) := by decide +kernel
theorem dX5_fault_1 : decode cX5_fault 1 = .ok (.getfield 16, 3) := by decide +kernel
theorem dX5_fault_4 : decode cX5_fault 4 = .ok (.aload_n 0, 1) := by decide +kernel
theorem dX5_fault_5 : decode cX5_fault 5 = .ok (.getfield 9, 3) := by decide +kernel
theorem dX5_fault_8 : decode cX5_fault 8 = .ok (.aload_n 0, 1) := by decide +kernel
theorem dX5_fault_9 : decode cX5_fault 9 = .ok (.getfield 83, 3) := by decide +kernel
theorem dX5_fault_12 : decode cX5_fault 12 = .ok (.invokevirtual 76, 3) := by decide +kernel
theorem dX5_fault_15 : decode cX5_fault 15 = .ok (.ireturn, 1) := by decide +kernel
theorem dX5_lay_0 : decode cX5_lay 0 = .ok (.aload_n 0, 1) := by decide +kernel
theorem dX5_lay_1 : decode cX5_lay 1 = .ok (.getfield 16, 3) := by decide +kernel
theorem dX5_lay_4 : decode cX5_lay 4 = .ok (.aload_n 0, 1) := by decide +kernel
theorem dX5_lay_5 : decode cX5_lay 5 = .ok (.getfield 9, 3) := by decide +kernel
theorem dX5_lay_8 : decode cX5_lay 8 = .ok (.aload_n 0, 1) := by decide +kernel
theorem dX5_lay_9 : decode cX5_lay 9 = .ok (.getfield 83, 3) := by decide +kernel
theorem dX5_lay_12 : decode cX5_lay 12 = .ok (.invokevirtual 76, 3) := by decide +kernel
theorem dX5_lay_15 : decode cX5_lay 15 = .ok (.bipush (-4), 2) := by decide +kernel
theorem dX5_lay_17 : decode cX5_lay 17 = .ok (.if_icmp .ne 16, 3) := by decide +kernel
theorem dX5_lay_20 : decode cX5_lay 20 = .ok (.aload_n 0, 1) := by decide +kernel
theorem dX5_lay_21 : decode cX5_lay 21 = .ok (.getfield 16, 3) := by decide +kernel
theorem dX5_lay_24 : decode cX5_lay 24 = .ok (.getfield 86, 3) := by decide +kernel
theorem dX5_lay_27 : decode cX5_lay 27 = .ok (.getfield 87, 3) := by decide +kernel
theorem dX5_lay_30 : decode cX5_lay 30 = .ok (.ifCond .ne 6, 3) := by decide +kernel
theorem dX5_lay_33 : decode cX5_lay 33 = .ok (.bipush (-2), 2) := by decide +kernel
theorem dX5_lay_35 : decode cX5_lay 35 = .ok (.ireturn, 1) := by decide +kernel
theorem dX5_lay_36 : decode cX5_lay 36 = .ok (.aload_n 0, 1) := by decide +kernel
theorem dX5_lay_37 : decode cX5_lay 37 = .ok (.invokevirtual 80, 3) := by decide +kernel
theorem dX5_lay_40 : decode cX5_lay 40 = .ok (.aload_n 0, 1) := by decide +kernel
theorem dX5_lay_41 : decode cX5_lay 41 = .ok (.getfield 23, 3) := by decide +kernel
theorem dX5_lay_44 : decode cX5_lay 44 = .ok (.getfield 87, 3) := by decide +kernel
theorem dX5_lay_47 : decode cX5_lay 47 = .ok (.ireturn, 1) := by decide +kernel
theorem dX5_layWhatWasRead_0 : decode cX5_layWhatWasRead 0 = .ok (.aload_n 0, 1) := by decide +kernel
theorem dX5_layWhatWasRead_1 : decode cX5_layWhatWasRead 1 = .ok (.getfield 23, 3) := by decide +kernel
theorem dX5_layWhatWasRead_4 : decode cX5_layWhatWasRead 4 = .ok (.aload_n 0, 1) := by decide +kernel
theorem dX5_layWhatWasRead_5 : decode cX5_layWhatWasRead 5 = .ok (.getfield 16, 3) := by decide +kernel
theorem dX5_layWhatWasRead_8 : decode cX5_layWhatWasRead 8 = .ok (.getfield 86, 3) := by decide +kernel
theorem dX5_layWhatWasRead_11 : decode cX5_layWhatWasRead 11 = .ok (.invokevirtual 90, 3) := by decide +kernel
theorem dX5_layWhatWasRead_14 : decode cX5_layWhatWasRead 14 = .ok (.aload_n 0, 1) := by decide +kernel
theorem dX5_layWhatWasRead_15 : decode cX5_layWhatWasRead 15 = .ok (.getfield 32, 3) := by decide +kernel
theorem dX5_layWhatWasRead_18 : decode cX5_layWhatWasRead 18 = .ok (.aload_n 0, 1) := by decide +kernel
theorem dX5_layWhatWasRead_19 : decode cX5_layWhatWasRead 19 = .ok (.getfield 16, 3) := by decide +kernel
theorem dX5_layWhatWasRead_22 : decode cX5_layWhatWasRead 22 = .ok (.getfield 93, 3) := by decide +kernel
theorem dX5_layWhatWasRead_25 : decode cX5_layWhatWasRead 25 = .ok (.invokevirtual 94, 3) := by decide +kernel
theorem dX5_layWhatWasRead_28 : decode cX5_layWhatWasRead 28 = .ok (.aload_n 0, 1) := by decide +kernel
theorem dX5_layWhatWasRead_29 : decode cX5_layWhatWasRead 29 = .ok (.getfield 51, 3) := by decide +kernel
theorem dX5_layWhatWasRead_32 : decode cX5_layWhatWasRead 32 = .ok (.iconst 0, 1) := by decide +kernel
theorem dX5_layWhatWasRead_33 : decode cX5_layWhatWasRead 33 = .ok (.putfield 97, 3) := by decide +kernel
theorem dX5_layWhatWasRead_36 : decode cX5_layWhatWasRead 36 = .ok (.aload_n 0, 1) := by decide +kernel
theorem dX5_layWhatWasRead_37 : decode cX5_layWhatWasRead 37 = .ok (.getfield 55, 3) := by decide +kernel
theorem dX5_layWhatWasRead_40 : decode cX5_layWhatWasRead 40 = .ok (.iconst 0, 1) := by decide +kernel
theorem dX5_layWhatWasRead_41 : decode cX5_layWhatWasRead 41 = .ok (.putfield 97, 3) := by decide +kernel
theorem dX5_layWhatWasRead_44 : decode cX5_layWhatWasRead 44 = .ok (.aload_n 0, 1) := by decide +kernel
theorem dX5_layWhatWasRead_45 : decode cX5_layWhatWasRead 45 = .ok (.iconst 0, 1) := by decide +kernel
theorem dX5_layWhatWasRead_46 : decode cX5_layWhatWasRead 46 = .ok (.putfield 100, 3) := by decide +kernel
theorem dX5_layWhatWasRead_49 : decode cX5_layWhatWasRead 49 = .ok (.aload_n 0, 1) := by decide +kernel
theorem dX5_layWhatWasRead_50 : decode cX5_layWhatWasRead 50 = .ok (.iconst 0, 1) := by decide +kernel
theorem dX5_layWhatWasRead_51 : decode cX5_layWhatWasRead 51 = .ok (.putfield 103, 3) := by decide +kernel
theorem dX5_layWhatWasRead_54 : decode cX5_layWhatWasRead 54 = .ok (.aload_n 0, 1) := by decide +kernel
theorem dX5_layWhatWasRead_55 : decode cX5_layWhatWasRead 55 = .ok (.getfield 42, 3) := by decide +kernel
theorem dX5_layWhatWasRead_58 : decode cX5_layWhatWasRead 58 = .ok (.iconst 0, 1) := by decide +kernel
theorem dX5_layWhatWasRead_59 : decode cX5_layWhatWasRead 59 = .ok (.putfield 106, 3) := by decide +kernel
theorem dX5_layWhatWasRead_62 : decode cX5_layWhatWasRead 62 = .ok (.return_, 1) := by decide +kernel
theorem dX5_thing_0 : decode cX5_thing 0 = .ok (.aload_n 0, 1) := by decide +kernel
theorem dX5_thing_1 : decode cX5_thing 1 = .ok (.getfield 23, 3) := by decide +kernel
theorem dX5_thing_4 : decode cX5_thing 4 = .ok (.iload_n 1, 1) := by decide +kernel
theorem dX5_thing_5 : decode cX5_thing 5 = .ok (.invokevirtual 110, 3) := by decide +kernel
theorem dX5_thing_8 : decode cX5_thing 8 = .ok (.ifCond .ne 5, 3) := by decide +kernel
theorem dX5_thing_11 : decode cX5_thing 11 = .ok (.iconst (-1), 1) := by decide +kernel
theorem dX5_thing_12 : decode cX5_thing 12 = .ok (.ireturn, 1) := by decide +kernel
theorem dX5_thing_13 : decode cX5_thing 13 = .ok (.iload_n 2, 1) := by decide +kernel
theorem dX5_thing_14 : decode cX5_thing 14 = .ok (.tableswitch 151 0 6 #[42, 52, 62, 72, 82, 108, 134], 42) := by decide +kernel
theorem dX5_thing_56 : decode cX5_thing 56 = .ok (.aload_n 0, 1) := by decide +kernel
theorem dX5_thing_57 : decode cX5_thing 57 = .ok (.getfield 23, 3) := by decide +kernel
theorem dX5_thing_60 : decode cX5_thing 60 = .ok (.getfield 114, 3) := by decide +kernel
theorem dX5_thing_63 : decode cX5_thing 63 = .ok (.iload_n 1, 1) := by decide +kernel
theorem dX5_thing_64 : decode cX5_thing 64 = .ok (.iaload, 1) := by decide +kernel
theorem dX5_thing_65 : decode cX5_thing 65 = .ok (.ireturn, 1) := by decide +kernel
theorem dX5_thing_66 : decode cX5_thing 66 = .ok (.aload_n 0, 1) := by decide +kernel
theorem dX5_thing_67 : decode cX5_thing 67 = .ok (.getfield 23, 3) := by decide +kernel
theorem dX5_thing_70 : decode cX5_thing 70 = .ok (.getfield 117, 3) := by decide +kernel
theorem dX5_thing_73 : decode cX5_thing 73 = .ok (.iload_n 1, 1) := by decide +kernel
theorem dX5_thing_74 : decode cX5_thing 74 = .ok (.iaload, 1) := by decide +kernel
theorem dX5_thing_75 : decode cX5_thing 75 = .ok (.ireturn, 1) := by decide +kernel
theorem dX5_thing_76 : decode cX5_thing 76 = .ok (.aload_n 0, 1) := by decide +kernel
theorem dX5_thing_77 : decode cX5_thing 77 = .ok (.getfield 23, 3) := by decide +kernel
theorem dX5_thing_80 : decode cX5_thing 80 = .ok (.getfield 120, 3) := by decide +kernel
theorem dX5_thing_83 : decode cX5_thing 83 = .ok (.iload_n 1, 1) := by decide +kernel
theorem dX5_thing_84 : decode cX5_thing 84 = .ok (.iaload, 1) := by decide +kernel
theorem dX5_thing_85 : decode cX5_thing 85 = .ok (.ireturn, 1) := by decide +kernel
theorem dX5_thing_86 : decode cX5_thing 86 = .ok (.aload_n 0, 1) := by decide +kernel
theorem dX5_thing_87 : decode cX5_thing 87 = .ok (.getfield 23, 3) := by decide +kernel
theorem dX5_thing_90 : decode cX5_thing 90 = .ok (.getfield 123, 3) := by decide +kernel
theorem dX5_thing_93 : decode cX5_thing 93 = .ok (.iload_n 1, 1) := by decide +kernel
theorem dX5_thing_94 : decode cX5_thing 94 = .ok (.iaload, 1) := by decide +kernel
theorem dX5_thing_95 : decode cX5_thing 95 = .ok (.ireturn, 1) := by decide +kernel
theorem dX5_thing_96 : decode cX5_thing 96 = .ok (.aload_n 0, 1) := by decide +kernel
theorem dX5_thing_97 : decode cX5_thing 97 = .ok (.getfield 32, 3) := by decide +kernel
theorem dX5_thing_100 : decode cX5_thing 100 = .ok (.iload_n 1, 1) := by decide +kernel
theorem dX5_thing_101 : decode cX5_thing 101 = .ok (.invokevirtual 126, 3) := by decide +kernel
theorem dX5_thing_104 : decode cX5_thing 104 = .ok (.ifCond .eq 15, 3) := by decide +kernel
theorem dX5_thing_107 : decode cX5_thing 107 = .ok (.aload_n 0, 1) := by decide +kernel
theorem dX5_thing_108 : decode cX5_thing 108 = .ok (.getfield 32, 3) := by decide +kernel
theorem dX5_thing_111 : decode cX5_thing 111 = .ok (.getfield 129, 3) := by decide +kernel
theorem dX5_thing_114 : decode cX5_thing 114 = .ok (.iload_n 1, 1) := by decide +kernel
theorem dX5_thing_115 : decode cX5_thing 115 = .ok (.iaload, 1) := by decide +kernel
theorem dX5_thing_116 : decode cX5_thing 116 = .ok (.goto 5, 3) := by decide +kernel
theorem dX5_thing_119 : decode cX5_thing 119 = .ok (.bipush (-4), 2) := by decide +kernel
theorem dX5_thing_121 : decode cX5_thing 121 = .ok (.ireturn, 1) := by decide +kernel
theorem dX5_thing_122 : decode cX5_thing 122 = .ok (.aload_n 0, 1) := by decide +kernel
theorem dX5_thing_123 : decode cX5_thing 123 = .ok (.getfield 32, 3) := by decide +kernel
theorem dX5_thing_126 : decode cX5_thing 126 = .ok (.iload_n 1, 1) := by decide +kernel
theorem dX5_thing_127 : decode cX5_thing 127 = .ok (.invokevirtual 126, 3) := by decide +kernel
theorem dX5_thing_130 : decode cX5_thing 130 = .ok (.ifCond .eq 15, 3) := by decide +kernel
theorem dX5_thing_133 : decode cX5_thing 133 = .ok (.aload_n 0, 1) := by decide +kernel
theorem dX5_thing_134 : decode cX5_thing 134 = .ok (.getfield 32, 3) := by decide +kernel
theorem dX5_thing_137 : decode cX5_thing 137 = .ok (.getfield 132, 3) := by decide +kernel
theorem dX5_thing_140 : decode cX5_thing 140 = .ok (.iload_n 1, 1) := by decide +kernel
theorem dX5_thing_141 : decode cX5_thing 141 = .ok (.iaload, 1) := by decide +kernel
theorem dX5_thing_142 : decode cX5_thing 142 = .ok (.goto 5, 3) := by decide +kernel
theorem dX5_thing_145 : decode cX5_thing 145 = .ok (.bipush (-4), 2) := by decide +kernel
theorem dX5_thing_147 : decode cX5_thing 147 = .ok (.ireturn, 1) := by decide +kernel
theorem dX5_thing_148 : decode cX5_thing 148 = .ok (.aload_n 0, 1) := by decide +kernel
theorem dX5_thing_149 : decode cX5_thing 149 = .ok (.getfield 32, 3) := by decide +kernel
theorem dX5_thing_152 : decode cX5_thing 152 = .ok (.iload_n 1, 1) := by decide +kernel
theorem dX5_thing_153 : decode cX5_thing 153 = .ok (.invokevirtual 135, 3) := by decide +kernel
theorem dX5_thing_156 : decode cX5_thing 156 = .ok (.ifCond .eq 7, 3) := by decide +kernel
theorem dX5_thing_159 : decode cX5_thing 159 = .ok (.iconst 1, 1) := by decide +kernel
theorem dX5_thing_160 : decode cX5_thing 160 = .ok (.goto 4, 3) := by decide +kernel
theorem dX5_thing_163 : decode cX5_thing 163 = .ok (.iconst 0, 1) := by decide +kernel
theorem dX5_thing_164 : decode cX5_thing 164 = .ok (.ireturn, 1) := by decide +kernel
theorem dX5_thing_165 : decode cX5_thing 165 = .ok (.iconst (-1), 1) := by decide +kernel
theorem dX5_thing_166 : decode cX5_thing 166 = .ok (.ireturn, 1) := by decide +kernel
theorem dX5_slot_0 : decode cX5_slot 0 = .ok (.aload_n 0, 1) := by decide +kernel
theorem dX5_slot_1 : decode cX5_slot 1 = .ok (.getfield 23, 3) := by decide +kernel
theorem dX5_slot_4 : decode cX5_slot 4 = .ok (.iload_n 1, 1) := by decide +kernel
theorem dX5_slot_5 : decode cX5_slot 5 = .ok (.invokevirtual 138, 3) := by decide +kernel
theorem dX5_slot_8 : decode cX5_slot 8 = .ok (.ifCond .ne 5, 3) := by decide +kernel
theorem dX5_slot_11 : decode cX5_slot 11 = .ok (.iconst (-1), 1) := by decide +kernel
theorem dX5_slot_12 : decode cX5_slot 12 = .ok (.ireturn, 1) := by decide +kernel
theorem dX5_slot_13 : decode cX5_slot 13 = .ok (.aload_n 0, 1) := by decide +kernel
theorem dX5_slot_14 : decode cX5_slot 14 = .ok (.getfield 32, 3) := by decide +kernel
theorem dX5_slot_17 : decode cX5_slot 17 = .ok (.iload_n 1, 1) := by decide +kernel
theorem dX5_slot_18 : decode cX5_slot 18 = .ok (.invokevirtual 141, 3) := by decide +kernel
theorem dX5_slot_21 : decode cX5_slot 21 = .ok (.ireturn, 1) := by decide +kernel
theorem dX5_putIn_0 : decode cX5_putIn 0 = .ok (.aload_n 0, 1) := by decide +kernel
theorem dX5_putIn_1 : decode cX5_putIn 1 = .ok (.getfield 23, 3) := by decide +kernel
theorem dX5_putIn_4 : decode cX5_putIn 4 = .ok (.iload_n 1, 1) := by decide +kernel
theorem dX5_putIn_5 : decode cX5_putIn 5 = .ok (.invokevirtual 110, 3) := by decide +kernel
theorem dX5_putIn_8 : decode cX5_putIn 8 = .ok (.ifCond .eq 21, 3) := by decide +kernel
theorem dX5_putIn_11 : decode cX5_putIn 11 = .ok (.aload_n 0, 1) := by decide +kernel
theorem dX5_putIn_12 : decode cX5_putIn 12 = .ok (.getfield 23, 3) := by decide +kernel
theorem dX5_putIn_15 : decode cX5_putIn 15 = .ok (.iload_n 2, 1) := by decide +kernel
theorem dX5_putIn_16 : decode cX5_putIn 16 = .ok (.invokevirtual 138, 3) := by decide +kernel
theorem dX5_putIn_19 : decode cX5_putIn 19 = .ok (.ifCond .eq 10, 3) := by decide +kernel
theorem dX5_putIn_22 : decode cX5_putIn 22 = .ok (.iload_n 3, 1) := by decide +kernel
theorem dX5_putIn_23 : decode cX5_putIn 23 = .ok (.invokestatic 145, 3) := by decide +kernel
theorem dX5_putIn_26 : decode cX5_putIn 26 = .ok (.ifCond .ne 5, 3) := by decide +kernel
theorem dX5_putIn_29 : decode cX5_putIn 29 = .ok (.iconst (-1), 1) := by decide +kernel
theorem dX5_putIn_30 : decode cX5_putIn 30 = .ok (.ireturn, 1) := by decide +kernel
theorem dX5_putIn_31 : decode cX5_putIn 31 = .ok (.aload_n 0, 1) := by decide +kernel
theorem dX5_putIn_32 : decode cX5_putIn 32 = .ok (.getfield 32, 3) := by decide +kernel
theorem dX5_putIn_35 : decode cX5_putIn 35 = .ok (.iload_n 1, 1) := by decide +kernel
theorem dX5_putIn_36 : decode cX5_putIn 36 = .ok (.invokevirtual 126, 3) := by decide +kernel
theorem dX5_putIn_39 : decode cX5_putIn 39 = .ok (.ifCond .ne 26, 3) := by decide +kernel
theorem dX5_putIn_42 : decode cX5_putIn 42 = .ok (.aload_n 0, 1) := by decide +kernel
theorem dX5_putIn_43 : decode cX5_putIn 43 = .ok (.getfield 32, 3) := by decide +kernel
theorem dX5_putIn_46 : decode cX5_putIn 46 = .ok (.iload_n 1, 1) := by decide +kernel
theorem dX5_putIn_47 : decode cX5_putIn 47 = .ok (.invokevirtual 135, 3) := by decide +kernel
theorem dX5_putIn_50 : decode cX5_putIn 50 = .ok (.ifCond .ne 15, 3) := by decide +kernel
theorem dX5_putIn_53 : decode cX5_putIn 53 = .ok (.aload_n 0, 1) := by decide +kernel
theorem dX5_putIn_54 : decode cX5_putIn 54 = .ok (.getfield 32, 3) := by decide +kernel
theorem dX5_putIn_57 : decode cX5_putIn 57 = .ok (.iload_n 1, 1) := by decide +kernel
theorem dX5_putIn_58 : decode cX5_putIn 58 = .ok (.iload_n 2, 1) := by decide +kernel
theorem dX5_putIn_59 : decode cX5_putIn 59 = .ok (.invokevirtual 148, 3) := by decide +kernel
theorem dX5_putIn_62 : decode cX5_putIn 62 = .ok (.ifCond .ne 6, 3) := by decide +kernel
theorem dX5_putIn_65 : decode cX5_putIn 65 = .ok (.bipush (-2), 2) := by decide +kernel
theorem dX5_putIn_67 : decode cX5_putIn 67 = .ok (.ireturn, 1) := by decide +kernel
theorem dX5_putIn_68 : decode cX5_putIn 68 = .ok (.aload_n 0, 1) := by decide +kernel
theorem dX5_putIn_69 : decode cX5_putIn 69 = .ok (.getfield 51, 3) := by decide +kernel
theorem dX5_putIn_72 : decode cX5_putIn 72 = .ok (.aload_n 0, 1) := by decide +kernel
theorem dX5_putIn_73 : decode cX5_putIn 73 = .ok (.getfield 32, 3) := by decide +kernel
theorem dX5_putIn_76 : decode cX5_putIn 76 = .ok (.invokevirtual 152, 3) := by decide +kernel
theorem dX5_putIn_79 : decode cX5_putIn 79 = .ok (.aload_n 0, 1) := by decide +kernel
theorem dX5_putIn_80 : decode cX5_putIn 80 = .ok (.getfield 32, 3) := by decide +kernel
theorem dX5_putIn_83 : decode cX5_putIn 83 = .ok (.iload_n 1, 1) := by decide +kernel
theorem dX5_putIn_84 : decode cX5_putIn 84 = .ok (.iload_n 2, 1) := by decide +kernel
theorem dX5_putIn_85 : decode cX5_putIn 85 = .ok (.iload_n 3, 1) := by decide +kernel
theorem dX5_putIn_86 : decode cX5_putIn 86 = .ok (.invokevirtual 155, 3) := by decide +kernel
theorem dX5_putIn_89 : decode cX5_putIn 89 = .ok (.aload_n 0, 1) := by decide +kernel
theorem dX5_putIn_90 : decode cX5_putIn 90 = .ok (.getfield 32, 3) := by decide +kernel
theorem dX5_putIn_93 : decode cX5_putIn 93 = .ok (.invokevirtual 159, 3) := by decide +kernel
theorem dX5_putIn_96 : decode cX5_putIn 96 = .ok (.ireturn, 1) := by decide +kernel
theorem dX5_turn_0 : decode cX5_turn 0 = .ok (.aload_n 0, 1) := by decide +kernel
theorem dX5_turn_1 : decode cX5_turn 1 = .ok (.getfield 23, 3) := by decide +kernel
theorem dX5_turn_4 : decode cX5_turn 4 = .ok (.iload_n 1, 1) := by decide +kernel
theorem dX5_turn_5 : decode cX5_turn 5 = .ok (.invokevirtual 110, 3) := by decide +kernel
theorem dX5_turn_8 : decode cX5_turn 8 = .ok (.ifCond .ne 5, 3) := by decide +kernel
theorem dX5_turn_11 : decode cX5_turn 11 = .ok (.iconst (-1), 1) := by decide +kernel
theorem dX5_turn_12 : decode cX5_turn 12 = .ok (.ireturn, 1) := by decide +kernel
theorem dX5_turn_13 : decode cX5_turn 13 = .ok (.aload_n 0, 1) := by decide +kernel
theorem dX5_turn_14 : decode cX5_turn 14 = .ok (.getfield 32, 3) := by decide +kernel
theorem dX5_turn_17 : decode cX5_turn 17 = .ok (.iload_n 1, 1) := by decide +kernel
theorem dX5_turn_18 : decode cX5_turn 18 = .ok (.invokevirtual 126, 3) := by decide +kernel
theorem dX5_turn_21 : decode cX5_turn 21 = .ok (.ifCond .ne 6, 3) := by decide +kernel
theorem dX5_turn_24 : decode cX5_turn 24 = .ok (.bipush (-2), 2) := by decide +kernel
theorem dX5_turn_26 : decode cX5_turn 26 = .ok (.ireturn, 1) := by decide +kernel
theorem dX5_turn_27 : decode cX5_turn 27 = .ok (.aload_n 0, 1) := by decide +kernel
theorem dX5_turn_28 : decode cX5_turn 28 = .ok (.getfield 51, 3) := by decide +kernel
theorem dX5_turn_31 : decode cX5_turn 31 = .ok (.aload_n 0, 1) := by decide +kernel
theorem dX5_turn_32 : decode cX5_turn 32 = .ok (.getfield 32, 3) := by decide +kernel
theorem dX5_turn_35 : decode cX5_turn 35 = .ok (.invokevirtual 152, 3) := by decide +kernel
theorem dX5_turn_38 : decode cX5_turn 38 = .ok (.aload_n 0, 1) := by decide +kernel
theorem dX5_turn_39 : decode cX5_turn 39 = .ok (.getfield 32, 3) := by decide +kernel
theorem dX5_turn_42 : decode cX5_turn 42 = .ok (.getfield 132, 3) := by decide +kernel
theorem dX5_turn_45 : decode cX5_turn 45 = .ok (.iload_n 1, 1) := by decide +kernel
theorem dX5_turn_46 : decode cX5_turn 46 = .ok (.iconst 1, 1) := by decide +kernel
theorem dX5_turn_47 : decode cX5_turn 47 = .ok (.aload_n 0, 1) := by decide +kernel
theorem dX5_turn_48 : decode cX5_turn 48 = .ok (.getfield 32, 3) := by decide +kernel
theorem dX5_turn_51 : decode cX5_turn 51 = .ok (.getfield 132, 3) := by decide +kernel
theorem dX5_turn_54 : decode cX5_turn 54 = .ok (.iload_n 1, 1) := by decide +kernel
theorem dX5_turn_55 : decode cX5_turn 55 = .ok (.iaload, 1) := by decide +kernel
theorem dX5_turn_56 : decode cX5_turn 56 = .ok (.isub, 1) := by decide +kernel
theorem dX5_turn_57 : decode cX5_turn 57 = .ok (.iastore, 1) := by decide +kernel
theorem dX5_turn_58 : decode cX5_turn 58 = .ok (.aload_n 0, 1) := by decide +kernel
theorem dX5_turn_59 : decode cX5_turn 59 = .ok (.getfield 32, 3) := by decide +kernel
theorem dX5_turn_62 : decode cX5_turn 62 = .ok (.getfield 132, 3) := by decide +kernel
theorem dX5_turn_65 : decode cX5_turn 65 = .ok (.iload_n 1, 1) := by decide +kernel
theorem dX5_turn_66 : decode cX5_turn 66 = .ok (.iaload, 1) := by decide +kernel
theorem dX5_turn_67 : decode cX5_turn 67 = .ok (.ireturn, 1) := by decide +kernel
theorem dX5_takeOut_0 : decode cX5_takeOut 0 = .ok (.aload_n 0, 1) := by decide +kernel
theorem dX5_takeOut_1 : decode cX5_takeOut 1 = .ok (.getfield 23, 3) := by decide +kernel
theorem dX5_takeOut_4 : decode cX5_takeOut 4 = .ok (.iload_n 1, 1) := by decide +kernel
theorem dX5_takeOut_5 : decode cX5_takeOut 5 = .ok (.invokevirtual 110, 3) := by decide +kernel
theorem dX5_takeOut_8 : decode cX5_takeOut 8 = .ok (.ifCond .ne 5, 3) := by decide +kernel
theorem dX5_takeOut_11 : decode cX5_takeOut 11 = .ok (.iconst (-1), 1) := by decide +kernel
theorem dX5_takeOut_12 : decode cX5_takeOut 12 = .ok (.ireturn, 1) := by decide +kernel
theorem dX5_takeOut_13 : decode cX5_takeOut 13 = .ok (.aload_n 0, 1) := by decide +kernel
theorem dX5_takeOut_14 : decode cX5_takeOut 14 = .ok (.getfield 32, 3) := by decide +kernel
theorem dX5_takeOut_17 : decode cX5_takeOut 17 = .ok (.iload_n 1, 1) := by decide +kernel
theorem dX5_takeOut_18 : decode cX5_takeOut 18 = .ok (.invokevirtual 126, 3) := by decide +kernel
theorem dX5_takeOut_21 : decode cX5_takeOut 21 = .ok (.ifCond .ne 6, 3) := by decide +kernel
theorem dX5_takeOut_24 : decode cX5_takeOut 24 = .ok (.bipush (-2), 2) := by decide +kernel
theorem dX5_takeOut_26 : decode cX5_takeOut 26 = .ok (.ireturn, 1) := by decide +kernel
theorem dX5_takeOut_27 : decode cX5_takeOut 27 = .ok (.aload_n 0, 1) := by decide +kernel
theorem dX5_takeOut_28 : decode cX5_takeOut 28 = .ok (.getfield 51, 3) := by decide +kernel
theorem dX5_takeOut_31 : decode cX5_takeOut 31 = .ok (.aload_n 0, 1) := by decide +kernel
theorem dX5_takeOut_32 : decode cX5_takeOut 32 = .ok (.getfield 32, 3) := by decide +kernel
theorem dX5_takeOut_35 : decode cX5_takeOut 35 = .ok (.invokevirtual 152, 3) := by decide +kernel
theorem dX5_takeOut_38 : decode cX5_takeOut 38 = .ok (.aload_n 0, 1) := by decide +kernel
theorem dX5_takeOut_39 : decode cX5_takeOut 39 = .ok (.getfield 32, 3) := by decide +kernel
theorem dX5_takeOut_42 : decode cX5_takeOut 42 = .ok (.iload_n 1, 1) := by decide +kernel
theorem dX5_takeOut_43 : decode cX5_takeOut 43 = .ok (.invokevirtual 162, 3) := by decide +kernel
theorem dX5_takeOut_46 : decode cX5_takeOut 46 = .ok (.aload_n 0, 1) := by decide +kernel
theorem dX5_takeOut_47 : decode cX5_takeOut 47 = .ok (.getfield 32, 3) := by decide +kernel
theorem dX5_takeOut_50 : decode cX5_takeOut 50 = .ok (.invokevirtual 159, 3) := by decide +kernel
theorem dX5_takeOut_53 : decode cX5_takeOut 53 = .ok (.ireturn, 1) := by decide +kernel
theorem dX5_wash_0 : decode cX5_wash 0 = .ok (.aload_n 0, 1) := by decide +kernel
theorem dX5_wash_1 : decode cX5_wash 1 = .ok (.getfield 23, 3) := by decide +kernel
theorem dX5_wash_4 : decode cX5_wash 4 = .ok (.iload_n 1, 1) := by decide +kernel
theorem dX5_wash_5 : decode cX5_wash 5 = .ok (.invokevirtual 110, 3) := by decide +kernel
theorem dX5_wash_8 : decode cX5_wash 8 = .ok (.ifCond .ne 5, 3) := by decide +kernel
theorem dX5_wash_11 : decode cX5_wash 11 = .ok (.iconst (-1), 1) := by decide +kernel
theorem dX5_wash_12 : decode cX5_wash 12 = .ok (.ireturn, 1) := by decide +kernel
theorem dX5_wash_13 : decode cX5_wash 13 = .ok (.aload_n 0, 1) := by decide +kernel
theorem dX5_wash_14 : decode cX5_wash 14 = .ok (.getfield 32, 3) := by decide +kernel
theorem dX5_wash_17 : decode cX5_wash 17 = .ok (.iload_n 1, 1) := by decide +kernel
theorem dX5_wash_18 : decode cX5_wash 18 = .ok (.invokevirtual 135, 3) := by decide +kernel
theorem dX5_wash_21 : decode cX5_wash 21 = .ok (.ifCond .eq 6, 3) := by decide +kernel
theorem dX5_wash_24 : decode cX5_wash 24 = .ok (.bipush (-2), 2) := by decide +kernel
theorem dX5_wash_26 : decode cX5_wash 26 = .ok (.ireturn, 1) := by decide +kernel
theorem dX5_wash_27 : decode cX5_wash 27 = .ok (.aload_n 0, 1) := by decide +kernel
theorem dX5_wash_28 : decode cX5_wash 28 = .ok (.getfield 51, 3) := by decide +kernel
theorem dX5_wash_31 : decode cX5_wash 31 = .ok (.aload_n 0, 1) := by decide +kernel
theorem dX5_wash_32 : decode cX5_wash 32 = .ok (.getfield 32, 3) := by decide +kernel
theorem dX5_wash_35 : decode cX5_wash 35 = .ok (.invokevirtual 152, 3) := by decide +kernel
theorem dX5_wash_38 : decode cX5_wash 38 = .ok (.aload_n 0, 1) := by decide +kernel
theorem dX5_wash_39 : decode cX5_wash 39 = .ok (.getfield 32, 3) := by decide +kernel
theorem dX5_wash_42 : decode cX5_wash 42 = .ok (.iload_n 1, 1) := by decide +kernel
theorem dX5_wash_43 : decode cX5_wash 43 = .ok (.invokevirtual 162, 3) := by decide +kernel
theorem dX5_wash_46 : decode cX5_wash 46 = .ok (.aload_n 0, 1) := by decide +kernel
theorem dX5_wash_47 : decode cX5_wash 47 = .ok (.getfield 32, 3) := by decide +kernel
theorem dX5_wash_50 : decode cX5_wash 50 = .ok (.dup, 1) := by decide +kernel
theorem dX5_wash_51 : decode cX5_wash 51 = .ok (.getfield 165, 3) := by decide +kernel
theorem dX5_wash_54 : decode cX5_wash 54 = .ok (.iconst 1, 1) := by decide +kernel
theorem dX5_wash_55 : decode cX5_wash 55 = .ok (.iload_n 1, 1) := by decide +kernel
theorem dX5_wash_56 : decode cX5_wash 56 = .ok (.ishl, 1) := by decide +kernel
theorem dX5_wash_57 : decode cX5_wash 57 = .ok (.ior, 1) := by decide +kernel
theorem dX5_wash_58 : decode cX5_wash 58 = .ok (.putfield 165, 3) := by decide +kernel
theorem dX5_wash_61 : decode cX5_wash 61 = .ok (.aload_n 0, 1) := by decide +kernel
theorem dX5_wash_62 : decode cX5_wash 62 = .ok (.getfield 32, 3) := by decide +kernel
theorem dX5_wash_65 : decode cX5_wash 65 = .ok (.getfield 165, 3) := by decide +kernel
theorem dX5_wash_68 : decode cX5_wash 68 = .ok (.invokestatic 168, 3) := by decide +kernel
theorem dX5_wash_71 : decode cX5_wash 71 = .ok (.ireturn, 1) := by decide +kernel
theorem dX5_water_0 : decode cX5_water 0 = .ok (.iload_n 1, 1) := by decide +kernel
theorem dX5_water_1 : decode cX5_water 1 = .ok (.iconst 1, 1) := by decide +kernel
theorem dX5_water_2 : decode cX5_water 2 = .ok (.if_icmp .lt 9, 3) := by decide +kernel
theorem dX5_water_5 : decode cX5_water 5 = .ok (.iload_n 1, 1) := by decide +kernel
theorem dX5_water_6 : decode cX5_water 6 = .ok (.bipush 9, 2) := by decide +kernel
theorem dX5_water_8 : decode cX5_water 8 = .ok (.if_icmp .le 5, 3) := by decide +kernel
theorem dX5_water_11 : decode cX5_water 11 = .ok (.iconst (-1), 1) := by decide +kernel
theorem dX5_water_12 : decode cX5_water 12 = .ok (.ireturn, 1) := by decide +kernel
theorem dX5_water_13 : decode cX5_water 13 = .ok (.aload_n 0, 1) := by decide +kernel
theorem dX5_water_14 : decode cX5_water 14 = .ok (.getfield 32, 3) := by decide +kernel
theorem dX5_water_17 : decode cX5_water 17 = .ok (.getfield 173, 3) := by decide +kernel
theorem dX5_water_20 : decode cX5_water 20 = .ok (.istore_n 2, 1) := by decide +kernel
theorem dX5_water_21 : decode cX5_water 21 = .ok (.aload_n 0, 1) := by decide +kernel
theorem dX5_water_22 : decode cX5_water 22 = .ok (.getfield 51, 3) := by decide +kernel
theorem dX5_water_25 : decode cX5_water 25 = .ok (.aload_n 0, 1) := by decide +kernel
theorem dX5_water_26 : decode cX5_water 26 = .ok (.getfield 32, 3) := by decide +kernel
theorem dX5_water_29 : decode cX5_water 29 = .ok (.invokevirtual 152, 3) := by decide +kernel
theorem dX5_water_32 : decode cX5_water 32 = .ok (.aload_n 0, 1) := by decide +kernel
theorem dX5_water_33 : decode cX5_water 33 = .ok (.getfield 32, 3) := by decide +kernel
theorem dX5_water_36 : decode cX5_water 36 = .ok (.iload_n 1, 1) := by decide +kernel
theorem dX5_water_37 : decode cX5_water 37 = .ok (.putfield 173, 3) := by decide +kernel
theorem dX5_water_40 : decode cX5_water 40 = .ok (.iload_n 2, 1) := by decide +kernel
theorem dX5_water_41 : decode cX5_water 41 = .ok (.ireturn, 1) := by decide +kernel
theorem dX5_undo_0 : decode cX5_undo 0 = .ok (.aload_n 0, 1) := by decide +kernel
theorem dX5_undo_1 : decode cX5_undo 1 = .ok (.getfield 51, 3) := by decide +kernel
theorem dX5_undo_4 : decode cX5_undo 4 = .ok (.getfield 97, 3) := by decide +kernel
theorem dX5_undo_7 : decode cX5_undo 7 = .ok (.ifCond .ne 6, 3) := by decide +kernel
theorem dX5_undo_10 : decode cX5_undo 10 = .ok (.bipush (-2), 2) := by decide +kernel
theorem dX5_undo_12 : decode cX5_undo 12 = .ok (.ireturn, 1) := by decide +kernel
theorem dX5_undo_13 : decode cX5_undo 13 = .ok (.aload_n 0, 1) := by decide +kernel
theorem dX5_undo_14 : decode cX5_undo 14 = .ok (.getfield 51, 3) := by decide +kernel
theorem dX5_undo_17 : decode cX5_undo 17 = .ok (.aload_n 0, 1) := by decide +kernel
theorem dX5_undo_18 : decode cX5_undo 18 = .ok (.getfield 32, 3) := by decide +kernel
theorem dX5_undo_21 : decode cX5_undo 21 = .ok (.invokevirtual 176, 3) := by decide +kernel
theorem dX5_undo_24 : decode cX5_undo 24 = .ok (.aload_n 0, 1) := by decide +kernel
theorem dX5_undo_25 : decode cX5_undo 25 = .ok (.getfield 51, 3) := by decide +kernel
theorem dX5_undo_28 : decode cX5_undo 28 = .ok (.getfield 97, 3) := by decide +kernel
theorem dX5_undo_31 : decode cX5_undo 31 = .ok (.ireturn, 1) := by decide +kernel
theorem dX5_stands_0 : decode cX5_stands 0 = .ok (.aload_n 0, 1) := by decide +kernel
theorem dX5_stands_1 : decode cX5_stands 1 = .ok (.getfield 23, 3) := by decide +kernel
theorem dX5_stands_4 : decode cX5_stands 4 = .ok (.iload_n 1, 1) := by decide +kernel
theorem dX5_stands_5 : decode cX5_stands 5 = .ok (.invokevirtual 110, 3) := by decide +kernel
theorem dX5_stands_8 : decode cX5_stands 8 = .ok (.ifCond .eq 12, 3) := by decide +kernel
theorem dX5_stands_11 : decode cX5_stands 11 = .ok (.iload_n 2, 1) := by decide +kernel
theorem dX5_stands_12 : decode cX5_stands 12 = .ok (.ifCond .lt 8, 3) := by decide +kernel
theorem dX5_stands_15 : decode cX5_stands 15 = .ok (.iload_n 2, 1) := by decide +kernel
theorem dX5_stands_16 : decode cX5_stands 16 = .ok (.iconst 3, 1) := by decide +kernel
theorem dX5_stands_17 : decode cX5_stands 17 = .ok (.if_icmp .le 5, 3) := by decide +kernel
theorem dX5_stands_20 : decode cX5_stands 20 = .ok (.iconst (-1), 1) := by decide +kernel
theorem dX5_stands_21 : decode cX5_stands 21 = .ok (.ireturn, 1) := by decide +kernel
theorem dX5_stands_22 : decode cX5_stands 22 = .ok (.aload_n 0, 1) := by decide +kernel
theorem dX5_stands_23 : decode cX5_stands 23 = .ok (.getfield 32, 3) := by decide +kernel
theorem dX5_stands_26 : decode cX5_stands 26 = .ok (.iload_n 1, 1) := by decide +kernel
theorem dX5_stands_27 : decode cX5_stands 27 = .ok (.invokevirtual 126, 3) := by decide +kernel
theorem dX5_stands_30 : decode cX5_stands 30 = .ok (.ifCond .ne 6, 3) := by decide +kernel
theorem dX5_stands_33 : decode cX5_stands 33 = .ok (.bipush (-2), 2) := by decide +kernel
theorem dX5_stands_35 : decode cX5_stands 35 = .ok (.ireturn, 1) := by decide +kernel
theorem dX5_stands_36 : decode cX5_stands 36 = .ok (.iload_n 2, 1) := by decide +kernel
theorem dX5_stands_37 : decode cX5_stands 37 = .ok (.tableswitch 70 0 2 #[27, 36, 53], 27) := by decide +kernel
theorem dX5_stands_64 : decode cX5_stands 64 = .ok (.aload_n 0, 1) := by decide +kernel
theorem dX5_stands_65 : decode cX5_stands 65 = .ok (.getfield 32, 3) := by decide +kernel
theorem dX5_stands_68 : decode cX5_stands 68 = .ok (.iload_n 1, 1) := by decide +kernel
theorem dX5_stands_69 : decode cX5_stands 69 = .ok (.invokevirtual 179, 3) := by decide +kernel
theorem dX5_stands_72 : decode cX5_stands 72 = .ok (.ireturn, 1) := by decide +kernel
theorem dX5_stands_73 : decode cX5_stands 73 = .ok (.aload_n 0, 1) := by decide +kernel
theorem dX5_stands_74 : decode cX5_stands 74 = .ok (.getfield 32, 3) := by decide +kernel
theorem dX5_stands_77 : decode cX5_stands 77 = .ok (.iload_n 1, 1) := by decide +kernel
theorem dX5_stands_78 : decode cX5_stands 78 = .ok (.invokevirtual 182, 3) := by decide +kernel
theorem dX5_stands_81 : decode cX5_stands 81 = .ok (.ifCond .eq 7, 3) := by decide +kernel
theorem dX5_stands_84 : decode cX5_stands 84 = .ok (.iconst 1, 1) := by decide +kernel
theorem dX5_stands_85 : decode cX5_stands 85 = .ok (.goto 4, 3) := by decide +kernel
theorem dX5_stands_88 : decode cX5_stands 88 = .ok (.iconst 0, 1) := by decide +kernel
theorem dX5_stands_89 : decode cX5_stands 89 = .ok (.ireturn, 1) := by decide +kernel
theorem dX5_stands_90 : decode cX5_stands 90 = .ok (.aload_n 0, 1) := by decide +kernel
theorem dX5_stands_91 : decode cX5_stands 91 = .ok (.getfield 23, 3) := by decide +kernel
theorem dX5_stands_94 : decode cX5_stands 94 = .ok (.iload_n 1, 1) := by decide +kernel
theorem dX5_stands_95 : decode cX5_stands 95 = .ok (.invokevirtual 185, 3) := by decide +kernel
theorem dX5_stands_98 : decode cX5_stands 98 = .ok (.ifCond .eq 7, 3) := by decide +kernel
theorem dX5_stands_101 : decode cX5_stands 101 = .ok (.iconst 1, 1) := by decide +kernel
theorem dX5_stands_102 : decode cX5_stands 102 = .ok (.goto 4, 3) := by decide +kernel
theorem dX5_stands_105 : decode cX5_stands 105 = .ok (.iconst 0, 1) := by decide +kernel
theorem dX5_stands_106 : decode cX5_stands 106 = .ok (.ireturn, 1) := by decide +kernel
theorem dX5_stands_107 : decode cX5_stands 107 = .ok (.aload_n 0, 1) := by decide +kernel
theorem dX5_stands_108 : decode cX5_stands 108 = .ok (.getfield 32, 3) := by decide +kernel
theorem dX5_stands_111 : decode cX5_stands 111 = .ok (.aload_n 0, 1) := by decide +kernel
theorem dX5_stands_112 : decode cX5_stands 112 = .ok (.getfield 32, 3) := by decide +kernel
theorem dX5_stands_115 : decode cX5_stands 115 = .ok (.getfield 173, 3) := by decide +kernel
theorem dX5_stands_118 : decode cX5_stands 118 = .ok (.invokevirtual 188, 3) := by decide +kernel
theorem dX5_stands_121 : decode cX5_stands 121 = .ok (.iload_n 1, 1) := by decide +kernel
theorem dX5_stands_122 : decode cX5_stands 122 = .ok (.ishr, 1) := by decide +kernel
theorem dX5_stands_123 : decode cX5_stands 123 = .ok (.iconst 1, 1) := by decide +kernel
theorem dX5_stands_124 : decode cX5_stands 124 = .ok (.iand, 1) := by decide +kernel
theorem dX5_stands_125 : decode cX5_stands 125 = .ok (.ireturn, 1) := by decide +kernel
theorem dX5_clean_0 : decode cX5_clean 0 = .ok (.aload_n 0, 1) := by decide +kernel
theorem dX5_clean_1 : decode cX5_clean 1 = .ok (.getfield 32, 3) := by decide +kernel
theorem dX5_clean_4 : decode cX5_clean 4 = .ok (.aload_n 0, 1) := by decide +kernel
theorem dX5_clean_5 : decode cX5_clean 5 = .ok (.getfield 32, 3) := by decide +kernel
theorem dX5_clean_8 : decode cX5_clean 8 = .ok (.getfield 173, 3) := by decide +kernel
theorem dX5_clean_11 : decode cX5_clean 11 = .ok (.invokevirtual 188, 3) := by decide +kernel
theorem dX5_clean_14 : decode cX5_clean 14 = .ok (.ireturn, 1) := by decide +kernel
theorem dX5_pooled_0 : decode cX5_pooled 0 = .ok (.iconst 0, 1) := by decide +kernel
theorem dX5_pooled_1 : decode cX5_pooled 1 = .ok (.istore_n 1, 1) := by decide +kernel
theorem dX5_pooled_2 : decode cX5_pooled 2 = .ok (.iconst 0, 1) := by decide +kernel
theorem dX5_pooled_3 : decode cX5_pooled 3 = .ok (.istore_n 2, 1) := by decide +kernel
theorem dX5_pooled_4 : decode cX5_pooled 4 = .ok (.iload_n 2, 1) := by decide +kernel
theorem dX5_pooled_5 : decode cX5_pooled 5 = .ok (.aload_n 0, 1) := by decide +kernel
theorem dX5_pooled_6 : decode cX5_pooled 6 = .ok (.getfield 23, 3) := by decide +kernel
theorem dX5_pooled_9 : decode cX5_pooled 9 = .ok (.getfield 87, 3) := by decide +kernel
theorem dX5_pooled_12 : decode cX5_pooled 12 = .ok (.if_icmp .ge 50, 3) := by decide +kernel
theorem dX5_pooled_15 : decode cX5_pooled 15 = .ok (.aload_n 0, 1) := by decide +kernel
theorem dX5_pooled_16 : decode cX5_pooled 16 = .ok (.getfield 32, 3) := by decide +kernel
theorem dX5_pooled_19 : decode cX5_pooled 19 = .ok (.iload_n 2, 1) := by decide +kernel
theorem dX5_pooled_20 : decode cX5_pooled 20 = .ok (.invokevirtual 126, 3) := by decide +kernel
theorem dX5_pooled_23 : decode cX5_pooled 23 = .ok (.ifCond .eq 33, 3) := by decide +kernel
theorem dX5_pooled_26 : decode cX5_pooled 26 = .ok (.aload_n 0, 1) := by decide +kernel
theorem dX5_pooled_27 : decode cX5_pooled 27 = .ok (.getfield 23, 3) := by decide +kernel
theorem dX5_pooled_30 : decode cX5_pooled 30 = .ok (.getfield 114, 3) := by decide +kernel
theorem dX5_pooled_33 : decode cX5_pooled 33 = .ok (.iload_n 2, 1) := by decide +kernel
theorem dX5_pooled_34 : decode cX5_pooled 34 = .ok (.iaload, 1) := by decide +kernel
theorem dX5_pooled_35 : decode cX5_pooled 35 = .ok (.iconst 1, 1) := by decide +kernel
theorem dX5_pooled_36 : decode cX5_pooled 36 = .ok (.if_icmp .ne 20, 3) := by decide +kernel
theorem dX5_pooled_39 : decode cX5_pooled 39 = .ok (.aload_n 0, 1) := by decide +kernel
theorem dX5_pooled_40 : decode cX5_pooled 40 = .ok (.getfield 32, 3) := by decide +kernel
theorem dX5_pooled_43 : decode cX5_pooled 43 = .ok (.iload_n 2, 1) := by decide +kernel
theorem dX5_pooled_44 : decode cX5_pooled 44 = .ok (.invokevirtual 182, 3) := by decide +kernel
theorem dX5_pooled_47 : decode cX5_pooled 47 = .ok (.ifCond .ne 9, 3) := by decide +kernel
theorem dX5_pooled_50 : decode cX5_pooled 50 = .ok (.iload_n 1, 1) := by decide +kernel
theorem dX5_pooled_51 : decode cX5_pooled 51 = .ok (.iconst 1, 1) := by decide +kernel
theorem dX5_pooled_52 : decode cX5_pooled 52 = .ok (.iload_n 2, 1) := by decide +kernel
theorem dX5_pooled_53 : decode cX5_pooled 53 = .ok (.ishl, 1) := by decide +kernel
theorem dX5_pooled_54 : decode cX5_pooled 54 = .ok (.ior, 1) := by decide +kernel
theorem dX5_pooled_55 : decode cX5_pooled 55 = .ok (.istore_n 1, 1) := by decide +kernel
theorem dX5_pooled_56 : decode cX5_pooled 56 = .ok (.iinc 2 1, 3) := by decide +kernel
theorem dX5_pooled_59 : decode cX5_pooled 59 = .ok (.goto (-55), 3) := by decide +kernel
theorem dX5_pooled_62 : decode cX5_pooled 62 = .ok (.iload_n 1, 1) := by decide +kernel
theorem dX5_pooled_63 : decode cX5_pooled 63 = .ok (.ireturn, 1) := by decide +kernel
theorem dX5_room_0 : decode cX5_room 0 = .ok (.aload_n 0, 1) := by decide +kernel
theorem dX5_room_1 : decode cX5_room 1 = .ok (.getfield 23, 3) := by decide +kernel
theorem dX5_room_4 : decode cX5_room 4 = .ok (.iload_n 1, 1) := by decide +kernel
theorem dX5_room_5 : decode cX5_room 5 = .ok (.invokevirtual 110, 3) := by decide +kernel
theorem dX5_room_8 : decode cX5_room 8 = .ok (.ifCond .ne 5, 3) := by decide +kernel
theorem dX5_room_11 : decode cX5_room 11 = .ok (.iconst (-1), 1) := by decide +kernel
theorem dX5_room_12 : decode cX5_room 12 = .ok (.ireturn, 1) := by decide +kernel
theorem dX5_room_13 : decode cX5_room 13 = .ok (.aload_n 0, 1) := by decide +kernel
theorem dX5_room_14 : decode cX5_room 14 = .ok (.getfield 32, 3) := by decide +kernel
theorem dX5_room_17 : decode cX5_room 17 = .ok (.iload_n 1, 1) := by decide +kernel
theorem dX5_room_18 : decode cX5_room 18 = .ok (.invokevirtual 126, 3) := by decide +kernel
theorem dX5_room_21 : decode cX5_room 21 = .ok (.ifCond .ne 14, 3) := by decide +kernel
theorem dX5_room_24 : decode cX5_room 24 = .ok (.aload_n 0, 1) := by decide +kernel
theorem dX5_room_25 : decode cX5_room 25 = .ok (.getfield 32, 3) := by decide +kernel
theorem dX5_room_28 : decode cX5_room 28 = .ok (.iload_n 1, 1) := by decide +kernel
theorem dX5_room_29 : decode cX5_room 29 = .ok (.invokevirtual 135, 3) := by decide +kernel
theorem dX5_room_32 : decode cX5_room 32 = .ok (.ifCond .eq 6, 3) := by decide +kernel
theorem dX5_room_35 : decode cX5_room 35 = .ok (.bipush (-2), 2) := by decide +kernel
theorem dX5_room_37 : decode cX5_room 37 = .ok (.ireturn, 1) := by decide +kernel
theorem dX5_room_38 : decode cX5_room 38 = .ok (.iconst 0, 1) := by decide +kernel
theorem dX5_room_39 : decode cX5_room 39 = .ok (.istore_n 2, 1) := by decide +kernel
theorem dX5_room_40 : decode cX5_room 40 = .ok (.iconst 0, 1) := by decide +kernel
theorem dX5_room_41 : decode cX5_room 41 = .ok (.istore_n 3, 1) := by decide +kernel
theorem dX5_room_42 : decode cX5_room 42 = .ok (.iload_n 3, 1) := by decide +kernel
theorem dX5_room_43 : decode cX5_room 43 = .ok (.aload_n 0, 1) := by decide +kernel
theorem dX5_room_44 : decode cX5_room 44 = .ok (.getfield 23, 3) := by decide +kernel
theorem dX5_room_47 : decode cX5_room 47 = .ok (.getfield 191, 3) := by decide +kernel
theorem dX5_room_50 : decode cX5_room 50 = .ok (.if_icmp .ge 27, 3) := by decide +kernel
theorem dX5_room_53 : decode cX5_room 53 = .ok (.aload_n 0, 1) := by decide +kernel
theorem dX5_room_54 : decode cX5_room 54 = .ok (.getfield 32, 3) := by decide +kernel
theorem dX5_room_57 : decode cX5_room 57 = .ok (.iload_n 1, 1) := by decide +kernel
theorem dX5_room_58 : decode cX5_room 58 = .ok (.iload_n 3, 1) := by decide +kernel
theorem dX5_room_59 : decode cX5_room 59 = .ok (.invokevirtual 148, 3) := by decide +kernel
theorem dX5_room_62 : decode cX5_room 62 = .ok (.ifCond .eq 9, 3) := by decide +kernel
theorem dX5_room_65 : decode cX5_room 65 = .ok (.iload_n 2, 1) := by decide +kernel
theorem dX5_room_66 : decode cX5_room 66 = .ok (.iconst 1, 1) := by decide +kernel
theorem dX5_room_67 : decode cX5_room 67 = .ok (.iload_n 3, 1) := by decide +kernel
theorem dX5_room_68 : decode cX5_room 68 = .ok (.ishl, 1) := by decide +kernel
theorem dX5_room_69 : decode cX5_room 69 = .ok (.ior, 1) := by decide +kernel
theorem dX5_room_70 : decode cX5_room 70 = .ok (.istore_n 2, 1) := by decide +kernel
theorem dX5_room_71 : decode cX5_room 71 = .ok (.iinc 3 1, 3) := by decide +kernel
theorem dX5_room_74 : decode cX5_room 74 = .ok (.goto (-32), 3) := by decide +kernel
theorem dX5_room_77 : decode cX5_room 77 = .ok (.iload_n 2, 1) := by decide +kernel
theorem dX5_room_78 : decode cX5_room 78 = .ok (.ireturn, 1) := by decide +kernel
theorem dX5_place_0 : decode cX5_place 0 = .ok (.aload_n 0, 1) := by decide +kernel
theorem dX5_place_1 : decode cX5_place 1 = .ok (.getfield 23, 3) := by decide +kernel
theorem dX5_place_4 : decode cX5_place 4 = .ok (.iload_n 1, 1) := by decide +kernel
theorem dX5_place_5 : decode cX5_place 5 = .ok (.invokevirtual 110, 3) := by decide +kernel
theorem dX5_place_8 : decode cX5_place 8 = .ok (.ifCond .eq 10, 3) := by decide +kernel
theorem dX5_place_11 : decode cX5_place 11 = .ok (.iload_n 2, 1) := by decide +kernel
theorem dX5_place_12 : decode cX5_place 12 = .ok (.invokestatic 145, 3) := by decide +kernel
theorem dX5_place_15 : decode cX5_place 15 = .ok (.ifCond .ne 5, 3) := by decide +kernel
theorem dX5_place_18 : decode cX5_place 18 = .ok (.iconst (-1), 1) := by decide +kernel
theorem dX5_place_19 : decode cX5_place 19 = .ok (.ireturn, 1) := by decide +kernel
theorem dX5_place_20 : decode cX5_place 20 = .ok (.aload_n 0, 1) := by decide +kernel
theorem dX5_place_21 : decode cX5_place 21 = .ok (.getfield 32, 3) := by decide +kernel
theorem dX5_place_24 : decode cX5_place 24 = .ok (.iload_n 1, 1) := by decide +kernel
theorem dX5_place_25 : decode cX5_place 25 = .ok (.invokevirtual 135, 3) := by decide +kernel
theorem dX5_place_28 : decode cX5_place 28 = .ok (.ifCond .eq 6, 3) := by decide +kernel
theorem dX5_place_31 : decode cX5_place 31 = .ok (.bipush (-2), 2) := by decide +kernel
theorem dX5_place_33 : decode cX5_place 33 = .ok (.ireturn, 1) := by decide +kernel
theorem dX5_place_34 : decode cX5_place 34 = .ok (.aload_n 0, 1) := by decide +kernel
theorem dX5_place_35 : decode cX5_place 35 = .ok (.getfield 36, 3) := by decide +kernel
theorem dX5_place_38 : decode cX5_place 38 = .ok (.aload_n 0, 1) := by decide +kernel
theorem dX5_place_39 : decode cX5_place 39 = .ok (.getfield 32, 3) := by decide +kernel
theorem dX5_place_42 : decode cX5_place 42 = .ok (.invokevirtual 94, 3) := by decide +kernel
theorem dX5_place_45 : decode cX5_place 45 = .ok (.aload_n 0, 1) := by decide +kernel
theorem dX5_place_46 : decode cX5_place 46 = .ok (.getfield 36, 3) := by decide +kernel
theorem dX5_place_49 : decode cX5_place 49 = .ok (.iload_n 1, 1) := by decide +kernel
theorem dX5_place_50 : decode cX5_place 50 = .ok (.invokevirtual 162, 3) := by decide +kernel
theorem dX5_place_53 : decode cX5_place 53 = .ok (.bipush (-4), 2) := by decide +kernel
theorem dX5_place_55 : decode cX5_place 55 = .ok (.istore_n 3, 1) := by decide +kernel
theorem dX5_place_56 : decode cX5_place 56 = .ok (.bipush (-4), 2) := by decide +kernel
theorem dX5_place_58 : decode cX5_place 58 = .ok (.istore 4, 2) := by decide +kernel
theorem dX5_place_60 : decode cX5_place 60 = .ok (.iconst 0, 1) := by decide +kernel
theorem dX5_place_61 : decode cX5_place 61 = .ok (.istore 5, 2) := by decide +kernel
theorem dX5_place_63 : decode cX5_place 63 = .ok (.iload 5, 2) := by decide +kernel
theorem dX5_place_65 : decode cX5_place 65 = .ok (.iconst 2, 1) := by decide +kernel
theorem dX5_place_66 : decode cX5_place 66 = .ok (.aload_n 0, 1) := by decide +kernel
theorem dX5_place_67 : decode cX5_place 67 = .ok (.getfield 23, 3) := by decide +kernel
theorem dX5_place_70 : decode cX5_place 70 = .ok (.getfield 191, 3) := by decide +kernel
theorem dX5_place_73 : decode cX5_place 73 = .ok (.imul, 1) := by decide +kernel
theorem dX5_place_74 : decode cX5_place 74 = .ok (.if_icmp .ge 71, 3) := by decide +kernel
theorem dX5_place_77 : decode cX5_place 77 = .ok (.aload_n 0, 1) := by decide +kernel
theorem dX5_place_78 : decode cX5_place 78 = .ok (.getfield 36, 3) := by decide +kernel
theorem dX5_place_81 : decode cX5_place 81 = .ok (.iload_n 1, 1) := by decide +kernel
theorem dX5_place_82 : decode cX5_place 82 = .ok (.iload 5, 2) := by decide +kernel
theorem dX5_place_84 : decode cX5_place 84 = .ok (.iconst 2, 1) := by decide +kernel
theorem dX5_place_85 : decode cX5_place 85 = .ok (.idiv, 1) := by decide +kernel
theorem dX5_place_86 : decode cX5_place 86 = .ok (.invokevirtual 148, 3) := by decide +kernel
theorem dX5_place_89 : decode cX5_place 89 = .ok (.ifCond .eq 50, 3) := by decide +kernel
theorem dX5_place_92 : decode cX5_place 92 = .ok (.aload_n 0, 1) := by decide +kernel
theorem dX5_place_93 : decode cX5_place 93 = .ok (.getfield 36, 3) := by decide +kernel
theorem dX5_place_96 : decode cX5_place 96 = .ok (.iload_n 1, 1) := by decide +kernel
theorem dX5_place_97 : decode cX5_place 97 = .ok (.iload 5, 2) := by decide +kernel
theorem dX5_place_99 : decode cX5_place 99 = .ok (.iconst 2, 1) := by decide +kernel
theorem dX5_place_100 : decode cX5_place 100 = .ok (.idiv, 1) := by decide +kernel
theorem dX5_place_101 : decode cX5_place 101 = .ok (.iload 5, 2) := by decide +kernel
theorem dX5_place_103 : decode cX5_place 103 = .ok (.iconst 2, 1) := by decide +kernel
theorem dX5_place_104 : decode cX5_place 104 = .ok (.irem, 1) := by decide +kernel
theorem dX5_place_105 : decode cX5_place 105 = .ok (.invokevirtual 155, 3) := by decide +kernel
theorem dX5_place_108 : decode cX5_place 108 = .ok (.aload_n 0, 1) := by decide +kernel
theorem dX5_place_109 : decode cX5_place 109 = .ok (.getfield 36, 3) := by decide +kernel
theorem dX5_place_112 : decode cX5_place 112 = .ok (.invokevirtual 194, 3) := by decide +kernel
theorem dX5_place_115 : decode cX5_place 115 = .ok (.istore 6, 2) := by decide +kernel
theorem dX5_place_117 : decode cX5_place 117 = .ok (.aload_n 0, 1) := by decide +kernel
theorem dX5_place_118 : decode cX5_place 118 = .ok (.getfield 36, 3) := by decide +kernel
theorem dX5_place_121 : decode cX5_place 121 = .ok (.iload_n 1, 1) := by decide +kernel
theorem dX5_place_122 : decode cX5_place 122 = .ok (.invokevirtual 162, 3) := by decide +kernel
theorem dX5_place_125 : decode cX5_place 125 = .ok (.iload 6, 2) := by decide +kernel
theorem dX5_place_127 : decode cX5_place 127 = .ok (.iload 4, 2) := by decide +kernel
theorem dX5_place_129 : decode cX5_place 129 = .ok (.if_icmp .le 10, 3) := by decide +kernel
theorem dX5_place_132 : decode cX5_place 132 = .ok (.iload 6, 2) := by decide +kernel
theorem dX5_place_134 : decode cX5_place 134 = .ok (.istore 4, 2) := by decide +kernel
theorem dX5_place_136 : decode cX5_place 136 = .ok (.iload 5, 2) := by decide +kernel
theorem dX5_place_138 : decode cX5_place 138 = .ok (.istore_n 3, 1) := by decide +kernel
theorem dX5_place_139 : decode cX5_place 139 = .ok (.iinc 5 1, 3) := by decide +kernel
theorem dX5_place_142 : decode cX5_place 142 = .ok (.goto (-79), 3) := by decide +kernel
theorem dX5_place_145 : decode cX5_place 145 = .ok (.iload_n 2, 1) := by decide +kernel
theorem dX5_place_146 : decode cX5_place 146 = .ok (.ifCond .ne 7, 3) := by decide +kernel
theorem dX5_place_149 : decode cX5_place 149 = .ok (.iload_n 3, 1) := by decide +kernel
theorem dX5_place_150 : decode cX5_place 150 = .ok (.goto 5, 3) := by decide +kernel
theorem dX5_place_153 : decode cX5_place 153 = .ok (.iload 4, 2) := by decide +kernel
theorem dX5_place_155 : decode cX5_place 155 = .ok (.ireturn, 1) := by decide +kernel
theorem dX5_byHand_0 : decode cX5_byHand 0 = .ok (.iload_n 1, 1) := by decide +kernel
theorem dX5_byHand_1 : decode cX5_byHand 1 = .ok (.invokestatic 145, 3) := by decide +kernel
theorem dX5_byHand_4 : decode cX5_byHand 4 = .ok (.ifCond .ne 5, 3) := by decide +kernel
theorem dX5_byHand_7 : decode cX5_byHand 7 = .ok (.iconst (-1), 1) := by decide +kernel
theorem dX5_byHand_8 : decode cX5_byHand 8 = .ok (.ireturn, 1) := by decide +kernel
theorem dX5_byHand_9 : decode cX5_byHand 9 = .ok (.aload_n 0, 1) := by decide +kernel
theorem dX5_byHand_10 : decode cX5_byHand 10 = .ok (.getfield 32, 3) := by decide +kernel
theorem dX5_byHand_13 : decode cX5_byHand 13 = .ok (.invokevirtual 197, 3) := by decide +kernel
theorem dX5_byHand_16 : decode cX5_byHand 16 = .ok (.aload_n 0, 1) := by decide +kernel
theorem dX5_byHand_17 : decode cX5_byHand 17 = .ok (.getfield 32, 3) := by decide +kernel
theorem dX5_byHand_20 : decode cX5_byHand 20 = .ok (.aload_n 0, 1) := by decide +kernel
theorem dX5_byHand_21 : decode cX5_byHand 21 = .ok (.getfield 32, 3) := by decide +kernel
theorem dX5_byHand_24 : decode cX5_byHand 24 = .ok (.getfield 173, 3) := by decide +kernel
theorem dX5_byHand_27 : decode cX5_byHand 27 = .ok (.invokevirtual 188, 3) := by decide +kernel
theorem dX5_byHand_30 : decode cX5_byHand 30 = .ok (.iconst (-1), 1) := by decide +kernel
theorem dX5_byHand_31 : decode cX5_byHand 31 = .ok (.ixor, 1) := by decide +kernel
theorem dX5_byHand_32 : decode cX5_byHand 32 = .ok (.iand, 1) := by decide +kernel
theorem dX5_byHand_33 : decode cX5_byHand 33 = .ok (.istore_n 2, 1) := by decide +kernel
theorem dX5_byHand_34 : decode cX5_byHand 34 = .ok (.bipush (-4), 2) := by decide +kernel
theorem dX5_byHand_36 : decode cX5_byHand 36 = .ok (.istore_n 3, 1) := by decide +kernel
theorem dX5_byHand_37 : decode cX5_byHand 37 = .ok (.bipush (-4), 2) := by decide +kernel
theorem dX5_byHand_39 : decode cX5_byHand 39 = .ok (.istore 4, 2) := by decide +kernel
theorem dX5_byHand_41 : decode cX5_byHand 41 = .ok (.iconst 0, 1) := by decide +kernel
theorem dX5_byHand_42 : decode cX5_byHand 42 = .ok (.istore 5, 2) := by decide +kernel
theorem dX5_byHand_44 : decode cX5_byHand 44 = .ok (.iload 5, 2) := by decide +kernel
theorem dX5_byHand_46 : decode cX5_byHand 46 = .ok (.aload_n 0, 1) := by decide +kernel
theorem dX5_byHand_47 : decode cX5_byHand 47 = .ok (.getfield 23, 3) := by decide +kernel
theorem dX5_byHand_50 : decode cX5_byHand 50 = .ok (.getfield 87, 3) := by decide +kernel
theorem dX5_byHand_53 : decode cX5_byHand 53 = .ok (.if_icmp .ge 41, 3) := by decide +kernel
theorem dX5_byHand_56 : decode cX5_byHand 56 = .ok (.iload_n 2, 1) := by decide +kernel
theorem dX5_byHand_57 : decode cX5_byHand 57 = .ok (.iload 5, 2) := by decide +kernel
theorem dX5_byHand_59 : decode cX5_byHand 59 = .ok (.ishr, 1) := by decide +kernel
theorem dX5_byHand_60 : decode cX5_byHand 60 = .ok (.iconst 1, 1) := by decide +kernel
