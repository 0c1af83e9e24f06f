theorem dX0_init_0 : decode cX0_init 0 = .ok (.aload_n 0, 1) := by decide +kernel
theorem dX0_init_1 : decode cX0_init 1 = .ok (.invokespecial 1, 3) := by decide +kernel
theorem dX0_init_4 : decode cX0_init 4 = .ok (.aload_n 0, 1) := by decide +kernel
theorem dX0_init_5 : decode cX0_init 5 = .ok (.iload_n 1, 1) := by decide +kernel
theorem dX0_init_6 : decode cX0_init 6 = .ok (.iconst 1, 1) := by decide +kernel
theorem dX0_init_7 : decode cX0_init 7 = .ok (.if_icmp .lt 13, 3) := by decide +kernel
theorem dX0_init_10 : decode cX0_init 10 = .ok (.iload_n 1, 1) := by decide +kernel
theorem dX0_init_11 : decode cX0_init 11 = .ok (.bipush 12, 2) := by decide +kernel
theorem dX0_init_13 : decode cX0_init 13 = .ok (.if_icmp .gt 7, 3) := by decide +kernel
theorem dX0_init_16 : decode cX0_init 16 = .ok (.iload_n 1, 1) := by decide +kernel
theorem dX0_init_17 : decode cX0_init 17 = .ok (.goto 5, 3) := by decide +kernel
theorem dX0_init_20 : decode cX0_init 20 = .ok (.bipush 6, 2) := by decide +kernel
theorem dX0_init_22 : decode cX0_init 22 = .ok (.putfield 9, 3) := by decide +kernel
theorem dX0_init_25 : decode cX0_init 25 = .ok (.aload_n 0, 1) := by decide +kernel
theorem dX0_init_26 : decode cX0_init 26 = .ok (.bipush 64, 2) := by decide +kernel
theorem dX0_init_28 : decode cX0_init 28 = .ok (.newarray .long, 2) := by decide +kernel
theorem dX0_init_30 : decode cX0_init 30 = .ok (.putfield 13, 3) := by decide +kernel
theorem dX0_init_33 : decode cX0_init 33 = .ok (.aload_n 0, 1) := by decide +kernel
theorem dX0_init_34 : decode cX0_init 34 = .ok (.aload_n 0, 1) := by decide +kernel
theorem dX0_init_35 : decode cX0_init 35 = .ok (.getfield 9, 3) := by decide +kernel
theorem dX0_init_38 : decode cX0_init 38 = .ok (.newarray .long, 2) := by decide +kernel
theorem dX0_init_40 : decode cX0_init 40 = .ok (.putfield 17, 3) := by decide +kernel
theorem dX0_init_43 : decode cX0_init 43 = .ok (.aload_n 0, 1) := by decide +kernel
theorem dX0_init_44 : decode cX0_init 44 = .ok (.aload_n 0, 1) := by decide +kernel
theorem dX0_init_45 : decode cX0_init 45 = .ok (.getfield 9, 3) := by decide +kernel
theorem dX0_init_48 : decode cX0_init 48 = .ok (.newarray .int, 2) := by decide +kernel
theorem dX0_init_50 : decode cX0_init 50 = .ok (.putfield 20, 3) := by decide +kernel
theorem dX0_init_53 : decode cX0_init 53 = .ok (.aload_n 0, 1) := by decide +kernel
theorem dX0_init_54 : decode cX0_init 54 = .ok (.aload_n 0, 1) := by decide +kernel
theorem dX0_init_55 : decode cX0_init 55 = .ok (.getfield 9, 3) := by decide +kernel
theorem dX0_init_58 : decode cX0_init 58 = .ok (.newarray .int, 2) := by decide +kernel
theorem dX0_init_60 : decode cX0_init 60 = .ok (.putfield 24, 3) := by decide +kernel
theorem dX0_init_63 : decode cX0_init 63 = .ok (.aload_n 0, 1) := by decide +kernel
theorem dX0_init_64 : decode cX0_init 64 = .ok (.aload_n 0, 1) := by decide +kernel
theorem dX0_init_65 : decode cX0_init 65 = .ok (.getfield 9, 3) := by decide +kernel
theorem dX0_init_68 : decode cX0_init 68 = .ok (.newarray .int, 2) := by decide +kernel
theorem dX0_init_70 : decode cX0_init 70 = .ok (.putfield 27, 3) := by decide +kernel
theorem dX0_init_73 : decode cX0_init 73 = .ok (.aload_n 0, 1) := by decide +kernel
theorem dX0_init_74 : decode cX0_init 74 = .ok (.getfield 20, 3) := by decide +kernel
theorem dX0_init_77 : decode cX0_init 77 = .ok (.iconst (-1), 1) := by decide +kernel
theorem dX0_init_78 : decode cX0_init 78 = .ok (.invokestatic 30, 3) := by decide +kernel
theorem dX0_init_81 : decode cX0_init 81 = .ok (.aload_n 0, 1) := by decide +kernel
theorem dX0_init_82 : decode cX0_init 82 = .ok (.getfield 24, 3) := by decide +kernel
theorem dX0_init_85 : decode cX0_init 85 = .ok (.iconst (-1), 1) := by decide +kernel
theorem dX0_init_86 : decode cX0_init 86 = .ok (.invokestatic 30, 3) := by decide +kernel
theorem dX0_init_89 : decode cX0_init 89 = .ok (.return_, 1) := by decide +kernel
theorem dJ7_fill_0 : decode cJ7_fill 0 = .ok (.iconst 0, 1) := by decide +kernel
theorem dJ7_fill_1 : decode cJ7_fill 1 = .ok (.istore_n 2, 1) := by decide +kernel
theorem dJ7_fill_2 : decode cJ7_fill 2 = .ok (.aload_n 0, 1) := by decide +kernel
theorem dJ7_fill_3 : decode cJ7_fill 3 = .ok (.arraylength, 1) := by decide +kernel
theorem dJ7_fill_4 : decode cJ7_fill 4 = .ok (.istore_n 3, 1) := by decide +kernel
theorem dJ7_fill_5 : decode cJ7_fill 5 = .ok (.iload_n 2, 1) := by decide +kernel
theorem dJ7_fill_6 : decode cJ7_fill 6 = .ok (.iload_n 3, 1) := by decide +kernel
theorem dJ7_fill_7 : decode cJ7_fill 7 = .ok (.if_icmp .ge 13, 3) := by decide +kernel
theorem dJ7_fill_10 : decode cJ7_fill 10 = .ok (.aload_n 0, 1) := by decide +kernel
theorem dJ7_fill_11 : decode cJ7_fill 11 = .ok (.iload_n 2, 1) := by decide +kernel
theorem dJ7_fill_12 : decode cJ7_fill 12 = .ok (.iload_n 1, 1) := by decide +kernel
theorem dJ7_fill_13 : decode cJ7_fill 13 = .ok (.iastore, 1) := by decide +kernel
theorem dJ7_fill_14 : decode cJ7_fill 14 = .ok (.iinc 2 1, 3) := by decide +kernel
theorem dJ7_fill_17 : decode cJ7_fill 17 = .ok (.goto (-12), 3) := by decide +kernel
theorem dJ7_fill_20 : decode cJ7_fill 20 = .ok (.return_, 1) := by decide +kernel
theorem dX0_check_0 : decode cX0_check 0 = .ok (.iconst 0, 1) := by decide +kernel
theorem dX0_check_1 : decode cX0_check 1 = .ok (.istore_n 1, 1) := by decide +kernel
theorem dX0_check_2 : decode cX0_check 2 = .ok (.iconst 0, 1) := by decide +kernel
theorem dX0_check_3 : decode cX0_check 3 = .ok (.istore_n 2, 1) := by decide +kernel
theorem dX0_check_4 : decode cX0_check 4 = .ok (.iload_n 2, 1) := by decide +kernel
theorem dX0_check_5 : decode cX0_check 5 = .ok (.aload_n 0, 1) := by decide +kernel
theorem dX0_check_6 : decode cX0_check 6 = .ok (.getfield 9, 3) := by decide +kernel
theorem dX0_check_9 : decode cX0_check 9 = .ok (.if_icmp .ge 32, 3) := by decide +kernel
theorem dX0_check_12 : decode cX0_check 12 = .ok (.aload_n 0, 1) := by decide +kernel
theorem dX0_check_13 : decode cX0_check 13 = .ok (.getfield 24, 3) := by decide +kernel
theorem dX0_check_16 : decode cX0_check 16 = .ok (.iload_n 2, 1) := by decide +kernel
theorem dX0_check_17 : decode cX0_check 17 = .ok (.iaload, 1) := by decide +kernel
theorem dX0_check_18 : decode cX0_check 18 = .ok (.aload_n 0, 1) := by decide +kernel
theorem dX0_check_19 : decode cX0_check 19 = .ok (.getfield 20, 3) := by decide +kernel
theorem dX0_check_22 : decode cX0_check 22 = .ok (.iload_n 2, 1) := by decide +kernel
theorem dX0_check_23 : decode cX0_check 23 = .ok (.iaload, 1) := by decide +kernel
theorem dX0_check_24 : decode cX0_check 24 = .ok (.if_icmp .eq 11, 3) := by decide +kernel
theorem dX0_check_27 : decode cX0_check 27 = .ok (.aload_n 0, 1) := by decide +kernel
theorem dX0_check_28 : decode cX0_check 28 = .ok (.iload_n 2, 1) := by decide +kernel
theorem dX0_check_29 : decode cX0_check 29 = .ok (.invokevirtual 110, 3) := by decide +kernel
theorem dX0_check_32 : decode cX0_check 32 = .ok (.iinc 1 1, 3) := by decide +kernel
theorem dX0_check_35 : decode cX0_check 35 = .ok (.iinc 2 1, 3) := by decide +kernel
theorem dX0_check_38 : decode cX0_check 38 = .ok (.goto (-34), 3) := by decide +kernel
theorem dX0_check_41 : decode cX0_check 41 = .ok (.iload_n 1, 1) := by decide +kernel
theorem dX0_check_42 : decode cX0_check 42 = .ok (.ireturn, 1) := by decide +kernel
theorem dX0_noteSlot_0 : decode cX0_noteSlot 0 = .ok (.aload_n 0, 1) := by decide +kernel
theorem dX0_noteSlot_1 : decode cX0_noteSlot 1 = .ok (.getfield 24, 3) := by decide +kernel
theorem dX0_noteSlot_4 : decode cX0_noteSlot 4 = .ok (.iload_n 1, 1) := by decide +kernel
theorem dX0_noteSlot_5 : decode cX0_noteSlot 5 = .ok (.aload_n 0, 1) := by decide +kernel
theorem dX0_noteSlot_6 : decode cX0_noteSlot 6 = .ok (.getfield 20, 3) := by decide +kernel
theorem dX0_noteSlot_9 : decode cX0_noteSlot 9 = .ok (.iload_n 1, 1) := by decide +kernel
theorem dX0_noteSlot_10 : decode cX0_noteSlot 10 = .ok (.iaload, 1) := by decide +kernel
theorem dX0_noteSlot_11 : decode cX0_noteSlot 11 = .ok (.iastore, 1) := by decide +kernel
theorem dX0_noteSlot_12 : decode cX0_noteSlot 12 = .ok (.aload_n 0, 1) := by decide +kernel
theorem dX0_noteSlot_13 : decode cX0_noteSlot 13 = .ok (.dup, 1) := by decide +kernel
theorem dX0_noteSlot_14 : decode cX0_noteSlot 14 = .ok (.getfield 140, 3) := by decide +kernel
theorem dX0_noteSlot_17 : decode cX0_noteSlot 17 = .ok (.iconst 1, 1) := by decide +kernel
theorem dX0_noteSlot_18 : decode cX0_noteSlot 18 = .ok (.iadd, 1) := by decide +kernel
theorem dX0_noteSlot_19 : decode cX0_noteSlot 19 = .ok (.putfield 140, 3) := by decide +kernel
theorem dX0_noteSlot_22 : decode cX0_noteSlot 22 = .ok (.return_, 1) := by decide +kernel
theorem dX0_crash_0 : decode cX0_crash 0 = .ok (.aload_n 0, 1) := by decide +kernel
theorem dX0_crash_1 : decode cX0_crash 1 = .ok (.invokevirtual 87, 3) := by decide +kernel
theorem dX0_crash_4 : decode cX0_crash 4 = .ok (.aload_n 0, 1) := by decide +kernel
theorem dX0_crash_5 : decode cX0_crash 5 = .ok (.invokevirtual 113, 3) := by decide +kernel
theorem dX0_crash_8 : decode cX0_crash 8 = .ok (.ireturn, 1) := by decide +kernel
theorem dX0_stopMachine_0 : decode cX0_stopMachine 0 = .ok (.iconst 0, 1) := by decide +kernel
theorem dX0_stopMachine_1 : decode cX0_stopMachine 1 = .ok (.istore_n 1, 1) := by decide +kernel
theorem dX0_stopMachine_2 : decode cX0_stopMachine 2 = .ok (.iload_n 1, 1) := by decide +kernel
theorem dX0_stopMachine_3 : decode cX0_stopMachine 3 = .ok (.aload_n 0, 1) := by decide +kernel
theorem dX0_stopMachine_4 : decode cX0_stopMachine 4 = .ok (.getfield 9, 3) := by decide +kernel
theorem dX0_stopMachine_7 : decode cX0_stopMachine 7 = .ok (.if_icmp .ge 29, 3) := by decide +kernel
theorem dX0_stopMachine_10 : decode cX0_stopMachine 10 = .ok (.aload_n 0, 1) := by decide +kernel
theorem dX0_stopMachine_11 : decode cX0_stopMachine 11 = .ok (.getfield 20, 3) := by decide +kernel
theorem dX0_stopMachine_14 : decode cX0_stopMachine 14 = .ok (.iload_n 1, 1) := by decide +kernel
theorem dX0_stopMachine_15 : decode cX0_stopMachine 15 = .ok (.aload_n 0, 1) := by decide +kernel
theorem dX0_stopMachine_16 : decode cX0_stopMachine 16 = .ok (.getfield 24, 3) := by decide +kernel
theorem dX0_stopMachine_19 : decode cX0_stopMachine 19 = .ok (.iload_n 1, 1) := by decide +kernel
theorem dX0_stopMachine_20 : decode cX0_stopMachine 20 = .ok (.iaload, 1) := by decide +kernel
theorem dX0_stopMachine_21 : decode cX0_stopMachine 21 = .ok (.iastore, 1) := by decide +kernel
theorem dX0_stopMachine_22 : decode cX0_stopMachine 22 = .ok (.aload_n 0, 1) := by decide +kernel
theorem dX0_stopMachine_23 : decode cX0_stopMachine 23 = .ok (.getfield 27, 3) := by decide +kernel
theorem dX0_stopMachine_26 : decode cX0_stopMachine 26 = .ok (.iload_n 1, 1) := by decide +kernel
theorem dX0_stopMachine_27 : decode cX0_stopMachine 27 = .ok (.iload_n 1, 1) := by decide +kernel
theorem dX0_stopMachine_28 : decode cX0_stopMachine 28 = .ok (.ineg, 1) := by decide +kernel
theorem dX0_stopMachine_29 : decode cX0_stopMachine 29 = .ok (.iastore, 1) := by decide +kernel
theorem dX0_stopMachine_30 : decode cX0_stopMachine 30 = .ok (.iinc 1 1, 3) := by decide +kernel
theorem dX0_stopMachine_33 : decode cX0_stopMachine 33 = .ok (.goto (-31), 3) := by decide +kernel
theorem dX0_stopMachine_36 : decode cX0_stopMachine 36 = .ok (.aload_n 0, 1) := by decide +kernel
theorem dX0_stopMachine_37 : decode cX0_stopMachine 37 = .ok (.iconst 0, 1) := by decide +kernel
theorem dX0_stopMachine_38 : decode cX0_stopMachine 38 = .ok (.putfield 53, 3) := by decide +kernel
theorem dX0_stopMachine_41 : decode cX0_stopMachine 41 = .ok (.aload_n 0, 1) := by decide +kernel
theorem dX0_stopMachine_42 : decode cX0_stopMachine 42 = .ok (.iconst 0, 1) := by decide +kernel
theorem dX0_stopMachine_43 : decode cX0_stopMachine 43 = .ok (.putfield 107, 3) := by decide +kernel
theorem dX0_stopMachine_46 : decode cX0_stopMachine 46 = .ok (.return_, 1) := by decide +kernel
theorem dX0_countFull_0 : decode cX0_countFull 0 = .ok (.iconst 0, 1) := by decide +kernel
theorem dX0_countFull_1 : decode cX0_countFull 1 = .ok (.istore_n 1, 1) := by decide +kernel
theorem dX0_countFull_2 : decode cX0_countFull 2 = .ok (.iconst 0, 1) := by decide +kernel
theorem dX0_countFull_3 : decode cX0_countFull 3 = .ok (.istore_n 2, 1) := by decide +kernel
theorem dX0_countFull_4 : decode cX0_countFull 4 = .ok (.iload_n 2, 1) := by decide +kernel
theorem dX0_countFull_5 : decode cX0_countFull 5 = .ok (.aload_n 0, 1) := by decide +kernel
theorem dX0_countFull_6 : decode cX0_countFull 6 = .ok (.getfield 9, 3) := by decide +kernel
theorem dX0_countFull_9 : decode cX0_countFull 9 = .ok (.if_icmp .ge 22, 3) := by decide +kernel
theorem dX0_countFull_12 : decode cX0_countFull 12 = .ok (.aload_n 0, 1) := by decide +kernel
theorem dX0_countFull_13 : decode cX0_countFull 13 = .ok (.getfield 20, 3) := by decide +kernel
theorem dX0_countFull_16 : decode cX0_countFull 16 = .ok (.iload_n 2, 1) := by decide +kernel
theorem dX0_countFull_17 : decode cX0_countFull 17 = .ok (.iaload, 1) := by decide +kernel
theorem dX0_countFull_18 : decode cX0_countFull 18 = .ok (.iconst (-1), 1) := by decide +kernel
theorem dX0_countFull_19 : decode cX0_countFull 19 = .ok (.if_icmp .eq 6, 3) := by decide +kernel
theorem dX0_countFull_22 : decode cX0_countFull 22 = .ok (.iinc 1 1, 3) := by decide +kernel
theorem dX0_countFull_25 : decode cX0_countFull 25 = .ok (.iinc 2 1, 3) := by decide +kernel
theorem dX0_countFull_28 : decode cX0_countFull 28 = .ok (.goto (-24), 3) := by decide +kernel
theorem dX0_countFull_31 : decode cX0_countFull 31 = .ok (.iload_n 1, 1) := by decide +kernel
theorem dX0_countFull_32 : decode cX0_countFull 32 = .ok (.ireturn, 1) := by decide +kernel
theorem dX0_lose_0 : decode cX0_lose 0 = .ok (.aload_n 0, 1) := by decide +kernel
theorem dX0_lose_1 : decode cX0_lose 1 = .ok (.invokevirtual 116, 3) := by decide +kernel
theorem dX0_lose_4 : decode cX0_lose 4 = .ok (.istore_n 1, 1) := by decide +kernel
theorem dX0_lose_5 : decode cX0_lose 5 = .ok (.aload_n 0, 1) := by decide +kernel
theorem dX0_lose_6 : decode cX0_lose 6 = .ok (.getfield 24, 3) := by decide +kernel
theorem dX0_lose_9 : decode cX0_lose 9 = .ok (.iconst (-1), 1) := by decide +kernel
theorem dX0_lose_10 : decode cX0_lose 10 = .ok (.invokestatic 30, 3) := by decide +kernel
theorem dX0_lose_13 : decode cX0_lose 13 = .ok (.aload_n 0, 1) := by decide +kernel
theorem dX0_lose_14 : decode cX0_lose 14 = .ok (.invokevirtual 87, 3) := by decide +kernel
theorem dX0_lose_17 : decode cX0_lose 17 = .ok (.iload_n 1, 1) := by decide +kernel
theorem dX0_lose_18 : decode cX0_lose 18 = .ok (.ireturn, 1) := by decide +kernel
theorem dX0_countDirty_0 : decode cX0_countDirty 0 = .ok (.iconst 0, 1) := by decide +kernel
theorem dX0_countDirty_1 : decode cX0_countDirty 1 = .ok (.istore_n 1, 1) := by decide +kernel
theorem dX0_countDirty_2 : decode cX0_countDirty 2 = .ok (.iconst 0, 1) := by decide +kernel
theorem dX0_countDirty_3 : decode cX0_countDirty 3 = .ok (.istore_n 2, 1) := by decide +kernel
theorem dX0_countDirty_4 : decode cX0_countDirty 4 = .ok (.iload_n 2, 1) := by decide +kernel
theorem dX0_countDirty_5 : decode cX0_countDirty 5 = .ok (.aload_n 0, 1) := by decide +kernel
theorem dX0_countDirty_6 : decode cX0_countDirty 6 = .ok (.getfield 9, 3) := by decide +kernel
theorem dX0_countDirty_9 : decode cX0_countDirty 9 = .ok (.if_icmp .ge 24, 3) := by decide +kernel
theorem dX0_countDirty_12 : decode cX0_countDirty 12 = .ok (.aload_n 0, 1) := by decide +kernel
theorem dX0_countDirty_13 : decode cX0_countDirty 13 = .ok (.getfield 20, 3) := by decide +kernel
theorem dX0_countDirty_16 : decode cX0_countDirty 16 = .ok (.iload_n 2, 1) := by decide +kernel
theorem dX0_countDirty_17 : decode cX0_countDirty 17 = .ok (.iaload, 1) := by decide +kernel
theorem dX0_countDirty_18 : decode cX0_countDirty 18 = .ok (.invokestatic 124, 3) := by decide +kernel
theorem dX0_countDirty_21 : decode cX0_countDirty 21 = .ok (.ifCond .eq 6, 3) := by decide +kernel
theorem dX0_countDirty_24 : decode cX0_countDirty 24 = .ok (.iinc 1 1, 3) := by decide +kernel
theorem dX0_countDirty_27 : decode cX0_countDirty 27 = .ok (.iinc 2 1, 3) := by decide +kernel
theorem dX0_countDirty_30 : decode cX0_countDirty 30 = .ok (.goto (-26), 3) := by decide +kernel
theorem dX0_countDirty_33 : decode cX0_countDirty 33 = .ok (.iload_n 1, 1) := by decide +kernel
theorem dX0_countDirty_34 : decode cX0_countDirty 34 = .ok (.ireturn, 1) := by decide +kernel
theorem dX0_isDirty_0 : decode cX0_isDirty 0 = .ok (.iload_n 0, 1) := by decide +kernel
theorem dX0_isDirty_1 : decode cX0_isDirty 1 = .ok (.iconst (-1), 1) := by decide +kernel
theorem dX0_isDirty_2 : decode cX0_isDirty 2 = .ok (.if_icmp .eq 14, 3) := by decide +kernel
theorem dX0_isDirty_5 : decode cX0_isDirty 5 = .ok (.iload_n 0, 1) := by decide +kernel
theorem dX0_isDirty_6 : decode cX0_isDirty 6 = .ok (.iconst 1, 1) := by decide +kernel
theorem dX0_isDirty_7 : decode cX0_isDirty 7 = .ok (.iand, 1) := by decide +kernel
theorem dX0_isDirty_8 : decode cX0_isDirty 8 = .ok (.iconst 1, 1) := by decide +kernel
theorem dX0_isDirty_9 : decode cX0_isDirty 9 = .ok (.if_icmp .ne 7, 3) := by decide +kernel
theorem dX0_isDirty_12 : decode cX0_isDirty 12 = .ok (.iconst 1, 1) := by decide +kernel
theorem dX0_isDirty_13 : decode cX0_isDirty 13 = .ok (.goto 4, 3) := by decide +kernel
theorem dX0_isDirty_16 : decode cX0_isDirty 16 = .ok (.iconst 0, 1) := by decide +kernel
theorem dX0_isDirty_17 : decode cX0_isDirty 17 = .ok (.ireturn, 1) := by decide +kernel
theorem dX0_read_0 : decode cX0_read 0 = .ok (.iload_n 1, 1) := by decide +kernel
theorem dX0_read_1 : decode cX0_read 1 = .ok (.invokestatic 36, 3) := by decide +kernel
theorem dX0_read_4 : decode cX0_read 4 = .ok (.aload_n 0, 1) := by decide +kernel
theorem dX0_read_5 : decode cX0_read 5 = .ok (.iload_n 1, 1) := by decide +kernel
theorem dX0_read_6 : decode cX0_read 6 = .ok (.invokevirtual 40, 3) := by decide +kernel
theorem dX0_read_9 : decode cX0_read 9 = .ok (.istore_n 2, 1) := by decide +kernel
theorem dX0_read_10 : decode cX0_read 10 = .ok (.iload_n 2, 1) := by decide +kernel
theorem dX0_read_11 : decode cX0_read 11 = .ok (.iconst (-1), 1) := by decide +kernel
theorem dX0_read_12 : decode cX0_read 12 = .ok (.if_icmp .eq 25, 3) := by decide +kernel
theorem dX0_read_15 : decode cX0_read 15 = .ok (.aload_n 0, 1) := by decide +kernel
theorem dX0_read_16 : decode cX0_read 16 = .ok (.dup, 1) := by decide +kernel
theorem dX0_read_17 : decode cX0_read 17 = .ok (.getfield 44, 3) := by decide +kernel
theorem dX0_read_20 : decode cX0_read 20 = .ok (.iconst 1, 1) := by decide +kernel
theorem dX0_read_21 : decode cX0_read 21 = .ok (.iadd, 1) := by decide +kernel
theorem dX0_read_22 : decode cX0_read 22 = .ok (.putfield 44, 3) := by decide +kernel
theorem dX0_read_25 : decode cX0_read 25 = .ok (.aload_n 0, 1) := by decide +kernel
theorem dX0_read_26 : decode cX0_read 26 = .ok (.iload_n 2, 1) := by decide +kernel
theorem dX0_read_27 : decode cX0_read 27 = .ok (.invokevirtual 47, 3) := by decide +kernel
theorem dX0_read_30 : decode cX0_read 30 = .ok (.aload_n 0, 1) := by decide +kernel
theorem dX0_read_31 : decode cX0_read 31 = .ok (.getfield 17, 3) := by decide +kernel
theorem dX0_read_34 : decode cX0_read 34 = .ok (.iload_n 2, 1) := by decide +kernel
theorem dX0_read_35 : decode cX0_read 35 = .ok (.laload, 1) := by decide +kernel
theorem dX0_read_36 : decode cX0_read 36 = .ok (.lreturn, 1) := by decide +kernel
theorem dX0_read_37 : decode cX0_read 37 = .ok (.aload_n 0, 1) := by decide +kernel
theorem dX0_read_38 : decode cX0_read 38 = .ok (.dup, 1) := by decide +kernel
theorem dX0_read_39 : decode cX0_read 39 = .ok (.getfield 50, 3) := by decide +kernel
theorem dX0_read_42 : decode cX0_read 42 = .ok (.iconst 1, 1) := by decide +kernel
theorem dX0_read_43 : decode cX0_read 43 = .ok (.iadd, 1) := by decide +kernel
theorem dX0_read_44 : decode cX0_read 44 = .ok (.putfield 50, 3) := by decide +kernel
theorem dX0_read_47 : decode cX0_read 47 = .ok (.aload_n 0, 1) := by decide +kernel
theorem dX0_read_48 : decode cX0_read 48 = .ok (.getfield 53, 3) := by decide +kernel
theorem dX0_read_51 : decode cX0_read 51 = .ok (.iconst 2, 1) := by decide +kernel
theorem dX0_read_52 : decode cX0_read 52 = .ok (.if_icmp .eq 12, 3) := by decide +kernel
theorem dX0_read_55 : decode cX0_read 55 = .ok (.aload_n 0, 1) := by decide +kernel
theorem dX0_read_56 : decode cX0_read 56 = .ok (.aload_n 0, 1) := by decide +kernel
theorem dX0_read_57 : decode cX0_read 57 = .ok (.invokevirtual 56, 3) := by decide +kernel
theorem dX0_read_60 : decode cX0_read 60 = .ok (.iload_n 1, 1) := by decide +kernel
theorem dX0_read_61 : decode cX0_read 61 = .ok (.invokevirtual 60, 3) := by decide +kernel
theorem dX0_read_64 : decode cX0_read 64 = .ok (.aload_n 0, 1) := by decide +kernel
theorem dX0_read_65 : decode cX0_read 65 = .ok (.getfield 13, 3) := by decide +kernel
theorem dX0_read_68 : decode cX0_read 68 = .ok (.iload_n 1, 1) := by decide +kernel
theorem dX0_read_69 : decode cX0_read 69 = .ok (.laload, 1) := by decide +kernel
theorem dX0_read_70 : decode cX0_read 70 = .ok (.lreturn, 1) := by decide +kernel
theorem dX0_requireBlock_0 : decode cX0_requireBlock 0 = .ok (.iload_n 0, 1) := by decide +kernel
theorem dX0_requireBlock_1 : decode cX0_requireBlock 1 = .ok (.ifCond .lt 9, 3) := by decide +kernel
theorem dX0_requireBlock_4 : decode cX0_requireBlock 4 = .ok (.iload_n 0, 1) := by decide +kernel
theorem dX0_requireBlock_5 : decode cX0_requireBlock 5 = .ok (.bipush 64, 2) := by decide +kernel
theorem dX0_requireBlock_7 : decode cX0_requireBlock 7 = .ok (.if_icmp .lt 13, 3) := by decide +kernel
theorem dX0_requireBlock_10 : decode cX0_requireBlock 10 = .ok (.new 75, 3) := by decide +kernel
theorem dX0_requireBlock_13 : decode cX0_requireBlock 13 = .ok (.dup, 1) := by decide +kernel
theorem dX0_requireBlock_14 : decode cX0_requireBlock 14 = .ok (.ldc 145, 2) := by decide +kernel
theorem dX0_requireBlock_16 : decode cX0_requireBlock 16 = .ok (.invokespecial 79, 3) := by decide +kernel
theorem dX0_requireBlock_19 : decode cX0_requireBlock 19 = .ok (.athrow, 1) := by decide +kernel
theorem dX0_requireBlock_20 : decode cX0_requireBlock 20 = .ok (.return_, 1) := by decide +kernel
theorem dX0_slotWith_0 : decode cX0_slotWith 0 = .ok (.iconst 0, 1) := by decide +kernel
theorem dX0_slotWith_1 : decode cX0_slotWith 1 = .ok (.istore_n 2, 1) := by decide +kernel
theorem dX0_slotWith_2 : decode cX0_slotWith 2 = .ok (.iload_n 2, 1) := by decide +kernel
theorem dX0_slotWith_3 : decode cX0_slotWith 3 = .ok (.aload_n 0, 1) := by decide +kernel
theorem dX0_slotWith_4 : decode cX0_slotWith 4 = .ok (.getfield 9, 3) := by decide +kernel
theorem dX0_slotWith_7 : decode cX0_slotWith 7 = .ok (.if_icmp .ge 34, 3) := by decide +kernel
theorem dX0_slotWith_10 : decode cX0_slotWith 10 = .ok (.aload_n 0, 1) := by decide +kernel
theorem dX0_slotWith_11 : decode cX0_slotWith 11 = .ok (.getfield 20, 3) := by decide +kernel
theorem dX0_slotWith_14 : decode cX0_slotWith 14 = .ok (.iload_n 2, 1) := by decide +kernel
theorem dX0_slotWith_15 : decode cX0_slotWith 15 = .ok (.iaload, 1) := by decide +kernel
theorem dX0_slotWith_16 : decode cX0_slotWith 16 = .ok (.iconst (-1), 1) := by decide +kernel
theorem dX0_slotWith_17 : decode cX0_slotWith 17 = .ok (.if_icmp .eq 18, 3) := by decide +kernel
theorem dX0_slotWith_20 : decode cX0_slotWith 20 = .ok (.aload_n 0, 1) := by decide +kernel
theorem dX0_slotWith_21 : decode cX0_slotWith 21 = .ok (.getfield 20, 3) := by decide +kernel
theorem dX0_slotWith_24 : decode cX0_slotWith 24 = .ok (.iload_n 2, 1) := by decide +kernel
theorem dX0_slotWith_25 : decode cX0_slotWith 25 = .ok (.iaload, 1) := by decide +kernel
theorem dX0_slotWith_26 : decode cX0_slotWith 26 = .ok (.invokestatic 104, 3) := by decide +kernel
theorem dX0_slotWith_29 : decode cX0_slotWith 29 = .ok (.iload_n 1, 1) := by decide +kernel
theorem dX0_slotWith_30 : decode cX0_slotWith 30 = .ok (.if_icmp .ne 5, 3) := by decide +kernel
theorem dX0_slotWith_33 : decode cX0_slotWith 33 = .ok (.iload_n 2, 1) := by decide +kernel
theorem dX0_slotWith_34 : decode cX0_slotWith 34 = .ok (.ireturn, 1) := by decide +kernel
theorem dX0_slotWith_35 : decode cX0_slotWith 35 = .ok (.iinc 2 1, 3) := by decide +kernel
theorem dX0_slotWith_38 : decode cX0_slotWith 38 = .ok (.goto (-36), 3) := by decide +kernel
theorem dX0_slotWith_41 : decode cX0_slotWith 41 = .ok (.iconst (-1), 1) := by decide +kernel
theorem dX0_slotWith_42 : decode cX0_slotWith 42 = .ok (.ireturn, 1) := by decide +kernel
theorem dX0_blockOf_0 : decode cX0_blockOf 0 = .ok (.iload_n 0, 1) := by decide +kernel
theorem dX0_blockOf_1 : decode cX0_blockOf 1 = .ok (.iconst 1, 1) := by decide +kernel
theorem dX0_blockOf_2 : decode cX0_blockOf 2 = .ok (.ishr, 1) := by decide +kernel
theorem dX0_blockOf_3 : decode cX0_blockOf 3 = .ok (.ireturn, 1) := by decide +kernel
theorem dX0_useSlot_0 : decode cX0_useSlot 0 = .ok (.aload_n 0, 1) := by decide +kernel
theorem dX0_useSlot_1 : decode cX0_useSlot 1 = .ok (.dup, 1) := by decide +kernel
theorem dX0_useSlot_2 : decode cX0_useSlot 2 = .ok (.getfield 147, 3) := by decide +kernel
theorem dX0_useSlot_5 : decode cX0_useSlot 5 = .ok (.iconst 1, 1) := by decide +kernel
theorem dX0_useSlot_6 : decode cX0_useSlot 6 = .ok (.iadd, 1) := by decide +kernel
theorem dX0_useSlot_7 : decode cX0_useSlot 7 = .ok (.putfield 147, 3) := by decide +kernel
theorem dX0_useSlot_10 : decode cX0_useSlot 10 = .ok (.aload_n 0, 1) := by decide +kernel
theorem dX0_useSlot_11 : decode cX0_useSlot 11 = .ok (.getfield 27, 3) := by decide +kernel
theorem dX0_useSlot_14 : decode cX0_useSlot 14 = .ok (.iload_n 1, 1) := by decide +kernel
theorem dX0_useSlot_15 : decode cX0_useSlot 15 = .ok (.aload_n 0, 1) := by decide +kernel
theorem dX0_useSlot_16 : decode cX0_useSlot 16 = .ok (.getfield 147, 3) := by decide +kernel
theorem dX0_useSlot_19 : decode cX0_useSlot 19 = .ok (.iastore, 1) := by decide +kernel
theorem dX0_useSlot_20 : decode cX0_useSlot 20 = .ok (.return_, 1) := by decide +kernel
theorem dX0_findRoom_0 : decode cX0_findRoom 0 = .ok (.iconst 0, 1) := by decide +kernel
theorem dX0_findRoom_1 : decode cX0_findRoom 1 = .ok (.istore_n 1, 1) := by decide +kernel
theorem dX0_findRoom_2 : decode cX0_findRoom 2 = .ok (.iconst 0, 1) := by decide +kernel
theorem dX0_findRoom_3 : decode cX0_findRoom 3 = .ok (.istore_n 2, 1) := by decide +kernel
theorem dX0_findRoom_4 : decode cX0_findRoom 4 = .ok (.iload_n 2, 1) := by decide +kernel
theorem dX0_findRoom_5 : decode cX0_findRoom 5 = .ok (.aload_n 0, 1) := by decide +kernel
theorem dX0_findRoom_6 : decode cX0_findRoom 6 = .ok (.getfield 9, 3) := by decide +kernel
theorem dX0_findRoom_9 : decode cX0_findRoom 9 = .ok (.if_icmp .ge 38, 3) := by decide +kernel
theorem dX0_findRoom_12 : decode cX0_findRoom 12 = .ok (.aload_n 0, 1) := by decide +kernel
theorem dX0_findRoom_13 : decode cX0_findRoom 13 = .ok (.getfield 20, 3) := by decide +kernel
theorem dX0_findRoom_16 : decode cX0_findRoom 16 = .ok (.iload_n 2, 1) := by decide +kernel
theorem dX0_findRoom_17 : decode cX0_findRoom 17 = .ok (.iaload, 1) := by decide +kernel
theorem dX0_findRoom_18 : decode cX0_findRoom 18 = .ok (.iconst (-1), 1) := by decide +kernel
theorem dX0_findRoom_19 : decode cX0_findRoom 19 = .ok (.if_icmp .ne 5, 3) := by decide +kernel
theorem dX0_findRoom_22 : decode cX0_findRoom 22 = .ok (.iload_n 2, 1) := by decide +kernel
theorem dX0_findRoom_23 : decode cX0_findRoom 23 = .ok (.ireturn, 1) := by decide +kernel
theorem dX0_findRoom_24 : decode cX0_findRoom 24 = .ok (.aload_n 0, 1) := by decide +kernel
theorem dX0_findRoom_25 : decode cX0_findRoom 25 = .ok (.getfield 27, 3) := by decide +kernel
theorem dX0_findRoom_28 : decode cX0_findRoom 28 = .ok (.iload_n 2, 1) := by decide +kernel
theorem dX0_findRoom_29 : decode cX0_findRoom 29 = .ok (.iaload, 1) := by decide +kernel
theorem dX0_findRoom_30 : decode cX0_findRoom 30 = .ok (.aload_n 0, 1) := by decide +kernel
theorem dX0_findRoom_31 : decode cX0_findRoom 31 = .ok (.getfield 27, 3) := by decide +kernel
theorem dX0_findRoom_34 : decode cX0_findRoom 34 = .ok (.iload_n 1, 1) := by decide +kernel
theorem dX0_findRoom_35 : decode cX0_findRoom 35 = .ok (.iaload, 1) := by decide +kernel
theorem dX0_findRoom_36 : decode cX0_findRoom 36 = .ok (.if_icmp .ge 5, 3) := by decide +kernel
theorem dX0_findRoom_39 : decode cX0_findRoom 39 = .ok (.iload_n 2, 1) := by decide +kernel
theorem dX0_findRoom_40 : decode cX0_findRoom 40 = .ok (.istore_n 1, 1) := by decide +kernel
theorem dX0_findRoom_41 : decode cX0_findRoom 41 = .ok (.iinc 2 1, 3) := by decide +kernel
theorem dX0_findRoom_44 : decode cX0_findRoom 44 = .ok (.goto (-40), 3) := by decide +kernel
theorem dX0_findRoom_47 : decode cX0_findRoom 47 = .ok (.aload_n 0, 1) := by decide +kernel
theorem dX0_findRoom_48 : decode cX0_findRoom 48 = .ok (.iload_n 1, 1) := by decide +kernel
theorem dX0_findRoom_49 : decode cX0_findRoom 49 = .ok (.invokevirtual 100, 3) := by decide +kernel
theorem dX0_findRoom_52 : decode cX0_findRoom 52 = .ok (.pop, 1) := by decide +kernel
theorem dX0_findRoom_53 : decode cX0_findRoom 53 = .ok (.aload_n 0, 1) := by decide +kernel
theorem dX0_findRoom_54 : decode cX0_findRoom 54 = .ok (.iload_n 1, 1) := by decide +kernel
theorem dX0_findRoom_55 : decode cX0_findRoom 55 = .ok (.invokevirtual 159, 3) := by decide +kernel
theorem dX0_findRoom_58 : decode cX0_findRoom 58 = .ok (.iload_n 1, 1) := by decide +kernel
theorem dX0_findRoom_59 : decode cX0_findRoom 59 = .ok (.ireturn, 1) := by decide +kernel
theorem dX0_writeBackIfDirty_0 : decode cX0_writeBackIfDirty 0 = .ok (.aload_n 0, 1) := by decide +kernel
theorem dX0_writeBackIfDirty_1 : decode cX0_writeBackIfDirty 1 = .ok (.getfield 20, 3) := by decide +kernel
theorem dX0_writeBackIfDirty_4 : decode cX0_writeBackIfDirty 4 = .ok (.iload_n 1, 1) := by decide +kernel
theorem dX0_writeBackIfDirty_5 : decode cX0_writeBackIfDirty 5 = .ok (.iaload, 1) := by decide +kernel
theorem dX0_writeBackIfDirty_6 : decode cX0_writeBackIfDirty 6 = .ok (.invokestatic 124, 3) := by decide +kernel
theorem dX0_writeBackIfDirty_9 : decode cX0_writeBackIfDirty 9 = .ok (.ifCond .ne 5, 3) := by decide +kernel
theorem dX0_writeBackIfDirty_12 : decode cX0_writeBackIfDirty 12 = .ok (.iconst 0, 1) := by decide +kernel
theorem dX0_writeBackIfDirty_13 : decode cX0_writeBackIfDirty 13 = .ok (.ireturn, 1) := by decide +kernel
theorem dX0_writeBackIfDirty_14 : decode cX0_writeBackIfDirty 14 = .ok (.aload_n 0, 1) := by decide +kernel
theorem dX0_writeBackIfDirty_15 : decode cX0_writeBackIfDirty 15 = .ok (.aload_n 0, 1) := by decide +kernel
theorem dX0_writeBackIfDirty_16 : decode cX0_writeBackIfDirty 16 = .ok (.getfield 20, 3) := by decide +kernel
theorem dX0_writeBackIfDirty_19 : decode cX0_writeBackIfDirty 19 = .ok (.iload_n 1, 1) := by decide +kernel
theorem dX0_writeBackIfDirty_20 : decode cX0_writeBackIfDirty 20 = .ok (.iaload, 1) := by decide +kernel
theorem dX0_writeBackIfDirty_21 : decode cX0_writeBackIfDirty 21 = .ok (.invokestatic 104, 3) := by decide +kernel
theorem dX0_writeBackIfDirty_24 : decode cX0_writeBackIfDirty 24 = .ok (.aload_n 0, 1) := by decide +kernel
theorem dX0_writeBackIfDirty_25 : decode cX0_writeBackIfDirty 25 = .ok (.getfield 17, 3) := by decide +kernel
theorem dX0_writeBackIfDirty_28 : decode cX0_writeBackIfDirty 28 = .ok (.iload_n 1, 1) := by decide +kernel
theorem dX0_writeBackIfDirty_29 : decode cX0_writeBackIfDirty 29 = .ok (.laload, 1) := by decide +kernel
theorem dX0_writeBackIfDirty_30 : decode cX0_writeBackIfDirty 30 = .ok (.invokevirtual 153, 3) := by decide +kernel
theorem dX0_writeBackIfDirty_33 : decode cX0_writeBackIfDirty 33 = .ok (.aload_n 0, 1) := by decide +kernel
theorem dX0_writeBackIfDirty_34 : decode cX0_writeBackIfDirty 34 = .ok (.iload_n 1, 1) := by decide +kernel
theorem dX0_writeBackIfDirty_35 : decode cX0_writeBackIfDirty 35 = .ok (.invokevirtual 156, 3) := by decide +kernel
theorem dX0_writeBackIfDirty_38 : decode cX0_writeBackIfDirty 38 = .ok (.iconst 1, 1) := by decide +kernel
theorem dX0_writeBackIfDirty_39 : decode cX0_writeBackIfDirty 39 = .ok (.ireturn, 1) := by decide +kernel
theorem dX0_giveOrigin_0 : decode cX0_giveOrigin 0 = .ok (.aload_n 0, 1) := by decide +kernel
theorem dX0_giveOrigin_1 : decode cX0_giveOrigin 1 = .ok (.getfield 13, 3) := by decide +kernel
theorem dX0_giveOrigin_4 : decode cX0_giveOrigin 4 = .ok (.iload_n 1, 1) := by decide +kernel
theorem dX0_giveOrigin_5 : decode cX0_giveOrigin 5 = .ok (.lload_n 2, 1) := by decide +kernel
theorem dX0_giveOrigin_6 : decode cX0_giveOrigin 6 = .ok (.lastore, 1) := by decide +kernel
theorem dX0_giveOrigin_7 : decode cX0_giveOrigin 7 = .ok (.aload_n 0, 1) := by decide +kernel
theorem dX0_giveOrigin_8 : decode cX0_giveOrigin 8 = .ok (.dup, 1) := by decide +kernel
theorem dX0_giveOrigin_9 : decode cX0_giveOrigin 9 = .ok (.getfield 137, 3) := by decide +kernel
theorem dX0_giveOrigin_12 : decode cX0_giveOrigin 12 = .ok (.iconst 1, 1) := by decide +kernel
theorem dX0_giveOrigin_13 : decode cX0_giveOrigin 13 = .ok (.iadd, 1) := by decide +kernel
theorem dX0_giveOrigin_14 : decode cX0_giveOrigin 14 = .ok (.putfield 137, 3) := by decide +kernel
theorem dX0_giveOrigin_17 : decode cX0_giveOrigin 17 = .ok (.return_, 1) := by decide +kernel
theorem dX0_makeClean_0 : decode cX0_makeClean 0 = .ok (.aload_n 0, 1) := by decide +kernel
theorem dX0_makeClean_1 : decode cX0_makeClean 1 = .ok (.getfield 20, 3) := by decide +kernel
theorem dX0_makeClean_4 : decode cX0_makeClean 4 = .ok (.iload_n 1, 1) := by decide +kernel
theorem dX0_makeClean_5 : decode cX0_makeClean 5 = .ok (.aload_n 0, 1) := by decide +kernel
theorem dX0_makeClean_6 : decode cX0_makeClean 6 = .ok (.getfield 20, 3) := by decide +kernel
theorem dX0_makeClean_9 : decode cX0_makeClean 9 = .ok (.iload_n 1, 1) := by decide +kernel
theorem dX0_makeClean_10 : decode cX0_makeClean 10 = .ok (.iaload, 1) := by decide +kernel
theorem dX0_makeClean_11 : decode cX0_makeClean 11 = .ok (.invokestatic 104, 3) := by decide +kernel
theorem dX0_makeClean_14 : decode cX0_makeClean 14 = .ok (.invokestatic 150, 3) := by decide +kernel
theorem dX0_makeClean_17 : decode cX0_makeClean 17 = .ok (.iastore, 1) := by decide +kernel
theorem dX0_makeClean_18 : decode cX0_makeClean 18 = .ok (.aload_n 0, 1) := by decide +kernel
theorem dX0_makeClean_19 : decode cX0_makeClean 19 = .ok (.getfield 24, 3) := by decide +kernel
theorem dX0_makeClean_22 : decode cX0_makeClean 22 = .ok (.iload_n 1, 1) := by decide +kernel
theorem dX0_makeClean_23 : decode cX0_makeClean 23 = .ok (.iaload, 1) := by decide +kernel
theorem dX0_makeClean_24 : decode cX0_makeClean 24 = .ok (.invokestatic 124, 3) := by decide +kernel
theorem dX0_makeClean_27 : decode cX0_makeClean 27 = .ok (.ifCond .eq 8, 3) := by decide +kernel
theorem dX0_makeClean_30 : decode cX0_makeClean 30 = .ok (.aload_n 0, 1) := by decide +kernel
theorem dX0_makeClean_31 : decode cX0_makeClean 31 = .ok (.iload_n 1, 1) := by decide +kernel
theorem dX0_makeClean_32 : decode cX0_makeClean 32 = .ok (.invokevirtual 110, 3) := by decide +kernel
theorem dX0_makeClean_35 : decode cX0_makeClean 35 = .ok (.return_, 1) := by decide +kernel
theorem dX0_cleanForm_0 : decode cX0_cleanForm 0 = .ok (.iconst 2, 1) := by decide +kernel
theorem dX0_cleanForm_1 : decode cX0_cleanForm 1 = .ok (.iload_n 0, 1) := by decide +kernel
theorem dX0_cleanForm_2 : decode cX0_cleanForm 2 = .ok (.imul, 1) := by decide +kernel
theorem dX0_cleanForm_3 : decode cX0_cleanForm 3 = .ok (.ireturn, 1) := by decide +kernel
theorem dX0_makeEmpty_0 : decode cX0_makeEmpty 0 = .ok (.aload_n 0, 1) := by decide +kernel
theorem dX0_makeEmpty_1 : decode cX0_makeEmpty 1 = .ok (.getfield 20, 3) := by decide +kernel
theorem dX0_makeEmpty_4 : decode cX0_makeEmpty 4 = .ok (.iload_n 1, 1) := by decide +kernel
theorem dX0_makeEmpty_5 : decode cX0_makeEmpty 5 = .ok (.iconst (-1), 1) := by decide +kernel
theorem dX0_makeEmpty_6 : decode cX0_makeEmpty 6 = .ok (.iastore, 1) := by decide +kernel
theorem dX0_makeEmpty_7 : decode cX0_makeEmpty 7 = .ok (.aload_n 0, 1) := by decide +kernel
theorem dX0_makeEmpty_8 : decode cX0_makeEmpty 8 = .ok (.getfield 24, 3) := by decide +kernel
theorem dX0_makeEmpty_11 : decode cX0_makeEmpty 11 = .ok (.iload_n 1, 1) := by decide +kernel
theorem dX0_makeEmpty_12 : decode cX0_makeEmpty 12 = .ok (.iaload, 1) := by decide +kernel
theorem dX0_makeEmpty_13 : decode cX0_makeEmpty 13 = .ok (.iconst (-1), 1) := by decide +kernel
theorem dX0_makeEmpty_14 : decode cX0_makeEmpty 14 = .ok (.if_icmp .eq 8, 3) := by decide +kernel
theorem dX0_makeEmpty_17 : decode cX0_makeEmpty 17 = .ok (.aload_n 0, 1) := by decide +kernel
theorem dX0_makeEmpty_18 : decode cX0_makeEmpty 18 = .ok (.iload_n 1, 1) := by decide +kernel
theorem dX0_makeEmpty_19 : decode cX0_makeEmpty 19 = .ok (.invokevirtual 110, 3) := by decide +kernel
theorem dX0_makeEmpty_22 : decode cX0_makeEmpty 22 = .ok (.return_, 1) := by decide +kernel
theorem dX0_keepClean_0 : decode cX0_keepClean 0 = .ok (.aload_n 0, 1) := by decide +kernel
theorem dX0_keepClean_1 : decode cX0_keepClean 1 = .ok (.getfield 20, 3) := by decide +kernel
theorem dX0_keepClean_4 : decode cX0_keepClean 4 = .ok (.iload_n 1, 1) := by decide +kernel
theorem dX0_keepClean_5 : decode cX0_keepClean 5 = .ok (.iload_n 2, 1) := by decide +kernel
theorem dX0_keepClean_6 : decode cX0_keepClean 6 = .ok (.invokestatic 150, 3) := by decide +kernel
theorem dX0_keepClean_9 : decode cX0_keepClean 9 = .ok (.iastore, 1) := by decide +kernel
theorem dX0_keepClean_10 : decode cX0_keepClean 10 = .ok (.aload_n 0, 1) := by decide +kernel
theorem dX0_keepClean_11 : decode cX0_keepClean 11 = .ok (.getfield 17, 3) := by decide +kernel
theorem dX0_keepClean_14 : decode cX0_keepClean 14 = .ok (.iload_n 1, 1) := by decide +kernel
theorem dX0_keepClean_15 : decode cX0_keepClean 15 = .ok (.aload_n 0, 1) := by decide +kernel
theorem dX0_keepClean_16 : decode cX0_keepClean 16 = .ok (.getfield 13, 3) := by decide +kernel
theorem dX0_keepClean_19 : decode cX0_keepClean 19 = .ok (.iload_n 2, 1) := by decide +kernel
theorem dX0_keepClean_20 : decode cX0_keepClean 20 = .ok (.laload, 1) := by decide +kernel
theorem dX0_keepClean_21 : decode cX0_keepClean 21 = .ok (.lastore, 1) := by decide +kernel
theorem dX0_keepClean_22 : decode cX0_keepClean 22 = .ok (.aload_n 0, 1) := by decide +kernel
theorem dX0_keepClean_23 : decode cX0_keepClean 23 = .ok (.iload_n 1, 1) := by decide +kernel
theorem dX0_keepClean_24 : decode cX0_keepClean 24 = .ok (.invokevirtual 47, 3) := by decide +kernel
theorem dX0_keepClean_27 : decode cX0_keepClean 27 = .ok (.return_, 1) := by decide +kernel
theorem dX0_write_0 : decode cX0_write 0 = .ok (.iload_n 1, 1) := by decide +kernel
theorem dX0_write_1 : decode cX0_write 1 = .ok (.invokestatic 36, 3) := by decide +kernel
theorem dX0_write_4 : decode cX0_write 4 = .ok (.aload_n 0, 1) := by decide +kernel
theorem dX0_write_5 : decode cX0_write 5 = .ok (.getfield 53, 3) := by decide +kernel
theorem dX0_write_8 : decode cX0_write 8 = .ok (.iconst 1, 1) := by decide +kernel
theorem dX0_write_9 : decode cX0_write 9 = .ok (.if_icmp .ne 12, 3) := by decide +kernel
theorem dX0_write_12 : decode cX0_write 12 = .ok (.aload_n 0, 1) := by decide +kernel
theorem dX0_write_13 : decode cX0_write 13 = .ok (.iload_n 1, 1) := by decide +kernel
theorem dX0_write_14 : decode cX0_write 14 = .ok (.lload_n 2, 1) := by decide +kernel
theorem dX0_write_15 : decode cX0_write 15 = .ok (.invokevirtual 64, 3) := by decide +kernel
theorem dX0_write_18 : decode cX0_write 18 = .ok (.goto 28, 3) := by decide +kernel
theorem dX0_write_21 : decode cX0_write 21 = .ok (.aload_n 0, 1) := by decide +kernel
theorem dX0_write_22 : decode cX0_write 22 = .ok (.getfield 53, 3) := by decide +kernel
theorem dX0_write_25 : decode cX0_write 25 = .ok (.iconst 2, 1) := by decide +kernel
theorem dX0_write_26 : decode cX0_write 26 = .ok (.if_icmp .ne 12, 3) := by decide +kernel
theorem dX0_write_29 : decode cX0_write 29 = .ok (.aload_n 0, 1) := by decide +kernel
theorem dX0_write_30 : decode cX0_write 30 = .ok (.iload_n 1, 1) := by decide +kernel
theorem dX0_write_31 : decode cX0_write 31 = .ok (.lload_n 2, 1) := by decide +kernel
theorem dX0_write_32 : decode cX0_write 32 = .ok (.invokevirtual 68, 3) := by decide +kernel
theorem dX0_write_35 : decode cX0_write 35 = .ok (.goto 11, 3) := by decide +kernel
theorem dX0_write_38 : decode cX0_write 38 = .ok (.aload_n 0, 1) := by decide +kernel
theorem dX0_write_39 : decode cX0_write 39 = .ok (.iload_n 1, 1) := by decide +kernel
theorem dX0_write_40 : decode cX0_write 40 = .ok (.lload_n 2, 1) := by decide +kernel
theorem dX0_write_41 : decode cX0_write 41 = .ok (.iconst 2, 1) := by decide +kernel
theorem dX0_write_42 : decode cX0_write 42 = .ok (.invokevirtual 71, 3) := by decide +kernel
theorem dX0_write_45 : decode cX0_write 45 = .ok (.pop, 1) := by decide +kernel
theorem dX0_write_46 : decode cX0_write 46 = .ok (.return_, 1) := by decide +kernel
theorem dX0_writeThrough_0 : decode cX0_writeThrough 0 = .ok (.aload_n 0, 1) := by decide +kernel
theorem dX0_writeThrough_1 : decode cX0_writeThrough 1 = .ok (.iload_n 1, 1) := by decide +kernel
theorem dX0_writeThrough_2 : decode cX0_writeThrough 2 = .ok (.lload_n 2, 1) := by decide +kernel
theorem dX0_writeThrough_3 : decode cX0_writeThrough 3 = .ok (.invokevirtual 153, 3) := by decide +kernel
theorem dX0_writeThrough_6 : decode cX0_writeThrough 6 = .ok (.aload_n 0, 1) := by decide +kernel
theorem dX0_writeThrough_7 : decode cX0_writeThrough 7 = .ok (.iload_n 1, 1) := by decide +kernel
theorem dX0_writeThrough_8 : decode cX0_writeThrough 8 = .ok (.invokevirtual 40, 3) := by decide +kernel
theorem dX0_writeThrough_11 : decode cX0_writeThrough 11 = .ok (.istore 4, 2) := by decide +kernel
theorem dX0_writeThrough_13 : decode cX0_writeThrough 13 = .ok (.iload 4, 2) := by decide +kernel
theorem dX0_writeThrough_15 : decode cX0_writeThrough 15 = .ok (.iconst (-1), 1) := by decide +kernel
theorem dX0_writeThrough_16 : decode cX0_writeThrough 16 = .ok (.if_icmp .eq 23, 3) := by decide +kernel
theorem dX0_writeThrough_19 : decode cX0_writeThrough 19 = .ok (.aload_n 0, 1) := by decide +kernel
theorem dX0_writeThrough_20 : decode cX0_writeThrough 20 = .ok (.getfield 17, 3) := by decide +kernel
theorem dX0_writeThrough_23 : decode cX0_writeThrough 23 = .ok (.iload 4, 2) := by decide +kernel
theorem dX0_writeThrough_25 : decode cX0_writeThrough 25 = .ok (.lload_n 2, 1) := by decide +kernel
theorem dX0_writeThrough_26 : decode cX0_writeThrough 26 = .ok (.lastore, 1) := by decide +kernel
theorem dX0_writeThrough_27 : decode cX0_writeThrough 27 = .ok (.aload_n 0, 1) := by decide +kernel
theorem dX0_writeThrough_28 : decode cX0_writeThrough 28 = .ok (.iload 4, 2) := by decide +kernel
theorem dX0_writeThrough_30 : decode cX0_writeThrough 30 = .ok (.invokevirtual 156, 3) := by decide +kernel
theorem dX0_writeThrough_33 : decode cX0_writeThrough 33 = .ok (.aload_n 0, 1) := by decide +kernel
theorem dX0_writeThrough_34 : decode cX0_writeThrough 34 = .ok (.iload 4, 2) := by decide +kernel
theorem dX0_writeThrough_36 : decode cX0_writeThrough 36 = .ok (.invokevirtual 47, 3) := by decide +kernel
theorem dX0_writeThrough_39 : decode cX0_writeThrough 39 = .ok (.return_, 1) := by decide +kernel
theorem dX0_writePast_0 : decode cX0_writePast 0 = .ok (.aload_n 0, 1) := by decide +kernel
theorem dX0_writePast_1 : decode cX0_writePast 1 = .ok (.iload_n 1, 1) := by decide +kernel
theorem dX0_writePast_2 : decode cX0_writePast 2 = .ok (.lload_n 2, 1) := by decide +kernel
theorem dX0_writePast_3 : decode cX0_writePast 3 = .ok (.invokevirtual 153, 3) := by decide +kernel
theorem dX0_writePast_6 : decode cX0_writePast 6 = .ok (.aload_n 0, 1) := by decide +kernel
theorem dX0_writePast_7 : decode cX0_writePast 7 = .ok (.iload_n 1, 1) := by decide +kernel
theorem dX0_writePast_8 : decode cX0_writePast 8 = .ok (.invokevirtual 40, 3) := by decide +kernel
theorem dX0_writePast_11 : decode cX0_writePast 11 = .ok (.istore 4, 2) := by decide +kernel
theorem dX0_writePast_13 : decode cX0_writePast 13 = .ok (.iload 4, 2) := by decide +kernel
theorem dX0_writePast_15 : decode cX0_writePast 15 = .ok (.iconst (-1), 1) := by decide +kernel
theorem dX0_writePast_16 : decode cX0_writePast 16 = .ok (.if_icmp .eq 9, 3) := by decide +kernel
theorem dX0_writePast_19 : decode cX0_writePast 19 = .ok (.aload_n 0, 1) := by decide +kernel
theorem dX0_writePast_20 : decode cX0_writePast 20 = .ok (.iload 4, 2) := by decide +kernel
theorem dX0_writePast_22 : decode cX0_writePast 22 = .ok (.invokevirtual 159, 3) := by decide +kernel
theorem dX0_writePast_25 : decode cX0_writePast 25 = .ok (.return_, 1) := by decide +kernel
theorem dX0_writeInSteps_0 : decode cX0_writeInSteps 0 = .ok (.aload_n 0, 1) := by decide +kernel
theorem dX0_writeInSteps_1 : decode cX0_writeInSteps 1 = .ok (.iload_n 1, 1) := by decide +kernel
theorem dX0_writeInSteps_2 : decode cX0_writeInSteps 2 = .ok (.invokevirtual 40, 3) := by decide +kernel
theorem dX0_writeInSteps_5 : decode cX0_writeInSteps 5 = .ok (.istore 5, 2) := by decide +kernel
theorem dX0_writeInSteps_7 : decode cX0_writeInSteps 7 = .ok (.iload 5, 2) := by decide +kernel
theorem dX0_writeInSteps_9 : decode cX0_writeInSteps 9 = .ok (.iconst (-1), 1) := by decide +kernel
theorem dX0_writeInSteps_10 : decode cX0_writeInSteps 10 = .ok (.if_icmp .ne 24, 3) := by decide +kernel
theorem dX0_writeInSteps_13 : decode cX0_writeInSteps 13 = .ok (.aload_n 0, 1) := by decide +kernel
theorem dX0_writeInSteps_14 : decode cX0_writeInSteps 14 = .ok (.invokevirtual 56, 3) := by decide +kernel
theorem dX0_writeInSteps_17 : decode cX0_writeInSteps 17 = .ok (.istore 5, 2) := by decide +kernel
theorem dX0_writeInSteps_19 : decode cX0_writeInSteps 19 = .ok (.aload_n 0, 1) := by decide +kernel
theorem dX0_writeInSteps_20 : decode cX0_writeInSteps 20 = .ok (.iload 5, 2) := by decide +kernel
theorem dX0_writeInSteps_22 : decode cX0_writeInSteps 22 = .ok (.iload_n 1, 1) := by decide +kernel
theorem dX0_writeInSteps_23 : decode cX0_writeInSteps 23 = .ok (.lload_n 2, 1) := by decide +kernel
theorem dX0_writeInSteps_24 : decode cX0_writeInSteps 24 = .ok (.iload 4, 2) := by decide +kernel
theorem dX0_writeInSteps_26 : decode cX0_writeInSteps 26 = .ok (.invokevirtual 162, 3) := by decide +kernel
theorem dX0_writeInSteps_29 : decode cX0_writeInSteps 29 = .ok (.istore 6, 2) := by decide +kernel
theorem dX0_writeInSteps_31 : decode cX0_writeInSteps 31 = .ok (.goto 44, 3) := by decide +kernel
theorem dX0_writeInSteps_34 : decode cX0_writeInSteps 34 = .ok (.aload_n 0, 1) := by decide +kernel
theorem dX0_writeInSteps_35 : decode cX0_writeInSteps 35 = .ok (.getfield 24, 3) := by decide +kernel
theorem dX0_writeInSteps_38 : decode cX0_writeInSteps 38 = .ok (.iload 5, 2) := by decide +kernel
theorem dX0_writeInSteps_40 : decode cX0_writeInSteps 40 = .ok (.iaload, 1) := by decide +kernel
theorem dX0_writeInSteps_41 : decode cX0_writeInSteps 41 = .ok (.iload_n 1, 1) := by decide +kernel
theorem dX0_writeInSteps_42 : decode cX0_writeInSteps 42 = .ok (.invokestatic 166, 3) := by decide +kernel
theorem dX0_writeInSteps_45 : decode cX0_writeInSteps 45 = .ok (.if_icmp .ne 18, 3) := by decide +kernel
theorem dX0_writeInSteps_48 : decode cX0_writeInSteps 48 = .ok (.aload_n 0, 1) := by decide +kernel
theorem dX0_writeInSteps_49 : decode cX0_writeInSteps 49 = .ok (.iload 5, 2) := by decide +kernel
theorem dX0_writeInSteps_51 : decode cX0_writeInSteps 51 = .ok (.iload_n 1, 1) := by decide +kernel
theorem dX0_writeInSteps_52 : decode cX0_writeInSteps 52 = .ok (.lload_n 2, 1) := by decide +kernel
theorem dX0_writeInSteps_53 : decode cX0_writeInSteps 53 = .ok (.iload 4, 2) := by decide +kernel
theorem dX0_writeInSteps_55 : decode cX0_writeInSteps 55 = .ok (.invokevirtual 169, 3) := by decide +kernel
theorem dX0_writeInSteps_58 : decode cX0_writeInSteps 58 = .ok (.istore 6, 2) := by decide +kernel
theorem dX0_writeInSteps_60 : decode cX0_writeInSteps 60 = .ok (.goto 15, 3) := by decide +kernel
theorem dX0_writeInSteps_63 : decode cX0_writeInSteps 63 = .ok (.aload_n 0, 1) := by decide +kernel
theorem dX0_writeInSteps_64 : decode cX0_writeInSteps 64 = .ok (.iload 5, 2) := by decide +kernel
theorem dX0_writeInSteps_66 : decode cX0_writeInSteps 66 = .ok (.iload_n 1, 1) := by decide +kernel
theorem dX0_writeInSteps_67 : decode cX0_writeInSteps 67 = .ok (.lload_n 2, 1) := by decide +kernel
theorem dX0_writeInSteps_68 : decode cX0_writeInSteps 68 = .ok (.iload 4, 2) := by decide +kernel
theorem dX0_writeInSteps_70 : decode cX0_writeInSteps 70 = .ok (.invokevirtual 172, 3) := by decide +kernel
theorem dX0_writeInSteps_73 : decode cX0_writeInSteps 73 = .ok (.istore 6, 2) := by decide +kernel
theorem dX0_writeInSteps_75 : decode cX0_writeInSteps 75 = .ok (.aload_n 0, 1) := by decide +kernel
theorem dX0_writeInSteps_76 : decode cX0_writeInSteps 76 = .ok (.iload 5, 2) := by decide +kernel
theorem dX0_writeInSteps_78 : decode cX0_writeInSteps 78 = .ok (.invokevirtual 47, 3) := by decide +kernel
theorem dX0_writeInSteps_81 : decode cX0_writeInSteps 81 = .ok (.iload 6, 2) := by decide +kernel
theorem dX0_writeInSteps_83 : decode cX0_writeInSteps 83 = .ok (.ireturn, 1) := by decide +kernel
theorem dX0_fillInSteps_0 : decode cX0_fillInSteps 0 = .ok (.iload 5, 2) := by decide +kernel
theorem dX0_fillInSteps_2 : decode cX0_fillInSteps 2 = .ok (.iconst 1, 1) := by decide +kernel
theorem dX0_fillInSteps_3 : decode cX0_fillInSteps 3 = .ok (.if_icmp .ge 5, 3) := by decide +kernel
theorem dX0_fillInSteps_6 : decode cX0_fillInSteps 6 = .ok (.iconst 0, 1) := by decide +kernel
theorem dX0_fillInSteps_7 : decode cX0_fillInSteps 7 = .ok (.ireturn, 1) := by decide +kernel
theorem dX0_fillInSteps_8 : decode cX0_fillInSteps 8 = .ok (.aload_n 0, 1) := by decide +kernel
theorem dX0_fillInSteps_9 : decode cX0_fillInSteps 9 = .ok (.getfield 20, 3) := by decide +kernel
theorem dX0_fillInSteps_12 : decode cX0_fillInSteps 12 = .ok (.iload_n 1, 1) := by decide +kernel
theorem dX0_fillInSteps_13 : decode cX0_fillInSteps 13 = .ok (.iload_n 2, 1) := by decide +kernel
theorem dX0_fillInSteps_14 : decode cX0_fillInSteps 14 = .ok (.invokestatic 166, 3) := by decide +kernel
theorem dX0_fillInSteps_17 : decode cX0_fillInSteps 17 = .ok (.iastore, 1) := by decide +kernel
theorem dX0_fillInSteps_18 : decode cX0_fillInSteps 18 = .ok (.aload_n 0, 1) := by decide +kernel
theorem dX0_fillInSteps_19 : decode cX0_fillInSteps 19 = .ok (.getfield 17, 3) := by decide +kernel
theorem dX0_fillInSteps_22 : decode cX0_fillInSteps 22 = .ok (.iload_n 1, 1) := by decide +kernel
theorem dX0_fillInSteps_23 : decode cX0_fillInSteps 23 = .ok (.lload_n 3, 1) := by decide +kernel
theorem dX0_fillInSteps_24 : decode cX0_fillInSteps 24 = .ok (.lastore, 1) := by decide +kernel
theorem dX0_fillInSteps_25 : decode cX0_fillInSteps 25 = .ok (.iload 5, 2) := by decide +kernel
theorem dX0_fillInSteps_27 : decode cX0_fillInSteps 27 = .ok (.iconst 2, 1) := by decide +kernel
theorem dX0_fillInSteps_28 : decode cX0_fillInSteps 28 = .ok (.if_icmp .ge 5, 3) := by decide +kernel
theorem dX0_fillInSteps_31 : decode cX0_fillInSteps 31 = .ok (.iconst 1, 1) := by decide +kernel
theorem dX0_fillInSteps_32 : decode cX0_fillInSteps 32 = .ok (.ireturn, 1) := by decide +kernel
theorem dX0_fillInSteps_33 : decode cX0_fillInSteps 33 = .ok (.aload_n 0, 1) := by decide +kernel
theorem dX0_fillInSteps_34 : decode cX0_fillInSteps 34 = .ok (.iload_n 1, 1) := by decide +kernel
theorem dX0_fillInSteps_35 : decode cX0_fillInSteps 35 = .ok (.invokevirtual 110, 3) := by decide +kernel
theorem dX0_fillInSteps_38 : decode cX0_fillInSteps 38 = .ok (.iconst 2, 1) := by decide +kernel
theorem dX0_fillInSteps_39 : decode cX0_fillInSteps 39 = .ok (.ireturn, 1) := by decide +kernel
theorem dX0_dirtyForm_0 : decode cX0_dirtyForm 0 = .ok (.iconst 2, 1) := by decide +kernel
theorem dX0_dirtyForm_1 : decode cX0_dirtyForm 1 = .ok (.iload_n 0, 1) := by decide +kernel
theorem dX0_dirtyForm_2 : decode cX0_dirtyForm 2 = .ok (.imul, 1) := by decide +kernel
theorem dX0_dirtyForm_3 : decode cX0_dirtyForm 3 = .ok (.iconst 1, 1) := by decide +kernel
theorem dX0_dirtyForm_4 : decode cX0_dirtyForm 4 = .ok (.iadd, 1) := by decide +kernel
theorem dX0_dirtyForm_5 : decode cX0_dirtyForm 5 = .ok (.ireturn, 1) := by decide +kernel
theorem dX0_overwriteDirty_0 : decode cX0_overwriteDirty 0 = .ok (.iload 5, 2) := by decide +kernel
theorem dX0_overwriteDirty_2 : decode cX0_overwriteDirty 2 = .ok (.iconst 1, 1) := by decide +kernel
theorem dX0_overwriteDirty_3 : decode cX0_overwriteDirty 3 = .ok (.if_icmp .ge 5, 3) := by decide +kernel
theorem dX0_overwriteDirty_6 : decode cX0_overwriteDirty 6 = .ok (.iconst 0, 1) := by decide +kernel
theorem dX0_overwriteDirty_7 : decode cX0_overwriteDirty 7 = .ok (.ireturn, 1) := by decide +kernel
theorem dX0_overwriteDirty_8 : decode cX0_overwriteDirty 8 = .ok (.aload_n 0, 1) := by decide +kernel
theorem dX0_overwriteDirty_9 : decode cX0_overwriteDirty 9 = .ok (.getfield 20, 3) := by decide +kernel
theorem dX0_overwriteDirty_12 : decode cX0_overwriteDirty 12 = .ok (.iload_n 1, 1) := by decide +kernel
theorem dX0_overwriteDirty_13 : decode cX0_overwriteDirty 13 = .ok (.iload_n 2, 1) := by decide +kernel
theorem dX0_overwriteDirty_14 : decode cX0_overwriteDirty 14 = .ok (.invokestatic 166, 3) := by decide +kernel
theorem dX0_overwriteDirty_17 : decode cX0_overwriteDirty 17 = .ok (.iastore, 1) := by decide +kernel
theorem dX0_overwriteDirty_18 : decode cX0_overwriteDirty 18 = .ok (.aload_n 0, 1) := by decide +kernel
theorem dX0_overwriteDirty_19 : decode cX0_overwriteDirty 19 = .ok (.getfield 17, 3) := by decide +kernel
theorem dX0_overwriteDirty_22 : decode cX0_overwriteDirty 22 = .ok (.iload_n 1, 1) := by decide +kernel
theorem dX0_overwriteDirty_23 : decode cX0_overwriteDirty 23 = .ok (.lload_n 3, 1) := by decide +kernel
theorem dX0_overwriteDirty_24 : decode cX0_overwriteDirty 24 = .ok (.lastore, 1) := by decide +kernel
theorem dX0_overwriteDirty_25 : decode cX0_overwriteDirty 25 = .ok (.iconst 1, 1) := by decide +kernel
theorem dX0_overwriteDirty_26 : decode cX0_overwriteDirty 26 = .ok (.ireturn, 1) := by decide +kernel
theorem dX0_overwriteClean_0 : decode cX0_overwriteClean 0 = .ok (.iload 5, 2) := by decide +kernel
theorem dX0_overwriteClean_2 : decode cX0_overwriteClean 2 = .ok (.iconst 1, 1) := by decide +kernel
theorem dX0_overwriteClean_3 : decode cX0_overwriteClean 3 = .ok (.if_icmp .ge 5, 3) := by decide +kernel
theorem dX0_overwriteClean_6 : decode cX0_overwriteClean 6 = .ok (.iconst 0, 1) := by decide +kernel
theorem dX0_overwriteClean_7 : decode cX0_overwriteClean 7 = .ok (.ireturn, 1) := by decide +kernel
theorem dX0_overwriteClean_8 : decode cX0_overwriteClean 8 = .ok (.aload_n 0, 1) := by decide +kernel
theorem dX0_overwriteClean_9 : decode cX0_overwriteClean 9 = .ok (.getfield 20, 3) := by decide +kernel
theorem dX0_overwriteClean_12 : decode cX0_overwriteClean 12 = .ok (.iload_n 1, 1) := by decide +kernel
theorem dX0_overwriteClean_13 : decode cX0_overwriteClean 13 = .ok (.iload_n 2, 1) := by decide +kernel
theorem dX0_overwriteClean_14 : decode cX0_overwriteClean 14 = .ok (.invokestatic 166, 3) := by decide +kernel
theorem dX0_overwriteClean_17 : decode cX0_overwriteClean 17 = .ok (.iastore, 1) := by decide +kernel
theorem dX0_overwriteClean_18 : decode cX0_overwriteClean 18 = .ok (.aload_n 0, 1) := by decide +kernel
theorem dX0_overwriteClean_19 : decode cX0_overwriteClean 19 = .ok (.iload_n 1, 1) := by decide +kernel
theorem dX0_overwriteClean_20 : decode cX0_overwriteClean 20 = .ok (.invokevirtual 110, 3) := by decide +kernel
theorem dX0_overwriteClean_23 : decode cX0_overwriteClean 23 = .ok (.iload 5, 2) := by decide +kernel
theorem dX0_overwriteClean_25 : decode cX0_overwriteClean 25 = .ok (.iconst 2, 1) := by decide +kernel
theorem dX0_overwriteClean_26 : decode cX0_overwriteClean 26 = .ok (.if_icmp .ge 5, 3) := by decide +kernel
theorem dX0_overwriteClean_29 : decode cX0_overwriteClean 29 = .ok (.iconst 1, 1) := by decide +kernel
theorem dX0_overwriteClean_30 : decode cX0_overwriteClean 30 = .ok (.ireturn, 1) := by decide +kernel
theorem dX0_overwriteClean_31 : decode cX0_overwriteClean 31 = .ok (.aload_n 0, 1) := by decide +kernel
theorem dX0_overwriteClean_32 : decode cX0_overwriteClean 32 = .ok (.getfield 17, 3) := by decide +kernel
theorem dX0_overwriteClean_35 : decode cX0_overwriteClean 35 = .ok (.iload_n 1, 1) := by decide +kernel
theorem dX0_overwriteClean_36 : decode cX0_overwriteClean 36 = .ok (.lload_n 3, 1) := by decide +kernel
theorem dX0_overwriteClean_37 : decode cX0_overwriteClean 37 = .ok (.lastore, 1) := by decide +kernel
theorem dX0_overwriteClean_38 : decode cX0_overwriteClean 38 = .ok (.iconst 2, 1) := by decide +kernel
theorem dX0_overwriteClean_39 : decode cX0_overwriteClean 39 = .ok (.ireturn, 1) := by decide +kernel
theorem dX0_cut_0 : decode cX0_cut 0 = .ok (.iload_n 1, 1) := by decide +kernel
theorem dX0_cut_1 : decode cX0_cut 1 = .ok (.invokestatic 36, 3) := by decide +kernel
theorem dX0_cut_4 : decode cX0_cut 4 = .ok (.iload 4, 2) := by decide +kernel
theorem dX0_cut_6 : decode cX0_cut 6 = .ok (.ifCond .lt 9, 3) := by decide +kernel
theorem dX0_cut_9 : decode cX0_cut 9 = .ok (.iload 4, 2) := by decide +kernel
theorem dX0_cut_11 : decode cX0_cut 11 = .ok (.iconst 2, 1) := by decide +kernel
theorem dX0_cut_12 : decode cX0_cut 12 = .ok (.if_icmp .le 13, 3) := by decide +kernel
theorem dX0_cut_15 : decode cX0_cut 15 = .ok (.new 75, 3) := by decide +kernel
theorem dX0_cut_18 : decode cX0_cut 18 = .ok (.dup, 1) := by decide +kernel
theorem dX0_cut_19 : decode cX0_cut 19 = .ok (.ldc 77, 2) := by decide +kernel
theorem dX0_cut_21 : decode cX0_cut 21 = .ok (.invokespecial 79, 3) := by decide +kernel
theorem dX0_cut_24 : decode cX0_cut 24 = .ok (.athrow, 1) := by decide +kernel
theorem dX0_cut_25 : decode cX0_cut 25 = .ok (.aload_n 0, 1) := by decide +kernel
theorem dX0_cut_26 : decode cX0_cut 26 = .ok (.getfield 53, 3) := by decide +kernel
theorem dX0_cut_29 : decode cX0_cut 29 = .ok (.ifCond .eq 13, 3) := by decide +kernel
theorem dX0_cut_32 : decode cX0_cut 32 = .ok (.new 82, 3) := by decide +kernel
theorem dX0_cut_35 : decode cX0_cut 35 = .ok (.dup, 1) := by decide +kernel
theorem dX0_cut_36 : decode cX0_cut 36 = .ok (.ldc 84, 2) := by decide +kernel
theorem dX0_cut_38 : decode cX0_cut 38 = .ok (.invokespecial 86, 3) := by decide +kernel
theorem dX0_cut_41 : decode cX0_cut 41 = .ok (.athrow, 1) := by decide +kernel
theorem dX0_cut_42 : decode cX0_cut 42 = .ok (.aload_n 0, 1) := by decide +kernel
theorem dX0_cut_43 : decode cX0_cut 43 = .ok (.iload_n 1, 1) := by decide +kernel
theorem dX0_cut_44 : decode cX0_cut 44 = .ok (.lload_n 2, 1) := by decide +kernel
theorem dX0_cut_45 : decode cX0_cut 45 = .ok (.iload 4, 2) := by decide +kernel
theorem dX0_cut_47 : decode cX0_cut 47 = .ok (.invokevirtual 71, 3) := by decide +kernel
theorem dX0_cut_50 : decode cX0_cut 50 = .ok (.istore 5, 2) := by decide +kernel
theorem dX0_cut_52 : decode cX0_cut 52 = .ok (.aload_n 0, 1) := by decide +kernel
theorem dX0_cut_53 : decode cX0_cut 53 = .ok (.invokevirtual 87, 3) := by decide +kernel
theorem dX0_cut_56 : decode cX0_cut 56 = .ok (.iload 5, 2) := by decide +kernel
theorem dX0_cut_58 : decode cX0_cut 58 = .ok (.ireturn, 1) := by decide +kernel
theorem dX0_mode_0 : decode cX0_mode 0 = .ok (.iload_n 1, 1) := by decide +kernel
theorem dX0_mode_1 : decode cX0_mode 1 = .ok (.ifCond .eq 23, 3) := by decide +kernel
theorem dX0_mode_4 : decode cX0_mode 4 = .ok (.iload_n 1, 1) := by decide +kernel
theorem dX0_mode_5 : decode cX0_mode 5 = .ok (.iconst 1, 1) := by decide +kernel
theorem dX0_mode_6 : decode cX0_mode 6 = .ok (.if_icmp .eq 18, 3) := by decide +kernel
theorem dX0_mode_9 : decode cX0_mode 9 = .ok (.iload_n 1, 1) := by decide +kernel
theorem dX0_mode_10 : decode cX0_mode 10 = .ok (.iconst 2, 1) := by decide +kernel
theorem dX0_mode_11 : decode cX0_mode 11 = .ok (.if_icmp .eq 13, 3) := by decide +kernel
theorem dX0_mode_14 : decode cX0_mode 14 = .ok (.new 75, 3) := by decide +kernel
theorem dX0_mode_17 : decode cX0_mode 17 = .ok (.dup, 1) := by decide +kernel
theorem dX0_mode_18 : decode cX0_mode 18 = .ok (.ldc 90, 2) := by decide +kernel
theorem dX0_mode_20 : decode cX0_mode 20 = .ok (.invokespecial 79, 3) := by decide +kernel
theorem dX0_mode_23 : decode cX0_mode 23 = .ok (.athrow, 1) := by decide +kernel
theorem dX0_mode_24 : decode cX0_mode 24 = .ok (.aload_n 0, 1) := by decide +kernel
theorem dX0_mode_25 : decode cX0_mode 25 = .ok (.iload_n 1, 1) := by decide +kernel
theorem dX0_mode_26 : decode cX0_mode 26 = .ok (.putfield 53, 3) := by decide +kernel
theorem dX0_mode_29 : decode cX0_mode 29 = .ok (.iload_n 1, 1) := by decide +kernel
theorem dX0_mode_30 : decode cX0_mode 30 = .ok (.ifCond .ne 7, 3) := by decide +kernel
theorem dX0_mode_33 : decode cX0_mode 33 = .ok (.iconst 0, 1) := by decide +kernel
theorem dX0_mode_34 : decode cX0_mode 34 = .ok (.goto 7, 3) := by decide +kernel
theorem dX0_mode_37 : decode cX0_mode 37 = .ok (.aload_n 0, 1) := by decide +kernel
theorem dX0_mode_38 : decode cX0_mode 38 = .ok (.invokevirtual 92, 3) := by decide +kernel
theorem dX0_mode_41 : decode cX0_mode 41 = .ok (.ireturn, 1) := by decide +kernel
theorem dX0_writeAllBack_0 : decode cX0_writeAllBack 0 = .ok (.iconst 0, 1) := by decide +kernel
theorem dX0_writeAllBack_1 : decode cX0_writeAllBack 1 = .ok (.istore_n 1, 1) := by decide +kernel
theorem dX0_writeAllBack_2 : decode cX0_writeAllBack 2 = .ok (.iconst 0, 1) := by decide +kernel
theorem dX0_writeAllBack_3 : decode cX0_writeAllBack 3 = .ok (.istore_n 2, 1) := by decide +kernel
theorem dX0_writeAllBack_4 : decode cX0_writeAllBack 4 = .ok (.iload_n 2, 1) := by decide +kernel
theorem dX0_writeAllBack_5 : decode cX0_writeAllBack 5 = .ok (.aload_n 0, 1) := by decide +kernel
theorem dX0_writeAllBack_6 : decode cX0_writeAllBack 6 = .ok (.getfield 9, 3) := by decide +kernel
theorem dX0_writeAllBack_9 : decode cX0_writeAllBack 9 = .ok (.if_icmp .ge 20, 3) := by decide +kernel
theorem dX0_writeAllBack_12 : decode cX0_writeAllBack 12 = .ok (.aload_n 0, 1) := by decide +kernel
theorem dX0_writeAllBack_13 : decode cX0_writeAllBack 13 = .ok (.iload_n 2, 1) := by decide +kernel
theorem dX0_writeAllBack_14 : decode cX0_writeAllBack 14 = .ok (.invokevirtual 100, 3) := by decide +kernel
theorem dX0_writeAllBack_17 : decode cX0_writeAllBack 17 = .ok (.ifCond .eq 6, 3) := by decide +kernel
theorem dX0_writeAllBack_20 : decode cX0_writeAllBack 20 = .ok (.iinc 1 1, 3) := by decide +kernel
theorem dX0_writeAllBack_23 : decode cX0_writeAllBack 23 = .ok (.iinc 2 1, 3) := by decide +kernel
theorem dX0_writeAllBack_26 : decode cX0_writeAllBack 26 = .ok (.goto (-22), 3) := by decide +kernel
theorem dX0_writeAllBack_29 : decode cX0_writeAllBack 29 = .ok (.iload_n 1, 1) := by decide +kernel
theorem dX0_writeAllBack_30 : decode cX0_writeAllBack 30 = .ok (.ireturn, 1) := by decide +kernel
theorem dX0_back_0 : decode cX0_back 0 = .ok (.iload_n 1, 1) := by decide +kernel
theorem dX0_back_1 : decode cX0_back 1 = .ok (.ifCond .lt 9, 3) := by decide +kernel
theorem dX0_back_4 : decode cX0_back 4 = .ok (.iload_n 1, 1) := by decide +kernel
theorem dX0_back_5 : decode cX0_back 5 = .ok (.bipush 12, 2) := by decide +kernel
theorem dX0_back_7 : decode cX0_back 7 = .ok (.if_icmp .le 13, 3) := by decide +kernel
theorem dX0_back_10 : decode cX0_back 10 = .ok (.new 75, 3) := by decide +kernel
theorem dX0_back_13 : decode cX0_back 13 = .ok (.dup, 1) := by decide +kernel
theorem dX0_back_14 : decode cX0_back 14 = .ok (.ldc 95, 2) := by decide +kernel
theorem dX0_back_16 : decode cX0_back 16 = .ok (.invokespecial 79, 3) := by decide +kernel
theorem dX0_back_19 : decode cX0_back 19 = .ok (.athrow, 1) := by decide +kernel
theorem dX0_back_20 : decode cX0_back 20 = .ok (.iconst 0, 1) := by decide +kernel
theorem dX0_back_21 : decode cX0_back 21 = .ok (.istore_n 2, 1) := by decide +kernel
theorem dX0_back_22 : decode cX0_back 22 = .ok (.iload_n 2, 1) := by decide +kernel
theorem dX0_back_23 : decode cX0_back 23 = .ok (.iload_n 1, 1) := by decide +kernel
theorem dX0_back_24 : decode cX0_back 24 = .ok (.if_icmp .ge 42, 3) := by decide +kernel
theorem dX0_back_27 : decode cX0_back 27 = .ok (.aload_n 0, 1) := by decide +kernel
theorem dX0_back_28 : decode cX0_back 28 = .ok (.invokevirtual 97, 3) := by decide +kernel
theorem dX0_back_31 : decode cX0_back 31 = .ok (.istore_n 3, 1) := by decide +kernel
theorem dX0_back_32 : decode cX0_back 32 = .ok (.iload_n 3, 1) := by decide +kernel
theorem dX0_back_33 : decode cX0_back 33 = .ok (.iconst (-1), 1) := by decide +kernel
theorem dX0_back_34 : decode cX0_back 34 = .ok (.if_icmp .ne 5, 3) := by decide +kernel
theorem dX0_back_37 : decode cX0_back 37 = .ok (.iload_n 2, 1) := by decide +kernel
theorem dX0_back_38 : decode cX0_back 38 = .ok (.ireturn, 1) := by decide +kernel
theorem dX0_back_39 : decode cX0_back 39 = .ok (.aload_n 0, 1) := by decide +kernel
theorem dX0_back_40 : decode cX0_back 40 = .ok (.iload_n 3, 1) := by decide +kernel
theorem dX0_back_41 : decode cX0_back 41 = .ok (.invokevirtual 100, 3) := by decide +kernel
theorem dX0_back_44 : decode cX0_back 44 = .ok (.pop, 1) := by decide +kernel
theorem dX0_back_45 : decode cX0_back 45 = .ok (.aload_n 0, 1) := by decide +kernel
theorem dX0_back_46 : decode cX0_back 46 = .ok (.aload_n 0, 1) := by decide +kernel
theorem dX0_back_47 : decode cX0_back 47 = .ok (.getfield 20, 3) := by decide +kernel
theorem dX0_back_50 : decode cX0_back 50 = .ok (.iload_n 3, 1) := by decide +kernel
theorem dX0_back_51 : decode cX0_back 51 = .ok (.iaload, 1) := by decide +kernel
theorem dX0_back_52 : decode cX0_back 52 = .ok (.invokestatic 104, 3) := by decide +kernel
theorem dX0_back_55 : decode cX0_back 55 = .ok (.iconst 1, 1) := by decide +kernel
theorem dX0_back_56 : decode cX0_back 56 = .ok (.iadd, 1) := by decide +kernel
theorem dX0_back_57 : decode cX0_back 57 = .ok (.putfield 107, 3) := by decide +kernel
theorem dX0_back_60 : decode cX0_back 60 = .ok (.iinc 2 1, 3) := by decide +kernel
theorem dX0_back_63 : decode cX0_back 63 = .ok (.goto (-41), 3) := by decide +kernel
theorem dX0_back_66 : decode cX0_back 66 = .ok (.iload_n 1, 1) := by decide +kernel
theorem dX0_back_67 : decode cX0_back 67 = .ok (.ireturn, 1) := by decide +kernel
theorem dX0_nextForHand_0 : decode cX0_nextForHand 0 = .ok (.aload_n 0, 1) := by decide +kernel
theorem dX0_nextForHand_1 : decode cX0_nextForHand 1 = .ok (.aload_n 0, 1) := by decide +kernel
theorem dX0_nextForHand_2 : decode cX0_nextForHand 2 = .ok (.getfield 107, 3) := by decide +kernel
theorem dX0_nextForHand_5 : decode cX0_nextForHand 5 = .ok (.invokevirtual 175, 3) := by decide +kernel
theorem dX0_nextForHand_8 : decode cX0_nextForHand 8 = .ok (.istore_n 1, 1) := by decide +kernel
theorem dX0_nextForHand_9 : decode cX0_nextForHand 9 = .ok (.iload_n 1, 1) := by decide +kernel
theorem dX0_nextForHand_10 : decode cX0_nextForHand 10 = .ok (.iconst (-1), 1) := by decide +kernel
theorem dX0_nextForHand_11 : decode cX0_nextForHand 11 = .ok (.if_icmp .eq 7, 3) := by decide +kernel
theorem dX0_nextForHand_14 : decode cX0_nextForHand 14 = .ok (.iload_n 1, 1) := by decide +kernel
theorem dX0_nextForHand_15 : decode cX0_nextForHand 15 = .ok (.goto 8, 3) := by decide +kernel
theorem dX0_nextForHand_18 : decode cX0_nextForHand 18 = .ok (.aload_n 0, 1) := by decide +kernel
theorem dX0_nextForHand_19 : decode cX0_nextForHand 19 = .ok (.iconst 0, 1) := by decide +kernel
theorem dX0_nextForHand_20 : decode cX0_nextForHand 20 = .ok (.invokevirtual 175, 3) := by decide +kernel
theorem dX0_nextForHand_23 : decode cX0_nextForHand 23 = .ok (.ireturn, 1) := by decide +kernel
theorem dX0_leastDirtyFrom_0 : decode cX0_leastDirtyFrom 0 = .ok (.iconst (-1), 1) := by decide +kernel
theorem dX0_leastDirtyFrom_1 : decode cX0_leastDirtyFrom 1 = .ok (.istore_n 2, 1) := by decide +kernel
theorem dX0_leastDirtyFrom_2 : decode cX0_leastDirtyFrom 2 = .ok (.bipush 64, 2) := by decide +kernel
theorem dX0_leastDirtyFrom_4 : decode cX0_leastDirtyFrom 4 = .ok (.istore_n 3, 1) := by decide +kernel
theorem dX0_leastDirtyFrom_5 : decode cX0_leastDirtyFrom 5 = .ok (.iconst 0, 1) := by decide +kernel
theorem dX0_leastDirtyFrom_6 : decode cX0_leastDirtyFrom 6 = .ok (.istore 4, 2) := by decide +kernel
theorem dX0_leastDirtyFrom_8 : decode cX0_leastDirtyFrom 8 = .ok (.iload 4, 2) := by decide +kernel
theorem dX0_leastDirtyFrom_10 : decode cX0_leastDirtyFrom 10 = .ok (.aload_n 0, 1) := by decide +kernel
theorem dX0_leastDirtyFrom_11 : decode cX0_leastDirtyFrom 11 = .ok (.getfield 9, 3) := by decide +kernel
theorem dX0_leastDirtyFrom_14 : decode cX0_leastDirtyFrom 14 = .ok (.if_icmp .ge 52, 3) := by decide +kernel
theorem dX0_leastDirtyFrom_17 : decode cX0_leastDirtyFrom 17 = .ok (.aload_n 0, 1) := by decide +kernel
theorem dX0_leastDirtyFrom_18 : decode cX0_leastDirtyFrom 18 = .ok (.getfield 20, 3) := by decide +kernel
theorem dX0_leastDirtyFrom_21 : decode cX0_leastDirtyFrom 21 = .ok (.iload 4, 2) := by decide +kernel
theorem dX0_leastDirtyFrom_23 : decode cX0_leastDirtyFrom 23 = .ok (.iaload, 1) := by decide +kernel
theorem dX0_leastDirtyFrom_24 : decode cX0_leastDirtyFrom 24 = .ok (.invokestatic 104, 3) := by decide +kernel
theorem dX0_leastDirtyFrom_27 : decode cX0_leastDirtyFrom 27 = .ok (.istore 5, 2) := by decide +kernel
theorem dX0_leastDirtyFrom_29 : decode cX0_leastDirtyFrom 29 = .ok (.aload_n 0, 1) := by decide +kernel
theorem dX0_leastDirtyFrom_30 : decode cX0_leastDirtyFrom 30 = .ok (.getfield 20, 3) := by decide +kernel
theorem dX0_leastDirtyFrom_33 : decode cX0_leastDirtyFrom 33 = .ok (.iload 4, 2) := by decide +kernel
theorem dX0_leastDirtyFrom_35 : decode cX0_leastDirtyFrom 35 = .ok (.iaload, 1) := by decide +kernel
theorem dX0_leastDirtyFrom_36 : decode cX0_leastDirtyFrom 36 = .ok (.invokestatic 124, 3) := by decide +kernel
theorem dX0_leastDirtyFrom_39 : decode cX0_leastDirtyFrom 39 = .ok (.ifCond .eq 21, 3) := by decide +kernel
theorem dX0_leastDirtyFrom_42 : decode cX0_leastDirtyFrom 42 = .ok (.iload 5, 2) := by decide +kernel
theorem dX0_leastDirtyFrom_44 : decode cX0_leastDirtyFrom 44 = .ok (.iload_n 1, 1) := by decide +kernel
theorem dX0_leastDirtyFrom_45 : decode cX0_leastDirtyFrom 45 = .ok (.if_icmp .lt 15, 3) := by decide +kernel
theorem dX0_leastDirtyFrom_48 : decode cX0_leastDirtyFrom 48 = .ok (.iload 5, 2) := by decide +kernel
theorem dX0_leastDirtyFrom_50 : decode cX0_leastDirtyFrom 50 = .ok (.iload_n 3, 1) := by decide +kernel
theorem dX0_leastDirtyFrom_51 : decode cX0_leastDirtyFrom 51 = .ok (.if_icmp .ge 9, 3) := by decide +kernel
theorem dX0_leastDirtyFrom_54 : decode cX0_leastDirtyFrom 54 = .ok (.iload 4, 2) := by decide +kernel
theorem dX0_leastDirtyFrom_56 : decode cX0_leastDirtyFrom 56 = .ok (.istore_n 2, 1) := by decide +kernel
theorem dX0_leastDirtyFrom_57 : decode cX0_leastDirtyFrom 57 = .ok (.iload 5, 2) := by decide +kernel
theorem dX0_leastDirtyFrom_59 : decode cX0_leastDirtyFrom 59 = .ok (.istore_n 3, 1) := by decide +kernel
theorem dX0_leastDirtyFrom_60 : decode cX0_leastDirtyFrom 60 = .ok (.iinc 4 1, 3) := by decide +kernel
theorem dX0_leastDirtyFrom_63 : decode cX0_leastDirtyFrom 63 = .ok (.goto (-55), 3) := by decide +kernel
theorem dX0_leastDirtyFrom_66 : decode cX0_leastDirtyFrom 66 = .ok (.iload_n 2, 1) := by decide +kernel
theorem dX0_leastDirtyFrom_67 : decode cX0_leastDirtyFrom 67 = .ok (.ireturn, 1) := by decide +kernel
theorem dX0_slot_0 : decode cX0_slot 0 = .ok (.iload_n 1, 1) := by decide +kernel
theorem dX0_slot_1 : decode cX0_slot 1 = .ok (.invokestatic 36, 3) := by decide +kernel
theorem dX0_slot_4 : decode cX0_slot 4 = .ok (.aload_n 0, 1) := by decide +kernel
theorem dX0_slot_5 : decode cX0_slot 5 = .ok (.iload_n 1, 1) := by decide +kernel
theorem dX0_slot_6 : decode cX0_slot 6 = .ok (.invokevirtual 40, 3) := by decide +kernel
theorem dX0_slot_9 : decode cX0_slot 9 = .ok (.ireturn, 1) := by decide +kernel
theorem dX0_dirty_0 : decode cX0_dirty 0 = .ok (.iload_n 1, 1) := by decide +kernel
theorem dX0_dirty_1 : decode cX0_dirty 1 = .ok (.invokestatic 36, 3) := by decide +kernel
theorem dX0_dirty_4 : decode cX0_dirty 4 = .ok (.aload_n 0, 1) := by decide +kernel
theorem dX0_dirty_5 : decode cX0_dirty 5 = .ok (.iload_n 1, 1) := by decide +kernel
theorem dX0_dirty_6 : decode cX0_dirty 6 = .ok (.invokevirtual 40, 3) := by decide +kernel
theorem dX0_dirty_9 : decode cX0_dirty 9 = .ok (.istore_n 2, 1) := by decide +kernel
theorem dX0_dirty_10 : decode cX0_dirty 10 = .ok (.iload_n 2, 1) := by decide +kernel
theorem dX0_dirty_11 : decode cX0_dirty 11 = .ok (.iconst (-1), 1) := by decide +kernel
theorem dX0_dirty_12 : decode cX0_dirty 12 = .ok (.if_icmp .ne 13, 3) := by decide +kernel
theorem dX0_dirty_15 : decode cX0_dirty 15 = .ok (.new 119, 3) := by decide +kernel
theorem dX0_dirty_18 : decode cX0_dirty 18 = .ok (.dup, 1) := by decide +kernel
theorem dX0_dirty_19 : decode cX0_dirty 19 = .ok (.ldc 121, 2) := by decide +kernel
theorem dX0_dirty_21 : decode cX0_dirty 21 = .ok (.invokespecial 123, 3) := by decide +kernel
theorem dX0_dirty_24 : decode cX0_dirty 24 = .ok (.athrow, 1) := by decide +kernel
theorem dX0_dirty_25 : decode cX0_dirty 25 = .ok (.aload_n 0, 1) := by decide +kernel
theorem dX0_dirty_26 : decode cX0_dirty 26 = .ok (.getfield 20, 3) := by decide +kernel
theorem dX0_dirty_29 : decode cX0_dirty 29 = .ok (.iload_n 2, 1) := by decide +kernel
theorem dX0_dirty_30 : decode cX0_dirty 30 = .ok (.iaload, 1) := by decide +kernel
theorem dX0_dirty_31 : decode cX0_dirty 31 = .ok (.invokestatic 124, 3) := by decide +kernel
theorem dX0_dirty_34 : decode cX0_dirty 34 = .ok (.ireturn, 1) := by decide +kernel
theorem dX0_origin_0 : decode cX0_origin 0 = .ok (.iload_n 1, 1) := by decide +kernel
theorem dX0_origin_1 : decode cX0_origin 1 = .ok (.invokestatic 36, 3) := by decide +kernel
theorem dX0_origin_4 : decode cX0_origin 4 = .ok (.aload_n 0, 1) := by decide +kernel
theorem dX0_origin_5 : decode cX0_origin 5 = .ok (.getfield 13, 3) := by decide +kernel
theorem dX0_origin_8 : decode cX0_origin 8 = .ok (.iload_n 1, 1) := by decide +kernel
theorem dX0_origin_9 : decode cX0_origin 9 = .ok (.laload, 1) := by decide +kernel
theorem dX0_origin_10 : decode cX0_origin 10 = .ok (.lreturn, 1) := by decide +kernel
theorem dX0_order_0 : decode cX0_order 0 = .ok (.iconst 0, 1) := by decide +kernel
theorem dX0_order_1 : decode cX0_order 1 = .ok (.istore_n 2, 1) := by decide +kernel
theorem dX0_order_2 : decode cX0_order 2 = .ok (.iload_n 2, 1) := by decide +kernel
theorem dX0_order_3 : decode cX0_order 3 = .ok (.aload_n 0, 1) := by decide +kernel
theorem dX0_order_4 : decode cX0_order 4 = .ok (.getfield 9, 3) := by decide +kernel
theorem dX0_order_7 : decode cX0_order 7 = .ok (.if_icmp .ge 38, 3) := by decide +kernel
theorem dX0_order_10 : decode cX0_order 10 = .ok (.aload_n 0, 1) := by decide +kernel
theorem dX0_order_11 : decode cX0_order 11 = .ok (.getfield 20, 3) := by decide +kernel
theorem dX0_order_14 : decode cX0_order 14 = .ok (.iload_n 2, 1) := by decide +kernel
theorem dX0_order_15 : decode cX0_order 15 = .ok (.iaload, 1) := by decide +kernel
theorem dX0_order_16 : decode cX0_order 16 = .ok (.iconst (-1), 1) := by decide +kernel
theorem dX0_order_17 : decode cX0_order 17 = .ok (.if_icmp .eq 22, 3) := by decide +kernel
theorem dX0_order_20 : decode cX0_order 20 = .ok (.aload_n 0, 1) := by decide +kernel
theorem dX0_order_21 : decode cX0_order 21 = .ok (.iload_n 2, 1) := by decide +kernel
theorem dX0_order_22 : decode cX0_order 22 = .ok (.invokevirtual 127, 3) := by decide +kernel
theorem dX0_order_25 : decode cX0_order 25 = .ok (.iload_n 1, 1) := by decide +kernel
theorem dX0_order_26 : decode cX0_order 26 = .ok (.if_icmp .ne 13, 3) := by decide +kernel
theorem dX0_order_29 : decode cX0_order 29 = .ok (.aload_n 0, 1) := by decide +kernel
theorem dX0_order_30 : decode cX0_order 30 = .ok (.getfield 20, 3) := by decide +kernel
theorem dX0_order_33 : decode cX0_order 33 = .ok (.iload_n 2, 1) := by decide +kernel
theorem dX0_order_34 : decode cX0_order 34 = .ok (.iaload, 1) := by decide +kernel
theorem dX0_order_35 : decode cX0_order 35 = .ok (.invokestatic 104, 3) := by decide +kernel
theorem dX0_order_38 : decode cX0_order 38 = .ok (.ireturn, 1) := by decide +kernel
theorem dX0_order_39 : decode cX0_order 39 = .ok (.iinc 2 1, 3) := by decide +kernel
theorem dX0_order_42 : decode cX0_order 42 = .ok (.goto (-40), 3) := by decide +kernel
theorem dX0_order_45 : decode cX0_order 45 = .ok (.new 130, 3) := by decide +kernel
theorem dX0_order_48 : decode cX0_order 48 = .ok (.dup, 1) := by decide +kernel
theorem dX0_order_49 : decode cX0_order 49 = .ok (.ldc 132, 2) := by decide +kernel
theorem dX0_order_51 : decode cX0_order 51 = .ok (.invokespecial 134, 3) := by decide +kernel
theorem dX0_order_54 : decode cX0_order 54 = .ok (.athrow, 1) := by decide +kernel
theorem dX0_countUsedAfter_0 : decode cX0_countUsedAfter 0 = .ok (.iconst 0, 1) := by decide +kernel
theorem dX0_countUsedAfter_1 : decode cX0_countUsedAfter 1 = .ok (.istore_n 2, 1) := by decide +kernel
theorem dX0_countUsedAfter_2 : decode cX0_countUsedAfter 2 = .ok (.iconst 0, 1) := by decide +kernel
theorem dX0_countUsedAfter_3 : decode cX0_countUsedAfter 3 = .ok (.istore_n 3, 1) := by decide +kernel
theorem dX0_countUsedAfter_4 : decode cX0_countUsedAfter 4 = .ok (.iload_n 3, 1) := by decide +kernel
theorem dX0_countUsedAfter_5 : decode cX0_countUsedAfter 5 = .ok (.aload_n 0, 1) := by decide +kernel
theorem dX0_countUsedAfter_6 : decode cX0_countUsedAfter 6 = .ok (.getfield 9, 3) := by decide +kernel
theorem dX0_countUsedAfter_9 : decode cX0_countUsedAfter 9 = .ok (.if_icmp .ge 37, 3) := by decide +kernel
theorem dX0_countUsedAfter_12 : decode cX0_countUsedAfter 12 = .ok (.aload_n 0, 1) := by decide +kernel
theorem dX0_countUsedAfter_13 : decode cX0_countUsedAfter 13 = .ok (.getfield 20, 3) := by decide +kernel
theorem dX0_countUsedAfter_16 : decode cX0_countUsedAfter 16 = .ok (.iload_n 3, 1) := by decide +kernel
theorem dX0_countUsedAfter_17 : decode cX0_countUsedAfter 17 = .ok (.iaload, 1) := by decide +kernel
theorem dX0_countUsedAfter_18 : decode cX0_countUsedAfter 18 = .ok (.iconst (-1), 1) := by decide +kernel
theorem dX0_countUsedAfter_19 : decode cX0_countUsedAfter 19 = .ok (.if_icmp .eq 21, 3) := by decide +kernel
theorem dX0_countUsedAfter_22 : decode cX0_countUsedAfter 22 = .ok (.aload_n 0, 1) := by decide +kernel
theorem dX0_countUsedAfter_23 : decode cX0_countUsedAfter 23 = .ok (.getfield 27, 3) := by decide +kernel
theorem dX0_countUsedAfter_26 : decode cX0_countUsedAfter 26 = .ok (.iload_n 3, 1) := by decide +kernel
theorem dX0_countUsedAfter_27 : decode cX0_countUsedAfter 27 = .ok (.iaload, 1) := by decide +kernel
theorem dX0_countUsedAfter_28 : decode cX0_countUsedAfter 28 = .ok (.aload_n 0, 1) := by decide +kernel
theorem dX0_countUsedAfter_29 : decode cX0_countUsedAfter 29 = .ok (.getfield 27, 3) := by decide +kernel
theorem dX0_countUsedAfter_32 : decode cX0_countUsedAfter 32 = .ok (.iload_n 1, 1) := by decide +kernel
theorem dX0_countUsedAfter_33 : decode cX0_countUsedAfter 33 = .ok (.iaload, 1) := by decide +kernel
theorem dX0_countUsedAfter_34 : decode cX0_countUsedAfter 34 = .ok (.if_icmp .le 6, 3) := by decide +kernel
theorem dX0_countUsedAfter_37 : decode cX0_countUsedAfter 37 = .ok (.iinc 2 1, 3) := by decide +kernel
theorem dX0_countUsedAfter_40 : decode cX0_countUsedAfter 40 = .ok (.iinc 3 1, 3) := by decide +kernel
theorem dX0_countUsedAfter_43 : decode cX0_countUsedAfter 43 = .ok (.goto (-39), 3) := by decide +kernel
theorem dX0_countUsedAfter_46 : decode cX0_countUsedAfter 46 = .ok (.iload_n 2, 1) := by decide +kernel
theorem dX0_countUsedAfter_47 : decode cX0_countUsedAfter 47 = .ok (.ireturn, 1) := by decide +kernel
theorem dX0_noted_0 : decode cX0_noted 0 = .ok (.iload_n 1, 1) := by decide +kernel
theorem dX0_noted_1 : decode cX0_noted 1 = .ok (.ifCond .lt 11, 3) := by decide +kernel
theorem dX0_noted_4 : decode cX0_noted 4 = .ok (.iload_n 1, 1) := by decide +kernel
theorem dX0_noted_5 : decode cX0_noted 5 = .ok (.aload_n 0, 1) := by decide +kernel
theorem dX0_noted_6 : decode cX0_noted 6 = .ok (.getfield 9, 3) := by decide +kernel
theorem dX0_noted_9 : decode cX0_noted 9 = .ok (.if_icmp .lt 13, 3) := by decide +kernel
theorem dX0_noted_12 : decode cX0_noted 12 = .ok (.new 130, 3) := by decide +kernel
theorem dX0_noted_15 : decode cX0_noted 15 = .ok (.dup, 1) := by decide +kernel
theorem dX0_noted_16 : decode cX0_noted 16 = .ok (.ldc 135, 2) := by decide +kernel
theorem dX0_noted_18 : decode cX0_noted 18 = .ok (.invokespecial 134, 3) := by decide +kernel
theorem dX0_noted_21 : decode cX0_noted 21 = .ok (.athrow, 1) := by decide +kernel
theorem dX0_noted_22 : decode cX0_noted 22 = .ok (.aload_n 0, 1) := by decide +kernel
theorem dX0_noted_23 : decode cX0_noted 23 = .ok (.getfield 24, 3) := by decide +kernel
theorem dX0_noted_26 : decode cX0_noted 26 = .ok (.iload_n 1, 1) := by decide +kernel
theorem dX0_noted_27 : decode cX0_noted 27 = .ok (.iaload, 1) := by decide +kernel
theorem dX0_noted_28 : decode cX0_noted 28 = .ok (.ireturn, 1) := by decide +kernel
theorem dX0_figure_0 : decode cX0_figure 0 = .ok (.iload_n 1, 1) := by decide +kernel
theorem dX0_figure_1 : decode cX0_figure 1 = .ok (.tableswitch 87 0 7 #[47, 52, 57, 62, 67, 72, 77, 82], 47) := by decide +kernel
theorem dX0_figure_48 : decode cX0_figure 48 = .ok (.aload_n 0, 1) := by decide +kernel
theorem dX0_figure_49 : decode cX0_figure 49 = .ok (.getfield 44, 3) := by decide +kernel
theorem dX0_figure_52 : decode cX0_figure 52 = .ok (.ireturn, 1) := by decide +kernel
theorem dX0_figure_53 : decode cX0_figure 53 = .ok (.aload_n 0, 1) := by decide +kernel
theorem dX0_figure_54 : decode cX0_figure 54 = .ok (.getfield 50, 3) := by decide +kernel
theorem dX0_figure_57 : decode cX0_figure 57 = .ok (.ireturn, 1) := by decide +kernel
theorem dX0_figure_58 : decode cX0_figure 58 = .ok (.aload_n 0, 1) := by decide +kernel
theorem dX0_figure_59 : decode cX0_figure 59 = .ok (.getfield 137, 3) := by decide +kernel
theorem dX0_figure_62 : decode cX0_figure 62 = .ok (.ireturn, 1) := by decide +kernel
theorem dX0_figure_63 : decode cX0_figure 63 = .ok (.aload_n 0, 1) := by decide +kernel
theorem dX0_figure_64 : decode cX0_figure 64 = .ok (.getfield 140, 3) := by decide +kernel
theorem dX0_figure_67 : decode cX0_figure 67 = .ok (.ireturn, 1) := by decide +kernel
theorem dX0_figure_68 : decode cX0_figure 68 = .ok (.aload_n 0, 1) := by decide +kernel
theorem dX0_figure_69 : decode cX0_figure 69 = .ok (.invokevirtual 113, 3) := by decide +kernel
theorem dX0_figure_72 : decode cX0_figure 72 = .ok (.ireturn, 1) := by decide +kernel
theorem dX0_figure_73 : decode cX0_figure 73 = .ok (.aload_n 0, 1) := by decide +kernel
theorem dX0_figure_74 : decode cX0_figure 74 = .ok (.invokevirtual 116, 3) := by decide +kernel
theorem dX0_figure_77 : decode cX0_figure 77 = .ok (.ireturn, 1) := by decide +kernel
theorem dX0_figure_78 : decode cX0_figure 78 = .ok (.aload_n 0, 1) := by decide +kernel
theorem dX0_figure_79 : decode cX0_figure 79 = .ok (.getfield 53, 3) := by decide +kernel
theorem dX0_figure_82 : decode cX0_figure 82 = .ok (.ireturn, 1) := by decide +kernel
theorem dX0_figure_83 : decode cX0_figure 83 = .ok (.aload_n 0, 1) := by decide +kernel
theorem dX0_figure_84 : decode cX0_figure 84 = .ok (.getfield 107, 3) := by decide +kernel
theorem dX0_figure_87 : decode cX0_figure 87 = .ok (.ireturn, 1) := by decide +kernel
theorem dX0_figure_88 : decode cX0_figure 88 = .ok (.new 75, 3) := by decide +kernel
theorem dX0_figure_91 : decode cX0_figure 91 = .ok (.dup, 1) := by decide +kernel
theorem dX0_figure_92 : decode cX0_figure 92 = .ok (.ldc 143, 2) := by decide +kernel
theorem dX0_figure_94 : decode cX0_figure 94 = .ok (.invokespecial 79, 3) := by decide +kernel
theorem dX0_figure_97 : decode cX0_figure 97 = .ok (.athrow, 1) := by decide +kernel
