theorem dX1_init_0 : decode cX1_init 0 = .ok (.aload_n 0, 1) := by decide +kernel
theorem dX1_init_1 : decode cX1_init 1 = .ok (.invokespecial 1, 3) := by decide +kernel
theorem dX1_init_4 : decode cX1_init 4 = .ok (.aload_n 0, 1) := by decide +kernel
theorem dX1_init_5 : decode cX1_init 5 = .ok (.bipush 64, 2) := by decide +kernel
theorem dX1_init_7 : decode cX1_init 7 = .ok (.newarray .long, 2) := by decide +kernel
theorem dX1_init_9 : decode cX1_init 9 = .ok (.putfield 7, 3) := by decide +kernel
theorem dX1_init_12 : decode cX1_init 12 = .ok (.aload_n 0, 1) := by decide +kernel
theorem dX1_init_13 : decode cX1_init 13 = .ok (.bipush 12, 2) := by decide +kernel
theorem dX1_init_15 : decode cX1_init 15 = .ok (.newarray .int, 2) := by decide +kernel
theorem dX1_init_17 : decode cX1_init 17 = .ok (.putfield 13, 3) := by decide +kernel
theorem dX1_init_20 : decode cX1_init 20 = .ok (.aload_n 0, 1) := by decide +kernel
theorem dX1_init_21 : decode cX1_init 21 = .ok (.bipush 12, 2) := by decide +kernel
theorem dX1_init_23 : decode cX1_init 23 = .ok (.newarray .long, 2) := by decide +kernel
theorem dX1_init_25 : decode cX1_init 25 = .ok (.putfield 17, 3) := by decide +kernel
theorem dX1_init_28 : decode cX1_init 28 = .ok (.aload_n 0, 1) := by decide +kernel
theorem dX1_init_29 : decode cX1_init 29 = .ok (.bipush 12, 2) := by decide +kernel
theorem dX1_init_31 : decode cX1_init 31 = .ok (.newarray .boolean, 2) := by decide +kernel
theorem dX1_init_33 : decode cX1_init 33 = .ok (.putfield 20, 3) := by decide +kernel
theorem dX1_init_36 : decode cX1_init 36 = .ok (.aload_n 0, 1) := by decide +kernel
theorem dX1_init_37 : decode cX1_init 37 = .ok (.bipush 12, 2) := by decide +kernel
theorem dX1_init_39 : decode cX1_init 39 = .ok (.newarray .int, 2) := by decide +kernel
theorem dX1_init_41 : decode cX1_init 41 = .ok (.putfield 24, 3) := by decide +kernel
theorem dX1_init_44 : decode cX1_init 44 = .ok (.aload_n 0, 1) := by decide +kernel
theorem dX1_init_45 : decode cX1_init 45 = .ok (.bipush 12, 2) := by decide +kernel
theorem dX1_init_47 : decode cX1_init 47 = .ok (.newarray .long, 2) := by decide +kernel
theorem dX1_init_49 : decode cX1_init 49 = .ok (.putfield 27, 3) := by decide +kernel
theorem dX1_init_52 : decode cX1_init 52 = .ok (.aload_n 0, 1) := by decide +kernel
theorem dX1_init_53 : decode cX1_init 53 = .ok (.iload_n 1, 1) := by decide +kernel
theorem dX1_init_54 : decode cX1_init 54 = .ok (.iconst 1, 1) := by decide +kernel
theorem dX1_init_55 : decode cX1_init 55 = .ok (.if_icmp .lt 9, 3) := by decide +kernel
theorem dX1_init_58 : decode cX1_init 58 = .ok (.iload_n 1, 1) := by decide +kernel
theorem dX1_init_59 : decode cX1_init 59 = .ok (.bipush 12, 2) := by decide +kernel
theorem dX1_init_61 : decode cX1_init 61 = .ok (.if_icmp .le 8, 3) := by decide +kernel
theorem dX1_init_64 : decode cX1_init 64 = .ok (.bipush 6, 2) := by decide +kernel
theorem dX1_init_66 : decode cX1_init 66 = .ok (.goto 4, 3) := by decide +kernel
theorem dX1_init_69 : decode cX1_init 69 = .ok (.iload_n 1, 1) := by decide +kernel
theorem dX1_init_70 : decode cX1_init 70 = .ok (.putfield 30, 3) := by decide +kernel
theorem dX1_init_73 : decode cX1_init 73 = .ok (.iconst 0, 1) := by decide +kernel
theorem dX1_init_74 : decode cX1_init 74 = .ok (.istore_n 2, 1) := by decide +kernel
theorem dX1_init_75 : decode cX1_init 75 = .ok (.iload_n 2, 1) := by decide +kernel
theorem dX1_init_76 : decode cX1_init 76 = .ok (.bipush 12, 2) := by decide +kernel
theorem dX1_init_78 : decode cX1_init 78 = .ok (.if_icmp .ge 23, 3) := by decide +kernel
theorem dX1_init_81 : decode cX1_init 81 = .ok (.aload_n 0, 1) := by decide +kernel
theorem dX1_init_82 : decode cX1_init 82 = .ok (.getfield 13, 3) := by decide +kernel
theorem dX1_init_85 : decode cX1_init 85 = .ok (.iload_n 2, 1) := by decide +kernel
theorem dX1_init_86 : decode cX1_init 86 = .ok (.iconst (-1), 1) := by decide +kernel
theorem dX1_init_87 : decode cX1_init 87 = .ok (.iastore, 1) := by decide +kernel
theorem dX1_init_88 : decode cX1_init 88 = .ok (.aload_n 0, 1) := by decide +kernel
theorem dX1_init_89 : decode cX1_init 89 = .ok (.getfield 24, 3) := by decide +kernel
theorem dX1_init_92 : decode cX1_init 92 = .ok (.iload_n 2, 1) := by decide +kernel
theorem dX1_init_93 : decode cX1_init 93 = .ok (.iconst (-1), 1) := by decide +kernel
theorem dX1_init_94 : decode cX1_init 94 = .ok (.iastore, 1) := by decide +kernel
theorem dX1_init_95 : decode cX1_init 95 = .ok (.iinc 2 1, 3) := by decide +kernel
theorem dX1_init_98 : decode cX1_init 98 = .ok (.goto (-23), 3) := by decide +kernel
theorem dX1_init_101 : decode cX1_init 101 = .ok (.return_, 1) := by decide +kernel
theorem dX1_thrown_0 : decode cX1_thrown 0 = .ok (.aload_n 0, 1) := by decide +kernel
theorem dX1_thrown_1 : decode cX1_thrown 1 = .ok (.getfield 34, 3) := by decide +kernel
theorem dX1_thrown_4 : decode cX1_thrown 4 = .ok (.ireturn, 1) := by decide +kernel
theorem dX1_read_0 : decode cX1_read 0 = .ok (.aload_n 0, 1) := by decide +kernel
theorem dX1_read_1 : decode cX1_read 1 = .ok (.iload_n 1, 1) := by decide +kernel
theorem dX1_read_2 : decode cX1_read 2 = .ok (.invokestatic 72, 3) := by decide +kernel
theorem dX1_read_5 : decode cX1_read 5 = .ok (.ifCond .eq 7, 3) := by decide +kernel
theorem dX1_read_8 : decode cX1_read 8 = .ok (.iconst 0, 1) := by decide +kernel
theorem dX1_read_9 : decode cX1_read 9 = .ok (.goto 4, 3) := by decide +kernel
theorem dX1_read_12 : decode cX1_read 12 = .ok (.iconst 1, 1) := by decide +kernel
theorem dX1_read_13 : decode cX1_read 13 = .ok (.putfield 34, 3) := by decide +kernel
theorem dX1_read_16 : decode cX1_read 16 = .ok (.aload_n 0, 1) := by decide +kernel
theorem dX1_read_17 : decode cX1_read 17 = .ok (.getfield 34, 3) := by decide +kernel
theorem dX1_read_20 : decode cX1_read 20 = .ok (.ifCond .le 5, 3) := by decide +kernel
theorem dX1_read_23 : decode cX1_read 23 = .ok (.lconst 0, 1) := by decide +kernel
theorem dX1_read_24 : decode cX1_read 24 = .ok (.lreturn, 1) := by decide +kernel
theorem dX1_read_25 : decode cX1_read 25 = .ok (.aload_n 0, 1) := by decide +kernel
theorem dX1_read_26 : decode cX1_read 26 = .ok (.iload_n 1, 1) := by decide +kernel
theorem dX1_read_27 : decode cX1_read 27 = .ok (.invokevirtual 75, 3) := by decide +kernel
theorem dX1_read_30 : decode cX1_read 30 = .ok (.istore_n 2, 1) := by decide +kernel
theorem dX1_read_31 : decode cX1_read 31 = .ok (.iload_n 2, 1) := by decide +kernel
theorem dX1_read_32 : decode cX1_read 32 = .ok (.ifCond .lt 25, 3) := by decide +kernel
theorem dX1_read_35 : decode cX1_read 35 = .ok (.aload_n 0, 1) := by decide +kernel
theorem dX1_read_36 : decode cX1_read 36 = .ok (.dup, 1) := by decide +kernel
theorem dX1_read_37 : decode cX1_read 37 = .ok (.getfield 78, 3) := by decide +kernel
theorem dX1_read_40 : decode cX1_read 40 = .ok (.iconst 1, 1) := by decide +kernel
theorem dX1_read_41 : decode cX1_read 41 = .ok (.iadd, 1) := by decide +kernel
theorem dX1_read_42 : decode cX1_read 42 = .ok (.putfield 78, 3) := by decide +kernel
theorem dX1_read_45 : decode cX1_read 45 = .ok (.aload_n 0, 1) := by decide +kernel
theorem dX1_read_46 : decode cX1_read 46 = .ok (.iload_n 2, 1) := by decide +kernel
theorem dX1_read_47 : decode cX1_read 47 = .ok (.invokevirtual 81, 3) := by decide +kernel
theorem dX1_read_50 : decode cX1_read 50 = .ok (.aload_n 0, 1) := by decide +kernel
theorem dX1_read_51 : decode cX1_read 51 = .ok (.getfield 17, 3) := by decide +kernel
theorem dX1_read_54 : decode cX1_read 54 = .ok (.iload_n 2, 1) := by decide +kernel
theorem dX1_read_55 : decode cX1_read 55 = .ok (.laload, 1) := by decide +kernel
theorem dX1_read_56 : decode cX1_read 56 = .ok (.lreturn, 1) := by decide +kernel
theorem dX1_read_57 : decode cX1_read 57 = .ok (.aload_n 0, 1) := by decide +kernel
theorem dX1_read_58 : decode cX1_read 58 = .ok (.dup, 1) := by decide +kernel
theorem dX1_read_59 : decode cX1_read 59 = .ok (.getfield 84, 3) := by decide +kernel
theorem dX1_read_62 : decode cX1_read 62 = .ok (.iconst 1, 1) := by decide +kernel
theorem dX1_read_63 : decode cX1_read 63 = .ok (.iadd, 1) := by decide +kernel
theorem dX1_read_64 : decode cX1_read 64 = .ok (.putfield 84, 3) := by decide +kernel
theorem dX1_read_67 : decode cX1_read 67 = .ok (.aload_n 0, 1) := by decide +kernel
theorem dX1_read_68 : decode cX1_read 68 = .ok (.getfield 87, 3) := by decide +kernel
theorem dX1_read_71 : decode cX1_read 71 = .ok (.iconst 2, 1) := by decide +kernel
theorem dX1_read_72 : decode cX1_read 72 = .ok (.if_icmp .eq 39, 3) := by decide +kernel
theorem dX1_read_75 : decode cX1_read 75 = .ok (.aload_n 0, 1) := by decide +kernel
theorem dX1_read_76 : decode cX1_read 76 = .ok (.invokevirtual 90, 3) := by decide +kernel
theorem dX1_read_79 : decode cX1_read 79 = .ok (.istore_n 2, 1) := by decide +kernel
theorem dX1_read_80 : decode cX1_read 80 = .ok (.aload_n 0, 1) := by decide +kernel
theorem dX1_read_81 : decode cX1_read 81 = .ok (.getfield 13, 3) := by decide +kernel
theorem dX1_read_84 : decode cX1_read 84 = .ok (.iload_n 2, 1) := by decide +kernel
theorem dX1_read_85 : decode cX1_read 85 = .ok (.iload_n 1, 1) := by decide +kernel
theorem dX1_read_86 : decode cX1_read 86 = .ok (.iastore, 1) := by decide +kernel
theorem dX1_read_87 : decode cX1_read 87 = .ok (.aload_n 0, 1) := by decide +kernel
theorem dX1_read_88 : decode cX1_read 88 = .ok (.getfield 17, 3) := by decide +kernel
theorem dX1_read_91 : decode cX1_read 91 = .ok (.iload_n 2, 1) := by decide +kernel
theorem dX1_read_92 : decode cX1_read 92 = .ok (.aload_n 0, 1) := by decide +kernel
theorem dX1_read_93 : decode cX1_read 93 = .ok (.getfield 7, 3) := by decide +kernel
theorem dX1_read_96 : decode cX1_read 96 = .ok (.iload_n 1, 1) := by decide +kernel
theorem dX1_read_97 : decode cX1_read 97 = .ok (.laload, 1) := by decide +kernel
theorem dX1_read_98 : decode cX1_read 98 = .ok (.lastore, 1) := by decide +kernel
theorem dX1_read_99 : decode cX1_read 99 = .ok (.aload_n 0, 1) := by decide +kernel
theorem dX1_read_100 : decode cX1_read 100 = .ok (.getfield 20, 3) := by decide +kernel
theorem dX1_read_103 : decode cX1_read 103 = .ok (.iload_n 2, 1) := by decide +kernel
theorem dX1_read_104 : decode cX1_read 104 = .ok (.iconst 0, 1) := by decide +kernel
theorem dX1_read_105 : decode cX1_read 105 = .ok (.bastore, 1) := by decide +kernel
theorem dX1_read_106 : decode cX1_read 106 = .ok (.aload_n 0, 1) := by decide +kernel
theorem dX1_read_107 : decode cX1_read 107 = .ok (.iload_n 2, 1) := by decide +kernel
theorem dX1_read_108 : decode cX1_read 108 = .ok (.invokevirtual 81, 3) := by decide +kernel
theorem dX1_read_111 : decode cX1_read 111 = .ok (.aload_n 0, 1) := by decide +kernel
theorem dX1_read_112 : decode cX1_read 112 = .ok (.getfield 7, 3) := by decide +kernel
theorem dX1_read_115 : decode cX1_read 115 = .ok (.iload_n 1, 1) := by decide +kernel
theorem dX1_read_116 : decode cX1_read 116 = .ok (.laload, 1) := by decide +kernel
theorem dX1_read_117 : decode cX1_read 117 = .ok (.lreturn, 1) := by decide +kernel
theorem dX1_isBlock_0 : decode cX1_isBlock 0 = .ok (.iload_n 0, 1) := by decide +kernel
theorem dX1_isBlock_1 : decode cX1_isBlock 1 = .ok (.ifCond .lt 13, 3) := by decide +kernel
theorem dX1_isBlock_4 : decode cX1_isBlock 4 = .ok (.iload_n 0, 1) := by decide +kernel
theorem dX1_isBlock_5 : decode cX1_isBlock 5 = .ok (.bipush 63, 2) := by decide +kernel
theorem dX1_isBlock_7 : decode cX1_isBlock 7 = .ok (.if_icmp .gt 7, 3) := by decide +kernel
theorem dX1_isBlock_10 : decode cX1_isBlock 10 = .ok (.iconst 1, 1) := by decide +kernel
theorem dX1_isBlock_11 : decode cX1_isBlock 11 = .ok (.goto 4, 3) := by decide +kernel
theorem dX1_isBlock_14 : decode cX1_isBlock 14 = .ok (.iconst 0, 1) := by decide +kernel
theorem dX1_isBlock_15 : decode cX1_isBlock 15 = .ok (.ireturn, 1) := by decide +kernel
theorem dX1_find_0 : decode cX1_find 0 = .ok (.iconst (-1), 1) := by decide +kernel
theorem dX1_find_1 : decode cX1_find 1 = .ok (.istore_n 2, 1) := by decide +kernel
theorem dX1_find_2 : decode cX1_find 2 = .ok (.iconst 0, 1) := by decide +kernel
theorem dX1_find_3 : decode cX1_find 3 = .ok (.istore_n 3, 1) := by decide +kernel
theorem dX1_find_4 : decode cX1_find 4 = .ok (.iload_n 3, 1) := by decide +kernel
theorem dX1_find_5 : decode cX1_find 5 = .ok (.aload_n 0, 1) := by decide +kernel
theorem dX1_find_6 : decode cX1_find 6 = .ok (.getfield 30, 3) := by decide +kernel
theorem dX1_find_9 : decode cX1_find 9 = .ok (.if_icmp .ge 25, 3) := by decide +kernel
theorem dX1_find_12 : decode cX1_find 12 = .ok (.aload_n 0, 1) := by decide +kernel
theorem dX1_find_13 : decode cX1_find 13 = .ok (.getfield 13, 3) := by decide +kernel
theorem dX1_find_16 : decode cX1_find 16 = .ok (.iload_n 3, 1) := by decide +kernel
theorem dX1_find_17 : decode cX1_find 17 = .ok (.iaload, 1) := by decide +kernel
theorem dX1_find_18 : decode cX1_find 18 = .ok (.iload_n 1, 1) := by decide +kernel
theorem dX1_find_19 : decode cX1_find 19 = .ok (.if_icmp .ne 7, 3) := by decide +kernel
theorem dX1_find_22 : decode cX1_find 22 = .ok (.iload_n 3, 1) := by decide +kernel
theorem dX1_find_23 : decode cX1_find 23 = .ok (.goto 4, 3) := by decide +kernel
theorem dX1_find_26 : decode cX1_find 26 = .ok (.iload_n 2, 1) := by decide +kernel
theorem dX1_find_27 : decode cX1_find 27 = .ok (.istore_n 2, 1) := by decide +kernel
theorem dX1_find_28 : decode cX1_find 28 = .ok (.iinc 3 1, 3) := by decide +kernel
theorem dX1_find_31 : decode cX1_find 31 = .ok (.goto (-27), 3) := by decide +kernel
theorem dX1_find_34 : decode cX1_find 34 = .ok (.iload_n 2, 1) := by decide +kernel
theorem dX1_find_35 : decode cX1_find 35 = .ok (.ireturn, 1) := by decide +kernel
theorem dX1_use_0 : decode cX1_use 0 = .ok (.aload_n 0, 1) := by decide +kernel
theorem dX1_use_1 : decode cX1_use 1 = .ok (.dup, 1) := by decide +kernel
theorem dX1_use_2 : decode cX1_use 2 = .ok (.getfield 44, 3) := by decide +kernel
theorem dX1_use_5 : decode cX1_use 5 = .ok (.lconst 1, 1) := by decide +kernel
theorem dX1_use_6 : decode cX1_use 6 = .ok (.ladd, 1) := by decide +kernel
theorem dX1_use_7 : decode cX1_use 7 = .ok (.putfield 44, 3) := by decide +kernel
theorem dX1_use_10 : decode cX1_use 10 = .ok (.aload_n 0, 1) := by decide +kernel
theorem dX1_use_11 : decode cX1_use 11 = .ok (.getfield 27, 3) := by decide +kernel
theorem dX1_use_14 : decode cX1_use 14 = .ok (.iload_n 1, 1) := by decide +kernel
theorem dX1_use_15 : decode cX1_use 15 = .ok (.aload_n 0, 1) := by decide +kernel
theorem dX1_use_16 : decode cX1_use 16 = .ok (.getfield 44, 3) := by decide +kernel
theorem dX1_use_19 : decode cX1_use 19 = .ok (.lastore, 1) := by decide +kernel
theorem dX1_use_20 : decode cX1_use 20 = .ok (.return_, 1) := by decide +kernel
theorem dX1_room_0 : decode cX1_room 0 = .ok (.iconst (-1), 1) := by decide +kernel
theorem dX1_room_1 : decode cX1_room 1 = .ok (.istore_n 1, 1) := by decide +kernel
theorem dX1_room_2 : decode cX1_room 2 = .ok (.aload_n 0, 1) := by decide +kernel
theorem dX1_room_3 : decode cX1_room 3 = .ok (.getfield 30, 3) := by decide +kernel
theorem dX1_room_6 : decode cX1_room 6 = .ok (.iconst 1, 1) := by decide +kernel
theorem dX1_room_7 : decode cX1_room 7 = .ok (.isub, 1) := by decide +kernel
theorem dX1_room_8 : decode cX1_room 8 = .ok (.istore_n 2, 1) := by decide +kernel
theorem dX1_room_9 : decode cX1_room 9 = .ok (.iload_n 2, 1) := by decide +kernel
theorem dX1_room_10 : decode cX1_room 10 = .ok (.ifCond .lt 24, 3) := by decide +kernel
theorem dX1_room_13 : decode cX1_room 13 = .ok (.aload_n 0, 1) := by decide +kernel
theorem dX1_room_14 : decode cX1_room 14 = .ok (.getfield 13, 3) := by decide +kernel
theorem dX1_room_17 : decode cX1_room 17 = .ok (.iload_n 2, 1) := by decide +kernel
theorem dX1_room_18 : decode cX1_room 18 = .ok (.iaload, 1) := by decide +kernel
theorem dX1_room_19 : decode cX1_room 19 = .ok (.ifCond .ge 7, 3) := by decide +kernel
theorem dX1_room_22 : decode cX1_room 22 = .ok (.iload_n 2, 1) := by decide +kernel
theorem dX1_room_23 : decode cX1_room 23 = .ok (.goto 4, 3) := by decide +kernel
theorem dX1_room_26 : decode cX1_room 26 = .ok (.iload_n 1, 1) := by decide +kernel
theorem dX1_room_27 : decode cX1_room 27 = .ok (.istore_n 1, 1) := by decide +kernel
theorem dX1_room_28 : decode cX1_room 28 = .ok (.iinc 2 (-1), 3) := by decide +kernel
theorem dX1_room_31 : decode cX1_room 31 = .ok (.goto (-22), 3) := by decide +kernel
theorem dX1_room_34 : decode cX1_room 34 = .ok (.iload_n 1, 1) := by decide +kernel
theorem dX1_room_35 : decode cX1_room 35 = .ok (.ifCond .lt 5, 3) := by decide +kernel
theorem dX1_room_38 : decode cX1_room 38 = .ok (.iload_n 1, 1) := by decide +kernel
theorem dX1_room_39 : decode cX1_room 39 = .ok (.ireturn, 1) := by decide +kernel
theorem dX1_room_40 : decode cX1_room 40 = .ok (.iconst 0, 1) := by decide +kernel
theorem dX1_room_41 : decode cX1_room 41 = .ok (.istore_n 1, 1) := by decide +kernel
theorem dX1_room_42 : decode cX1_room 42 = .ok (.iconst 1, 1) := by decide +kernel
theorem dX1_room_43 : decode cX1_room 43 = .ok (.istore_n 2, 1) := by decide +kernel
theorem dX1_room_44 : decode cX1_room 44 = .ok (.iload_n 2, 1) := by decide +kernel
theorem dX1_room_45 : decode cX1_room 45 = .ok (.aload_n 0, 1) := by decide +kernel
theorem dX1_room_46 : decode cX1_room 46 = .ok (.getfield 30, 3) := by decide +kernel
theorem dX1_room_49 : decode cX1_room 49 = .ok (.if_icmp .ge 31, 3) := by decide +kernel
theorem dX1_room_52 : decode cX1_room 52 = .ok (.aload_n 0, 1) := by decide +kernel
theorem dX1_room_53 : decode cX1_room 53 = .ok (.getfield 27, 3) := by decide +kernel
theorem dX1_room_56 : decode cX1_room 56 = .ok (.iload_n 2, 1) := by decide +kernel
theorem dX1_room_57 : decode cX1_room 57 = .ok (.laload, 1) := by decide +kernel
theorem dX1_room_58 : decode cX1_room 58 = .ok (.aload_n 0, 1) := by decide +kernel
theorem dX1_room_59 : decode cX1_room 59 = .ok (.getfield 27, 3) := by decide +kernel
theorem dX1_room_62 : decode cX1_room 62 = .ok (.iload_n 1, 1) := by decide +kernel
theorem dX1_room_63 : decode cX1_room 63 = .ok (.laload, 1) := by decide +kernel
theorem dX1_room_64 : decode cX1_room 64 = .ok (.lcmp, 1) := by decide +kernel
theorem dX1_room_65 : decode cX1_room 65 = .ok (.ifCond .ge 7, 3) := by decide +kernel
theorem dX1_room_68 : decode cX1_room 68 = .ok (.iload_n 2, 1) := by decide +kernel
theorem dX1_room_69 : decode cX1_room 69 = .ok (.goto 4, 3) := by decide +kernel
theorem dX1_room_72 : decode cX1_room 72 = .ok (.iload_n 1, 1) := by decide +kernel
theorem dX1_room_73 : decode cX1_room 73 = .ok (.istore_n 1, 1) := by decide +kernel
theorem dX1_room_74 : decode cX1_room 74 = .ok (.iinc 2 1, 3) := by decide +kernel
theorem dX1_room_77 : decode cX1_room 77 = .ok (.goto (-33), 3) := by decide +kernel
theorem dX1_room_80 : decode cX1_room 80 = .ok (.aload_n 0, 1) := by decide +kernel
theorem dX1_room_81 : decode cX1_room 81 = .ok (.getfield 20, 3) := by decide +kernel
theorem dX1_room_84 : decode cX1_room 84 = .ok (.iload_n 1, 1) := by decide +kernel
theorem dX1_room_85 : decode cX1_room 85 = .ok (.baload, 1) := by decide +kernel
theorem dX1_room_86 : decode cX1_room 86 = .ok (.ifCond .eq 8, 3) := by decide +kernel
theorem dX1_room_89 : decode cX1_room 89 = .ok (.aload_n 0, 1) := by decide +kernel
theorem dX1_room_90 : decode cX1_room 90 = .ok (.iload_n 1, 1) := by decide +kernel
theorem dX1_room_91 : decode cX1_room 91 = .ok (.invokevirtual 66, 3) := by decide +kernel
theorem dX1_room_94 : decode cX1_room 94 = .ok (.aload_n 0, 1) := by decide +kernel
theorem dX1_room_95 : decode cX1_room 95 = .ok (.iload_n 1, 1) := by decide +kernel
theorem dX1_room_96 : decode cX1_room 96 = .ok (.invokevirtual 69, 3) := by decide +kernel
theorem dX1_room_99 : decode cX1_room 99 = .ok (.iload_n 1, 1) := by decide +kernel
theorem dX1_room_100 : decode cX1_room 100 = .ok (.ireturn, 1) := by decide +kernel
theorem dX1_writeBack_0 : decode cX1_writeBack 0 = .ok (.aload_n 0, 1) := by decide +kernel
theorem dX1_writeBack_1 : decode cX1_writeBack 1 = .ok (.aload_n 0, 1) := by decide +kernel
theorem dX1_writeBack_2 : decode cX1_writeBack 2 = .ok (.getfield 13, 3) := by decide +kernel
theorem dX1_writeBack_5 : decode cX1_writeBack 5 = .ok (.iload_n 1, 1) := by decide +kernel
theorem dX1_writeBack_6 : decode cX1_writeBack 6 = .ok (.iaload, 1) := by decide +kernel
theorem dX1_writeBack_7 : decode cX1_writeBack 7 = .ok (.aload_n 0, 1) := by decide +kernel
theorem dX1_writeBack_8 : decode cX1_writeBack 8 = .ok (.getfield 17, 3) := by decide +kernel
theorem dX1_writeBack_11 : decode cX1_writeBack 11 = .ok (.iload_n 1, 1) := by decide +kernel
theorem dX1_writeBack_12 : decode cX1_writeBack 12 = .ok (.laload, 1) := by decide +kernel
theorem dX1_writeBack_13 : decode cX1_writeBack 13 = .ok (.invokevirtual 59, 3) := by decide +kernel
theorem dX1_writeBack_16 : decode cX1_writeBack 16 = .ok (.aload_n 0, 1) := by decide +kernel
theorem dX1_writeBack_17 : decode cX1_writeBack 17 = .ok (.iload_n 1, 1) := by decide +kernel
theorem dX1_writeBack_18 : decode cX1_writeBack 18 = .ok (.invokevirtual 63, 3) := by decide +kernel
theorem dX1_writeBack_21 : decode cX1_writeBack 21 = .ok (.return_, 1) := by decide +kernel
theorem dX1_give_0 : decode cX1_give 0 = .ok (.aload_n 0, 1) := by decide +kernel
theorem dX1_give_1 : decode cX1_give 1 = .ok (.getfield 7, 3) := by decide +kernel
theorem dX1_give_4 : decode cX1_give 4 = .ok (.iload_n 1, 1) := by decide +kernel
theorem dX1_give_5 : decode cX1_give 5 = .ok (.lload_n 2, 1) := by decide +kernel
theorem dX1_give_6 : decode cX1_give 6 = .ok (.lastore, 1) := by decide +kernel
theorem dX1_give_7 : decode cX1_give 7 = .ok (.aload_n 0, 1) := by decide +kernel
theorem dX1_give_8 : decode cX1_give 8 = .ok (.dup, 1) := by decide +kernel
theorem dX1_give_9 : decode cX1_give 9 = .ok (.getfield 48, 3) := by decide +kernel
theorem dX1_give_12 : decode cX1_give 12 = .ok (.iconst 1, 1) := by decide +kernel
theorem dX1_give_13 : decode cX1_give 13 = .ok (.iadd, 1) := by decide +kernel
theorem dX1_give_14 : decode cX1_give 14 = .ok (.putfield 48, 3) := by decide +kernel
theorem dX1_give_17 : decode cX1_give 17 = .ok (.return_, 1) := by decide +kernel
theorem dX1_clean_0 : decode cX1_clean 0 = .ok (.aload_n 0, 1) := by decide +kernel
theorem dX1_clean_1 : decode cX1_clean 1 = .ok (.iload_n 1, 1) := by decide +kernel
theorem dX1_clean_2 : decode cX1_clean 2 = .ok (.invokevirtual 51, 3) := by decide +kernel
theorem dX1_clean_5 : decode cX1_clean 5 = .ok (.istore_n 2, 1) := by decide +kernel
theorem dX1_clean_6 : decode cX1_clean 6 = .ok (.aload_n 0, 1) := by decide +kernel
theorem dX1_clean_7 : decode cX1_clean 7 = .ok (.getfield 20, 3) := by decide +kernel
theorem dX1_clean_10 : decode cX1_clean 10 = .ok (.iload_n 1, 1) := by decide +kernel
theorem dX1_clean_11 : decode cX1_clean 11 = .ok (.iconst 0, 1) := by decide +kernel
theorem dX1_clean_12 : decode cX1_clean 12 = .ok (.bastore, 1) := by decide +kernel
theorem dX1_clean_13 : decode cX1_clean 13 = .ok (.iload_n 2, 1) := by decide +kernel
theorem dX1_clean_14 : decode cX1_clean 14 = .ok (.ifCond .eq 8, 3) := by decide +kernel
theorem dX1_clean_17 : decode cX1_clean 17 = .ok (.aload_n 0, 1) := by decide +kernel
theorem dX1_clean_18 : decode cX1_clean 18 = .ok (.iload_n 1, 1) := by decide +kernel
theorem dX1_clean_19 : decode cX1_clean 19 = .ok (.invokevirtual 55, 3) := by decide +kernel
theorem dX1_clean_22 : decode cX1_clean 22 = .ok (.return_, 1) := by decide +kernel
theorem dX1_isNotedDirty_0 : decode cX1_isNotedDirty 0 = .ok (.aload_n 0, 1) := by decide +kernel
theorem dX1_isNotedDirty_1 : decode cX1_isNotedDirty 1 = .ok (.getfield 24, 3) := by decide +kernel
theorem dX1_isNotedDirty_4 : decode cX1_isNotedDirty 4 = .ok (.iload_n 1, 1) := by decide +kernel
theorem dX1_isNotedDirty_5 : decode cX1_isNotedDirty 5 = .ok (.iaload, 1) := by decide +kernel
theorem dX1_isNotedDirty_6 : decode cX1_isNotedDirty 6 = .ok (.ifCond .lt 19, 3) := by decide +kernel
theorem dX1_isNotedDirty_9 : decode cX1_isNotedDirty 9 = .ok (.aload_n 0, 1) := by decide +kernel
theorem dX1_isNotedDirty_10 : decode cX1_isNotedDirty 10 = .ok (.getfield 24, 3) := by decide +kernel
theorem dX1_isNotedDirty_13 : decode cX1_isNotedDirty 13 = .ok (.iload_n 1, 1) := by decide +kernel
theorem dX1_isNotedDirty_14 : decode cX1_isNotedDirty 14 = .ok (.iaload, 1) := by decide +kernel
theorem dX1_isNotedDirty_15 : decode cX1_isNotedDirty 15 = .ok (.iconst 2, 1) := by decide +kernel
theorem dX1_isNotedDirty_16 : decode cX1_isNotedDirty 16 = .ok (.irem, 1) := by decide +kernel
theorem dX1_isNotedDirty_17 : decode cX1_isNotedDirty 17 = .ok (.iconst 1, 1) := by decide +kernel
theorem dX1_isNotedDirty_18 : decode cX1_isNotedDirty 18 = .ok (.if_icmp .ne 7, 3) := by decide +kernel
theorem dX1_isNotedDirty_21 : decode cX1_isNotedDirty 21 = .ok (.iconst 1, 1) := by decide +kernel
theorem dX1_isNotedDirty_22 : decode cX1_isNotedDirty 22 = .ok (.goto 4, 3) := by decide +kernel
theorem dX1_isNotedDirty_25 : decode cX1_isNotedDirty 25 = .ok (.iconst 0, 1) := by decide +kernel
theorem dX1_isNotedDirty_26 : decode cX1_isNotedDirty 26 = .ok (.ireturn, 1) := by decide +kernel
theorem dX1_noteSlot_0 : decode cX1_noteSlot 0 = .ok (.aload_n 0, 1) := by decide +kernel
theorem dX1_noteSlot_1 : decode cX1_noteSlot 1 = .ok (.getfield 24, 3) := by decide +kernel
theorem dX1_noteSlot_4 : decode cX1_noteSlot 4 = .ok (.iload_n 1, 1) := by decide +kernel
theorem dX1_noteSlot_5 : decode cX1_noteSlot 5 = .ok (.aload_n 0, 1) := by decide +kernel
theorem dX1_noteSlot_6 : decode cX1_noteSlot 6 = .ok (.iload_n 1, 1) := by decide +kernel
theorem dX1_noteSlot_7 : decode cX1_noteSlot 7 = .ok (.invokevirtual 37, 3) := by decide +kernel
theorem dX1_noteSlot_10 : decode cX1_noteSlot 10 = .ok (.iastore, 1) := by decide +kernel
theorem dX1_noteSlot_11 : decode cX1_noteSlot 11 = .ok (.aload_n 0, 1) := by decide +kernel
theorem dX1_noteSlot_12 : decode cX1_noteSlot 12 = .ok (.dup, 1) := by decide +kernel
theorem dX1_noteSlot_13 : decode cX1_noteSlot 13 = .ok (.getfield 41, 3) := by decide +kernel
theorem dX1_noteSlot_16 : decode cX1_noteSlot 16 = .ok (.iconst 1, 1) := by decide +kernel
theorem dX1_noteSlot_17 : decode cX1_noteSlot 17 = .ok (.iadd, 1) := by decide +kernel
theorem dX1_noteSlot_18 : decode cX1_noteSlot 18 = .ok (.putfield 41, 3) := by decide +kernel
theorem dX1_noteSlot_21 : decode cX1_noteSlot 21 = .ok (.return_, 1) := by decide +kernel
theorem dX1_soOf_0 : decode cX1_soOf 0 = .ok (.aload_n 0, 1) := by decide +kernel
theorem dX1_soOf_1 : decode cX1_soOf 1 = .ok (.getfield 13, 3) := by decide +kernel
theorem dX1_soOf_4 : decode cX1_soOf 4 = .ok (.iload_n 1, 1) := by decide +kernel
theorem dX1_soOf_5 : decode cX1_soOf 5 = .ok (.iaload, 1) := by decide +kernel
theorem dX1_soOf_6 : decode cX1_soOf 6 = .ok (.ifCond .ge 7, 3) := by decide +kernel
theorem dX1_soOf_9 : decode cX1_soOf 9 = .ok (.iconst (-1), 1) := by decide +kernel
theorem dX1_soOf_10 : decode cX1_soOf 10 = .ok (.goto 26, 3) := by decide +kernel
theorem dX1_soOf_13 : decode cX1_soOf 13 = .ok (.iconst 2, 1) := by decide +kernel
theorem dX1_soOf_14 : decode cX1_soOf 14 = .ok (.aload_n 0, 1) := by decide +kernel
theorem dX1_soOf_15 : decode cX1_soOf 15 = .ok (.getfield 13, 3) := by decide +kernel
theorem dX1_soOf_18 : decode cX1_soOf 18 = .ok (.iload_n 1, 1) := by decide +kernel
theorem dX1_soOf_19 : decode cX1_soOf 19 = .ok (.iaload, 1) := by decide +kernel
theorem dX1_soOf_20 : decode cX1_soOf 20 = .ok (.imul, 1) := by decide +kernel
theorem dX1_soOf_21 : decode cX1_soOf 21 = .ok (.aload_n 0, 1) := by decide +kernel
theorem dX1_soOf_22 : decode cX1_soOf 22 = .ok (.getfield 20, 3) := by decide +kernel
theorem dX1_soOf_25 : decode cX1_soOf 25 = .ok (.iload_n 1, 1) := by decide +kernel
theorem dX1_soOf_26 : decode cX1_soOf 26 = .ok (.baload, 1) := by decide +kernel
theorem dX1_soOf_27 : decode cX1_soOf 27 = .ok (.ifCond .eq 7, 3) := by decide +kernel
theorem dX1_soOf_30 : decode cX1_soOf 30 = .ok (.iconst 1, 1) := by decide +kernel
theorem dX1_soOf_31 : decode cX1_soOf 31 = .ok (.goto 4, 3) := by decide +kernel
theorem dX1_soOf_34 : decode cX1_soOf 34 = .ok (.iconst 0, 1) := by decide +kernel
theorem dX1_soOf_35 : decode cX1_soOf 35 = .ok (.iadd, 1) := by decide +kernel
theorem dX1_soOf_36 : decode cX1_soOf 36 = .ok (.ireturn, 1) := by decide +kernel
theorem dX1_empty_0 : decode cX1_empty 0 = .ok (.aload_n 0, 1) := by decide +kernel
theorem dX1_empty_1 : decode cX1_empty 1 = .ok (.getfield 13, 3) := by decide +kernel
theorem dX1_empty_4 : decode cX1_empty 4 = .ok (.iload_n 1, 1) := by decide +kernel
theorem dX1_empty_5 : decode cX1_empty 5 = .ok (.iconst (-1), 1) := by decide +kernel
theorem dX1_empty_6 : decode cX1_empty 6 = .ok (.iastore, 1) := by decide +kernel
theorem dX1_empty_7 : decode cX1_empty 7 = .ok (.aload_n 0, 1) := by decide +kernel
theorem dX1_empty_8 : decode cX1_empty 8 = .ok (.getfield 20, 3) := by decide +kernel
theorem dX1_empty_11 : decode cX1_empty 11 = .ok (.iload_n 1, 1) := by decide +kernel
theorem dX1_empty_12 : decode cX1_empty 12 = .ok (.iconst 0, 1) := by decide +kernel
theorem dX1_empty_13 : decode cX1_empty 13 = .ok (.bastore, 1) := by decide +kernel
theorem dX1_empty_14 : decode cX1_empty 14 = .ok (.aload_n 0, 1) := by decide +kernel
theorem dX1_empty_15 : decode cX1_empty 15 = .ok (.getfield 24, 3) := by decide +kernel
theorem dX1_empty_18 : decode cX1_empty 18 = .ok (.iload_n 1, 1) := by decide +kernel
theorem dX1_empty_19 : decode cX1_empty 19 = .ok (.iaload, 1) := by decide +kernel
theorem dX1_empty_20 : decode cX1_empty 20 = .ok (.ifCond .lt 8, 3) := by decide +kernel
theorem dX1_empty_23 : decode cX1_empty 23 = .ok (.aload_n 0, 1) := by decide +kernel
theorem dX1_empty_24 : decode cX1_empty 24 = .ok (.iload_n 1, 1) := by decide +kernel
theorem dX1_empty_25 : decode cX1_empty 25 = .ok (.invokevirtual 55, 3) := by decide +kernel
theorem dX1_empty_28 : decode cX1_empty 28 = .ok (.return_, 1) := by decide +kernel
theorem dX1_write_0 : decode cX1_write 0 = .ok (.aload_n 0, 1) := by decide +kernel
theorem dX1_write_1 : decode cX1_write 1 = .ok (.iload_n 1, 1) := by decide +kernel
theorem dX1_write_2 : decode cX1_write 2 = .ok (.invokestatic 72, 3) := by decide +kernel
theorem dX1_write_5 : decode cX1_write 5 = .ok (.ifCond .eq 7, 3) := by decide +kernel
theorem dX1_write_8 : decode cX1_write 8 = .ok (.iconst 0, 1) := by decide +kernel
theorem dX1_write_9 : decode cX1_write 9 = .ok (.goto 4, 3) := by decide +kernel
theorem dX1_write_12 : decode cX1_write 12 = .ok (.iconst 1, 1) := by decide +kernel
theorem dX1_write_13 : decode cX1_write 13 = .ok (.putfield 34, 3) := by decide +kernel
theorem dX1_write_16 : decode cX1_write 16 = .ok (.aload_n 0, 1) := by decide +kernel
theorem dX1_write_17 : decode cX1_write 17 = .ok (.getfield 34, 3) := by decide +kernel
theorem dX1_write_20 : decode cX1_write 20 = .ok (.ifCond .le 4, 3) := by decide +kernel
theorem dX1_write_23 : decode cX1_write 23 = .ok (.return_, 1) := by decide +kernel
theorem dX1_write_24 : decode cX1_write 24 = .ok (.aload_n 0, 1) := by decide +kernel
theorem dX1_write_25 : decode cX1_write 25 = .ok (.iload_n 1, 1) := by decide +kernel
theorem dX1_write_26 : decode cX1_write 26 = .ok (.invokevirtual 75, 3) := by decide +kernel
theorem dX1_write_29 : decode cX1_write 29 = .ok (.istore 4, 2) := by decide +kernel
theorem dX1_write_31 : decode cX1_write 31 = .ok (.aload_n 0, 1) := by decide +kernel
theorem dX1_write_32 : decode cX1_write 32 = .ok (.getfield 87, 3) := by decide +kernel
theorem dX1_write_35 : decode cX1_write 35 = .ok (.ifCond .ne 12, 3) := by decide +kernel
theorem dX1_write_38 : decode cX1_write 38 = .ok (.aload_n 0, 1) := by decide +kernel
theorem dX1_write_39 : decode cX1_write 39 = .ok (.iload_n 1, 1) := by decide +kernel
theorem dX1_write_40 : decode cX1_write 40 = .ok (.lload_n 2, 1) := by decide +kernel
theorem dX1_write_41 : decode cX1_write 41 = .ok (.iconst 2, 1) := by decide +kernel
theorem dX1_write_42 : decode cX1_write 42 = .ok (.invokevirtual 94, 3) := by decide +kernel
theorem dX1_write_45 : decode cX1_write 45 = .ok (.pop, 1) := by decide +kernel
theorem dX1_write_46 : decode cX1_write 46 = .ok (.return_, 1) := by decide +kernel
theorem dX1_write_47 : decode cX1_write 47 = .ok (.aload_n 0, 1) := by decide +kernel
theorem dX1_write_48 : decode cX1_write 48 = .ok (.iload_n 1, 1) := by decide +kernel
theorem dX1_write_49 : decode cX1_write 49 = .ok (.lload_n 2, 1) := by decide +kernel
theorem dX1_write_50 : decode cX1_write 50 = .ok (.invokevirtual 59, 3) := by decide +kernel
theorem dX1_write_53 : decode cX1_write 53 = .ok (.iload 4, 2) := by decide +kernel
theorem dX1_write_55 : decode cX1_write 55 = .ok (.ifCond .lt 34, 3) := by decide +kernel
theorem dX1_write_58 : decode cX1_write 58 = .ok (.aload_n 0, 1) := by decide +kernel
theorem dX1_write_59 : decode cX1_write 59 = .ok (.getfield 87, 3) := by decide +kernel
theorem dX1_write_62 : decode cX1_write 62 = .ok (.iconst 1, 1) := by decide +kernel
theorem dX1_write_63 : decode cX1_write 63 = .ok (.if_icmp .ne 26, 3) := by decide +kernel
theorem dX1_write_66 : decode cX1_write 66 = .ok (.aload_n 0, 1) := by decide +kernel
theorem dX1_write_67 : decode cX1_write 67 = .ok (.getfield 17, 3) := by decide +kernel
theorem dX1_write_70 : decode cX1_write 70 = .ok (.iload 4, 2) := by decide +kernel
theorem dX1_write_72 : decode cX1_write 72 = .ok (.lload_n 2, 1) := by decide +kernel
theorem dX1_write_73 : decode cX1_write 73 = .ok (.lastore, 1) := by decide +kernel
theorem dX1_write_74 : decode cX1_write 74 = .ok (.aload_n 0, 1) := by decide +kernel
theorem dX1_write_75 : decode cX1_write 75 = .ok (.iload 4, 2) := by decide +kernel
theorem dX1_write_77 : decode cX1_write 77 = .ok (.invokevirtual 63, 3) := by decide +kernel
theorem dX1_write_80 : decode cX1_write 80 = .ok (.aload_n 0, 1) := by decide +kernel
theorem dX1_write_81 : decode cX1_write 81 = .ok (.iload 4, 2) := by decide +kernel
theorem dX1_write_83 : decode cX1_write 83 = .ok (.invokevirtual 81, 3) := by decide +kernel
theorem dX1_write_86 : decode cX1_write 86 = .ok (.goto 14, 3) := by decide +kernel
theorem dX1_write_89 : decode cX1_write 89 = .ok (.iload 4, 2) := by decide +kernel
theorem dX1_write_91 : decode cX1_write 91 = .ok (.ifCond .lt 9, 3) := by decide +kernel
theorem dX1_write_94 : decode cX1_write 94 = .ok (.aload_n 0, 1) := by decide +kernel
theorem dX1_write_95 : decode cX1_write 95 = .ok (.iload 4, 2) := by decide +kernel
theorem dX1_write_97 : decode cX1_write 97 = .ok (.invokevirtual 69, 3) := by decide +kernel
theorem dX1_write_100 : decode cX1_write 100 = .ok (.return_, 1) := by decide +kernel
theorem dX1_steps_0 : decode cX1_steps 0 = .ok (.aload_n 0, 1) := by decide +kernel
theorem dX1_steps_1 : decode cX1_steps 1 = .ok (.iload_n 1, 1) := by decide +kernel
theorem dX1_steps_2 : decode cX1_steps 2 = .ok (.invokevirtual 75, 3) := by decide +kernel
theorem dX1_steps_5 : decode cX1_steps 5 = .ok (.istore 5, 2) := by decide +kernel
theorem dX1_steps_7 : decode cX1_steps 7 = .ok (.iconst 0, 1) := by decide +kernel
theorem dX1_steps_8 : decode cX1_steps 8 = .ok (.istore 6, 2) := by decide +kernel
theorem dX1_steps_10 : decode cX1_steps 10 = .ok (.iload 5, 2) := by decide +kernel
theorem dX1_steps_12 : decode cX1_steps 12 = .ok (.ifCond .ge 59, 3) := by decide +kernel
theorem dX1_steps_15 : decode cX1_steps 15 = .ok (.aload_n 0, 1) := by decide +kernel
theorem dX1_steps_16 : decode cX1_steps 16 = .ok (.invokevirtual 90, 3) := by decide +kernel
theorem dX1_steps_19 : decode cX1_steps 19 = .ok (.istore 5, 2) := by decide +kernel
theorem dX1_steps_21 : decode cX1_steps 21 = .ok (.iload 4, 2) := by decide +kernel
theorem dX1_steps_23 : decode cX1_steps 23 = .ok (.ifCond .le 30, 3) := by decide +kernel
theorem dX1_steps_26 : decode cX1_steps 26 = .ok (.aload_n 0, 1) := by decide +kernel
theorem dX1_steps_27 : decode cX1_steps 27 = .ok (.getfield 13, 3) := by decide +kernel
theorem dX1_steps_30 : decode cX1_steps 30 = .ok (.iload 5, 2) := by decide +kernel
theorem dX1_steps_32 : decode cX1_steps 32 = .ok (.iload_n 1, 1) := by decide +kernel
theorem dX1_steps_33 : decode cX1_steps 33 = .ok (.iastore, 1) := by decide +kernel
theorem dX1_steps_34 : decode cX1_steps 34 = .ok (.aload_n 0, 1) := by decide +kernel
theorem dX1_steps_35 : decode cX1_steps 35 = .ok (.getfield 17, 3) := by decide +kernel
theorem dX1_steps_38 : decode cX1_steps 38 = .ok (.iload 5, 2) := by decide +kernel
theorem dX1_steps_40 : decode cX1_steps 40 = .ok (.lload_n 2, 1) := by decide +kernel
theorem dX1_steps_41 : decode cX1_steps 41 = .ok (.lastore, 1) := by decide +kernel
theorem dX1_steps_42 : decode cX1_steps 42 = .ok (.aload_n 0, 1) := by decide +kernel
theorem dX1_steps_43 : decode cX1_steps 43 = .ok (.getfield 20, 3) := by decide +kernel
theorem dX1_steps_46 : decode cX1_steps 46 = .ok (.iload 5, 2) := by decide +kernel
theorem dX1_steps_48 : decode cX1_steps 48 = .ok (.iconst 1, 1) := by decide +kernel
theorem dX1_steps_49 : decode cX1_steps 49 = .ok (.bastore, 1) := by decide +kernel
theorem dX1_steps_50 : decode cX1_steps 50 = .ok (.iinc 6 1, 3) := by decide +kernel
theorem dX1_steps_53 : decode cX1_steps 53 = .ok (.iload 4, 2) := by decide +kernel
theorem dX1_steps_55 : decode cX1_steps 55 = .ok (.iconst 1, 1) := by decide +kernel
theorem dX1_steps_56 : decode cX1_steps 56 = .ok (.if_icmp .le 90, 3) := by decide +kernel
theorem dX1_steps_59 : decode cX1_steps 59 = .ok (.aload_n 0, 1) := by decide +kernel
theorem dX1_steps_60 : decode cX1_steps 60 = .ok (.iload 5, 2) := by decide +kernel
theorem dX1_steps_62 : decode cX1_steps 62 = .ok (.invokevirtual 55, 3) := by decide +kernel
theorem dX1_steps_65 : decode cX1_steps 65 = .ok (.iinc 6 1, 3) := by decide +kernel
theorem dX1_steps_68 : decode cX1_steps 68 = .ok (.goto 78, 3) := by decide +kernel
theorem dX1_steps_71 : decode cX1_steps 71 = .ok (.aload_n 0, 1) := by decide +kernel
theorem dX1_steps_72 : decode cX1_steps 72 = .ok (.getfield 24, 3) := by decide +kernel
theorem dX1_steps_75 : decode cX1_steps 75 = .ok (.iload 5, 2) := by decide +kernel
theorem dX1_steps_77 : decode cX1_steps 77 = .ok (.iaload, 1) := by decide +kernel
theorem dX1_steps_78 : decode cX1_steps 78 = .ok (.iconst 2, 1) := by decide +kernel
theorem dX1_steps_79 : decode cX1_steps 79 = .ok (.iload_n 1, 1) := by decide +kernel
theorem dX1_steps_80 : decode cX1_steps 80 = .ok (.imul, 1) := by decide +kernel
theorem dX1_steps_81 : decode cX1_steps 81 = .ok (.iconst 1, 1) := by decide +kernel
theorem dX1_steps_82 : decode cX1_steps 82 = .ok (.iadd, 1) := by decide +kernel
theorem dX1_steps_83 : decode cX1_steps 83 = .ok (.if_icmp .ne 7, 3) := by decide +kernel
theorem dX1_steps_86 : decode cX1_steps 86 = .ok (.iconst 1, 1) := by decide +kernel
theorem dX1_steps_87 : decode cX1_steps 87 = .ok (.goto 4, 3) := by decide +kernel
theorem dX1_steps_90 : decode cX1_steps 90 = .ok (.iconst 0, 1) := by decide +kernel
theorem dX1_steps_91 : decode cX1_steps 91 = .ok (.istore 7, 2) := by decide +kernel
theorem dX1_steps_93 : decode cX1_steps 93 = .ok (.iload 7, 2) := by decide +kernel
theorem dX1_steps_95 : decode cX1_steps 95 = .ok (.ifCond .ne 25, 3) := by decide +kernel
theorem dX1_steps_98 : decode cX1_steps 98 = .ok (.iload 4, 2) := by decide +kernel
theorem dX1_steps_100 : decode cX1_steps 100 = .ok (.ifCond .le 20, 3) := by decide +kernel
theorem dX1_steps_103 : decode cX1_steps 103 = .ok (.aload_n 0, 1) := by decide +kernel
theorem dX1_steps_104 : decode cX1_steps 104 = .ok (.getfield 20, 3) := by decide +kernel
theorem dX1_steps_107 : decode cX1_steps 107 = .ok (.iload 5, 2) := by decide +kernel
theorem dX1_steps_109 : decode cX1_steps 109 = .ok (.iconst 1, 1) := by decide +kernel
theorem dX1_steps_110 : decode cX1_steps 110 = .ok (.bastore, 1) := by decide +kernel
theorem dX1_steps_111 : decode cX1_steps 111 = .ok (.aload_n 0, 1) := by decide +kernel
theorem dX1_steps_112 : decode cX1_steps 112 = .ok (.iload 5, 2) := by decide +kernel
theorem dX1_steps_114 : decode cX1_steps 114 = .ok (.invokevirtual 55, 3) := by decide +kernel
theorem dX1_steps_117 : decode cX1_steps 117 = .ok (.iinc 6 1, 3) := by decide +kernel
theorem dX1_steps_120 : decode cX1_steps 120 = .ok (.iload 4, 2) := by decide +kernel
theorem dX1_steps_122 : decode cX1_steps 122 = .ok (.iload 6, 2) := by decide +kernel
theorem dX1_steps_124 : decode cX1_steps 124 = .ok (.if_icmp .le 22, 3) := by decide +kernel
theorem dX1_steps_127 : decode cX1_steps 127 = .ok (.aload_n 0, 1) := by decide +kernel
theorem dX1_steps_128 : decode cX1_steps 128 = .ok (.getfield 17, 3) := by decide +kernel
theorem dX1_steps_131 : decode cX1_steps 131 = .ok (.iload 5, 2) := by decide +kernel
theorem dX1_steps_133 : decode cX1_steps 133 = .ok (.lload_n 2, 1) := by decide +kernel
theorem dX1_steps_134 : decode cX1_steps 134 = .ok (.lastore, 1) := by decide +kernel
theorem dX1_steps_135 : decode cX1_steps 135 = .ok (.aload_n 0, 1) := by decide +kernel
theorem dX1_steps_136 : decode cX1_steps 136 = .ok (.getfield 20, 3) := by decide +kernel
theorem dX1_steps_139 : decode cX1_steps 139 = .ok (.iload 5, 2) := by decide +kernel
theorem dX1_steps_141 : decode cX1_steps 141 = .ok (.iconst 1, 1) := by decide +kernel
theorem dX1_steps_142 : decode cX1_steps 142 = .ok (.bastore, 1) := by decide +kernel
theorem dX1_steps_143 : decode cX1_steps 143 = .ok (.iinc 6 1, 3) := by decide +kernel
theorem dX1_steps_146 : decode cX1_steps 146 = .ok (.aload_n 0, 1) := by decide +kernel
theorem dX1_steps_147 : decode cX1_steps 147 = .ok (.iload 5, 2) := by decide +kernel
theorem dX1_steps_149 : decode cX1_steps 149 = .ok (.invokevirtual 81, 3) := by decide +kernel
theorem dX1_steps_152 : decode cX1_steps 152 = .ok (.iload 6, 2) := by decide +kernel
theorem dX1_steps_154 : decode cX1_steps 154 = .ok (.ireturn, 1) := by decide +kernel
theorem dX1_cut_0 : decode cX1_cut 0 = .ok (.aload_n 0, 1) := by decide +kernel
theorem dX1_cut_1 : decode cX1_cut 1 = .ok (.iload_n 1, 1) := by decide +kernel
theorem dX1_cut_2 : decode cX1_cut 2 = .ok (.invokestatic 72, 3) := by decide +kernel
theorem dX1_cut_5 : decode cX1_cut 5 = .ok (.ifCond .eq 14, 3) := by decide +kernel
theorem dX1_cut_8 : decode cX1_cut 8 = .ok (.iload 4, 2) := by decide +kernel
theorem dX1_cut_10 : decode cX1_cut 10 = .ok (.ifCond .lt 9, 3) := by decide +kernel
theorem dX1_cut_13 : decode cX1_cut 13 = .ok (.iload 4, 2) := by decide +kernel
theorem dX1_cut_15 : decode cX1_cut 15 = .ok (.iconst 2, 1) := by decide +kernel
theorem dX1_cut_16 : decode cX1_cut 16 = .ok (.if_icmp .le 7, 3) := by decide +kernel
theorem dX1_cut_19 : decode cX1_cut 19 = .ok (.iconst 1, 1) := by decide +kernel
theorem dX1_cut_20 : decode cX1_cut 20 = .ok (.goto 15, 3) := by decide +kernel
theorem dX1_cut_23 : decode cX1_cut 23 = .ok (.aload_n 0, 1) := by decide +kernel
theorem dX1_cut_24 : decode cX1_cut 24 = .ok (.getfield 87, 3) := by decide +kernel
theorem dX1_cut_27 : decode cX1_cut 27 = .ok (.ifCond .eq 7, 3) := by decide +kernel
theorem dX1_cut_30 : decode cX1_cut 30 = .ok (.iconst 2, 1) := by decide +kernel
theorem dX1_cut_31 : decode cX1_cut 31 = .ok (.goto 4, 3) := by decide +kernel
theorem dX1_cut_34 : decode cX1_cut 34 = .ok (.iconst 0, 1) := by decide +kernel
theorem dX1_cut_35 : decode cX1_cut 35 = .ok (.putfield 34, 3) := by decide +kernel
theorem dX1_cut_38 : decode cX1_cut 38 = .ok (.aload_n 0, 1) := by decide +kernel
theorem dX1_cut_39 : decode cX1_cut 39 = .ok (.getfield 34, 3) := by decide +kernel
theorem dX1_cut_42 : decode cX1_cut 42 = .ok (.ifCond .le 5, 3) := by decide +kernel
theorem dX1_cut_45 : decode cX1_cut 45 = .ok (.iconst 0, 1) := by decide +kernel
theorem dX1_cut_46 : decode cX1_cut 46 = .ok (.ireturn, 1) := by decide +kernel
theorem dX1_cut_47 : decode cX1_cut 47 = .ok (.aload_n 0, 1) := by decide +kernel
theorem dX1_cut_48 : decode cX1_cut 48 = .ok (.iload_n 1, 1) := by decide +kernel
theorem dX1_cut_49 : decode cX1_cut 49 = .ok (.lload_n 2, 1) := by decide +kernel
theorem dX1_cut_50 : decode cX1_cut 50 = .ok (.iload 4, 2) := by decide +kernel
theorem dX1_cut_52 : decode cX1_cut 52 = .ok (.invokevirtual 94, 3) := by decide +kernel
theorem dX1_cut_55 : decode cX1_cut 55 = .ok (.istore 5, 2) := by decide +kernel
theorem dX1_cut_57 : decode cX1_cut 57 = .ok (.aload_n 0, 1) := by decide +kernel
theorem dX1_cut_58 : decode cX1_cut 58 = .ok (.invokevirtual 101, 3) := by decide +kernel
theorem dX1_cut_61 : decode cX1_cut 61 = .ok (.iload 5, 2) := by decide +kernel
theorem dX1_cut_63 : decode cX1_cut 63 = .ok (.ireturn, 1) := by decide +kernel
theorem dX1_stop_0 : decode cX1_stop 0 = .ok (.iconst 0, 1) := by decide +kernel
theorem dX1_stop_1 : decode cX1_stop 1 = .ok (.istore_n 1, 1) := by decide +kernel
theorem dX1_stop_2 : decode cX1_stop 2 = .ok (.iload_n 1, 1) := by decide +kernel
theorem dX1_stop_3 : decode cX1_stop 3 = .ok (.aload_n 0, 1) := by decide +kernel
theorem dX1_stop_4 : decode cX1_stop 4 = .ok (.getfield 30, 3) := by decide +kernel
theorem dX1_stop_7 : decode cX1_stop 7 = .ok (.if_icmp .ge 74, 3) := by decide +kernel
theorem dX1_stop_10 : decode cX1_stop 10 = .ok (.aload_n 0, 1) := by decide +kernel
theorem dX1_stop_11 : decode cX1_stop 11 = .ok (.getfield 13, 3) := by decide +kernel
theorem dX1_stop_14 : decode cX1_stop 14 = .ok (.iload_n 1, 1) := by decide +kernel
theorem dX1_stop_15 : decode cX1_stop 15 = .ok (.aload_n 0, 1) := by decide +kernel
theorem dX1_stop_16 : decode cX1_stop 16 = .ok (.getfield 24, 3) := by decide +kernel
theorem dX1_stop_19 : decode cX1_stop 19 = .ok (.iload_n 1, 1) := by decide +kernel
theorem dX1_stop_20 : decode cX1_stop 20 = .ok (.iaload, 1) := by decide +kernel
theorem dX1_stop_21 : decode cX1_stop 21 = .ok (.ifCond .ge 7, 3) := by decide +kernel
theorem dX1_stop_24 : decode cX1_stop 24 = .ok (.iconst (-1), 1) := by decide +kernel
theorem dX1_stop_25 : decode cX1_stop 25 = .ok (.goto 11, 3) := by decide +kernel
theorem dX1_stop_28 : decode cX1_stop 28 = .ok (.aload_n 0, 1) := by decide +kernel
theorem dX1_stop_29 : decode cX1_stop 29 = .ok (.getfield 24, 3) := by decide +kernel
theorem dX1_stop_32 : decode cX1_stop 32 = .ok (.iload_n 1, 1) := by decide +kernel
theorem dX1_stop_33 : decode cX1_stop 33 = .ok (.iaload, 1) := by decide +kernel
theorem dX1_stop_34 : decode cX1_stop 34 = .ok (.iconst 2, 1) := by decide +kernel
theorem dX1_stop_35 : decode cX1_stop 35 = .ok (.idiv, 1) := by decide +kernel
theorem dX1_stop_36 : decode cX1_stop 36 = .ok (.iastore, 1) := by decide +kernel
theorem dX1_stop_37 : decode cX1_stop 37 = .ok (.aload_n 0, 1) := by decide +kernel
theorem dX1_stop_38 : decode cX1_stop 38 = .ok (.getfield 20, 3) := by decide +kernel
theorem dX1_stop_41 : decode cX1_stop 41 = .ok (.iload_n 1, 1) := by decide +kernel
theorem dX1_stop_42 : decode cX1_stop 42 = .ok (.aload_n 0, 1) := by decide +kernel
theorem dX1_stop_43 : decode cX1_stop 43 = .ok (.iload_n 1, 1) := by decide +kernel
theorem dX1_stop_44 : decode cX1_stop 44 = .ok (.invokevirtual 51, 3) := by decide +kernel
theorem dX1_stop_47 : decode cX1_stop 47 = .ok (.bastore, 1) := by decide +kernel
theorem dX1_stop_48 : decode cX1_stop 48 = .ok (.aload_n 0, 1) := by decide +kernel
theorem dX1_stop_49 : decode cX1_stop 49 = .ok (.dup, 1) := by decide +kernel
theorem dX1_stop_50 : decode cX1_stop 50 = .ok (.getfield 44, 3) := by decide +kernel
theorem dX1_stop_53 : decode cX1_stop 53 = .ok (.lconst 1, 1) := by decide +kernel
theorem dX1_stop_54 : decode cX1_stop 54 = .ok (.ladd, 1) := by decide +kernel
theorem dX1_stop_55 : decode cX1_stop 55 = .ok (.putfield 44, 3) := by decide +kernel
theorem dX1_stop_58 : decode cX1_stop 58 = .ok (.aload_n 0, 1) := by decide +kernel
theorem dX1_stop_59 : decode cX1_stop 59 = .ok (.getfield 27, 3) := by decide +kernel
theorem dX1_stop_62 : decode cX1_stop 62 = .ok (.aload_n 0, 1) := by decide +kernel
theorem dX1_stop_63 : decode cX1_stop 63 = .ok (.getfield 30, 3) := by decide +kernel
theorem dX1_stop_66 : decode cX1_stop 66 = .ok (.iconst 1, 1) := by decide +kernel
theorem dX1_stop_67 : decode cX1_stop 67 = .ok (.isub, 1) := by decide +kernel
theorem dX1_stop_68 : decode cX1_stop 68 = .ok (.iload_n 1, 1) := by decide +kernel
theorem dX1_stop_69 : decode cX1_stop 69 = .ok (.isub, 1) := by decide +kernel
theorem dX1_stop_70 : decode cX1_stop 70 = .ok (.aload_n 0, 1) := by decide +kernel
theorem dX1_stop_71 : decode cX1_stop 71 = .ok (.getfield 44, 3) := by decide +kernel
theorem dX1_stop_74 : decode cX1_stop 74 = .ok (.lastore, 1) := by decide +kernel
theorem dX1_stop_75 : decode cX1_stop 75 = .ok (.iinc 1 1, 3) := by decide +kernel
theorem dX1_stop_78 : decode cX1_stop 78 = .ok (.goto (-76), 3) := by decide +kernel
theorem dX1_stop_81 : decode cX1_stop 81 = .ok (.aload_n 0, 1) := by decide +kernel
theorem dX1_stop_82 : decode cX1_stop 82 = .ok (.iconst 0, 1) := by decide +kernel
theorem dX1_stop_83 : decode cX1_stop 83 = .ok (.putfield 87, 3) := by decide +kernel
theorem dX1_stop_86 : decode cX1_stop 86 = .ok (.aload_n 0, 1) := by decide +kernel
theorem dX1_stop_87 : decode cX1_stop 87 = .ok (.iconst 0, 1) := by decide +kernel
theorem dX1_stop_88 : decode cX1_stop 88 = .ok (.putfield 98, 3) := by decide +kernel
theorem dX1_stop_91 : decode cX1_stop 91 = .ok (.return_, 1) := by decide +kernel
theorem dX1_mode_0 : decode cX1_mode 0 = .ok (.aload_n 0, 1) := by decide +kernel
theorem dX1_mode_1 : decode cX1_mode 1 = .ok (.iload_n 1, 1) := by decide +kernel
theorem dX1_mode_2 : decode cX1_mode 2 = .ok (.ifCond .lt 8, 3) := by decide +kernel
theorem dX1_mode_5 : decode cX1_mode 5 = .ok (.iload_n 1, 1) := by decide +kernel
theorem dX1_mode_6 : decode cX1_mode 6 = .ok (.iconst 2, 1) := by decide +kernel
theorem dX1_mode_7 : decode cX1_mode 7 = .ok (.if_icmp .le 7, 3) := by decide +kernel
theorem dX1_mode_10 : decode cX1_mode 10 = .ok (.iconst 1, 1) := by decide +kernel
theorem dX1_mode_11 : decode cX1_mode 11 = .ok (.goto 4, 3) := by decide +kernel
theorem dX1_mode_14 : decode cX1_mode 14 = .ok (.iconst 0, 1) := by decide +kernel
theorem dX1_mode_15 : decode cX1_mode 15 = .ok (.putfield 34, 3) := by decide +kernel
theorem dX1_mode_18 : decode cX1_mode 18 = .ok (.iconst 0, 1) := by decide +kernel
theorem dX1_mode_19 : decode cX1_mode 19 = .ok (.istore_n 2, 1) := by decide +kernel
theorem dX1_mode_20 : decode cX1_mode 20 = .ok (.aload_n 0, 1) := by decide +kernel
theorem dX1_mode_21 : decode cX1_mode 21 = .ok (.getfield 34, 3) := by decide +kernel
theorem dX1_mode_24 : decode cX1_mode 24 = .ok (.ifCond .ne 45, 3) := by decide +kernel
theorem dX1_mode_27 : decode cX1_mode 27 = .ok (.aload_n 0, 1) := by decide +kernel
theorem dX1_mode_28 : decode cX1_mode 28 = .ok (.iload_n 1, 1) := by decide +kernel
theorem dX1_mode_29 : decode cX1_mode 29 = .ok (.putfield 87, 3) := by decide +kernel
theorem dX1_mode_32 : decode cX1_mode 32 = .ok (.iconst 0, 1) := by decide +kernel
theorem dX1_mode_33 : decode cX1_mode 33 = .ok (.istore_n 3, 1) := by decide +kernel
theorem dX1_mode_34 : decode cX1_mode 34 = .ok (.iload_n 3, 1) := by decide +kernel
theorem dX1_mode_35 : decode cX1_mode 35 = .ok (.aload_n 0, 1) := by decide +kernel
theorem dX1_mode_36 : decode cX1_mode 36 = .ok (.getfield 30, 3) := by decide +kernel
theorem dX1_mode_39 : decode cX1_mode 39 = .ok (.if_icmp .ge 30, 3) := by decide +kernel
theorem dX1_mode_42 : decode cX1_mode 42 = .ok (.iload_n 1, 1) := by decide +kernel
theorem dX1_mode_43 : decode cX1_mode 43 = .ok (.ifCond .eq 26, 3) := by decide +kernel
theorem dX1_mode_46 : decode cX1_mode 46 = .ok (.aload_n 0, 1) := by decide +kernel
theorem dX1_mode_47 : decode cX1_mode 47 = .ok (.getfield 20, 3) := by decide +kernel
theorem dX1_mode_50 : decode cX1_mode 50 = .ok (.iload_n 3, 1) := by decide +kernel
theorem dX1_mode_51 : decode cX1_mode 51 = .ok (.baload, 1) := by decide +kernel
theorem dX1_mode_52 : decode cX1_mode 52 = .ok (.ifCond .eq 11, 3) := by decide +kernel
theorem dX1_mode_55 : decode cX1_mode 55 = .ok (.aload_n 0, 1) := by decide +kernel
theorem dX1_mode_56 : decode cX1_mode 56 = .ok (.iload_n 3, 1) := by decide +kernel
theorem dX1_mode_57 : decode cX1_mode 57 = .ok (.invokevirtual 66, 3) := by decide +kernel
theorem dX1_mode_60 : decode cX1_mode 60 = .ok (.iinc 2 1, 3) := by decide +kernel
theorem dX1_mode_63 : decode cX1_mode 63 = .ok (.iinc 3 1, 3) := by decide +kernel
theorem dX1_mode_66 : decode cX1_mode 66 = .ok (.goto (-32), 3) := by decide +kernel
theorem dX1_mode_69 : decode cX1_mode 69 = .ok (.iload_n 2, 1) := by decide +kernel
theorem dX1_mode_70 : decode cX1_mode 70 = .ok (.ireturn, 1) := by decide +kernel
theorem dX1_back_0 : decode cX1_back 0 = .ok (.aload_n 0, 1) := by decide +kernel
theorem dX1_back_1 : decode cX1_back 1 = .ok (.iload_n 1, 1) := by decide +kernel
theorem dX1_back_2 : decode cX1_back 2 = .ok (.ifCond .lt 9, 3) := by decide +kernel
theorem dX1_back_5 : decode cX1_back 5 = .ok (.iload_n 1, 1) := by decide +kernel
theorem dX1_back_6 : decode cX1_back 6 = .ok (.bipush 12, 2) := by decide +kernel
theorem dX1_back_8 : decode cX1_back 8 = .ok (.if_icmp .le 7, 3) := by decide +kernel
theorem dX1_back_11 : decode cX1_back 11 = .ok (.iconst 1, 1) := by decide +kernel
theorem dX1_back_12 : decode cX1_back 12 = .ok (.goto 4, 3) := by decide +kernel
theorem dX1_back_15 : decode cX1_back 15 = .ok (.iconst 0, 1) := by decide +kernel
theorem dX1_back_16 : decode cX1_back 16 = .ok (.putfield 34, 3) := by decide +kernel
theorem dX1_back_19 : decode cX1_back 19 = .ok (.iconst 0, 1) := by decide +kernel
theorem dX1_back_20 : decode cX1_back 20 = .ok (.istore_n 2, 1) := by decide +kernel
theorem dX1_back_21 : decode cX1_back 21 = .ok (.iconst 0, 1) := by decide +kernel
theorem dX1_back_22 : decode cX1_back 22 = .ok (.istore_n 3, 1) := by decide +kernel
theorem dX1_back_23 : decode cX1_back 23 = .ok (.iload_n 3, 1) := by decide +kernel
theorem dX1_back_24 : decode cX1_back 24 = .ok (.iload_n 1, 1) := by decide +kernel
theorem dX1_back_25 : decode cX1_back 25 = .ok (.if_icmp .ge 70, 3) := by decide +kernel
theorem dX1_back_28 : decode cX1_back 28 = .ok (.aload_n 0, 1) := by decide +kernel
theorem dX1_back_29 : decode cX1_back 29 = .ok (.getfield 34, 3) := by decide +kernel
theorem dX1_back_32 : decode cX1_back 32 = .ok (.ifCond .ne 63, 3) := by decide +kernel
theorem dX1_back_35 : decode cX1_back 35 = .ok (.aload_n 0, 1) := by decide +kernel
theorem dX1_back_36 : decode cX1_back 36 = .ok (.aload_n 0, 1) := by decide +kernel
theorem dX1_back_37 : decode cX1_back 37 = .ok (.getfield 98, 3) := by decide +kernel
theorem dX1_back_40 : decode cX1_back 40 = .ok (.invokevirtual 104, 3) := by decide +kernel
theorem dX1_back_43 : decode cX1_back 43 = .ok (.istore 4, 2) := by decide +kernel
theorem dX1_back_45 : decode cX1_back 45 = .ok (.iload 4, 2) := by decide +kernel
theorem dX1_back_47 : decode cX1_back 47 = .ok (.ifCond .ge 11, 3) := by decide +kernel
theorem dX1_back_50 : decode cX1_back 50 = .ok (.aload_n 0, 1) := by decide +kernel
theorem dX1_back_51 : decode cX1_back 51 = .ok (.iconst 0, 1) := by decide +kernel
theorem dX1_back_52 : decode cX1_back 52 = .ok (.invokevirtual 104, 3) := by decide +kernel
theorem dX1_back_55 : decode cX1_back 55 = .ok (.goto 5, 3) := by decide +kernel
theorem dX1_back_58 : decode cX1_back 58 = .ok (.iload 4, 2) := by decide +kernel
theorem dX1_back_60 : decode cX1_back 60 = .ok (.istore 4, 2) := by decide +kernel
theorem dX1_back_62 : decode cX1_back 62 = .ok (.iload 4, 2) := by decide +kernel
theorem dX1_back_64 : decode cX1_back 64 = .ok (.ifCond .lt 25, 3) := by decide +kernel
theorem dX1_back_67 : decode cX1_back 67 = .ok (.aload_n 0, 1) := by decide +kernel
theorem dX1_back_68 : decode cX1_back 68 = .ok (.iload 4, 2) := by decide +kernel
theorem dX1_back_70 : decode cX1_back 70 = .ok (.invokevirtual 66, 3) := by decide +kernel
theorem dX1_back_73 : decode cX1_back 73 = .ok (.aload_n 0, 1) := by decide +kernel
theorem dX1_back_74 : decode cX1_back 74 = .ok (.aload_n 0, 1) := by decide +kernel
theorem dX1_back_75 : decode cX1_back 75 = .ok (.getfield 13, 3) := by decide +kernel
theorem dX1_back_78 : decode cX1_back 78 = .ok (.iload 4, 2) := by decide +kernel
theorem dX1_back_80 : decode cX1_back 80 = .ok (.iaload, 1) := by decide +kernel
theorem dX1_back_81 : decode cX1_back 81 = .ok (.iconst 1, 1) := by decide +kernel
theorem dX1_back_82 : decode cX1_back 82 = .ok (.iadd, 1) := by decide +kernel
theorem dX1_back_83 : decode cX1_back 83 = .ok (.putfield 98, 3) := by decide +kernel
theorem dX1_back_86 : decode cX1_back 86 = .ok (.iinc 2 1, 3) := by decide +kernel
theorem dX1_back_89 : decode cX1_back 89 = .ok (.iinc 3 1, 3) := by decide +kernel
theorem dX1_back_92 : decode cX1_back 92 = .ok (.goto (-69), 3) := by decide +kernel
theorem dX1_back_95 : decode cX1_back 95 = .ok (.iload_n 2, 1) := by decide +kernel
theorem dX1_back_96 : decode cX1_back 96 = .ok (.ireturn, 1) := by decide +kernel
theorem dX1_nextDirty_0 : decode cX1_nextDirty 0 = .ok (.iconst (-1), 1) := by decide +kernel
theorem dX1_nextDirty_1 : decode cX1_nextDirty 1 = .ok (.istore_n 2, 1) := by decide +kernel
theorem dX1_nextDirty_2 : decode cX1_nextDirty 2 = .ok (.iconst 0, 1) := by decide +kernel
theorem dX1_nextDirty_3 : decode cX1_nextDirty 3 = .ok (.istore_n 3, 1) := by decide +kernel
theorem dX1_nextDirty_4 : decode cX1_nextDirty 4 = .ok (.iload_n 3, 1) := by decide +kernel
theorem dX1_nextDirty_5 : decode cX1_nextDirty 5 = .ok (.aload_n 0, 1) := by decide +kernel
theorem dX1_nextDirty_6 : decode cX1_nextDirty 6 = .ok (.getfield 30, 3) := by decide +kernel
theorem dX1_nextDirty_9 : decode cX1_nextDirty 9 = .ok (.if_icmp .ge 65, 3) := by decide +kernel
theorem dX1_nextDirty_12 : decode cX1_nextDirty 12 = .ok (.aload_n 0, 1) := by decide +kernel
theorem dX1_nextDirty_13 : decode cX1_nextDirty 13 = .ok (.getfield 13, 3) := by decide +kernel
theorem dX1_nextDirty_16 : decode cX1_nextDirty 16 = .ok (.iload_n 3, 1) := by decide +kernel
theorem dX1_nextDirty_17 : decode cX1_nextDirty 17 = .ok (.iaload, 1) := by decide +kernel
theorem dX1_nextDirty_18 : decode cX1_nextDirty 18 = .ok (.iload_n 1, 1) := by decide +kernel
theorem dX1_nextDirty_19 : decode cX1_nextDirty 19 = .ok (.if_icmp .lt 16, 3) := by decide +kernel
theorem dX1_nextDirty_22 : decode cX1_nextDirty 22 = .ok (.aload_n 0, 1) := by decide +kernel
theorem dX1_nextDirty_23 : decode cX1_nextDirty 23 = .ok (.getfield 20, 3) := by decide +kernel
theorem dX1_nextDirty_26 : decode cX1_nextDirty 26 = .ok (.iload_n 3, 1) := by decide +kernel
theorem dX1_nextDirty_27 : decode cX1_nextDirty 27 = .ok (.baload, 1) := by decide +kernel
theorem dX1_nextDirty_28 : decode cX1_nextDirty 28 = .ok (.ifCond .eq 7, 3) := by decide +kernel
theorem dX1_nextDirty_31 : decode cX1_nextDirty 31 = .ok (.iconst 1, 1) := by decide +kernel
theorem dX1_nextDirty_32 : decode cX1_nextDirty 32 = .ok (.goto 4, 3) := by decide +kernel
theorem dX1_nextDirty_35 : decode cX1_nextDirty 35 = .ok (.iconst 0, 1) := by decide +kernel
theorem dX1_nextDirty_36 : decode cX1_nextDirty 36 = .ok (.istore 4, 2) := by decide +kernel
theorem dX1_nextDirty_38 : decode cX1_nextDirty 38 = .ok (.iload 4, 2) := by decide +kernel
theorem dX1_nextDirty_40 : decode cX1_nextDirty 40 = .ok (.ifCond .eq 26, 3) := by decide +kernel
theorem dX1_nextDirty_43 : decode cX1_nextDirty 43 = .ok (.iload_n 2, 1) := by decide +kernel
theorem dX1_nextDirty_44 : decode cX1_nextDirty 44 = .ok (.ifCond .lt 18, 3) := by decide +kernel
theorem dX1_nextDirty_47 : decode cX1_nextDirty 47 = .ok (.aload_n 0, 1) := by decide +kernel
theorem dX1_nextDirty_48 : decode cX1_nextDirty 48 = .ok (.getfield 13, 3) := by decide +kernel
theorem dX1_nextDirty_51 : decode cX1_nextDirty 51 = .ok (.iload_n 3, 1) := by decide +kernel
theorem dX1_nextDirty_52 : decode cX1_nextDirty 52 = .ok (.iaload, 1) := by decide +kernel
theorem dX1_nextDirty_53 : decode cX1_nextDirty 53 = .ok (.aload_n 0, 1) := by decide +kernel
theorem dX1_nextDirty_54 : decode cX1_nextDirty 54 = .ok (.getfield 13, 3) := by decide +kernel
theorem dX1_nextDirty_57 : decode cX1_nextDirty 57 = .ok (.iload_n 2, 1) := by decide +kernel
theorem dX1_nextDirty_58 : decode cX1_nextDirty 58 = .ok (.iaload, 1) := by decide +kernel
theorem dX1_nextDirty_59 : decode cX1_nextDirty 59 = .ok (.if_icmp .ge 7, 3) := by decide +kernel
theorem dX1_nextDirty_62 : decode cX1_nextDirty 62 = .ok (.iload_n 3, 1) := by decide +kernel
theorem dX1_nextDirty_63 : decode cX1_nextDirty 63 = .ok (.goto 4, 3) := by decide +kernel
theorem dX1_nextDirty_66 : decode cX1_nextDirty 66 = .ok (.iload_n 2, 1) := by decide +kernel
theorem dX1_nextDirty_67 : decode cX1_nextDirty 67 = .ok (.istore_n 2, 1) := by decide +kernel
theorem dX1_nextDirty_68 : decode cX1_nextDirty 68 = .ok (.iinc 3 1, 3) := by decide +kernel
theorem dX1_nextDirty_71 : decode cX1_nextDirty 71 = .ok (.goto (-67), 3) := by decide +kernel
theorem dX1_nextDirty_74 : decode cX1_nextDirty 74 = .ok (.iload_n 2, 1) := by decide +kernel
theorem dX1_nextDirty_75 : decode cX1_nextDirty 75 = .ok (.ireturn, 1) := by decide +kernel
theorem dX1_check_0 : decode cX1_check 0 = .ok (.aload_n 0, 1) := by decide +kernel
theorem dX1_check_1 : decode cX1_check 1 = .ok (.iconst 0, 1) := by decide +kernel
theorem dX1_check_2 : decode cX1_check 2 = .ok (.putfield 34, 3) := by decide +kernel
theorem dX1_check_5 : decode cX1_check 5 = .ok (.iconst 0, 1) := by decide +kernel
theorem dX1_check_6 : decode cX1_check 6 = .ok (.istore_n 1, 1) := by decide +kernel
theorem dX1_check_7 : decode cX1_check 7 = .ok (.iconst 0, 1) := by decide +kernel
theorem dX1_check_8 : decode cX1_check 8 = .ok (.istore_n 2, 1) := by decide +kernel
theorem dX1_check_9 : decode cX1_check 9 = .ok (.iload_n 2, 1) := by decide +kernel
theorem dX1_check_10 : decode cX1_check 10 = .ok (.aload_n 0, 1) := by decide +kernel
theorem dX1_check_11 : decode cX1_check 11 = .ok (.getfield 30, 3) := by decide +kernel
theorem dX1_check_14 : decode cX1_check 14 = .ok (.if_icmp .ge 31, 3) := by decide +kernel
theorem dX1_check_17 : decode cX1_check 17 = .ok (.aload_n 0, 1) := by decide +kernel
theorem dX1_check_18 : decode cX1_check 18 = .ok (.getfield 24, 3) := by decide +kernel
theorem dX1_check_21 : decode cX1_check 21 = .ok (.iload_n 2, 1) := by decide +kernel
theorem dX1_check_22 : decode cX1_check 22 = .ok (.iaload, 1) := by decide +kernel
theorem dX1_check_23 : decode cX1_check 23 = .ok (.aload_n 0, 1) := by decide +kernel
theorem dX1_check_24 : decode cX1_check 24 = .ok (.iload_n 2, 1) := by decide +kernel
theorem dX1_check_25 : decode cX1_check 25 = .ok (.invokevirtual 37, 3) := by decide +kernel
theorem dX1_check_28 : decode cX1_check 28 = .ok (.if_icmp .eq 11, 3) := by decide +kernel
theorem dX1_check_31 : decode cX1_check 31 = .ok (.aload_n 0, 1) := by decide +kernel
theorem dX1_check_32 : decode cX1_check 32 = .ok (.iload_n 2, 1) := by decide +kernel
theorem dX1_check_33 : decode cX1_check 33 = .ok (.invokevirtual 55, 3) := by decide +kernel
theorem dX1_check_36 : decode cX1_check 36 = .ok (.iinc 1 1, 3) := by decide +kernel
theorem dX1_check_39 : decode cX1_check 39 = .ok (.iinc 2 1, 3) := by decide +kernel
theorem dX1_check_42 : decode cX1_check 42 = .ok (.goto (-33), 3) := by decide +kernel
theorem dX1_check_45 : decode cX1_check 45 = .ok (.iload_n 1, 1) := by decide +kernel
theorem dX1_check_46 : decode cX1_check 46 = .ok (.ireturn, 1) := by decide +kernel
theorem dX1_crash_0 : decode cX1_crash 0 = .ok (.aload_n 0, 1) := by decide +kernel
theorem dX1_crash_1 : decode cX1_crash 1 = .ok (.iconst 0, 1) := by decide +kernel
theorem dX1_crash_2 : decode cX1_crash 2 = .ok (.putfield 34, 3) := by decide +kernel
theorem dX1_crash_5 : decode cX1_crash 5 = .ok (.aload_n 0, 1) := by decide +kernel
theorem dX1_crash_6 : decode cX1_crash 6 = .ok (.invokevirtual 101, 3) := by decide +kernel
theorem dX1_crash_9 : decode cX1_crash 9 = .ok (.aload_n 0, 1) := by decide +kernel
theorem dX1_crash_10 : decode cX1_crash 10 = .ok (.invokevirtual 107, 3) := by decide +kernel
theorem dX1_crash_13 : decode cX1_crash 13 = .ok (.ireturn, 1) := by decide +kernel
theorem dX1_full_0 : decode cX1_full 0 = .ok (.iconst 0, 1) := by decide +kernel
theorem dX1_full_1 : decode cX1_full 1 = .ok (.istore_n 1, 1) := by decide +kernel
theorem dX1_full_2 : decode cX1_full 2 = .ok (.iconst 0, 1) := by decide +kernel
theorem dX1_full_3 : decode cX1_full 3 = .ok (.istore_n 2, 1) := by decide +kernel
theorem dX1_full_4 : decode cX1_full 4 = .ok (.iload_n 2, 1) := by decide +kernel
theorem dX1_full_5 : decode cX1_full 5 = .ok (.aload_n 0, 1) := by decide +kernel
theorem dX1_full_6 : decode cX1_full 6 = .ok (.getfield 30, 3) := by decide +kernel
theorem dX1_full_9 : decode cX1_full 9 = .ok (.if_icmp .ge 26, 3) := by decide +kernel
theorem dX1_full_12 : decode cX1_full 12 = .ok (.iload_n 1, 1) := by decide +kernel
theorem dX1_full_13 : decode cX1_full 13 = .ok (.aload_n 0, 1) := by decide +kernel
theorem dX1_full_14 : decode cX1_full 14 = .ok (.getfield 13, 3) := by decide +kernel
theorem dX1_full_17 : decode cX1_full 17 = .ok (.iload_n 2, 1) := by decide +kernel
theorem dX1_full_18 : decode cX1_full 18 = .ok (.iaload, 1) := by decide +kernel
theorem dX1_full_19 : decode cX1_full 19 = .ok (.ifCond .lt 7, 3) := by decide +kernel
theorem dX1_full_22 : decode cX1_full 22 = .ok (.iconst 1, 1) := by decide +kernel
theorem dX1_full_23 : decode cX1_full 23 = .ok (.goto 4, 3) := by decide +kernel
theorem dX1_full_26 : decode cX1_full 26 = .ok (.iconst 0, 1) := by decide +kernel
theorem dX1_full_27 : decode cX1_full 27 = .ok (.iadd, 1) := by decide +kernel
theorem dX1_full_28 : decode cX1_full 28 = .ok (.istore_n 1, 1) := by decide +kernel
theorem dX1_full_29 : decode cX1_full 29 = .ok (.iinc 2 1, 3) := by decide +kernel
theorem dX1_full_32 : decode cX1_full 32 = .ok (.goto (-28), 3) := by decide +kernel
theorem dX1_full_35 : decode cX1_full 35 = .ok (.iload_n 1, 1) := by decide +kernel
theorem dX1_full_36 : decode cX1_full 36 = .ok (.ireturn, 1) := by decide +kernel
theorem dX1_lose_0 : decode cX1_lose 0 = .ok (.aload_n 0, 1) := by decide +kernel
theorem dX1_lose_1 : decode cX1_lose 1 = .ok (.iconst 0, 1) := by decide +kernel
theorem dX1_lose_2 : decode cX1_lose 2 = .ok (.putfield 34, 3) := by decide +kernel
theorem dX1_lose_5 : decode cX1_lose 5 = .ok (.aload_n 0, 1) := by decide +kernel
theorem dX1_lose_6 : decode cX1_lose 6 = .ok (.invokevirtual 110, 3) := by decide +kernel
theorem dX1_lose_9 : decode cX1_lose 9 = .ok (.istore_n 1, 1) := by decide +kernel
theorem dX1_lose_10 : decode cX1_lose 10 = .ok (.iconst 0, 1) := by decide +kernel
theorem dX1_lose_11 : decode cX1_lose 11 = .ok (.istore_n 2, 1) := by decide +kernel
theorem dX1_lose_12 : decode cX1_lose 12 = .ok (.iload_n 2, 1) := by decide +kernel
theorem dX1_lose_13 : decode cX1_lose 13 = .ok (.aload_n 0, 1) := by decide +kernel
theorem dX1_lose_14 : decode cX1_lose 14 = .ok (.getfield 30, 3) := by decide +kernel
theorem dX1_lose_17 : decode cX1_lose 17 = .ok (.if_icmp .ge 16, 3) := by decide +kernel
theorem dX1_lose_20 : decode cX1_lose 20 = .ok (.aload_n 0, 1) := by decide +kernel
theorem dX1_lose_21 : decode cX1_lose 21 = .ok (.getfield 24, 3) := by decide +kernel
theorem dX1_lose_24 : decode cX1_lose 24 = .ok (.iload_n 2, 1) := by decide +kernel
theorem dX1_lose_25 : decode cX1_lose 25 = .ok (.iconst (-1), 1) := by decide +kernel
theorem dX1_lose_26 : decode cX1_lose 26 = .ok (.iastore, 1) := by decide +kernel
theorem dX1_lose_27 : decode cX1_lose 27 = .ok (.iinc 2 1, 3) := by decide +kernel
theorem dX1_lose_30 : decode cX1_lose 30 = .ok (.goto (-18), 3) := by decide +kernel
theorem dX1_lose_33 : decode cX1_lose 33 = .ok (.aload_n 0, 1) := by decide +kernel
theorem dX1_lose_34 : decode cX1_lose 34 = .ok (.invokevirtual 101, 3) := by decide +kernel
theorem dX1_lose_37 : decode cX1_lose 37 = .ok (.iload_n 1, 1) := by decide +kernel
theorem dX1_lose_38 : decode cX1_lose 38 = .ok (.ireturn, 1) := by decide +kernel
theorem dX1_dirties_0 : decode cX1_dirties 0 = .ok (.iconst 0, 1) := by decide +kernel
theorem dX1_dirties_1 : decode cX1_dirties 1 = .ok (.istore_n 1, 1) := by decide +kernel
theorem dX1_dirties_2 : decode cX1_dirties 2 = .ok (.iconst 0, 1) := by decide +kernel
theorem dX1_dirties_3 : decode cX1_dirties 3 = .ok (.istore_n 2, 1) := by decide +kernel
theorem dX1_dirties_4 : decode cX1_dirties 4 = .ok (.iload_n 2, 1) := by decide +kernel
theorem dX1_dirties_5 : decode cX1_dirties 5 = .ok (.aload_n 0, 1) := by decide +kernel
theorem dX1_dirties_6 : decode cX1_dirties 6 = .ok (.getfield 30, 3) := by decide +kernel
theorem dX1_dirties_9 : decode cX1_dirties 9 = .ok (.if_icmp .ge 35, 3) := by decide +kernel
theorem dX1_dirties_12 : decode cX1_dirties 12 = .ok (.iload_n 1, 1) := by decide +kernel
theorem dX1_dirties_13 : decode cX1_dirties 13 = .ok (.aload_n 0, 1) := by decide +kernel
theorem dX1_dirties_14 : decode cX1_dirties 14 = .ok (.getfield 13, 3) := by decide +kernel
theorem dX1_dirties_17 : decode cX1_dirties 17 = .ok (.iload_n 2, 1) := by decide +kernel
theorem dX1_dirties_18 : decode cX1_dirties 18 = .ok (.iaload, 1) := by decide +kernel
theorem dX1_dirties_19 : decode cX1_dirties 19 = .ok (.ifCond .lt 16, 3) := by decide +kernel
theorem dX1_dirties_22 : decode cX1_dirties 22 = .ok (.aload_n 0, 1) := by decide +kernel
theorem dX1_dirties_23 : decode cX1_dirties 23 = .ok (.getfield 20, 3) := by decide +kernel
theorem dX1_dirties_26 : decode cX1_dirties 26 = .ok (.iload_n 2, 1) := by decide +kernel
theorem dX1_dirties_27 : decode cX1_dirties 27 = .ok (.baload, 1) := by decide +kernel
theorem dX1_dirties_28 : decode cX1_dirties 28 = .ok (.ifCond .eq 7, 3) := by decide +kernel
theorem dX1_dirties_31 : decode cX1_dirties 31 = .ok (.iconst 1, 1) := by decide +kernel
theorem dX1_dirties_32 : decode cX1_dirties 32 = .ok (.goto 4, 3) := by decide +kernel
theorem dX1_dirties_35 : decode cX1_dirties 35 = .ok (.iconst 0, 1) := by decide +kernel
theorem dX1_dirties_36 : decode cX1_dirties 36 = .ok (.iadd, 1) := by decide +kernel
theorem dX1_dirties_37 : decode cX1_dirties 37 = .ok (.istore_n 1, 1) := by decide +kernel
theorem dX1_dirties_38 : decode cX1_dirties 38 = .ok (.iinc 2 1, 3) := by decide +kernel
theorem dX1_dirties_41 : decode cX1_dirties 41 = .ok (.goto (-37), 3) := by decide +kernel
theorem dX1_dirties_44 : decode cX1_dirties 44 = .ok (.iload_n 1, 1) := by decide +kernel
theorem dX1_dirties_45 : decode cX1_dirties 45 = .ok (.ireturn, 1) := by decide +kernel
theorem dX1_slot_0 : decode cX1_slot 0 = .ok (.aload_n 0, 1) := by decide +kernel
theorem dX1_slot_1 : decode cX1_slot 1 = .ok (.iload_n 1, 1) := by decide +kernel
theorem dX1_slot_2 : decode cX1_slot 2 = .ok (.invokestatic 72, 3) := by decide +kernel
theorem dX1_slot_5 : decode cX1_slot 5 = .ok (.ifCond .eq 7, 3) := by decide +kernel
theorem dX1_slot_8 : decode cX1_slot 8 = .ok (.iconst 0, 1) := by decide +kernel
theorem dX1_slot_9 : decode cX1_slot 9 = .ok (.goto 4, 3) := by decide +kernel
theorem dX1_slot_12 : decode cX1_slot 12 = .ok (.iconst 1, 1) := by decide +kernel
theorem dX1_slot_13 : decode cX1_slot 13 = .ok (.putfield 34, 3) := by decide +kernel
theorem dX1_slot_16 : decode cX1_slot 16 = .ok (.aload_n 0, 1) := by decide +kernel
theorem dX1_slot_17 : decode cX1_slot 17 = .ok (.getfield 34, 3) := by decide +kernel
theorem dX1_slot_20 : decode cX1_slot 20 = .ok (.ifCond .ne 11, 3) := by decide +kernel
theorem dX1_slot_23 : decode cX1_slot 23 = .ok (.aload_n 0, 1) := by decide +kernel
theorem dX1_slot_24 : decode cX1_slot 24 = .ok (.iload_n 1, 1) := by decide +kernel
theorem dX1_slot_25 : decode cX1_slot 25 = .ok (.invokevirtual 75, 3) := by decide +kernel
theorem dX1_slot_28 : decode cX1_slot 28 = .ok (.goto 4, 3) := by decide +kernel
theorem dX1_slot_31 : decode cX1_slot 31 = .ok (.iconst 0, 1) := by decide +kernel
theorem dX1_slot_32 : decode cX1_slot 32 = .ok (.ireturn, 1) := by decide +kernel
theorem dX1_dirty_0 : decode cX1_dirty 0 = .ok (.aload_n 0, 1) := by decide +kernel
theorem dX1_dirty_1 : decode cX1_dirty 1 = .ok (.iload_n 1, 1) := by decide +kernel
theorem dX1_dirty_2 : decode cX1_dirty 2 = .ok (.invokestatic 72, 3) := by decide +kernel
theorem dX1_dirty_5 : decode cX1_dirty 5 = .ok (.ifCond .ne 7, 3) := by decide +kernel
theorem dX1_dirty_8 : decode cX1_dirty 8 = .ok (.iconst 1, 1) := by decide +kernel
theorem dX1_dirty_9 : decode cX1_dirty 9 = .ok (.goto 16, 3) := by decide +kernel
theorem dX1_dirty_12 : decode cX1_dirty 12 = .ok (.aload_n 0, 1) := by decide +kernel
theorem dX1_dirty_13 : decode cX1_dirty 13 = .ok (.iload_n 1, 1) := by decide +kernel
theorem dX1_dirty_14 : decode cX1_dirty 14 = .ok (.invokevirtual 75, 3) := by decide +kernel
theorem dX1_dirty_17 : decode cX1_dirty 17 = .ok (.ifCond .ge 7, 3) := by decide +kernel
theorem dX1_dirty_20 : decode cX1_dirty 20 = .ok (.iconst 2, 1) := by decide +kernel
theorem dX1_dirty_21 : decode cX1_dirty 21 = .ok (.goto 4, 3) := by decide +kernel
theorem dX1_dirty_24 : decode cX1_dirty 24 = .ok (.iconst 0, 1) := by decide +kernel
theorem dX1_dirty_25 : decode cX1_dirty 25 = .ok (.putfield 34, 3) := by decide +kernel
theorem dX1_dirty_28 : decode cX1_dirty 28 = .ok (.aload_n 0, 1) := by decide +kernel
theorem dX1_dirty_29 : decode cX1_dirty 29 = .ok (.getfield 34, 3) := by decide +kernel
theorem dX1_dirty_32 : decode cX1_dirty 32 = .ok (.ifCond .ne 20, 3) := by decide +kernel
theorem dX1_dirty_35 : decode cX1_dirty 35 = .ok (.aload_n 0, 1) := by decide +kernel
theorem dX1_dirty_36 : decode cX1_dirty 36 = .ok (.getfield 20, 3) := by decide +kernel
theorem dX1_dirty_39 : decode cX1_dirty 39 = .ok (.aload_n 0, 1) := by decide +kernel
theorem dX1_dirty_40 : decode cX1_dirty 40 = .ok (.iload_n 1, 1) := by decide +kernel
theorem dX1_dirty_41 : decode cX1_dirty 41 = .ok (.invokevirtual 75, 3) := by decide +kernel
theorem dX1_dirty_44 : decode cX1_dirty 44 = .ok (.baload, 1) := by decide +kernel
theorem dX1_dirty_45 : decode cX1_dirty 45 = .ok (.ifCond .eq 7, 3) := by decide +kernel
theorem dX1_dirty_48 : decode cX1_dirty 48 = .ok (.iconst 1, 1) := by decide +kernel
theorem dX1_dirty_49 : decode cX1_dirty 49 = .ok (.goto 4, 3) := by decide +kernel
theorem dX1_dirty_52 : decode cX1_dirty 52 = .ok (.iconst 0, 1) := by decide +kernel
theorem dX1_dirty_53 : decode cX1_dirty 53 = .ok (.ireturn, 1) := by decide +kernel
theorem dX1_origin_0 : decode cX1_origin 0 = .ok (.aload_n 0, 1) := by decide +kernel
theorem dX1_origin_1 : decode cX1_origin 1 = .ok (.iload_n 1, 1) := by decide +kernel
theorem dX1_origin_2 : decode cX1_origin 2 = .ok (.invokestatic 72, 3) := by decide +kernel
theorem dX1_origin_5 : decode cX1_origin 5 = .ok (.ifCond .eq 7, 3) := by decide +kernel
theorem dX1_origin_8 : decode cX1_origin 8 = .ok (.iconst 0, 1) := by decide +kernel
theorem dX1_origin_9 : decode cX1_origin 9 = .ok (.goto 4, 3) := by decide +kernel
theorem dX1_origin_12 : decode cX1_origin 12 = .ok (.iconst 1, 1) := by decide +kernel
theorem dX1_origin_13 : decode cX1_origin 13 = .ok (.putfield 34, 3) := by decide +kernel
theorem dX1_origin_16 : decode cX1_origin 16 = .ok (.aload_n 0, 1) := by decide +kernel
theorem dX1_origin_17 : decode cX1_origin 17 = .ok (.getfield 34, 3) := by decide +kernel
theorem dX1_origin_20 : decode cX1_origin 20 = .ok (.ifCond .ne 12, 3) := by decide +kernel
theorem dX1_origin_23 : decode cX1_origin 23 = .ok (.aload_n 0, 1) := by decide +kernel
theorem dX1_origin_24 : decode cX1_origin 24 = .ok (.getfield 7, 3) := by decide +kernel
theorem dX1_origin_27 : decode cX1_origin 27 = .ok (.iload_n 1, 1) := by decide +kernel
theorem dX1_origin_28 : decode cX1_origin 28 = .ok (.laload, 1) := by decide +kernel
theorem dX1_origin_29 : decode cX1_origin 29 = .ok (.goto 4, 3) := by decide +kernel
theorem dX1_origin_32 : decode cX1_origin 32 = .ok (.lconst 0, 1) := by decide +kernel
theorem dX1_origin_33 : decode cX1_origin 33 = .ok (.lreturn, 1) := by decide +kernel
theorem dX1_order_0 : decode cX1_order 0 = .ok (.iconst 0, 1) := by decide +kernel
theorem dX1_order_1 : decode cX1_order 1 = .ok (.istore_n 2, 1) := by decide +kernel
theorem dX1_order_2 : decode cX1_order 2 = .ok (.iload_n 2, 1) := by decide +kernel
theorem dX1_order_3 : decode cX1_order 3 = .ok (.aload_n 0, 1) := by decide +kernel
theorem dX1_order_4 : decode cX1_order 4 = .ok (.getfield 30, 3) := by decide +kernel
theorem dX1_order_7 : decode cX1_order 7 = .ok (.if_icmp .ge 90, 3) := by decide +kernel
theorem dX1_order_10 : decode cX1_order 10 = .ok (.iconst 0, 1) := by decide +kernel
theorem dX1_order_11 : decode cX1_order 11 = .ok (.istore_n 3, 1) := by decide +kernel
theorem dX1_order_12 : decode cX1_order 12 = .ok (.iconst 0, 1) := by decide +kernel
theorem dX1_order_13 : decode cX1_order 13 = .ok (.istore 4, 2) := by decide +kernel
theorem dX1_order_15 : decode cX1_order 15 = .ok (.iload 4, 2) := by decide +kernel
theorem dX1_order_17 : decode cX1_order 17 = .ok (.aload_n 0, 1) := by decide +kernel
theorem dX1_order_18 : decode cX1_order 18 = .ok (.getfield 30, 3) := by decide +kernel
theorem dX1_order_21 : decode cX1_order 21 = .ok (.if_icmp .ge 44, 3) := by decide +kernel
theorem dX1_order_24 : decode cX1_order 24 = .ok (.iload_n 3, 1) := by decide +kernel
theorem dX1_order_25 : decode cX1_order 25 = .ok (.aload_n 0, 1) := by decide +kernel
theorem dX1_order_26 : decode cX1_order 26 = .ok (.getfield 13, 3) := by decide +kernel
theorem dX1_order_29 : decode cX1_order 29 = .ok (.iload 4, 2) := by decide +kernel
theorem dX1_order_31 : decode cX1_order 31 = .ok (.iaload, 1) := by decide +kernel
theorem dX1_order_32 : decode cX1_order 32 = .ok (.ifCond .lt 24, 3) := by decide +kernel
theorem dX1_order_35 : decode cX1_order 35 = .ok (.aload_n 0, 1) := by decide +kernel
theorem dX1_order_36 : decode cX1_order 36 = .ok (.getfield 27, 3) := by decide +kernel
theorem dX1_order_39 : decode cX1_order 39 = .ok (.iload 4, 2) := by decide +kernel
theorem dX1_order_41 : decode cX1_order 41 = .ok (.laload, 1) := by decide +kernel
theorem dX1_order_42 : decode cX1_order 42 = .ok (.aload_n 0, 1) := by decide +kernel
theorem dX1_order_43 : decode cX1_order 43 = .ok (.getfield 27, 3) := by decide +kernel
theorem dX1_order_46 : decode cX1_order 46 = .ok (.iload_n 2, 1) := by decide +kernel
theorem dX1_order_47 : decode cX1_order 47 = .ok (.laload, 1) := by decide +kernel
theorem dX1_order_48 : decode cX1_order 48 = .ok (.lcmp, 1) := by decide +kernel
theorem dX1_order_49 : decode cX1_order 49 = .ok (.ifCond .le 7, 3) := by decide +kernel
theorem dX1_order_52 : decode cX1_order 52 = .ok (.iconst 1, 1) := by decide +kernel
theorem dX1_order_53 : decode cX1_order 53 = .ok (.goto 4, 3) := by decide +kernel
theorem dX1_order_56 : decode cX1_order 56 = .ok (.iconst 0, 1) := by decide +kernel
theorem dX1_order_57 : decode cX1_order 57 = .ok (.iadd, 1) := by decide +kernel
theorem dX1_order_58 : decode cX1_order 58 = .ok (.istore_n 3, 1) := by decide +kernel
theorem dX1_order_59 : decode cX1_order 59 = .ok (.iinc 4 1, 3) := by decide +kernel
theorem dX1_order_62 : decode cX1_order 62 = .ok (.goto (-47), 3) := by decide +kernel
theorem dX1_order_65 : decode cX1_order 65 = .ok (.aload_n 0, 1) := by decide +kernel
theorem dX1_order_66 : decode cX1_order 66 = .ok (.getfield 13, 3) := by decide +kernel
theorem dX1_order_69 : decode cX1_order 69 = .ok (.iload_n 2, 1) := by decide +kernel
theorem dX1_order_70 : decode cX1_order 70 = .ok (.iaload, 1) := by decide +kernel
theorem dX1_order_71 : decode cX1_order 71 = .ok (.ifCond .lt 20, 3) := by decide +kernel
theorem dX1_order_74 : decode cX1_order 74 = .ok (.iload_n 3, 1) := by decide +kernel
theorem dX1_order_75 : decode cX1_order 75 = .ok (.iload_n 1, 1) := by decide +kernel
theorem dX1_order_76 : decode cX1_order 76 = .ok (.if_icmp .ne 15, 3) := by decide +kernel
theorem dX1_order_79 : decode cX1_order 79 = .ok (.aload_n 0, 1) := by decide +kernel
theorem dX1_order_80 : decode cX1_order 80 = .ok (.iconst 0, 1) := by decide +kernel
theorem dX1_order_81 : decode cX1_order 81 = .ok (.putfield 34, 3) := by decide +kernel
theorem dX1_order_84 : decode cX1_order 84 = .ok (.aload_n 0, 1) := by decide +kernel
theorem dX1_order_85 : decode cX1_order 85 = .ok (.getfield 13, 3) := by decide +kernel
theorem dX1_order_88 : decode cX1_order 88 = .ok (.iload_n 2, 1) := by decide +kernel
theorem dX1_order_89 : decode cX1_order 89 = .ok (.iaload, 1) := by decide +kernel
theorem dX1_order_90 : decode cX1_order 90 = .ok (.ireturn, 1) := by decide +kernel
theorem dX1_order_91 : decode cX1_order 91 = .ok (.iinc 2 1, 3) := by decide +kernel
theorem dX1_order_94 : decode cX1_order 94 = .ok (.goto (-92), 3) := by decide +kernel
theorem dX1_order_97 : decode cX1_order 97 = .ok (.aload_n 0, 1) := by decide +kernel
theorem dX1_order_98 : decode cX1_order 98 = .ok (.iconst 1, 1) := by decide +kernel
theorem dX1_order_99 : decode cX1_order 99 = .ok (.putfield 34, 3) := by decide +kernel
theorem dX1_order_102 : decode cX1_order 102 = .ok (.iconst 0, 1) := by decide +kernel
theorem dX1_order_103 : decode cX1_order 103 = .ok (.ireturn, 1) := by decide +kernel
theorem dX1_noted_0 : decode cX1_noted 0 = .ok (.aload_n 0, 1) := by decide +kernel
theorem dX1_noted_1 : decode cX1_noted 1 = .ok (.iload_n 1, 1) := by decide +kernel
theorem dX1_noted_2 : decode cX1_noted 2 = .ok (.ifCond .lt 11, 3) := by decide +kernel
theorem dX1_noted_5 : decode cX1_noted 5 = .ok (.iload_n 1, 1) := by decide +kernel
theorem dX1_noted_6 : decode cX1_noted 6 = .ok (.aload_n 0, 1) := by decide +kernel
theorem dX1_noted_7 : decode cX1_noted 7 = .ok (.getfield 30, 3) := by decide +kernel
theorem dX1_noted_10 : decode cX1_noted 10 = .ok (.if_icmp .lt 7, 3) := by decide +kernel
theorem dX1_noted_13 : decode cX1_noted 13 = .ok (.iconst 1, 1) := by decide +kernel
theorem dX1_noted_14 : decode cX1_noted 14 = .ok (.goto 4, 3) := by decide +kernel
theorem dX1_noted_17 : decode cX1_noted 17 = .ok (.iconst 0, 1) := by decide +kernel
theorem dX1_noted_18 : decode cX1_noted 18 = .ok (.putfield 34, 3) := by decide +kernel
theorem dX1_noted_21 : decode cX1_noted 21 = .ok (.aload_n 0, 1) := by decide +kernel
theorem dX1_noted_22 : decode cX1_noted 22 = .ok (.getfield 34, 3) := by decide +kernel
theorem dX1_noted_25 : decode cX1_noted 25 = .ok (.ifCond .ne 12, 3) := by decide +kernel
theorem dX1_noted_28 : decode cX1_noted 28 = .ok (.aload_n 0, 1) := by decide +kernel
theorem dX1_noted_29 : decode cX1_noted 29 = .ok (.getfield 24, 3) := by decide +kernel
theorem dX1_noted_32 : decode cX1_noted 32 = .ok (.iload_n 1, 1) := by decide +kernel
theorem dX1_noted_33 : decode cX1_noted 33 = .ok (.iaload, 1) := by decide +kernel
theorem dX1_noted_34 : decode cX1_noted 34 = .ok (.goto 4, 3) := by decide +kernel
theorem dX1_noted_37 : decode cX1_noted 37 = .ok (.iconst 0, 1) := by decide +kernel
theorem dX1_noted_38 : decode cX1_noted 38 = .ok (.ireturn, 1) := by decide +kernel
theorem dX1_figure_0 : decode cX1_figure 0 = .ok (.aload_n 0, 1) := by decide +kernel
theorem dX1_figure_1 : decode cX1_figure 1 = .ok (.iload_n 1, 1) := by decide +kernel
theorem dX1_figure_2 : decode cX1_figure 2 = .ok (.ifCond .lt 9, 3) := by decide +kernel
theorem dX1_figure_5 : decode cX1_figure 5 = .ok (.iload_n 1, 1) := by decide +kernel
theorem dX1_figure_6 : decode cX1_figure 6 = .ok (.bipush 7, 2) := by decide +kernel
theorem dX1_figure_8 : decode cX1_figure 8 = .ok (.if_icmp .le 7, 3) := by decide +kernel
theorem dX1_figure_11 : decode cX1_figure 11 = .ok (.iconst 1, 1) := by decide +kernel
theorem dX1_figure_12 : decode cX1_figure 12 = .ok (.goto 4, 3) := by decide +kernel
theorem dX1_figure_15 : decode cX1_figure 15 = .ok (.iconst 0, 1) := by decide +kernel
theorem dX1_figure_16 : decode cX1_figure 16 = .ok (.putfield 34, 3) := by decide +kernel
theorem dX1_figure_19 : decode cX1_figure 19 = .ok (.iload_n 1, 1) := by decide +kernel
theorem dX1_figure_20 : decode cX1_figure 20 = .ok (.tableswitch 88 0 7 #[48, 53, 58, 63, 68, 73, 78, 83], 48) := by decide +kernel
theorem dX1_figure_68 : decode cX1_figure 68 = .ok (.aload_n 0, 1) := by decide +kernel
theorem dX1_figure_69 : decode cX1_figure 69 = .ok (.getfield 78, 3) := by decide +kernel
theorem dX1_figure_72 : decode cX1_figure 72 = .ok (.ireturn, 1) := by decide +kernel
theorem dX1_figure_73 : decode cX1_figure 73 = .ok (.aload_n 0, 1) := by decide +kernel
theorem dX1_figure_74 : decode cX1_figure 74 = .ok (.getfield 84, 3) := by decide +kernel
theorem dX1_figure_77 : decode cX1_figure 77 = .ok (.ireturn, 1) := by decide +kernel
theorem dX1_figure_78 : decode cX1_figure 78 = .ok (.aload_n 0, 1) := by decide +kernel
theorem dX1_figure_79 : decode cX1_figure 79 = .ok (.getfield 48, 3) := by decide +kernel
theorem dX1_figure_82 : decode cX1_figure 82 = .ok (.ireturn, 1) := by decide +kernel
theorem dX1_figure_83 : decode cX1_figure 83 = .ok (.aload_n 0, 1) := by decide +kernel
theorem dX1_figure_84 : decode cX1_figure 84 = .ok (.getfield 41, 3) := by decide +kernel
theorem dX1_figure_87 : decode cX1_figure 87 = .ok (.ireturn, 1) := by decide +kernel
theorem dX1_figure_88 : decode cX1_figure 88 = .ok (.aload_n 0, 1) := by decide +kernel
theorem dX1_figure_89 : decode cX1_figure 89 = .ok (.invokevirtual 107, 3) := by decide +kernel
theorem dX1_figure_92 : decode cX1_figure 92 = .ok (.ireturn, 1) := by decide +kernel
theorem dX1_figure_93 : decode cX1_figure 93 = .ok (.aload_n 0, 1) := by decide +kernel
theorem dX1_figure_94 : decode cX1_figure 94 = .ok (.invokevirtual 110, 3) := by decide +kernel
theorem dX1_figure_97 : decode cX1_figure 97 = .ok (.ireturn, 1) := by decide +kernel
theorem dX1_figure_98 : decode cX1_figure 98 = .ok (.aload_n 0, 1) := by decide +kernel
theorem dX1_figure_99 : decode cX1_figure 99 = .ok (.getfield 87, 3) := by decide +kernel
theorem dX1_figure_102 : decode cX1_figure 102 = .ok (.ireturn, 1) := by decide +kernel
theorem dX1_figure_103 : decode cX1_figure 103 = .ok (.aload_n 0, 1) := by decide +kernel
theorem dX1_figure_104 : decode cX1_figure 104 = .ok (.getfield 98, 3) := by decide +kernel
theorem dX1_figure_107 : decode cX1_figure 107 = .ok (.ireturn, 1) := by decide +kernel
theorem dX1_figure_108 : decode cX1_figure 108 = .ok (.iconst 0, 1) := by decide +kernel
theorem dX1_figure_109 : decode cX1_figure 109 = .ok (.ireturn, 1) := by decide +kernel
