theorem dX0_init_0 : decode cX0_init 0 = .ok (.aload_n 0, 1) := by decide +kernel
theorem dX0_init_1 : decode cX0_init 1 = .ok (.invokespecial 3, 3) := by decide +kernel
theorem dX0_init_4 : decode cX0_init 4 = .ok (.aload_n 0, 1) := by decide +kernel
theorem dX0_init_5 : decode cX0_init 5 = .ok (.aload_n 1, 1) := by decide +kernel
theorem dX0_init_6 : decode cX0_init 6 = .ok (.putfield 9, 3) := by decide +kernel
theorem dX0_init_9 : decode cX0_init 9 = .ok (.aload_n 0, 1) := by decide +kernel
theorem dX0_init_10 : decode cX0_init 10 = .ok (.aload_n 2, 1) := by decide +kernel
theorem dX0_init_11 : decode cX0_init 11 = .ok (.putfield 15, 3) := by decide +kernel
theorem dX0_init_14 : decode cX0_init 14 = .ok (.aload_n 0, 1) := by decide +kernel
theorem dX0_init_15 : decode cX0_init 15 = .ok (.aload_n 3, 1) := by decide +kernel
theorem dX0_init_16 : decode cX0_init 16 = .ok (.putfield 19, 3) := by decide +kernel
theorem dX0_init_19 : decode cX0_init 19 = .ok (.aload_n 0, 1) := by decide +kernel
theorem dX0_init_20 : decode cX0_init 20 = .ok (.bipush 12, 2) := by decide +kernel
theorem dX0_init_22 : decode cX0_init 22 = .ok (.newarray .int, 2) := by decide +kernel
theorem dX0_init_24 : decode cX0_init 24 = .ok (.putfield 23, 3) := by decide +kernel
theorem dX0_init_27 : decode cX0_init 27 = .ok (.aload_n 0, 1) := by decide +kernel
theorem dX0_init_28 : decode cX0_init 28 = .ok (.bipush 12, 2) := by decide +kernel
theorem dX0_init_30 : decode cX0_init 30 = .ok (.newarray .int, 2) := by decide +kernel
theorem dX0_init_32 : decode cX0_init 32 = .ok (.putfield 26, 3) := by decide +kernel
theorem dX0_init_35 : decode cX0_init 35 = .ok (.aload_n 0, 1) := by decide +kernel
theorem dX0_init_36 : decode cX0_init 36 = .ok (.bipush 12, 2) := by decide +kernel
theorem dX0_init_38 : decode cX0_init 38 = .ok (.newarray .int, 2) := by decide +kernel
theorem dX0_init_40 : decode cX0_init 40 = .ok (.putfield 29, 3) := by decide +kernel
theorem dX0_init_43 : decode cX0_init 43 = .ok (.aload_n 0, 1) := by decide +kernel
theorem dX0_init_44 : decode cX0_init 44 = .ok (.bipush 12, 2) := by decide +kernel
theorem dX0_init_46 : decode cX0_init 46 = .ok (.newarray .int, 2) := by decide +kernel
theorem dX0_init_48 : decode cX0_init 48 = .ok (.putfield 32, 3) := by decide +kernel
theorem dX0_init_51 : decode cX0_init 51 = .ok (.aload_n 0, 1) := by decide +kernel
theorem dX0_init_52 : decode cX0_init 52 = .ok (.bipush 12, 2) := by decide +kernel
theorem dX0_init_54 : decode cX0_init 54 = .ok (.newarray .int, 2) := by decide +kernel
theorem dX0_init_56 : decode cX0_init 56 = .ok (.putfield 35, 3) := by decide +kernel
theorem dX0_init_59 : decode cX0_init 59 = .ok (.aload_n 0, 1) := by decide +kernel
theorem dX0_init_60 : decode cX0_init 60 = .ok (.bipush 12, 2) := by decide +kernel
theorem dX0_init_62 : decode cX0_init 62 = .ok (.newarray .int, 2) := by decide +kernel
theorem dX0_init_64 : decode cX0_init 64 = .ok (.putfield 38, 3) := by decide +kernel
theorem dX0_init_67 : decode cX0_init 67 = .ok (.aload_n 0, 1) := by decide +kernel
theorem dX0_init_68 : decode cX0_init 68 = .ok (.bipush 12, 2) := by decide +kernel
theorem dX0_init_70 : decode cX0_init 70 = .ok (.newarray .int, 2) := by decide +kernel
theorem dX0_init_72 : decode cX0_init 72 = .ok (.putfield 41, 3) := by decide +kernel
theorem dX0_init_75 : decode cX0_init 75 = .ok (.aload_n 0, 1) := by decide +kernel
theorem dX0_init_76 : decode cX0_init 76 = .ok (.bipush 12, 2) := by decide +kernel
theorem dX0_init_78 : decode cX0_init 78 = .ok (.newarray .int, 2) := by decide +kernel
theorem dX0_init_80 : decode cX0_init 80 = .ok (.putfield 44, 3) := by decide +kernel
theorem dX0_init_83 : decode cX0_init 83 = .ok (.aload_n 0, 1) := by decide +kernel
theorem dX0_init_84 : decode cX0_init 84 = .ok (.bipush 12, 2) := by decide +kernel
theorem dX0_init_86 : decode cX0_init 86 = .ok (.newarray .int, 2) := by decide +kernel
theorem dX0_init_88 : decode cX0_init 88 = .ok (.putfield 47, 3) := by decide +kernel
theorem dX0_init_91 : decode cX0_init 91 = .ok (.return_, 1) := by decide +kernel
theorem dX0_reset_0 : decode cX0_reset 0 = .ok (.aload_n 0, 1) := by decide +kernel
theorem dX0_reset_1 : decode cX0_reset 1 = .ok (.iconst 0, 1) := by decide +kernel
theorem dX0_reset_2 : decode cX0_reset 2 = .ok (.putfield 50, 3) := by decide +kernel
theorem dX0_reset_5 : decode cX0_reset 5 = .ok (.iconst 0, 1) := by decide +kernel
theorem dX0_reset_6 : decode cX0_reset 6 = .ok (.istore_n 1, 1) := by decide +kernel
theorem dX0_reset_7 : decode cX0_reset 7 = .ok (.iload_n 1, 1) := by decide +kernel
theorem dX0_reset_8 : decode cX0_reset 8 = .ok (.aload_n 0, 1) := by decide +kernel
theorem dX0_reset_9 : decode cX0_reset 9 = .ok (.getfield 15, 3) := by decide +kernel
theorem dX0_reset_12 : decode cX0_reset 12 = .ok (.getfield 54, 3) := by decide +kernel
theorem dX0_reset_15 : decode cX0_reset 15 = .ok (.if_icmp .ge 14, 3) := by decide +kernel
theorem dX0_reset_18 : decode cX0_reset 18 = .ok (.aload_n 0, 1) := by decide +kernel
theorem dX0_reset_19 : decode cX0_reset 19 = .ok (.iload_n 1, 1) := by decide +kernel
theorem dX0_reset_20 : decode cX0_reset 20 = .ok (.invokevirtual 59, 3) := by decide +kernel
theorem dX0_reset_23 : decode cX0_reset 23 = .ok (.iinc 1 1, 3) := by decide +kernel
theorem dX0_reset_26 : decode cX0_reset 26 = .ok (.goto (-19), 3) := by decide +kernel
theorem dX0_reset_29 : decode cX0_reset 29 = .ok (.return_, 1) := by decide +kernel
theorem dX0_putAtFoot_0 : decode cX0_putAtFoot 0 = .ok (.aload_n 0, 1) := by decide +kernel
theorem dX0_putAtFoot_1 : decode cX0_putAtFoot 1 = .ok (.getfield 23, 3) := by decide +kernel
theorem dX0_putAtFoot_4 : decode cX0_putAtFoot 4 = .ok (.iload_n 1, 1) := by decide +kernel
theorem dX0_putAtFoot_5 : decode cX0_putAtFoot 5 = .ok (.iconst 0, 1) := by decide +kernel
theorem dX0_putAtFoot_6 : decode cX0_putAtFoot 6 = .ok (.iastore, 1) := by decide +kernel
theorem dX0_putAtFoot_7 : decode cX0_putAtFoot 7 = .ok (.aload_n 0, 1) := by decide +kernel
theorem dX0_putAtFoot_8 : decode cX0_putAtFoot 8 = .ok (.getfield 26, 3) := by decide +kernel
theorem dX0_putAtFoot_11 : decode cX0_putAtFoot 11 = .ok (.iload_n 1, 1) := by decide +kernel
theorem dX0_putAtFoot_12 : decode cX0_putAtFoot 12 = .ok (.iconst 0, 1) := by decide +kernel
theorem dX0_putAtFoot_13 : decode cX0_putAtFoot 13 = .ok (.iastore, 1) := by decide +kernel
theorem dX0_putAtFoot_14 : decode cX0_putAtFoot 14 = .ok (.aload_n 0, 1) := by decide +kernel
theorem dX0_putAtFoot_15 : decode cX0_putAtFoot 15 = .ok (.getfield 29, 3) := by decide +kernel
theorem dX0_putAtFoot_18 : decode cX0_putAtFoot 18 = .ok (.iload_n 1, 1) := by decide +kernel
theorem dX0_putAtFoot_19 : decode cX0_putAtFoot 19 = .ok (.iconst 0, 1) := by decide +kernel
theorem dX0_putAtFoot_20 : decode cX0_putAtFoot 20 = .ok (.iastore, 1) := by decide +kernel
theorem dX0_putAtFoot_21 : decode cX0_putAtFoot 21 = .ok (.aload_n 0, 1) := by decide +kernel
theorem dX0_putAtFoot_22 : decode cX0_putAtFoot 22 = .ok (.getfield 32, 3) := by decide +kernel
theorem dX0_putAtFoot_25 : decode cX0_putAtFoot 25 = .ok (.iload_n 1, 1) := by decide +kernel
theorem dX0_putAtFoot_26 : decode cX0_putAtFoot 26 = .ok (.aload_n 0, 1) := by decide +kernel
theorem dX0_putAtFoot_27 : decode cX0_putAtFoot 27 = .ok (.getfield 15, 3) := by decide +kernel
theorem dX0_putAtFoot_30 : decode cX0_putAtFoot 30 = .ok (.getfield 63, 3) := by decide +kernel
theorem dX0_putAtFoot_33 : decode cX0_putAtFoot 33 = .ok (.iload_n 1, 1) := by decide +kernel
theorem dX0_putAtFoot_34 : decode cX0_putAtFoot 34 = .ok (.iaload, 1) := by decide +kernel
theorem dX0_putAtFoot_35 : decode cX0_putAtFoot 35 = .ok (.iastore, 1) := by decide +kernel
theorem dX0_putAtFoot_36 : decode cX0_putAtFoot 36 = .ok (.aload_n 0, 1) := by decide +kernel
theorem dX0_putAtFoot_37 : decode cX0_putAtFoot 37 = .ok (.getfield 35, 3) := by decide +kernel
theorem dX0_putAtFoot_40 : decode cX0_putAtFoot 40 = .ok (.iload_n 1, 1) := by decide +kernel
theorem dX0_putAtFoot_41 : decode cX0_putAtFoot 41 = .ok (.aload_n 0, 1) := by decide +kernel
theorem dX0_putAtFoot_42 : decode cX0_putAtFoot 42 = .ok (.getfield 50, 3) := by decide +kernel
theorem dX0_putAtFoot_45 : decode cX0_putAtFoot 45 = .ok (.iastore, 1) := by decide +kernel
theorem dX0_putAtFoot_46 : decode cX0_putAtFoot 46 = .ok (.aload_n 0, 1) := by decide +kernel
theorem dX0_putAtFoot_47 : decode cX0_putAtFoot 47 = .ok (.getfield 38, 3) := by decide +kernel
theorem dX0_putAtFoot_50 : decode cX0_putAtFoot 50 = .ok (.iload_n 1, 1) := by decide +kernel
theorem dX0_putAtFoot_51 : decode cX0_putAtFoot 51 = .ok (.iconst (-1), 1) := by decide +kernel
theorem dX0_putAtFoot_52 : decode cX0_putAtFoot 52 = .ok (.iastore, 1) := by decide +kernel
theorem dX0_putAtFoot_53 : decode cX0_putAtFoot 53 = .ok (.aload_n 0, 1) := by decide +kernel
theorem dX0_putAtFoot_54 : decode cX0_putAtFoot 54 = .ok (.getfield 41, 3) := by decide +kernel
theorem dX0_putAtFoot_57 : decode cX0_putAtFoot 57 = .ok (.iload_n 1, 1) := by decide +kernel
theorem dX0_putAtFoot_58 : decode cX0_putAtFoot 58 = .ok (.iconst 0, 1) := by decide +kernel
theorem dX0_putAtFoot_59 : decode cX0_putAtFoot 59 = .ok (.iastore, 1) := by decide +kernel
theorem dX0_putAtFoot_60 : decode cX0_putAtFoot 60 = .ok (.return_, 1) := by decide +kernel
theorem dX0_takeStarts_0 : decode cX0_takeStarts 0 = .ok (.aload_n 0, 1) := by decide +kernel
theorem dX0_takeStarts_1 : decode cX0_takeStarts 1 = .ok (.getfield 15, 3) := by decide +kernel
theorem dX0_takeStarts_4 : decode cX0_takeStarts 4 = .ok (.getfield 64, 3) := by decide +kernel
theorem dX0_takeStarts_7 : decode cX0_takeStarts 7 = .ok (.iconst 0, 1) := by decide +kernel
theorem dX0_takeStarts_8 : decode cX0_takeStarts 8 = .ok (.aload_n 0, 1) := by decide +kernel
theorem dX0_takeStarts_9 : decode cX0_takeStarts 9 = .ok (.getfield 19, 3) := by decide +kernel
theorem dX0_takeStarts_12 : decode cX0_takeStarts 12 = .ok (.iconst 0, 1) := by decide +kernel
theorem dX0_takeStarts_13 : decode cX0_takeStarts 13 = .ok (.iconst 4, 1) := by decide +kernel
theorem dX0_takeStarts_14 : decode cX0_takeStarts 14 = .ok (.invokestatic 65, 3) := by decide +kernel
theorem dX0_takeStarts_17 : decode cX0_takeStarts 17 = .ok (.return_, 1) := by decide +kernel
theorem dX0_tryOut_0 : decode cX0_tryOut 0 = .ok (.aload_n 0, 1) := by decide +kernel
theorem dX0_tryOut_1 : decode cX0_tryOut 1 = .ok (.invokevirtual 71, 3) := by decide +kernel
theorem dX0_tryOut_4 : decode cX0_tryOut 4 = .ok (.iconst 0, 1) := by decide +kernel
theorem dX0_tryOut_5 : decode cX0_tryOut 5 = .ok (.istore_n 1, 1) := by decide +kernel
theorem dX0_tryOut_6 : decode cX0_tryOut 6 = .ok (.iload_n 1, 1) := by decide +kernel
theorem dX0_tryOut_7 : decode cX0_tryOut 7 = .ok (.bipush 100, 2) := by decide +kernel
theorem dX0_tryOut_9 : decode cX0_tryOut 9 = .ok (.if_icmp .ge 20, 3) := by decide +kernel
theorem dX0_tryOut_12 : decode cX0_tryOut 12 = .ok (.aload_n 0, 1) := by decide +kernel
theorem dX0_tryOut_13 : decode cX0_tryOut 13 = .ok (.invokevirtual 74, 3) := by decide +kernel
theorem dX0_tryOut_16 : decode cX0_tryOut 16 = .ok (.ifCond .ne 13, 3) := by decide +kernel
theorem dX0_tryOut_19 : decode cX0_tryOut 19 = .ok (.aload_n 0, 1) := by decide +kernel
theorem dX0_tryOut_20 : decode cX0_tryOut 20 = .ok (.invokevirtual 78, 3) := by decide +kernel
theorem dX0_tryOut_23 : decode cX0_tryOut 23 = .ok (.iinc 1 1, 3) := by decide +kernel
theorem dX0_tryOut_26 : decode cX0_tryOut 26 = .ok (.goto (-20), 3) := by decide +kernel
theorem dX0_tryOut_29 : decode cX0_tryOut 29 = .ok (.return_, 1) := by decide +kernel
theorem dX0_isOver_0 : decode cX0_isOver 0 = .ok (.iconst 0, 1) := by decide +kernel
theorem dX0_isOver_1 : decode cX0_isOver 1 = .ok (.istore_n 1, 1) := by decide +kernel
theorem dX0_isOver_2 : decode cX0_isOver 2 = .ok (.iload_n 1, 1) := by decide +kernel
theorem dX0_isOver_3 : decode cX0_isOver 3 = .ok (.aload_n 0, 1) := by decide +kernel
theorem dX0_isOver_4 : decode cX0_isOver 4 = .ok (.getfield 15, 3) := by decide +kernel
theorem dX0_isOver_7 : decode cX0_isOver 7 = .ok (.getfield 54, 3) := by decide +kernel
theorem dX0_isOver_10 : decode cX0_isOver 10 = .ok (.if_icmp .ge 31, 3) := by decide +kernel
theorem dX0_isOver_13 : decode cX0_isOver 13 = .ok (.aload_n 0, 1) := by decide +kernel
theorem dX0_isOver_14 : decode cX0_isOver 14 = .ok (.getfield 23, 3) := by decide +kernel
theorem dX0_isOver_17 : decode cX0_isOver 17 = .ok (.iload_n 1, 1) := by decide +kernel
theorem dX0_isOver_18 : decode cX0_isOver 18 = .ok (.iaload, 1) := by decide +kernel
theorem dX0_isOver_19 : decode cX0_isOver 19 = .ok (.iconst 3, 1) := by decide +kernel
theorem dX0_isOver_20 : decode cX0_isOver 20 = .ok (.if_icmp .eq 15, 3) := by decide +kernel
theorem dX0_isOver_23 : decode cX0_isOver 23 = .ok (.aload_n 0, 1) := by decide +kernel
theorem dX0_isOver_24 : decode cX0_isOver 24 = .ok (.getfield 23, 3) := by decide +kernel
theorem dX0_isOver_27 : decode cX0_isOver 27 = .ok (.iload_n 1, 1) := by decide +kernel
theorem dX0_isOver_28 : decode cX0_isOver 28 = .ok (.iaload, 1) := by decide +kernel
theorem dX0_isOver_29 : decode cX0_isOver 29 = .ok (.iconst 4, 1) := by decide +kernel
theorem dX0_isOver_30 : decode cX0_isOver 30 = .ok (.if_icmp .eq 5, 3) := by decide +kernel
theorem dX0_isOver_33 : decode cX0_isOver 33 = .ok (.iconst 0, 1) := by decide +kernel
theorem dX0_isOver_34 : decode cX0_isOver 34 = .ok (.ireturn, 1) := by decide +kernel
theorem dX0_isOver_35 : decode cX0_isOver 35 = .ok (.iinc 1 1, 3) := by decide +kernel
theorem dX0_isOver_38 : decode cX0_isOver 38 = .ok (.goto (-36), 3) := by decide +kernel
theorem dX0_isOver_41 : decode cX0_isOver 41 = .ok (.iconst 1, 1) := by decide +kernel
theorem dX0_isOver_42 : decode cX0_isOver 42 = .ok (.ireturn, 1) := by decide +kernel
theorem dX0_passHour_0 : decode cX0_passHour 0 = .ok (.iconst 0, 1) := by decide +kernel
theorem dX0_passHour_1 : decode cX0_passHour 1 = .ok (.istore_n 1, 1) := by decide +kernel
theorem dX0_passHour_2 : decode cX0_passHour 2 = .ok (.iload_n 1, 1) := by decide +kernel
theorem dX0_passHour_3 : decode cX0_passHour 3 = .ok (.aload_n 0, 1) := by decide +kernel
theorem dX0_passHour_4 : decode cX0_passHour 4 = .ok (.getfield 15, 3) := by decide +kernel
theorem dX0_passHour_7 : decode cX0_passHour 7 = .ok (.getfield 54, 3) := by decide +kernel
theorem dX0_passHour_10 : decode cX0_passHour 10 = .ok (.if_icmp .ge 23, 3) := by decide +kernel
theorem dX0_passHour_13 : decode cX0_passHour 13 = .ok (.aload_n 0, 1) := by decide +kernel
theorem dX0_passHour_14 : decode cX0_passHour 14 = .ok (.getfield 29, 3) := by decide +kernel
theorem dX0_passHour_17 : decode cX0_passHour 17 = .ok (.iload_n 1, 1) := by decide +kernel
theorem dX0_passHour_18 : decode cX0_passHour 18 = .ok (.iaload, 1) := by decide +kernel
theorem dX0_passHour_19 : decode cX0_passHour 19 = .ok (.ifCond .le 8, 3) := by decide +kernel
theorem dX0_passHour_22 : decode cX0_passHour 22 = .ok (.aload_n 0, 1) := by decide +kernel
theorem dX0_passHour_23 : decode cX0_passHour 23 = .ok (.iload_n 1, 1) := by decide +kernel
theorem dX0_passHour_24 : decode cX0_passHour 24 = .ok (.invokevirtual 81, 3) := by decide +kernel
theorem dX0_passHour_27 : decode cX0_passHour 27 = .ok (.iinc 1 1, 3) := by decide +kernel
theorem dX0_passHour_30 : decode cX0_passHour 30 = .ok (.goto (-28), 3) := by decide +kernel
theorem dX0_passHour_33 : decode cX0_passHour 33 = .ok (.iconst 0, 1) := by decide +kernel
theorem dX0_passHour_34 : decode cX0_passHour 34 = .ok (.istore_n 1, 1) := by decide +kernel
theorem dX0_passHour_35 : decode cX0_passHour 35 = .ok (.iload_n 1, 1) := by decide +kernel
theorem dX0_passHour_36 : decode cX0_passHour 36 = .ok (.aload_n 0, 1) := by decide +kernel
theorem dX0_passHour_37 : decode cX0_passHour 37 = .ok (.getfield 15, 3) := by decide +kernel
theorem dX0_passHour_40 : decode cX0_passHour 40 = .ok (.getfield 54, 3) := by decide +kernel
theorem dX0_passHour_43 : decode cX0_passHour 43 = .ok (.if_icmp .ge 23, 3) := by decide +kernel
theorem dX0_passHour_46 : decode cX0_passHour 46 = .ok (.aload_n 0, 1) := by decide +kernel
theorem dX0_passHour_47 : decode cX0_passHour 47 = .ok (.getfield 29, 3) := by decide +kernel
theorem dX0_passHour_50 : decode cX0_passHour 50 = .ok (.iload_n 1, 1) := by decide +kernel
theorem dX0_passHour_51 : decode cX0_passHour 51 = .ok (.iaload, 1) := by decide +kernel
theorem dX0_passHour_52 : decode cX0_passHour 52 = .ok (.ifCond .ne 8, 3) := by decide +kernel
theorem dX0_passHour_55 : decode cX0_passHour 55 = .ok (.aload_n 0, 1) := by decide +kernel
theorem dX0_passHour_56 : decode cX0_passHour 56 = .ok (.iload_n 1, 1) := by decide +kernel
theorem dX0_passHour_57 : decode cX0_passHour 57 = .ok (.invokevirtual 84, 3) := by decide +kernel
theorem dX0_passHour_60 : decode cX0_passHour 60 = .ok (.iinc 1 1, 3) := by decide +kernel
theorem dX0_passHour_63 : decode cX0_passHour 63 = .ok (.goto (-28), 3) := by decide +kernel
theorem dX0_passHour_66 : decode cX0_passHour 66 = .ok (.aload_n 0, 1) := by decide +kernel
theorem dX0_passHour_67 : decode cX0_passHour 67 = .ok (.getfield 9, 3) := by decide +kernel
theorem dX0_passHour_70 : decode cX0_passHour 70 = .ok (.aload_n 0, 1) := by decide +kernel
theorem dX0_passHour_71 : decode cX0_passHour 71 = .ok (.getfield 50, 3) := by decide +kernel
theorem dX0_passHour_74 : decode cX0_passHour 74 = .ok (.invokevirtual 87, 3) := by decide +kernel
theorem dX0_passHour_77 : decode cX0_passHour 77 = .ok (.ifCond .ne 7, 3) := by decide +kernel
theorem dX0_passHour_80 : decode cX0_passHour 80 = .ok (.aload_n 0, 1) := by decide +kernel
theorem dX0_passHour_81 : decode cX0_passHour 81 = .ok (.invokevirtual 93, 3) := by decide +kernel
theorem dX0_passHour_84 : decode cX0_passHour 84 = .ok (.iconst 0, 1) := by decide +kernel
theorem dX0_passHour_85 : decode cX0_passHour 85 = .ok (.istore_n 1, 1) := by decide +kernel
theorem dX0_passHour_86 : decode cX0_passHour 86 = .ok (.iload_n 1, 1) := by decide +kernel
theorem dX0_passHour_87 : decode cX0_passHour 87 = .ok (.aload_n 0, 1) := by decide +kernel
theorem dX0_passHour_88 : decode cX0_passHour 88 = .ok (.getfield 15, 3) := by decide +kernel
theorem dX0_passHour_91 : decode cX0_passHour 91 = .ok (.getfield 54, 3) := by decide +kernel
theorem dX0_passHour_94 : decode cX0_passHour 94 = .ok (.if_icmp .ge 14, 3) := by decide +kernel
theorem dX0_passHour_97 : decode cX0_passHour 97 = .ok (.aload_n 0, 1) := by decide +kernel
theorem dX0_passHour_98 : decode cX0_passHour 98 = .ok (.iload_n 1, 1) := by decide +kernel
theorem dX0_passHour_99 : decode cX0_passHour 99 = .ok (.invokevirtual 96, 3) := by decide +kernel
theorem dX0_passHour_102 : decode cX0_passHour 102 = .ok (.iinc 1 1, 3) := by decide +kernel
theorem dX0_passHour_105 : decode cX0_passHour 105 = .ok (.goto (-19), 3) := by decide +kernel
theorem dX0_passHour_108 : decode cX0_passHour 108 = .ok (.iconst 0, 1) := by decide +kernel
theorem dX0_passHour_109 : decode cX0_passHour 109 = .ok (.istore_n 1, 1) := by decide +kernel
theorem dX0_passHour_110 : decode cX0_passHour 110 = .ok (.iload_n 1, 1) := by decide +kernel
theorem dX0_passHour_111 : decode cX0_passHour 111 = .ok (.aload_n 0, 1) := by decide +kernel
theorem dX0_passHour_112 : decode cX0_passHour 112 = .ok (.getfield 15, 3) := by decide +kernel
theorem dX0_passHour_115 : decode cX0_passHour 115 = .ok (.getfield 54, 3) := by decide +kernel
theorem dX0_passHour_118 : decode cX0_passHour 118 = .ok (.if_icmp .ge 56, 3) := by decide +kernel
theorem dX0_passHour_121 : decode cX0_passHour 121 = .ok (.aload_n 0, 1) := by decide +kernel
theorem dX0_passHour_122 : decode cX0_passHour 122 = .ok (.getfield 29, 3) := by decide +kernel
theorem dX0_passHour_125 : decode cX0_passHour 125 = .ok (.iload_n 1, 1) := by decide +kernel
theorem dX0_passHour_126 : decode cX0_passHour 126 = .ok (.iaload, 1) := by decide +kernel
theorem dX0_passHour_127 : decode cX0_passHour 127 = .ok (.ifCond .ne 41, 3) := by decide +kernel
theorem dX0_passHour_130 : decode cX0_passHour 130 = .ok (.aload_n 0, 1) := by decide +kernel
theorem dX0_passHour_131 : decode cX0_passHour 131 = .ok (.getfield 26, 3) := by decide +kernel
theorem dX0_passHour_134 : decode cX0_passHour 134 = .ok (.iload_n 1, 1) := by decide +kernel
theorem dX0_passHour_135 : decode cX0_passHour 135 = .ok (.iaload, 1) := by decide +kernel
theorem dX0_passHour_136 : decode cX0_passHour 136 = .ok (.ifCond .le 32, 3) := by decide +kernel
theorem dX0_passHour_139 : decode cX0_passHour 139 = .ok (.aload_n 0, 1) := by decide +kernel
theorem dX0_passHour_140 : decode cX0_passHour 140 = .ok (.getfield 23, 3) := by decide +kernel
theorem dX0_passHour_143 : decode cX0_passHour 143 = .ok (.iload_n 1, 1) := by decide +kernel
theorem dX0_passHour_144 : decode cX0_passHour 144 = .ok (.iaload, 1) := by decide +kernel
theorem dX0_passHour_145 : decode cX0_passHour 145 = .ok (.ifCond .eq 13, 3) := by decide +kernel
theorem dX0_passHour_148 : decode cX0_passHour 148 = .ok (.aload_n 0, 1) := by decide +kernel
theorem dX0_passHour_149 : decode cX0_passHour 149 = .ok (.getfield 23, 3) := by decide +kernel
theorem dX0_passHour_152 : decode cX0_passHour 152 = .ok (.iload_n 1, 1) := by decide +kernel
theorem dX0_passHour_153 : decode cX0_passHour 153 = .ok (.iaload, 1) := by decide +kernel
theorem dX0_passHour_154 : decode cX0_passHour 154 = .ok (.iconst 2, 1) := by decide +kernel
theorem dX0_passHour_155 : decode cX0_passHour 155 = .ok (.if_icmp .ne 13, 3) := by decide +kernel
theorem dX0_passHour_158 : decode cX0_passHour 158 = .ok (.aload_n 0, 1) := by decide +kernel
theorem dX0_passHour_159 : decode cX0_passHour 159 = .ok (.getfield 41, 3) := by decide +kernel
theorem dX0_passHour_162 : decode cX0_passHour 162 = .ok (.iload_n 1, 1) := by decide +kernel
theorem dX0_passHour_163 : decode cX0_passHour 163 = .ok (.dup2, 1) := by decide +kernel
theorem dX0_passHour_164 : decode cX0_passHour 164 = .ok (.iaload, 1) := by decide +kernel
theorem dX0_passHour_165 : decode cX0_passHour 165 = .ok (.iconst 1, 1) := by decide +kernel
theorem dX0_passHour_166 : decode cX0_passHour 166 = .ok (.iadd, 1) := by decide +kernel
theorem dX0_passHour_167 : decode cX0_passHour 167 = .ok (.iastore, 1) := by decide +kernel
theorem dX0_passHour_168 : decode cX0_passHour 168 = .ok (.iinc 1 1, 3) := by decide +kernel
theorem dX0_passHour_171 : decode cX0_passHour 171 = .ok (.goto (-61), 3) := by decide +kernel
theorem dX0_passHour_174 : decode cX0_passHour 174 = .ok (.aload_n 0, 1) := by decide +kernel
theorem dX0_passHour_175 : decode cX0_passHour 175 = .ok (.dup, 1) := by decide +kernel
theorem dX0_passHour_176 : decode cX0_passHour 176 = .ok (.getfield 50, 3) := by decide +kernel
theorem dX0_passHour_179 : decode cX0_passHour 179 = .ok (.iconst 1, 1) := by decide +kernel
theorem dX0_passHour_180 : decode cX0_passHour 180 = .ok (.iadd, 1) := by decide +kernel
theorem dX0_passHour_181 : decode cX0_passHour 181 = .ok (.putfield 50, 3) := by decide +kernel
theorem dX0_passHour_184 : decode cX0_passHour 184 = .ok (.return_, 1) := by decide +kernel
theorem dX0_goOn_0 : decode cX0_goOn 0 = .ok (.aload_n 0, 1) := by decide +kernel
theorem dX0_goOn_1 : decode cX0_goOn 1 = .ok (.getfield 29, 3) := by decide +kernel
theorem dX0_goOn_4 : decode cX0_goOn 4 = .ok (.iload_n 1, 1) := by decide +kernel
theorem dX0_goOn_5 : decode cX0_goOn 5 = .ok (.dup2, 1) := by decide +kernel
theorem dX0_goOn_6 : decode cX0_goOn 6 = .ok (.iaload, 1) := by decide +kernel
theorem dX0_goOn_7 : decode cX0_goOn 7 = .ok (.iconst 1, 1) := by decide +kernel
theorem dX0_goOn_8 : decode cX0_goOn 8 = .ok (.isub, 1) := by decide +kernel
theorem dX0_goOn_9 : decode cX0_goOn 9 = .ok (.iastore, 1) := by decide +kernel
theorem dX0_goOn_10 : decode cX0_goOn 10 = .ok (.aload_n 0, 1) := by decide +kernel
theorem dX0_goOn_11 : decode cX0_goOn 11 = .ok (.getfield 29, 3) := by decide +kernel
theorem dX0_goOn_14 : decode cX0_goOn 14 = .ok (.iload_n 1, 1) := by decide +kernel
theorem dX0_goOn_15 : decode cX0_goOn 15 = .ok (.iaload, 1) := by decide +kernel
theorem dX0_goOn_16 : decode cX0_goOn 16 = .ok (.ifCond .ne 36, 3) := by decide +kernel
theorem dX0_goOn_19 : decode cX0_goOn 19 = .ok (.aload_n 0, 1) := by decide +kernel
theorem dX0_goOn_20 : decode cX0_goOn 20 = .ok (.getfield 26, 3) := by decide +kernel
theorem dX0_goOn_23 : decode cX0_goOn 23 = .ok (.iload_n 1, 1) := by decide +kernel
theorem dX0_goOn_24 : decode cX0_goOn 24 = .ok (.dup2, 1) := by decide +kernel
theorem dX0_goOn_25 : decode cX0_goOn 25 = .ok (.iaload, 1) := by decide +kernel
theorem dX0_goOn_26 : decode cX0_goOn 26 = .ok (.aload_n 0, 1) := by decide +kernel
theorem dX0_goOn_27 : decode cX0_goOn 27 = .ok (.getfield 23, 3) := by decide +kernel
theorem dX0_goOn_30 : decode cX0_goOn 30 = .ok (.iload_n 1, 1) := by decide +kernel
theorem dX0_goOn_31 : decode cX0_goOn 31 = .ok (.iaload, 1) := by decide +kernel
theorem dX0_goOn_32 : decode cX0_goOn 32 = .ok (.ifCond .ne 7, 3) := by decide +kernel
theorem dX0_goOn_35 : decode cX0_goOn 35 = .ok (.iconst 1, 1) := by decide +kernel
theorem dX0_goOn_36 : decode cX0_goOn 36 = .ok (.goto 4, 3) := by decide +kernel
theorem dX0_goOn_39 : decode cX0_goOn 39 = .ok (.iconst (-1), 1) := by decide +kernel
theorem dX0_goOn_40 : decode cX0_goOn 40 = .ok (.iadd, 1) := by decide +kernel
theorem dX0_goOn_41 : decode cX0_goOn 41 = .ok (.iastore, 1) := by decide +kernel
theorem dX0_goOn_42 : decode cX0_goOn 42 = .ok (.aload_n 0, 1) := by decide +kernel
theorem dX0_goOn_43 : decode cX0_goOn 43 = .ok (.getfield 35, 3) := by decide +kernel
theorem dX0_goOn_46 : decode cX0_goOn 46 = .ok (.iload_n 1, 1) := by decide +kernel
theorem dX0_goOn_47 : decode cX0_goOn 47 = .ok (.aload_n 0, 1) := by decide +kernel
theorem dX0_goOn_48 : decode cX0_goOn 48 = .ok (.getfield 50, 3) := by decide +kernel
theorem dX0_goOn_51 : decode cX0_goOn 51 = .ok (.iastore, 1) := by decide +kernel
theorem dX0_goOn_52 : decode cX0_goOn 52 = .ok (.return_, 1) := by decide +kernel
theorem dX0_decide_0 : decode cX0_decide 0 = .ok (.aload_n 0, 1) := by decide +kernel
theorem dX0_decide_1 : decode cX0_decide 1 = .ok (.getfield 23, 3) := by decide +kernel
theorem dX0_decide_4 : decode cX0_decide 4 = .ok (.iload_n 1, 1) := by decide +kernel
theorem dX0_decide_5 : decode cX0_decide 5 = .ok (.iaload, 1) := by decide +kernel
theorem dX0_decide_6 : decode cX0_decide 6 = .ok (.ifCond .ne 39, 3) := by decide +kernel
theorem dX0_decide_9 : decode cX0_decide 9 = .ok (.aload_n 0, 1) := by decide +kernel
theorem dX0_decide_10 : decode cX0_decide 10 = .ok (.getfield 26, 3) := by decide +kernel
theorem dX0_decide_13 : decode cX0_decide 13 = .ok (.iload_n 1, 1) := by decide +kernel
theorem dX0_decide_14 : decode cX0_decide 14 = .ok (.iaload, 1) := by decide +kernel
theorem dX0_decide_15 : decode cX0_decide 15 = .ok (.aload_n 0, 1) := by decide +kernel
theorem dX0_decide_16 : decode cX0_decide 16 = .ok (.getfield 9, 3) := by decide +kernel
theorem dX0_decide_19 : decode cX0_decide 19 = .ok (.getfield 99, 3) := by decide +kernel
theorem dX0_decide_22 : decode cX0_decide 22 = .ok (.if_icmp .ne 23, 3) := by decide +kernel
theorem dX0_decide_25 : decode cX0_decide 25 = .ok (.aload_n 0, 1) := by decide +kernel
theorem dX0_decide_26 : decode cX0_decide 26 = .ok (.getfield 23, 3) := by decide +kernel
theorem dX0_decide_29 : decode cX0_decide 29 = .ok (.iload_n 1, 1) := by decide +kernel
theorem dX0_decide_30 : decode cX0_decide 30 = .ok (.iconst 1, 1) := by decide +kernel
theorem dX0_decide_31 : decode cX0_decide 31 = .ok (.iastore, 1) := by decide +kernel
theorem dX0_decide_32 : decode cX0_decide 32 = .ok (.aload_n 0, 1) := by decide +kernel
theorem dX0_decide_33 : decode cX0_decide 33 = .ok (.getfield 38, 3) := by decide +kernel
theorem dX0_decide_36 : decode cX0_decide 36 = .ok (.iload_n 1, 1) := by decide +kernel
theorem dX0_decide_37 : decode cX0_decide 37 = .ok (.aload_n 0, 1) := by decide +kernel
theorem dX0_decide_38 : decode cX0_decide 38 = .ok (.getfield 50, 3) := by decide +kernel
theorem dX0_decide_41 : decode cX0_decide 41 = .ok (.iastore, 1) := by decide +kernel
theorem dX0_decide_42 : decode cX0_decide 42 = .ok (.goto 18, 3) := by decide +kernel
theorem dX0_decide_45 : decode cX0_decide 45 = .ok (.aload_n 0, 1) := by decide +kernel
theorem dX0_decide_46 : decode cX0_decide 46 = .ok (.iload_n 1, 1) := by decide +kernel
theorem dX0_decide_47 : decode cX0_decide 47 = .ok (.invokevirtual 102, 3) := by decide +kernel
theorem dX0_decide_50 : decode cX0_decide 50 = .ok (.ifCond .eq 10, 3) := by decide +kernel
theorem dX0_decide_53 : decode cX0_decide 53 = .ok (.aload_n 0, 1) := by decide +kernel
theorem dX0_decide_54 : decode cX0_decide 54 = .ok (.getfield 23, 3) := by decide +kernel
theorem dX0_decide_57 : decode cX0_decide 57 = .ok (.iload_n 1, 1) := by decide +kernel
theorem dX0_decide_58 : decode cX0_decide 58 = .ok (.iconst 2, 1) := by decide +kernel
theorem dX0_decide_59 : decode cX0_decide 59 = .ok (.iastore, 1) := by decide +kernel
theorem dX0_decide_60 : decode cX0_decide 60 = .ok (.aload_n 0, 1) := by decide +kernel
theorem dX0_decide_61 : decode cX0_decide 61 = .ok (.getfield 23, 3) := by decide +kernel
theorem dX0_decide_64 : decode cX0_decide 64 = .ok (.iload_n 1, 1) := by decide +kernel
theorem dX0_decide_65 : decode cX0_decide 65 = .ok (.iaload, 1) := by decide +kernel
theorem dX0_decide_66 : decode cX0_decide 66 = .ok (.iconst 2, 1) := by decide +kernel
theorem dX0_decide_67 : decode cX0_decide 67 = .ok (.if_icmp .ne 19, 3) := by decide +kernel
theorem dX0_decide_70 : decode cX0_decide 70 = .ok (.aload_n 0, 1) := by decide +kernel
theorem dX0_decide_71 : decode cX0_decide 71 = .ok (.getfield 26, 3) := by decide +kernel
theorem dX0_decide_74 : decode cX0_decide 74 = .ok (.iload_n 1, 1) := by decide +kernel
theorem dX0_decide_75 : decode cX0_decide 75 = .ok (.iaload, 1) := by decide +kernel
theorem dX0_decide_76 : decode cX0_decide 76 = .ok (.ifCond .ne 10, 3) := by decide +kernel
theorem dX0_decide_79 : decode cX0_decide 79 = .ok (.aload_n 0, 1) := by decide +kernel
theorem dX0_decide_80 : decode cX0_decide 80 = .ok (.getfield 23, 3) := by decide +kernel
theorem dX0_decide_83 : decode cX0_decide 83 = .ok (.iload_n 1, 1) := by decide +kernel
theorem dX0_decide_84 : decode cX0_decide 84 = .ok (.iconst 3, 1) := by decide +kernel
theorem dX0_decide_85 : decode cX0_decide 85 = .ok (.iastore, 1) := by decide +kernel
theorem dX0_decide_86 : decode cX0_decide 86 = .ok (.return_, 1) := by decide +kernel
theorem dX0_turnsBack_0 : decode cX0_turnsBack 0 = .ok (.aload_n 0, 1) := by decide +kernel
theorem dX0_turnsBack_1 : decode cX0_turnsBack 1 = .ok (.getfield 23, 3) := by decide +kernel
theorem dX0_turnsBack_4 : decode cX0_turnsBack 4 = .ok (.iload_n 1, 1) := by decide +kernel
theorem dX0_turnsBack_5 : decode cX0_turnsBack 5 = .ok (.iaload, 1) := by decide +kernel
theorem dX0_turnsBack_6 : decode cX0_turnsBack 6 = .ok (.iconst 1, 1) := by decide +kernel
theorem dX0_turnsBack_7 : decode cX0_turnsBack 7 = .ok (.if_icmp .ne 22, 3) := by decide +kernel
theorem dX0_turnsBack_10 : decode cX0_turnsBack 10 = .ok (.aload_n 0, 1) := by decide +kernel
theorem dX0_turnsBack_11 : decode cX0_turnsBack 11 = .ok (.getfield 35, 3) := by decide +kernel
theorem dX0_turnsBack_14 : decode cX0_turnsBack 14 = .ok (.iload_n 1, 1) := by decide +kernel
theorem dX0_turnsBack_15 : decode cX0_turnsBack 15 = .ok (.iaload, 1) := by decide +kernel
theorem dX0_turnsBack_16 : decode cX0_turnsBack 16 = .ok (.aload_n 0, 1) := by decide +kernel
theorem dX0_turnsBack_17 : decode cX0_turnsBack 17 = .ok (.getfield 50, 3) := by decide +kernel
theorem dX0_turnsBack_20 : decode cX0_turnsBack 20 = .ok (.if_icmp .ge 7, 3) := by decide +kernel
theorem dX0_turnsBack_23 : decode cX0_turnsBack 23 = .ok (.iconst 1, 1) := by decide +kernel
theorem dX0_turnsBack_24 : decode cX0_turnsBack 24 = .ok (.goto 4, 3) := by decide +kernel
theorem dX0_turnsBack_27 : decode cX0_turnsBack 27 = .ok (.iconst 0, 1) := by decide +kernel
theorem dX0_turnsBack_28 : decode cX0_turnsBack 28 = .ok (.ireturn, 1) := by decide +kernel
theorem dX0_turnsBack_29 : decode cX0_turnsBack 29 = .ok (.aload_n 0, 1) := by decide +kernel
theorem dX0_turnsBack_30 : decode cX0_turnsBack 30 = .ok (.getfield 23, 3) := by decide +kernel
theorem dX0_turnsBack_33 : decode cX0_turnsBack 33 = .ok (.iload_n 1, 1) := by decide +kernel
theorem dX0_turnsBack_34 : decode cX0_turnsBack 34 = .ok (.iaload, 1) := by decide +kernel
theorem dX0_turnsBack_35 : decode cX0_turnsBack 35 = .ok (.ifCond .eq 5, 3) := by decide +kernel
theorem dX0_turnsBack_38 : decode cX0_turnsBack 38 = .ok (.iconst 0, 1) := by decide +kernel
theorem dX0_turnsBack_39 : decode cX0_turnsBack 39 = .ok (.ireturn, 1) := by decide +kernel
theorem dX0_turnsBack_40 : decode cX0_turnsBack 40 = .ok (.aload_n 0, 1) := by decide +kernel
theorem dX0_turnsBack_41 : decode cX0_turnsBack 41 = .ok (.getfield 15, 3) := by decide +kernel
theorem dX0_turnsBack_44 : decode cX0_turnsBack 44 = .ok (.getfield 105, 3) := by decide +kernel
theorem dX0_turnsBack_47 : decode cX0_turnsBack 47 = .ok (.iload_n 1, 1) := by decide +kernel
theorem dX0_turnsBack_48 : decode cX0_turnsBack 48 = .ok (.iaload, 1) := by decide +kernel
theorem dX0_turnsBack_49 : decode cX0_turnsBack 49 = .ok (.istore_n 2, 1) := by decide +kernel
theorem dX0_turnsBack_50 : decode cX0_turnsBack 50 = .ok (.aload_n 0, 1) := by decide +kernel
theorem dX0_turnsBack_51 : decode cX0_turnsBack 51 = .ok (.getfield 32, 3) := by decide +kernel
theorem dX0_turnsBack_54 : decode cX0_turnsBack 54 = .ok (.iload_n 1, 1) := by decide +kernel
theorem dX0_turnsBack_55 : decode cX0_turnsBack 55 = .ok (.iaload, 1) := by decide +kernel
theorem dX0_turnsBack_56 : decode cX0_turnsBack 56 = .ok (.ifCond .eq 32, 3) := by decide +kernel
theorem dX0_turnsBack_59 : decode cX0_turnsBack 59 = .ok (.aload_n 0, 1) := by decide +kernel
theorem dX0_turnsBack_60 : decode cX0_turnsBack 60 = .ok (.getfield 50, 3) := by decide +kernel
theorem dX0_turnsBack_63 : decode cX0_turnsBack 63 = .ok (.aload_n 0, 1) := by decide +kernel
theorem dX0_turnsBack_64 : decode cX0_turnsBack 64 = .ok (.getfield 15, 3) := by decide +kernel
theorem dX0_turnsBack_67 : decode cX0_turnsBack 67 = .ok (.getfield 108, 3) := by decide +kernel
theorem dX0_turnsBack_70 : decode cX0_turnsBack 70 = .ok (.iload_n 2, 1) := by decide +kernel
theorem dX0_turnsBack_71 : decode cX0_turnsBack 71 = .ok (.iaload, 1) := by decide +kernel
theorem dX0_turnsBack_72 : decode cX0_turnsBack 72 = .ok (.if_icmp .lt 20, 3) := by decide +kernel
theorem dX0_turnsBack_75 : decode cX0_turnsBack 75 = .ok (.aload_n 0, 1) := by decide +kernel
theorem dX0_turnsBack_76 : decode cX0_turnsBack 76 = .ok (.getfield 50, 3) := by decide +kernel
theorem dX0_turnsBack_79 : decode cX0_turnsBack 79 = .ok (.aload_n 0, 1) := by decide +kernel
theorem dX0_turnsBack_80 : decode cX0_turnsBack 80 = .ok (.getfield 19, 3) := by decide +kernel
theorem dX0_turnsBack_83 : decode cX0_turnsBack 83 = .ok (.iload_n 2, 1) := by decide +kernel
theorem dX0_turnsBack_84 : decode cX0_turnsBack 84 = .ok (.iaload, 1) := by decide +kernel
theorem dX0_turnsBack_85 : decode cX0_turnsBack 85 = .ok (.if_icmp .lt 7, 3) := by decide +kernel
theorem dX0_turnsBack_88 : decode cX0_turnsBack 88 = .ok (.iconst 1, 1) := by decide +kernel
theorem dX0_turnsBack_89 : decode cX0_turnsBack 89 = .ok (.goto 4, 3) := by decide +kernel
theorem dX0_turnsBack_92 : decode cX0_turnsBack 92 = .ok (.iconst 0, 1) := by decide +kernel
theorem dX0_turnsBack_93 : decode cX0_turnsBack 93 = .ok (.ireturn, 1) := by decide +kernel
theorem dX0_beginPitches_0 : decode cX0_beginPitches 0 = .ok (.iconst 0, 1) := by decide +kernel
theorem dX0_beginPitches_1 : decode cX0_beginPitches 1 = .ok (.istore_n 1, 1) := by decide +kernel
theorem dX0_beginPitches_2 : decode cX0_beginPitches 2 = .ok (.iload_n 1, 1) := by decide +kernel
theorem dX0_beginPitches_3 : decode cX0_beginPitches 3 = .ok (.aload_n 0, 1) := by decide +kernel
theorem dX0_beginPitches_4 : decode cX0_beginPitches 4 = .ok (.getfield 15, 3) := by decide +kernel
theorem dX0_beginPitches_7 : decode cX0_beginPitches 7 = .ok (.getfield 54, 3) := by decide +kernel
theorem dX0_beginPitches_10 : decode cX0_beginPitches 10 = .ok (.if_icmp .ge 55, 3) := by decide +kernel
theorem dX0_beginPitches_13 : decode cX0_beginPitches 13 = .ok (.aload_n 0, 1) := by decide +kernel
theorem dX0_beginPitches_14 : decode cX0_beginPitches 14 = .ok (.getfield 44, 3) := by decide +kernel
theorem dX0_beginPitches_17 : decode cX0_beginPitches 17 = .ok (.iload_n 1, 1) := by decide +kernel
theorem dX0_beginPitches_18 : decode cX0_beginPitches 18 = .ok (.aload_n 0, 1) := by decide +kernel
theorem dX0_beginPitches_19 : decode cX0_beginPitches 19 = .ok (.iload_n 1, 1) := by decide +kernel
theorem dX0_beginPitches_20 : decode cX0_beginPitches 20 = .ok (.invokevirtual 111, 3) := by decide +kernel
theorem dX0_beginPitches_23 : decode cX0_beginPitches 23 = .ok (.iastore, 1) := by decide +kernel
theorem dX0_beginPitches_24 : decode cX0_beginPitches 24 = .ok (.aload_n 0, 1) := by decide +kernel
theorem dX0_beginPitches_25 : decode cX0_beginPitches 25 = .ok (.getfield 47, 3) := by decide +kernel
theorem dX0_beginPitches_28 : decode cX0_beginPitches 28 = .ok (.iload_n 1, 1) := by decide +kernel
theorem dX0_beginPitches_29 : decode cX0_beginPitches 29 = .ok (.aload_n 0, 1) := by decide +kernel
theorem dX0_beginPitches_30 : decode cX0_beginPitches 30 = .ok (.getfield 23, 3) := by decide +kernel
theorem dX0_beginPitches_33 : decode cX0_beginPitches 33 = .ok (.iload_n 1, 1) := by decide +kernel
theorem dX0_beginPitches_34 : decode cX0_beginPitches 34 = .ok (.iaload, 1) := by decide +kernel
theorem dX0_beginPitches_35 : decode cX0_beginPitches 35 = .ok (.iconst 2, 1) := by decide +kernel
theorem dX0_beginPitches_36 : decode cX0_beginPitches 36 = .ok (.if_icmp .ne 12, 3) := by decide +kernel
theorem dX0_beginPitches_39 : decode cX0_beginPitches 39 = .ok (.aload_n 0, 1) := by decide +kernel
theorem dX0_beginPitches_40 : decode cX0_beginPitches 40 = .ok (.getfield 35, 3) := by decide +kernel
theorem dX0_beginPitches_43 : decode cX0_beginPitches 43 = .ok (.iload_n 1, 1) := by decide +kernel
theorem dX0_beginPitches_44 : decode cX0_beginPitches 44 = .ok (.iaload, 1) := by decide +kernel
theorem dX0_beginPitches_45 : decode cX0_beginPitches 45 = .ok (.goto 13, 3) := by decide +kernel
theorem dX0_beginPitches_48 : decode cX0_beginPitches 48 = .ok (.aload_n 0, 1) := by decide +kernel
theorem dX0_beginPitches_49 : decode cX0_beginPitches 49 = .ok (.getfield 35, 3) := by decide +kernel
theorem dX0_beginPitches_52 : decode cX0_beginPitches 52 = .ok (.iload_n 1, 1) := by decide +kernel
theorem dX0_beginPitches_53 : decode cX0_beginPitches 53 = .ok (.iaload, 1) := by decide +kernel
theorem dX0_beginPitches_54 : decode cX0_beginPitches 54 = .ok (.sipush 201, 3) := by decide +kernel
theorem dX0_beginPitches_57 : decode cX0_beginPitches 57 = .ok (.iadd, 1) := by decide +kernel
theorem dX0_beginPitches_58 : decode cX0_beginPitches 58 = .ok (.iastore, 1) := by decide +kernel
theorem dX0_beginPitches_59 : decode cX0_beginPitches 59 = .ok (.iinc 1 1, 3) := by decide +kernel
theorem dX0_beginPitches_62 : decode cX0_beginPitches 62 = .ok (.goto (-60), 3) := by decide +kernel
theorem dX0_beginPitches_65 : decode cX0_beginPitches 65 = .ok (.aload_n 0, 1) := by decide +kernel
theorem dX0_beginPitches_66 : decode cX0_beginPitches 66 = .ok (.getfield 9, 3) := by decide +kernel
theorem dX0_beginPitches_69 : decode cX0_beginPitches 69 = .ok (.getfield 99, 3) := by decide +kernel
theorem dX0_beginPitches_72 : decode cX0_beginPitches 72 = .ok (.iconst 1, 1) := by decide +kernel
theorem dX0_beginPitches_73 : decode cX0_beginPitches 73 = .ok (.isub, 1) := by decide +kernel
theorem dX0_beginPitches_74 : decode cX0_beginPitches 74 = .ok (.istore_n 1, 1) := by decide +kernel
theorem dX0_beginPitches_75 : decode cX0_beginPitches 75 = .ok (.iload_n 1, 1) := by decide +kernel
theorem dX0_beginPitches_76 : decode cX0_beginPitches 76 = .ok (.ifCond .lt 14, 3) := by decide +kernel
theorem dX0_beginPitches_79 : decode cX0_beginPitches 79 = .ok (.aload_n 0, 1) := by decide +kernel
theorem dX0_beginPitches_80 : decode cX0_beginPitches 80 = .ok (.iload_n 1, 1) := by decide +kernel
theorem dX0_beginPitches_81 : decode cX0_beginPitches 81 = .ok (.invokevirtual 115, 3) := by decide +kernel
theorem dX0_beginPitches_84 : decode cX0_beginPitches 84 = .ok (.iinc 1 (-1), 3) := by decide +kernel
theorem dX0_beginPitches_87 : decode cX0_beginPitches 87 = .ok (.goto (-12), 3) := by decide +kernel
theorem dX0_beginPitches_90 : decode cX0_beginPitches 90 = .ok (.return_, 1) := by decide +kernel
theorem dX0_pitchWanted_0 : decode cX0_pitchWanted 0 = .ok (.aload_n 0, 1) := by decide +kernel
theorem dX0_pitchWanted_1 : decode cX0_pitchWanted 1 = .ok (.getfield 29, 3) := by decide +kernel
theorem dX0_pitchWanted_4 : decode cX0_pitchWanted 4 = .ok (.iload_n 1, 1) := by decide +kernel
theorem dX0_pitchWanted_5 : decode cX0_pitchWanted 5 = .ok (.iaload, 1) := by decide +kernel
theorem dX0_pitchWanted_6 : decode cX0_pitchWanted 6 = .ok (.ifCond .le 5, 3) := by decide +kernel
theorem dX0_pitchWanted_9 : decode cX0_pitchWanted 9 = .ok (.iconst (-1), 1) := by decide +kernel
theorem dX0_pitchWanted_10 : decode cX0_pitchWanted 10 = .ok (.ireturn, 1) := by decide +kernel
theorem dX0_pitchWanted_11 : decode cX0_pitchWanted 11 = .ok (.aload_n 0, 1) := by decide +kernel
theorem dX0_pitchWanted_12 : decode cX0_pitchWanted 12 = .ok (.getfield 23, 3) := by decide +kernel
theorem dX0_pitchWanted_15 : decode cX0_pitchWanted 15 = .ok (.iload_n 1, 1) := by decide +kernel
theorem dX0_pitchWanted_16 : decode cX0_pitchWanted 16 = .ok (.iaload, 1) := by decide +kernel
theorem dX0_pitchWanted_17 : decode cX0_pitchWanted 17 = .ok (.iconst 2, 1) := by decide +kernel
theorem dX0_pitchWanted_18 : decode cX0_pitchWanted 18 = .ok (.if_icmp .ne 12, 3) := by decide +kernel
theorem dX0_pitchWanted_21 : decode cX0_pitchWanted 21 = .ok (.aload_n 0, 1) := by decide +kernel
theorem dX0_pitchWanted_22 : decode cX0_pitchWanted 22 = .ok (.getfield 26, 3) := by decide +kernel
theorem dX0_pitchWanted_25 : decode cX0_pitchWanted 25 = .ok (.iload_n 1, 1) := by decide +kernel
theorem dX0_pitchWanted_26 : decode cX0_pitchWanted 26 = .ok (.iaload, 1) := by decide +kernel
theorem dX0_pitchWanted_27 : decode cX0_pitchWanted 27 = .ok (.iconst 1, 1) := by decide +kernel
theorem dX0_pitchWanted_28 : decode cX0_pitchWanted 28 = .ok (.isub, 1) := by decide +kernel
theorem dX0_pitchWanted_29 : decode cX0_pitchWanted 29 = .ok (.ireturn, 1) := by decide +kernel
theorem dX0_pitchWanted_30 : decode cX0_pitchWanted 30 = .ok (.aload_n 0, 1) := by decide +kernel
theorem dX0_pitchWanted_31 : decode cX0_pitchWanted 31 = .ok (.getfield 26, 3) := by decide +kernel
theorem dX0_pitchWanted_34 : decode cX0_pitchWanted 34 = .ok (.iload_n 1, 1) := by decide +kernel
theorem dX0_pitchWanted_35 : decode cX0_pitchWanted 35 = .ok (.iaload, 1) := by decide +kernel
theorem dX0_pitchWanted_36 : decode cX0_pitchWanted 36 = .ok (.ifCond .gt 24, 3) := by decide +kernel
theorem dX0_pitchWanted_39 : decode cX0_pitchWanted 39 = .ok (.aload_n 0, 1) := by decide +kernel
theorem dX0_pitchWanted_40 : decode cX0_pitchWanted 40 = .ok (.getfield 50, 3) := by decide +kernel
theorem dX0_pitchWanted_43 : decode cX0_pitchWanted 43 = .ok (.aload_n 0, 1) := by decide +kernel
theorem dX0_pitchWanted_44 : decode cX0_pitchWanted 44 = .ok (.getfield 19, 3) := by decide +kernel
theorem dX0_pitchWanted_47 : decode cX0_pitchWanted 47 = .ok (.aload_n 0, 1) := by decide +kernel
theorem dX0_pitchWanted_48 : decode cX0_pitchWanted 48 = .ok (.getfield 15, 3) := by decide +kernel
theorem dX0_pitchWanted_51 : decode cX0_pitchWanted 51 = .ok (.getfield 105, 3) := by decide +kernel
theorem dX0_pitchWanted_54 : decode cX0_pitchWanted 54 = .ok (.iload_n 1, 1) := by decide +kernel
theorem dX0_pitchWanted_55 : decode cX0_pitchWanted 55 = .ok (.iaload, 1) := by decide +kernel
theorem dX0_pitchWanted_56 : decode cX0_pitchWanted 56 = .ok (.iaload, 1) := by decide +kernel
theorem dX0_pitchWanted_57 : decode cX0_pitchWanted 57 = .ok (.if_icmp .lt 7, 3) := by decide +kernel
theorem dX0_pitchWanted_60 : decode cX0_pitchWanted 60 = .ok (.iconst 1, 1) := by decide +kernel
theorem dX0_pitchWanted_61 : decode cX0_pitchWanted 61 = .ok (.goto 4, 3) := by decide +kernel
theorem dX0_pitchWanted_64 : decode cX0_pitchWanted 64 = .ok (.iconst 0, 1) := by decide +kernel
theorem dX0_pitchWanted_65 : decode cX0_pitchWanted 65 = .ok (.istore_n 2, 1) := by decide +kernel
theorem dX0_pitchWanted_66 : decode cX0_pitchWanted 66 = .ok (.aload_n 0, 1) := by decide +kernel
theorem dX0_pitchWanted_67 : decode cX0_pitchWanted 67 = .ok (.getfield 23, 3) := by decide +kernel
theorem dX0_pitchWanted_70 : decode cX0_pitchWanted 70 = .ok (.iload_n 1, 1) := by decide +kernel
theorem dX0_pitchWanted_71 : decode cX0_pitchWanted 71 = .ok (.iaload, 1) := by decide +kernel
theorem dX0_pitchWanted_72 : decode cX0_pitchWanted 72 = .ok (.ifCond .ne 16, 3) := by decide +kernel
theorem dX0_pitchWanted_75 : decode cX0_pitchWanted 75 = .ok (.iload_n 2, 1) := by decide +kernel
theorem dX0_pitchWanted_76 : decode cX0_pitchWanted 76 = .ok (.ifCond .eq 12, 3) := by decide +kernel
theorem dX0_pitchWanted_79 : decode cX0_pitchWanted 79 = .ok (.aload_n 0, 1) := by decide +kernel
theorem dX0_pitchWanted_80 : decode cX0_pitchWanted 80 = .ok (.getfield 26, 3) := by decide +kernel
theorem dX0_pitchWanted_83 : decode cX0_pitchWanted 83 = .ok (.iload_n 1, 1) := by decide +kernel
theorem dX0_pitchWanted_84 : decode cX0_pitchWanted 84 = .ok (.iaload, 1) := by decide +kernel
theorem dX0_pitchWanted_85 : decode cX0_pitchWanted 85 = .ok (.goto 4, 3) := by decide +kernel
theorem dX0_pitchWanted_88 : decode cX0_pitchWanted 88 = .ok (.iconst (-1), 1) := by decide +kernel
theorem dX0_pitchWanted_89 : decode cX0_pitchWanted 89 = .ok (.ireturn, 1) := by decide +kernel
theorem dX0_letBegin_0 : decode cX0_letBegin 0 = .ok (.iconst 0, 1) := by decide +kernel
theorem dX0_letBegin_1 : decode cX0_letBegin 1 = .ok (.istore_n 2, 1) := by decide +kernel
theorem dX0_letBegin_2 : decode cX0_letBegin 2 = .ok (.iload_n 2, 1) := by decide +kernel
theorem dX0_letBegin_3 : decode cX0_letBegin 3 = .ok (.aload_n 0, 1) := by decide +kernel
theorem dX0_letBegin_4 : decode cX0_letBegin 4 = .ok (.getfield 9, 3) := by decide +kernel
theorem dX0_letBegin_7 : decode cX0_letBegin 7 = .ok (.getfield 118, 3) := by decide +kernel
theorem dX0_letBegin_10 : decode cX0_letBegin 10 = .ok (.iload_n 1, 1) := by decide +kernel
theorem dX0_letBegin_11 : decode cX0_letBegin 11 = .ok (.iaload, 1) := by decide +kernel
theorem dX0_letBegin_12 : decode cX0_letBegin 12 = .ok (.if_icmp .ge 81, 3) := by decide +kernel
theorem dX0_letBegin_15 : decode cX0_letBegin 15 = .ok (.aload_n 0, 1) := by decide +kernel
theorem dX0_letBegin_16 : decode cX0_letBegin 16 = .ok (.iload_n 1, 1) := by decide +kernel
theorem dX0_letBegin_17 : decode cX0_letBegin 17 = .ok (.invokevirtual 121, 3) := by decide +kernel
theorem dX0_letBegin_20 : decode cX0_letBegin 20 = .ok (.istore_n 3, 1) := by decide +kernel
theorem dX0_letBegin_21 : decode cX0_letBegin 21 = .ok (.iload_n 3, 1) := by decide +kernel
theorem dX0_letBegin_22 : decode cX0_letBegin 22 = .ok (.iconst (-1), 1) := by decide +kernel
theorem dX0_letBegin_23 : decode cX0_letBegin 23 = .ok (.if_icmp .ne 4, 3) := by decide +kernel
theorem dX0_letBegin_26 : decode cX0_letBegin 26 = .ok (.return_, 1) := by decide +kernel
theorem dX0_letBegin_27 : decode cX0_letBegin 27 = .ok (.aload_n 0, 1) := by decide +kernel
theorem dX0_letBegin_28 : decode cX0_letBegin 28 = .ok (.getfield 44, 3) := by decide +kernel
theorem dX0_letBegin_31 : decode cX0_letBegin 31 = .ok (.iload_n 3, 1) := by decide +kernel
theorem dX0_letBegin_32 : decode cX0_letBegin 32 = .ok (.iconst (-1), 1) := by decide +kernel
theorem dX0_letBegin_33 : decode cX0_letBegin 33 = .ok (.iastore, 1) := by decide +kernel
theorem dX0_letBegin_34 : decode cX0_letBegin 34 = .ok (.aload_n 0, 1) := by decide +kernel
theorem dX0_letBegin_35 : decode cX0_letBegin 35 = .ok (.getfield 35, 3) := by decide +kernel
theorem dX0_letBegin_38 : decode cX0_letBegin 38 = .ok (.iload_n 3, 1) := by decide +kernel
theorem dX0_letBegin_39 : decode cX0_letBegin 39 = .ok (.iconst (-1), 1) := by decide +kernel
theorem dX0_letBegin_40 : decode cX0_letBegin 40 = .ok (.iastore, 1) := by decide +kernel
theorem dX0_letBegin_41 : decode cX0_letBegin 41 = .ok (.aload_n 0, 1) := by decide +kernel
theorem dX0_letBegin_42 : decode cX0_letBegin 42 = .ok (.iload_n 3, 1) := by decide +kernel
theorem dX0_letBegin_43 : decode cX0_letBegin 43 = .ok (.iload_n 1, 1) := by decide +kernel
theorem dX0_letBegin_44 : decode cX0_letBegin 44 = .ok (.aload_n 0, 1) := by decide +kernel
theorem dX0_letBegin_45 : decode cX0_letBegin 45 = .ok (.getfield 23, 3) := by decide +kernel
theorem dX0_letBegin_48 : decode cX0_letBegin 48 = .ok (.iload_n 3, 1) := by decide +kernel
theorem dX0_letBegin_49 : decode cX0_letBegin 49 = .ok (.iaload, 1) := by decide +kernel
theorem dX0_letBegin_50 : decode cX0_letBegin 50 = .ok (.ifCond .ne 7, 3) := by decide +kernel
theorem dX0_letBegin_53 : decode cX0_letBegin 53 = .ok (.iconst 1, 1) := by decide +kernel
theorem dX0_letBegin_54 : decode cX0_letBegin 54 = .ok (.goto 4, 3) := by decide +kernel
theorem dX0_letBegin_57 : decode cX0_letBegin 57 = .ok (.iconst 0, 1) := by decide +kernel
theorem dX0_letBegin_58 : decode cX0_letBegin 58 = .ok (.invokevirtual 124, 3) := by decide +kernel
theorem dX0_letBegin_61 : decode cX0_letBegin 61 = .ok (.istore 4, 2) := by decide +kernel
theorem dX0_letBegin_63 : decode cX0_letBegin 63 = .ok (.aload_n 0, 1) := by decide +kernel
theorem dX0_letBegin_64 : decode cX0_letBegin 64 = .ok (.getfield 29, 3) := by decide +kernel
theorem dX0_letBegin_67 : decode cX0_letBegin 67 = .ok (.iload_n 3, 1) := by decide +kernel
theorem dX0_letBegin_68 : decode cX0_letBegin 68 = .ok (.aload_n 0, 1) := by decide +kernel
theorem dX0_letBegin_69 : decode cX0_letBegin 69 = .ok (.getfield 32, 3) := by decide +kernel
theorem dX0_letBegin_72 : decode cX0_letBegin 72 = .ok (.iload_n 3, 1) := by decide +kernel
theorem dX0_letBegin_73 : decode cX0_letBegin 73 = .ok (.iaload, 1) := by decide +kernel
theorem dX0_letBegin_74 : decode cX0_letBegin 74 = .ok (.ifCond .ne 10, 3) := by decide +kernel
theorem dX0_letBegin_77 : decode cX0_letBegin 77 = .ok (.iconst 2, 1) := by decide +kernel
theorem dX0_letBegin_78 : decode cX0_letBegin 78 = .ok (.iload 4, 2) := by decide +kernel
theorem dX0_letBegin_80 : decode cX0_letBegin 80 = .ok (.imul, 1) := by decide +kernel
theorem dX0_letBegin_81 : decode cX0_letBegin 81 = .ok (.goto 5, 3) := by decide +kernel
theorem dX0_letBegin_84 : decode cX0_letBegin 84 = .ok (.iload 4, 2) := by decide +kernel
theorem dX0_letBegin_86 : decode cX0_letBegin 86 = .ok (.iastore, 1) := by decide +kernel
theorem dX0_letBegin_87 : decode cX0_letBegin 87 = .ok (.iinc 2 1, 3) := by decide +kernel
theorem dX0_letBegin_90 : decode cX0_letBegin 90 = .ok (.goto (-88), 3) := by decide +kernel
theorem dX0_letBegin_93 : decode cX0_letBegin 93 = .ok (.return_, 1) := by decide +kernel
theorem dX0_firstInLine_0 : decode cX0_firstInLine 0 = .ok (.iconst (-1), 1) := by decide +kernel
theorem dX0_firstInLine_1 : decode cX0_firstInLine 1 = .ok (.istore_n 2, 1) := by decide +kernel
theorem dX0_firstInLine_2 : decode cX0_firstInLine 2 = .ok (.iconst 0, 1) := by decide +kernel
theorem dX0_firstInLine_3 : decode cX0_firstInLine 3 = .ok (.istore_n 3, 1) := by decide +kernel
theorem dX0_firstInLine_4 : decode cX0_firstInLine 4 = .ok (.iload_n 3, 1) := by decide +kernel
theorem dX0_firstInLine_5 : decode cX0_firstInLine 5 = .ok (.aload_n 0, 1) := by decide +kernel
theorem dX0_firstInLine_6 : decode cX0_firstInLine 6 = .ok (.getfield 15, 3) := by decide +kernel
theorem dX0_firstInLine_9 : decode cX0_firstInLine 9 = .ok (.getfield 54, 3) := by decide +kernel
theorem dX0_firstInLine_12 : decode cX0_firstInLine 12 = .ok (.if_icmp .ge 41, 3) := by decide +kernel
theorem dX0_firstInLine_15 : decode cX0_firstInLine 15 = .ok (.aload_n 0, 1) := by decide +kernel
theorem dX0_firstInLine_16 : decode cX0_firstInLine 16 = .ok (.getfield 44, 3) := by decide +kernel
theorem dX0_firstInLine_19 : decode cX0_firstInLine 19 = .ok (.iload_n 3, 1) := by decide +kernel
theorem dX0_firstInLine_20 : decode cX0_firstInLine 20 = .ok (.iaload, 1) := by decide +kernel
theorem dX0_firstInLine_21 : decode cX0_firstInLine 21 = .ok (.iload_n 1, 1) := by decide +kernel
theorem dX0_firstInLine_22 : decode cX0_firstInLine 22 = .ok (.if_icmp .ne 25, 3) := by decide +kernel
theorem dX0_firstInLine_25 : decode cX0_firstInLine 25 = .ok (.iload_n 2, 1) := by decide +kernel
theorem dX0_firstInLine_26 : decode cX0_firstInLine 26 = .ok (.iconst (-1), 1) := by decide +kernel
theorem dX0_firstInLine_27 : decode cX0_firstInLine 27 = .ok (.if_icmp .eq 18, 3) := by decide +kernel
theorem dX0_firstInLine_30 : decode cX0_firstInLine 30 = .ok (.aload_n 0, 1) := by decide +kernel
theorem dX0_firstInLine_31 : decode cX0_firstInLine 31 = .ok (.getfield 47, 3) := by decide +kernel
theorem dX0_firstInLine_34 : decode cX0_firstInLine 34 = .ok (.iload_n 3, 1) := by decide +kernel
theorem dX0_firstInLine_35 : decode cX0_firstInLine 35 = .ok (.iaload, 1) := by decide +kernel
theorem dX0_firstInLine_36 : decode cX0_firstInLine 36 = .ok (.aload_n 0, 1) := by decide +kernel
theorem dX0_firstInLine_37 : decode cX0_firstInLine 37 = .ok (.getfield 47, 3) := by decide +kernel
theorem dX0_firstInLine_40 : decode cX0_firstInLine 40 = .ok (.iload_n 2, 1) := by decide +kernel
theorem dX0_firstInLine_41 : decode cX0_firstInLine 41 = .ok (.iaload, 1) := by decide +kernel
theorem dX0_firstInLine_42 : decode cX0_firstInLine 42 = .ok (.if_icmp .ge 5, 3) := by decide +kernel
theorem dX0_firstInLine_45 : decode cX0_firstInLine 45 = .ok (.iload_n 3, 1) := by decide +kernel
theorem dX0_firstInLine_46 : decode cX0_firstInLine 46 = .ok (.istore_n 2, 1) := by decide +kernel
theorem dX0_firstInLine_47 : decode cX0_firstInLine 47 = .ok (.iinc 3 1, 3) := by decide +kernel
theorem dX0_firstInLine_50 : decode cX0_firstInLine 50 = .ok (.goto (-46), 3) := by decide +kernel
theorem dX0_firstInLine_53 : decode cX0_firstInLine 53 = .ok (.iload_n 2, 1) := by decide +kernel
theorem dX0_firstInLine_54 : decode cX0_firstInLine 54 = .ok (.ireturn, 1) := by decide +kernel
theorem dX0_hoursFor_0 : decode cX0_hoursFor 0 = .ok (.iload_n 3, 1) := by decide +kernel
theorem dX0_hoursFor_1 : decode cX0_hoursFor 1 = .ok (.ifCond .eq 25, 3) := by decide +kernel
theorem dX0_hoursFor_4 : decode cX0_hoursFor 4 = .ok (.aload_n 0, 1) := by decide +kernel
theorem dX0_hoursFor_5 : decode cX0_hoursFor 5 = .ok (.getfield 9, 3) := by decide +kernel
theorem dX0_hoursFor_8 : decode cX0_hoursFor 8 = .ok (.getfield 128, 3) := by decide +kernel
theorem dX0_hoursFor_11 : decode cX0_hoursFor 11 = .ok (.iload_n 2, 1) := by decide +kernel
theorem dX0_hoursFor_12 : decode cX0_hoursFor 12 = .ok (.iaload, 1) := by decide +kernel
theorem dX0_hoursFor_13 : decode cX0_hoursFor 13 = .ok (.aload_n 0, 1) := by decide +kernel
theorem dX0_hoursFor_14 : decode cX0_hoursFor 14 = .ok (.getfield 15, 3) := by decide +kernel
theorem dX0_hoursFor_17 : decode cX0_hoursFor 17 = .ok (.getfield 131, 3) := by decide +kernel
theorem dX0_hoursFor_20 : decode cX0_hoursFor 20 = .ok (.iload_n 1, 1) := by decide +kernel
theorem dX0_hoursFor_21 : decode cX0_hoursFor 21 = .ok (.iaload, 1) := by decide +kernel
theorem dX0_hoursFor_22 : decode cX0_hoursFor 22 = .ok (.iadd, 1) := by decide +kernel
theorem dX0_hoursFor_23 : decode cX0_hoursFor 23 = .ok (.goto 12, 3) := by decide +kernel
theorem dX0_hoursFor_26 : decode cX0_hoursFor 26 = .ok (.aload_n 0, 1) := by decide +kernel
theorem dX0_hoursFor_27 : decode cX0_hoursFor 27 = .ok (.getfield 9, 3) := by decide +kernel
theorem dX0_hoursFor_30 : decode cX0_hoursFor 30 = .ok (.getfield 128, 3) := by decide +kernel
theorem dX0_hoursFor_33 : decode cX0_hoursFor 33 = .ok (.iload_n 2, 1) := by decide +kernel
theorem dX0_hoursFor_34 : decode cX0_hoursFor 34 = .ok (.iaload, 1) := by decide +kernel
theorem dX0_hoursFor_35 : decode cX0_hoursFor 35 = .ok (.ireturn, 1) := by decide +kernel
theorem dX0_breathe_0 : decode cX0_breathe 0 = .ok (.aload_n 0, 1) := by decide +kernel
theorem dX0_breathe_1 : decode cX0_breathe 1 = .ok (.getfield 23, 3) := by decide +kernel
theorem dX0_breathe_4 : decode cX0_breathe 4 = .ok (.iload_n 1, 1) := by decide +kernel
theorem dX0_breathe_5 : decode cX0_breathe 5 = .ok (.iaload, 1) := by decide +kernel
theorem dX0_breathe_6 : decode cX0_breathe 6 = .ok (.iconst 3, 1) := by decide +kernel
theorem dX0_breathe_7 : decode cX0_breathe 7 = .ok (.if_icmp .eq 13, 3) := by decide +kernel
theorem dX0_breathe_10 : decode cX0_breathe 10 = .ok (.aload_n 0, 1) := by decide +kernel
theorem dX0_breathe_11 : decode cX0_breathe 11 = .ok (.getfield 23, 3) := by decide +kernel
theorem dX0_breathe_14 : decode cX0_breathe 14 = .ok (.iload_n 1, 1) := by decide +kernel
theorem dX0_breathe_15 : decode cX0_breathe 15 = .ok (.iaload, 1) := by decide +kernel
theorem dX0_breathe_16 : decode cX0_breathe 16 = .ok (.iconst 4, 1) := by decide +kernel
theorem dX0_breathe_17 : decode cX0_breathe 17 = .ok (.if_icmp .ne 4, 3) := by decide +kernel
theorem dX0_breathe_20 : decode cX0_breathe 20 = .ok (.return_, 1) := by decide +kernel
theorem dX0_breathe_21 : decode cX0_breathe 21 = .ok (.aload_n 0, 1) := by decide +kernel
theorem dX0_breathe_22 : decode cX0_breathe 22 = .ok (.getfield 29, 3) := by decide +kernel
theorem dX0_breathe_25 : decode cX0_breathe 25 = .ok (.iload_n 1, 1) := by decide +kernel
theorem dX0_breathe_26 : decode cX0_breathe 26 = .ok (.iaload, 1) := by decide +kernel
theorem dX0_breathe_27 : decode cX0_breathe 27 = .ok (.ifCond .ne 7, 3) := by decide +kernel
theorem dX0_breathe_30 : decode cX0_breathe 30 = .ok (.iconst 1, 1) := by decide +kernel
theorem dX0_breathe_31 : decode cX0_breathe 31 = .ok (.goto 4, 3) := by decide +kernel
theorem dX0_breathe_34 : decode cX0_breathe 34 = .ok (.iconst 0, 1) := by decide +kernel
theorem dX0_breathe_35 : decode cX0_breathe 35 = .ok (.istore_n 2, 1) := by decide +kernel
theorem dX0_breathe_36 : decode cX0_breathe 36 = .ok (.iload_n 2, 1) := by decide +kernel
theorem dX0_breathe_37 : decode cX0_breathe 37 = .ok (.ifCond .eq 12, 3) := by decide +kernel
theorem dX0_breathe_40 : decode cX0_breathe 40 = .ok (.aload_n 0, 1) := by decide +kernel
theorem dX0_breathe_41 : decode cX0_breathe 41 = .ok (.getfield 26, 3) := by decide +kernel
theorem dX0_breathe_44 : decode cX0_breathe 44 = .ok (.iload_n 1, 1) := by decide +kernel
theorem dX0_breathe_45 : decode cX0_breathe 45 = .ok (.iaload, 1) := by decide +kernel
theorem dX0_breathe_46 : decode cX0_breathe 46 = .ok (.goto 8, 3) := by decide +kernel
theorem dX0_breathe_49 : decode cX0_breathe 49 = .ok (.aload_n 0, 1) := by decide +kernel
theorem dX0_breathe_50 : decode cX0_breathe 50 = .ok (.iload_n 1, 1) := by decide +kernel
theorem dX0_breathe_51 : decode cX0_breathe 51 = .ok (.invokevirtual 134, 3) := by decide +kernel
theorem dX0_breathe_54 : decode cX0_breathe 54 = .ok (.istore_n 3, 1) := by decide +kernel
theorem dX0_breathe_55 : decode cX0_breathe 55 = .ok (.iload_n 3, 1) := by decide +kernel
theorem dX0_breathe_56 : decode cX0_breathe 56 = .ok (.aload_n 0, 1) := by decide +kernel
theorem dX0_breathe_57 : decode cX0_breathe 57 = .ok (.getfield 9, 3) := by decide +kernel
theorem dX0_breathe_60 : decode cX0_breathe 60 = .ok (.getfield 137, 3) := by decide +kernel
theorem dX0_breathe_63 : decode cX0_breathe 63 = .ok (.if_icmp .ge 4, 3) := by decide +kernel
theorem dX0_breathe_66 : decode cX0_breathe 66 = .ok (.return_, 1) := by decide +kernel
theorem dX0_breathe_67 : decode cX0_breathe 67 = .ok (.aload_n 0, 1) := by decide +kernel
theorem dX0_breathe_68 : decode cX0_breathe 68 = .ok (.getfield 32, 3) := by decide +kernel
theorem dX0_breathe_71 : decode cX0_breathe 71 = .ok (.iload_n 1, 1) := by decide +kernel
theorem dX0_breathe_72 : decode cX0_breathe 72 = .ok (.aload_n 0, 1) := by decide +kernel
theorem dX0_breathe_73 : decode cX0_breathe 73 = .ok (.getfield 32, 3) := by decide +kernel
theorem dX0_breathe_76 : decode cX0_breathe 76 = .ok (.iload_n 1, 1) := by decide +kernel
theorem dX0_breathe_77 : decode cX0_breathe 77 = .ok (.iaload, 1) := by decide +kernel
theorem dX0_breathe_78 : decode cX0_breathe 78 = .ok (.iconst 1, 1) := by decide +kernel
theorem dX0_breathe_79 : decode cX0_breathe 79 = .ok (.isub, 1) := by decide +kernel
theorem dX0_breathe_80 : decode cX0_breathe 80 = .ok (.iconst 0, 1) := by decide +kernel
theorem dX0_breathe_81 : decode cX0_breathe 81 = .ok (.invokestatic 140, 3) := by decide +kernel
theorem dX0_breathe_84 : decode cX0_breathe 84 = .ok (.iastore, 1) := by decide +kernel
theorem dX0_breathe_85 : decode cX0_breathe 85 = .ok (.iload_n 2, 1) := by decide +kernel
theorem dX0_breathe_86 : decode cX0_breathe 86 = .ok (.ifCond .eq 35, 3) := by decide +kernel
theorem dX0_breathe_89 : decode cX0_breathe 89 = .ok (.aload_n 0, 1) := by decide +kernel
theorem dX0_breathe_90 : decode cX0_breathe 90 = .ok (.getfield 32, 3) := by decide +kernel
theorem dX0_breathe_93 : decode cX0_breathe 93 = .ok (.iload_n 1, 1) := by decide +kernel
theorem dX0_breathe_94 : decode cX0_breathe 94 = .ok (.iaload, 1) := by decide +kernel
theorem dX0_breathe_95 : decode cX0_breathe 95 = .ok (.ifCond .ne 26, 3) := by decide +kernel
theorem dX0_breathe_98 : decode cX0_breathe 98 = .ok (.aload_n 0, 1) := by decide +kernel
theorem dX0_breathe_99 : decode cX0_breathe 99 = .ok (.getfield 50, 3) := by decide +kernel
theorem dX0_breathe_102 : decode cX0_breathe 102 = .ok (.aload_n 0, 1) := by decide +kernel
theorem dX0_breathe_103 : decode cX0_breathe 103 = .ok (.getfield 35, 3) := by decide +kernel
theorem dX0_breathe_106 : decode cX0_breathe 106 = .ok (.iload_n 1, 1) := by decide +kernel
theorem dX0_breathe_107 : decode cX0_breathe 107 = .ok (.iaload, 1) := by decide +kernel
theorem dX0_breathe_108 : decode cX0_breathe 108 = .ok (.isub, 1) := by decide +kernel
theorem dX0_breathe_109 : decode cX0_breathe 109 = .ok (.bipush 6, 2) := by decide +kernel
theorem dX0_breathe_111 : decode cX0_breathe 111 = .ok (.if_icmp .lt 10, 3) := by decide +kernel
theorem dX0_breathe_114 : decode cX0_breathe 114 = .ok (.aload_n 0, 1) := by decide +kernel
theorem dX0_breathe_115 : decode cX0_breathe 115 = .ok (.getfield 23, 3) := by decide +kernel
theorem dX0_breathe_118 : decode cX0_breathe 118 = .ok (.iload_n 1, 1) := by decide +kernel
theorem dX0_breathe_119 : decode cX0_breathe 119 = .ok (.iconst 4, 1) := by decide +kernel
theorem dX0_breathe_120 : decode cX0_breathe 120 = .ok (.iastore, 1) := by decide +kernel
theorem dX0_breathe_121 : decode cX0_breathe 121 = .ok (.return_, 1) := by decide +kernel
theorem dX0_pitchUnder_0 : decode cX0_pitchUnder 0 = .ok (.aload_n 0, 1) := by decide +kernel
theorem dX0_pitchUnder_1 : decode cX0_pitchUnder 1 = .ok (.getfield 23, 3) := by decide +kernel
theorem dX0_pitchUnder_4 : decode cX0_pitchUnder 4 = .ok (.iload_n 1, 1) := by decide +kernel
theorem dX0_pitchUnder_5 : decode cX0_pitchUnder 5 = .ok (.iaload, 1) := by decide +kernel
theorem dX0_pitchUnder_6 : decode cX0_pitchUnder 6 = .ok (.ifCond .ne 12, 3) := by decide +kernel
theorem dX0_pitchUnder_9 : decode cX0_pitchUnder 9 = .ok (.aload_n 0, 1) := by decide +kernel
theorem dX0_pitchUnder_10 : decode cX0_pitchUnder 10 = .ok (.getfield 26, 3) := by decide +kernel
theorem dX0_pitchUnder_13 : decode cX0_pitchUnder 13 = .ok (.iload_n 1, 1) := by decide +kernel
theorem dX0_pitchUnder_14 : decode cX0_pitchUnder 14 = .ok (.iaload, 1) := by decide +kernel
theorem dX0_pitchUnder_15 : decode cX0_pitchUnder 15 = .ok (.goto 11, 3) := by decide +kernel
theorem dX0_pitchUnder_18 : decode cX0_pitchUnder 18 = .ok (.aload_n 0, 1) := by decide +kernel
theorem dX0_pitchUnder_19 : decode cX0_pitchUnder 19 = .ok (.getfield 26, 3) := by decide +kernel
theorem dX0_pitchUnder_22 : decode cX0_pitchUnder 22 = .ok (.iload_n 1, 1) := by decide +kernel
theorem dX0_pitchUnder_23 : decode cX0_pitchUnder 23 = .ok (.iaload, 1) := by decide +kernel
theorem dX0_pitchUnder_24 : decode cX0_pitchUnder 24 = .ok (.iconst 1, 1) := by decide +kernel
theorem dX0_pitchUnder_25 : decode cX0_pitchUnder 25 = .ok (.isub, 1) := by decide +kernel
theorem dX0_pitchUnder_26 : decode cX0_pitchUnder 26 = .ok (.ireturn, 1) := by decide +kernel
theorem dX0_summits_0 : decode cX0_summits 0 = .ok (.iconst 0, 1) := by decide +kernel
theorem dX0_summits_1 : decode cX0_summits 1 = .ok (.istore_n 1, 1) := by decide +kernel
theorem dX0_summits_2 : decode cX0_summits 2 = .ok (.iconst 0, 1) := by decide +kernel
theorem dX0_summits_3 : decode cX0_summits 3 = .ok (.istore_n 2, 1) := by decide +kernel
theorem dX0_summits_4 : decode cX0_summits 4 = .ok (.iload_n 2, 1) := by decide +kernel
theorem dX0_summits_5 : decode cX0_summits 5 = .ok (.aload_n 0, 1) := by decide +kernel
theorem dX0_summits_6 : decode cX0_summits 6 = .ok (.getfield 15, 3) := by decide +kernel
theorem dX0_summits_9 : decode cX0_summits 9 = .ok (.getfield 54, 3) := by decide +kernel
theorem dX0_summits_12 : decode cX0_summits 12 = .ok (.if_icmp .ge 22, 3) := by decide +kernel
theorem dX0_summits_15 : decode cX0_summits 15 = .ok (.aload_n 0, 1) := by decide +kernel
theorem dX0_summits_16 : decode cX0_summits 16 = .ok (.getfield 38, 3) := by decide +kernel
theorem dX0_summits_19 : decode cX0_summits 19 = .ok (.iload_n 2, 1) := by decide +kernel
theorem dX0_summits_20 : decode cX0_summits 20 = .ok (.iaload, 1) := by decide +kernel
theorem dX0_summits_21 : decode cX0_summits 21 = .ok (.iconst (-1), 1) := by decide +kernel
theorem dX0_summits_22 : decode cX0_summits 22 = .ok (.if_icmp .eq 6, 3) := by decide +kernel
theorem dX0_summits_25 : decode cX0_summits 25 = .ok (.iinc 1 1, 3) := by decide +kernel
theorem dX0_summits_28 : decode cX0_summits 28 = .ok (.iinc 2 1, 3) := by decide +kernel
theorem dX0_summits_31 : decode cX0_summits 31 = .ok (.goto (-27), 3) := by decide +kernel
theorem dX0_summits_34 : decode cX0_summits 34 = .ok (.iload_n 1, 1) := by decide +kernel
theorem dX0_summits_35 : decode cX0_summits 35 = .ok (.ireturn, 1) := by decide +kernel
theorem dX0_inState_0 : decode cX0_inState 0 = .ok (.iconst 0, 1) := by decide +kernel
theorem dX0_inState_1 : decode cX0_inState 1 = .ok (.istore_n 2, 1) := by decide +kernel
theorem dX0_inState_2 : decode cX0_inState 2 = .ok (.iconst 0, 1) := by decide +kernel
theorem dX0_inState_3 : decode cX0_inState 3 = .ok (.istore_n 3, 1) := by decide +kernel
theorem dX0_inState_4 : decode cX0_inState 4 = .ok (.iload_n 3, 1) := by decide +kernel
theorem dX0_inState_5 : decode cX0_inState 5 = .ok (.aload_n 0, 1) := by decide +kernel
theorem dX0_inState_6 : decode cX0_inState 6 = .ok (.getfield 15, 3) := by decide +kernel
theorem dX0_inState_9 : decode cX0_inState 9 = .ok (.getfield 54, 3) := by decide +kernel
theorem dX0_inState_12 : decode cX0_inState 12 = .ok (.if_icmp .ge 22, 3) := by decide +kernel
theorem dX0_inState_15 : decode cX0_inState 15 = .ok (.aload_n 0, 1) := by decide +kernel
theorem dX0_inState_16 : decode cX0_inState 16 = .ok (.getfield 23, 3) := by decide +kernel
theorem dX0_inState_19 : decode cX0_inState 19 = .ok (.iload_n 3, 1) := by decide +kernel
theorem dX0_inState_20 : decode cX0_inState 20 = .ok (.iaload, 1) := by decide +kernel
theorem dX0_inState_21 : decode cX0_inState 21 = .ok (.iload_n 1, 1) := by decide +kernel
theorem dX0_inState_22 : decode cX0_inState 22 = .ok (.if_icmp .ne 6, 3) := by decide +kernel
theorem dX0_inState_25 : decode cX0_inState 25 = .ok (.iinc 2 1, 3) := by decide +kernel
theorem dX0_inState_28 : decode cX0_inState 28 = .ok (.iinc 3 1, 3) := by decide +kernel
theorem dX0_inState_31 : decode cX0_inState 31 = .ok (.goto (-27), 3) := by decide +kernel
theorem dX0_inState_34 : decode cX0_inState 34 = .ok (.iload_n 2, 1) := by decide +kernel
theorem dX0_inState_35 : decode cX0_inState 35 = .ok (.ireturn, 1) := by decide +kernel
theorem dX0_allWaits_0 : decode cX0_allWaits 0 = .ok (.iconst 0, 1) := by decide +kernel
theorem dX0_allWaits_1 : decode cX0_allWaits 1 = .ok (.istore_n 1, 1) := by decide +kernel
theorem dX0_allWaits_2 : decode cX0_allWaits 2 = .ok (.iconst 0, 1) := by decide +kernel
theorem dX0_allWaits_3 : decode cX0_allWaits 3 = .ok (.istore_n 2, 1) := by decide +kernel
theorem dX0_allWaits_4 : decode cX0_allWaits 4 = .ok (.iload_n 2, 1) := by decide +kernel
theorem dX0_allWaits_5 : decode cX0_allWaits 5 = .ok (.aload_n 0, 1) := by decide +kernel
theorem dX0_allWaits_6 : decode cX0_allWaits 6 = .ok (.getfield 15, 3) := by decide +kernel
theorem dX0_allWaits_9 : decode cX0_allWaits 9 = .ok (.getfield 54, 3) := by decide +kernel
theorem dX0_allWaits_12 : decode cX0_allWaits 12 = .ok (.if_icmp .ge 18, 3) := by decide +kernel
theorem dX0_allWaits_15 : decode cX0_allWaits 15 = .ok (.iload_n 1, 1) := by decide +kernel
theorem dX0_allWaits_16 : decode cX0_allWaits 16 = .ok (.aload_n 0, 1) := by decide +kernel
theorem dX0_allWaits_17 : decode cX0_allWaits 17 = .ok (.getfield 41, 3) := by decide +kernel
theorem dX0_allWaits_20 : decode cX0_allWaits 20 = .ok (.iload_n 2, 1) := by decide +kernel
theorem dX0_allWaits_21 : decode cX0_allWaits 21 = .ok (.iaload, 1) := by decide +kernel
theorem dX0_allWaits_22 : decode cX0_allWaits 22 = .ok (.iadd, 1) := by decide +kernel
theorem dX0_allWaits_23 : decode cX0_allWaits 23 = .ok (.istore_n 1, 1) := by decide +kernel
theorem dX0_allWaits_24 : decode cX0_allWaits 24 = .ok (.iinc 2 1, 3) := by decide +kernel
theorem dX0_allWaits_27 : decode cX0_allWaits 27 = .ok (.goto (-23), 3) := by decide +kernel
theorem dX0_allWaits_30 : decode cX0_allWaits 30 = .ok (.iload_n 1, 1) := by decide +kernel
theorem dX0_allWaits_31 : decode cX0_allWaits 31 = .ok (.ireturn, 1) := by decide +kernel
theorem dX0_howManyOn_0 : decode cX0_howManyOn 0 = .ok (.iconst 0, 1) := by decide +kernel
theorem dX0_howManyOn_1 : decode cX0_howManyOn 1 = .ok (.istore_n 2, 1) := by decide +kernel
theorem dX0_howManyOn_2 : decode cX0_howManyOn 2 = .ok (.iconst 0, 1) := by decide +kernel
theorem dX0_howManyOn_3 : decode cX0_howManyOn 3 = .ok (.istore_n 3, 1) := by decide +kernel
theorem dX0_howManyOn_4 : decode cX0_howManyOn 4 = .ok (.iload_n 3, 1) := by decide +kernel
theorem dX0_howManyOn_5 : decode cX0_howManyOn 5 = .ok (.aload_n 0, 1) := by decide +kernel
theorem dX0_howManyOn_6 : decode cX0_howManyOn 6 = .ok (.getfield 15, 3) := by decide +kernel
theorem dX0_howManyOn_9 : decode cX0_howManyOn 9 = .ok (.getfield 54, 3) := by decide +kernel
theorem dX0_howManyOn_12 : decode cX0_howManyOn 12 = .ok (.if_icmp .ge 30, 3) := by decide +kernel
theorem dX0_howManyOn_15 : decode cX0_howManyOn 15 = .ok (.aload_n 0, 1) := by decide +kernel
theorem dX0_howManyOn_16 : decode cX0_howManyOn 16 = .ok (.getfield 29, 3) := by decide +kernel
theorem dX0_howManyOn_19 : decode cX0_howManyOn 19 = .ok (.iload_n 3, 1) := by decide +kernel
theorem dX0_howManyOn_20 : decode cX0_howManyOn 20 = .ok (.iaload, 1) := by decide +kernel
theorem dX0_howManyOn_21 : decode cX0_howManyOn 21 = .ok (.ifCond .le 15, 3) := by decide +kernel
theorem dX0_howManyOn_24 : decode cX0_howManyOn 24 = .ok (.aload_n 0, 1) := by decide +kernel
theorem dX0_howManyOn_25 : decode cX0_howManyOn 25 = .ok (.iload_n 3, 1) := by decide +kernel
theorem dX0_howManyOn_26 : decode cX0_howManyOn 26 = .ok (.invokevirtual 134, 3) := by decide +kernel
theorem dX0_howManyOn_29 : decode cX0_howManyOn 29 = .ok (.iload_n 1, 1) := by decide +kernel
theorem dX0_howManyOn_30 : decode cX0_howManyOn 30 = .ok (.if_icmp .ne 6, 3) := by decide +kernel
theorem dX0_howManyOn_33 : decode cX0_howManyOn 33 = .ok (.iinc 2 1, 3) := by decide +kernel
theorem dX0_howManyOn_36 : decode cX0_howManyOn 36 = .ok (.iinc 3 1, 3) := by decide +kernel
theorem dX0_howManyOn_39 : decode cX0_howManyOn 39 = .ok (.goto (-35), 3) := by decide +kernel
theorem dX0_howManyOn_42 : decode cX0_howManyOn 42 = .ok (.iload_n 2, 1) := by decide +kernel
theorem dX0_howManyOn_43 : decode cX0_howManyOn 43 = .ok (.ireturn, 1) := by decide +kernel
theorem dX0_howManyAt_0 : decode cX0_howManyAt 0 = .ok (.iconst 0, 1) := by decide +kernel
theorem dX0_howManyAt_1 : decode cX0_howManyAt 1 = .ok (.istore_n 2, 1) := by decide +kernel
theorem dX0_howManyAt_2 : decode cX0_howManyAt 2 = .ok (.iconst 0, 1) := by decide +kernel
theorem dX0_howManyAt_3 : decode cX0_howManyAt 3 = .ok (.istore_n 3, 1) := by decide +kernel
theorem dX0_howManyAt_4 : decode cX0_howManyAt 4 = .ok (.iload_n 3, 1) := by decide +kernel
theorem dX0_howManyAt_5 : decode cX0_howManyAt 5 = .ok (.aload_n 0, 1) := by decide +kernel
theorem dX0_howManyAt_6 : decode cX0_howManyAt 6 = .ok (.getfield 15, 3) := by decide +kernel
theorem dX0_howManyAt_9 : decode cX0_howManyAt 9 = .ok (.getfield 54, 3) := by decide +kernel
theorem dX0_howManyAt_12 : decode cX0_howManyAt 12 = .ok (.if_icmp .ge 31, 3) := by decide +kernel
theorem dX0_howManyAt_15 : decode cX0_howManyAt 15 = .ok (.aload_n 0, 1) := by decide +kernel
theorem dX0_howManyAt_16 : decode cX0_howManyAt 16 = .ok (.getfield 29, 3) := by decide +kernel
theorem dX0_howManyAt_19 : decode cX0_howManyAt 19 = .ok (.iload_n 3, 1) := by decide +kernel
theorem dX0_howManyAt_20 : decode cX0_howManyAt 20 = .ok (.iaload, 1) := by decide +kernel
theorem dX0_howManyAt_21 : decode cX0_howManyAt 21 = .ok (.ifCond .ne 16, 3) := by decide +kernel
theorem dX0_howManyAt_24 : decode cX0_howManyAt 24 = .ok (.aload_n 0, 1) := by decide +kernel
theorem dX0_howManyAt_25 : decode cX0_howManyAt 25 = .ok (.getfield 26, 3) := by decide +kernel
theorem dX0_howManyAt_28 : decode cX0_howManyAt 28 = .ok (.iload_n 3, 1) := by decide +kernel
theorem dX0_howManyAt_29 : decode cX0_howManyAt 29 = .ok (.iaload, 1) := by decide +kernel
theorem dX0_howManyAt_30 : decode cX0_howManyAt 30 = .ok (.iload_n 1, 1) := by decide +kernel
theorem dX0_howManyAt_31 : decode cX0_howManyAt 31 = .ok (.if_icmp .ne 6, 3) := by decide +kernel
theorem dX0_howManyAt_34 : decode cX0_howManyAt 34 = .ok (.iinc 2 1, 3) := by decide +kernel
theorem dX0_howManyAt_37 : decode cX0_howManyAt 37 = .ok (.iinc 3 1, 3) := by decide +kernel
theorem dX0_howManyAt_40 : decode cX0_howManyAt 40 = .ok (.goto (-36), 3) := by decide +kernel
theorem dX0_howManyAt_43 : decode cX0_howManyAt 43 = .ok (.iload_n 2, 1) := by decide +kernel
theorem dX0_howManyAt_44 : decode cX0_howManyAt 44 = .ok (.ireturn, 1) := by decide +kernel
theorem dX0_fetcherTo_0 : decode cX0_fetcherTo 0 = .ok (.iconst (-1), 1) := by decide +kernel
theorem dX0_fetcherTo_1 : decode cX0_fetcherTo 1 = .ok (.istore_n 2, 1) := by decide +kernel
theorem dX0_fetcherTo_2 : decode cX0_fetcherTo 2 = .ok (.iconst 0, 1) := by decide +kernel
theorem dX0_fetcherTo_3 : decode cX0_fetcherTo 3 = .ok (.istore_n 3, 1) := by decide +kernel
theorem dX0_fetcherTo_4 : decode cX0_fetcherTo 4 = .ok (.iconst 0, 1) := by decide +kernel
theorem dX0_fetcherTo_5 : decode cX0_fetcherTo 5 = .ok (.istore 4, 2) := by decide +kernel
theorem dX0_fetcherTo_7 : decode cX0_fetcherTo 7 = .ok (.iload 4, 2) := by decide +kernel
theorem dX0_fetcherTo_9 : decode cX0_fetcherTo 9 = .ok (.aload_n 0, 1) := by decide +kernel
theorem dX0_fetcherTo_10 : decode cX0_fetcherTo 10 = .ok (.getfield 15, 3) := by decide +kernel
theorem dX0_fetcherTo_13 : decode cX0_fetcherTo 13 = .ok (.getfield 54, 3) := by decide +kernel
theorem dX0_fetcherTo_16 : decode cX0_fetcherTo 16 = .ok (.if_icmp .ge 49, 3) := by decide +kernel
theorem dX0_fetcherTo_19 : decode cX0_fetcherTo 19 = .ok (.aload_n 0, 1) := by decide +kernel
theorem dX0_fetcherTo_20 : decode cX0_fetcherTo 20 = .ok (.iload 4, 2) := by decide +kernel
theorem dX0_fetcherTo_22 : decode cX0_fetcherTo 22 = .ok (.iload_n 1, 1) := by decide +kernel
theorem dX0_fetcherTo_23 : decode cX0_fetcherTo 23 = .ok (.invokevirtual 146, 3) := by decide +kernel
theorem dX0_fetcherTo_26 : decode cX0_fetcherTo 26 = .ok (.ifCond .ne 6, 3) := by decide +kernel
theorem dX0_fetcherTo_29 : decode cX0_fetcherTo 29 = .ok (.goto 30, 3) := by decide +kernel
theorem dX0_fetcherTo_32 : decode cX0_fetcherTo 32 = .ok (.aload_n 0, 1) := by decide +kernel
theorem dX0_fetcherTo_33 : decode cX0_fetcherTo 33 = .ok (.iload_n 1, 1) := by decide +kernel
theorem dX0_fetcherTo_34 : decode cX0_fetcherTo 34 = .ok (.iload 4, 2) := by decide +kernel
theorem dX0_fetcherTo_36 : decode cX0_fetcherTo 36 = .ok (.iconst 0, 1) := by decide +kernel
theorem dX0_fetcherTo_37 : decode cX0_fetcherTo 37 = .ok (.invokevirtual 150, 3) := by decide +kernel
theorem dX0_fetcherTo_40 : decode cX0_fetcherTo 40 = .ok (.istore 5, 2) := by decide +kernel
theorem dX0_fetcherTo_42 : decode cX0_fetcherTo 42 = .ok (.iload_n 2, 1) := by decide +kernel
theorem dX0_fetcherTo_43 : decode cX0_fetcherTo 43 = .ok (.iconst (-1), 1) := by decide +kernel
theorem dX0_fetcherTo_44 : decode cX0_fetcherTo 44 = .ok (.if_icmp .eq 9, 3) := by decide +kernel
theorem dX0_fetcherTo_47 : decode cX0_fetcherTo 47 = .ok (.iload 5, 2) := by decide +kernel
theorem dX0_fetcherTo_49 : decode cX0_fetcherTo 49 = .ok (.iload_n 3, 1) := by decide +kernel
theorem dX0_fetcherTo_50 : decode cX0_fetcherTo 50 = .ok (.if_icmp .ge 9, 3) := by decide +kernel
theorem dX0_fetcherTo_53 : decode cX0_fetcherTo 53 = .ok (.iload 4, 2) := by decide +kernel
theorem dX0_fetcherTo_55 : decode cX0_fetcherTo 55 = .ok (.istore_n 2, 1) := by decide +kernel
theorem dX0_fetcherTo_56 : decode cX0_fetcherTo 56 = .ok (.iload 5, 2) := by decide +kernel
theorem dX0_fetcherTo_58 : decode cX0_fetcherTo 58 = .ok (.istore_n 3, 1) := by decide +kernel
theorem dX0_fetcherTo_59 : decode cX0_fetcherTo 59 = .ok (.iinc 4 1, 3) := by decide +kernel
theorem dX0_fetcherTo_62 : decode cX0_fetcherTo 62 = .ok (.goto (-55), 3) := by decide +kernel
theorem dX0_fetcherTo_65 : decode cX0_fetcherTo 65 = .ok (.iload_n 2, 1) := by decide +kernel
theorem dX0_fetcherTo_66 : decode cX0_fetcherTo 66 = .ok (.ireturn, 1) := by decide +kernel
theorem dX0_couldReach_0 : decode cX0_couldReach 0 = .ok (.aload_n 0, 1) := by decide +kernel
theorem dX0_couldReach_1 : decode cX0_couldReach 1 = .ok (.getfield 29, 3) := by decide +kernel
theorem dX0_couldReach_4 : decode cX0_couldReach 4 = .ok (.iload_n 1, 1) := by decide +kernel
theorem dX0_couldReach_5 : decode cX0_couldReach 5 = .ok (.iaload, 1) := by decide +kernel
theorem dX0_couldReach_6 : decode cX0_couldReach 6 = .ok (.ifCond .gt 23, 3) := by decide +kernel
theorem dX0_couldReach_9 : decode cX0_couldReach 9 = .ok (.aload_n 0, 1) := by decide +kernel
theorem dX0_couldReach_10 : decode cX0_couldReach 10 = .ok (.getfield 23, 3) := by decide +kernel
theorem dX0_couldReach_13 : decode cX0_couldReach 13 = .ok (.iload_n 1, 1) := by decide +kernel
theorem dX0_couldReach_14 : decode cX0_couldReach 14 = .ok (.iaload, 1) := by decide +kernel
theorem dX0_couldReach_15 : decode cX0_couldReach 15 = .ok (.iconst 3, 1) := by decide +kernel
theorem dX0_couldReach_16 : decode cX0_couldReach 16 = .ok (.if_icmp .eq 13, 3) := by decide +kernel
theorem dX0_couldReach_19 : decode cX0_couldReach 19 = .ok (.aload_n 0, 1) := by decide +kernel
theorem dX0_couldReach_20 : decode cX0_couldReach 20 = .ok (.getfield 23, 3) := by decide +kernel
theorem dX0_couldReach_23 : decode cX0_couldReach 23 = .ok (.iload_n 1, 1) := by decide +kernel
theorem dX0_couldReach_24 : decode cX0_couldReach 24 = .ok (.iaload, 1) := by decide +kernel
theorem dX0_couldReach_25 : decode cX0_couldReach 25 = .ok (.iconst 4, 1) := by decide +kernel
theorem dX0_couldReach_26 : decode cX0_couldReach 26 = .ok (.if_icmp .ne 5, 3) := by decide +kernel
theorem dX0_couldReach_29 : decode cX0_couldReach 29 = .ok (.iconst 0, 1) := by decide +kernel
theorem dX0_couldReach_30 : decode cX0_couldReach 30 = .ok (.ireturn, 1) := by decide +kernel
theorem dX0_couldReach_31 : decode cX0_couldReach 31 = .ok (.aload_n 0, 1) := by decide +kernel
theorem dX0_couldReach_32 : decode cX0_couldReach 32 = .ok (.getfield 32, 3) := by decide +kernel
theorem dX0_couldReach_35 : decode cX0_couldReach 35 = .ok (.iload_n 1, 1) := by decide +kernel
theorem dX0_couldReach_36 : decode cX0_couldReach 36 = .ok (.iaload, 1) := by decide +kernel
theorem dX0_couldReach_37 : decode cX0_couldReach 37 = .ok (.iconst 2, 1) := by decide +kernel
theorem dX0_couldReach_38 : decode cX0_couldReach 38 = .ok (.aload_n 0, 1) := by decide +kernel
theorem dX0_couldReach_39 : decode cX0_couldReach 39 = .ok (.iload_n 2, 1) := by decide +kernel
theorem dX0_couldReach_40 : decode cX0_couldReach 40 = .ok (.iload_n 1, 1) := by decide +kernel
theorem dX0_couldReach_41 : decode cX0_couldReach 41 = .ok (.aload_n 0, 1) := by decide +kernel
theorem dX0_couldReach_42 : decode cX0_couldReach 42 = .ok (.getfield 9, 3) := by decide +kernel
theorem dX0_couldReach_45 : decode cX0_couldReach 45 = .ok (.getfield 137, 3) := by decide +kernel
theorem dX0_couldReach_48 : decode cX0_couldReach 48 = .ok (.invokevirtual 150, 3) := by decide +kernel
theorem dX0_couldReach_51 : decode cX0_couldReach 51 = .ok (.imul, 1) := by decide +kernel
theorem dX0_couldReach_52 : decode cX0_couldReach 52 = .ok (.if_icmp .lt 7, 3) := by decide +kernel
theorem dX0_couldReach_55 : decode cX0_couldReach 55 = .ok (.iconst 1, 1) := by decide +kernel
theorem dX0_couldReach_56 : decode cX0_couldReach 56 = .ok (.goto 4, 3) := by decide +kernel
theorem dX0_couldReach_59 : decode cX0_couldReach 59 = .ok (.iconst 0, 1) := by decide +kernel
theorem dX0_couldReach_60 : decode cX0_couldReach 60 = .ok (.ireturn, 1) := by decide +kernel
theorem dX0_hoursTo_0 : decode cX0_hoursTo 0 = .ok (.iconst 0, 1) := by decide +kernel
theorem dX0_hoursTo_1 : decode cX0_hoursTo 1 = .ok (.istore 4, 2) := by decide +kernel
theorem dX0_hoursTo_3 : decode cX0_hoursTo 3 = .ok (.aload_n 0, 1) := by decide +kernel
theorem dX0_hoursTo_4 : decode cX0_hoursTo 4 = .ok (.getfield 26, 3) := by decide +kernel
theorem dX0_hoursTo_7 : decode cX0_hoursTo 7 = .ok (.iload_n 2, 1) := by decide +kernel
theorem dX0_hoursTo_8 : decode cX0_hoursTo 8 = .ok (.iaload, 1) := by decide +kernel
theorem dX0_hoursTo_9 : decode cX0_hoursTo 9 = .ok (.iload_n 1, 1) := by decide +kernel
theorem dX0_hoursTo_10 : decode cX0_hoursTo 10 = .ok (.invokestatic 140, 3) := by decide +kernel
theorem dX0_hoursTo_13 : decode cX0_hoursTo 13 = .ok (.istore 5, 2) := by decide +kernel
theorem dX0_hoursTo_15 : decode cX0_hoursTo 15 = .ok (.aload_n 0, 1) := by decide +kernel
theorem dX0_hoursTo_16 : decode cX0_hoursTo 16 = .ok (.getfield 26, 3) := by decide +kernel
theorem dX0_hoursTo_19 : decode cX0_hoursTo 19 = .ok (.iload_n 2, 1) := by decide +kernel
theorem dX0_hoursTo_20 : decode cX0_hoursTo 20 = .ok (.iaload, 1) := by decide +kernel
theorem dX0_hoursTo_21 : decode cX0_hoursTo 21 = .ok (.iload_n 1, 1) := by decide +kernel
theorem dX0_hoursTo_22 : decode cX0_hoursTo 22 = .ok (.invokestatic 154, 3) := by decide +kernel
theorem dX0_hoursTo_25 : decode cX0_hoursTo 25 = .ok (.iload_n 3, 1) := by decide +kernel
theorem dX0_hoursTo_26 : decode cX0_hoursTo 26 = .ok (.invokestatic 140, 3) := by decide +kernel
theorem dX0_hoursTo_29 : decode cX0_hoursTo 29 = .ok (.istore 6, 2) := by decide +kernel
theorem dX0_hoursTo_31 : decode cX0_hoursTo 31 = .ok (.iload 6, 2) := by decide +kernel
theorem dX0_hoursTo_33 : decode cX0_hoursTo 33 = .ok (.iload 5, 2) := by decide +kernel
theorem dX0_hoursTo_35 : decode cX0_hoursTo 35 = .ok (.if_icmp .ge 36, 3) := by decide +kernel
theorem dX0_hoursTo_38 : decode cX0_hoursTo 38 = .ok (.iload 4, 2) := by decide +kernel
theorem dX0_hoursTo_40 : decode cX0_hoursTo 40 = .ok (.aload_n 0, 1) := by decide +kernel
theorem dX0_hoursTo_41 : decode cX0_hoursTo 41 = .ok (.iload_n 2, 1) := by decide +kernel
theorem dX0_hoursTo_42 : decode cX0_hoursTo 42 = .ok (.iload 6, 2) := by decide +kernel
theorem dX0_hoursTo_44 : decode cX0_hoursTo 44 = .ok (.aload_n 0, 1) := by decide +kernel
theorem dX0_hoursTo_45 : decode cX0_hoursTo 45 = .ok (.getfield 26, 3) := by decide +kernel
theorem dX0_hoursTo_48 : decode cX0_hoursTo 48 = .ok (.iload_n 2, 1) := by decide +kernel
theorem dX0_hoursTo_49 : decode cX0_hoursTo 49 = .ok (.iaload, 1) := by decide +kernel
theorem dX0_hoursTo_50 : decode cX0_hoursTo 50 = .ok (.iload_n 1, 1) := by decide +kernel
theorem dX0_hoursTo_51 : decode cX0_hoursTo 51 = .ok (.if_icmp .ge 7, 3) := by decide +kernel
theorem dX0_hoursTo_54 : decode cX0_hoursTo 54 = .ok (.iconst 1, 1) := by decide +kernel
theorem dX0_hoursTo_55 : decode cX0_hoursTo 55 = .ok (.goto 4, 3) := by decide +kernel
theorem dX0_hoursTo_58 : decode cX0_hoursTo 58 = .ok (.iconst 0, 1) := by decide +kernel
theorem dX0_hoursTo_59 : decode cX0_hoursTo 59 = .ok (.invokevirtual 124, 3) := by decide +kernel
theorem dX0_hoursTo_62 : decode cX0_hoursTo 62 = .ok (.iadd, 1) := by decide +kernel
theorem dX0_hoursTo_63 : decode cX0_hoursTo 63 = .ok (.istore 4, 2) := by decide +kernel
theorem dX0_hoursTo_65 : decode cX0_hoursTo 65 = .ok (.iinc 6 1, 3) := by decide +kernel
theorem dX0_hoursTo_68 : decode cX0_hoursTo 68 = .ok (.goto (-37), 3) := by decide +kernel
theorem dX0_hoursTo_71 : decode cX0_hoursTo 71 = .ok (.iload 4, 2) := by decide +kernel
theorem dX0_hoursTo_73 : decode cX0_hoursTo 73 = .ok (.ireturn, 1) := by decide +kernel
theorem dX1_init_0 : decode cX1_init 0 = .ok (.aload_n 0, 1) := by decide +kernel
theorem dX1_init_1 : decode cX1_init 1 = .ok (.invokespecial 3, 3) := by decide +kernel
theorem dX1_init_4 : decode cX1_init 4 = .ok (.aload_n 0, 1) := by decide +kernel
theorem dX1_init_5 : decode cX1_init 5 = .ok (.bipush 12, 2) := by decide +kernel
theorem dX1_init_7 : decode cX1_init 7 = .ok (.newarray .int, 2) := by decide +kernel
theorem dX1_init_9 : decode cX1_init 9 = .ok (.putfield 9, 3) := by decide +kernel
theorem dX1_init_12 : decode cX1_init 12 = .ok (.aload_n 0, 1) := by decide +kernel
theorem dX1_init_13 : decode cX1_init 13 = .ok (.bipush 12, 2) := by decide +kernel
theorem dX1_init_15 : decode cX1_init 15 = .ok (.newarray .int, 2) := by decide +kernel
theorem dX1_init_17 : decode cX1_init 17 = .ok (.putfield 15, 3) := by decide +kernel
theorem dX1_init_20 : decode cX1_init 20 = .ok (.aload_n 0, 1) := by decide +kernel
theorem dX1_init_21 : decode cX1_init 21 = .ok (.bipush 12, 2) := by decide +kernel
theorem dX1_init_23 : decode cX1_init 23 = .ok (.newarray .int, 2) := by decide +kernel
theorem dX1_init_25 : decode cX1_init 25 = .ok (.putfield 18, 3) := by decide +kernel
theorem dX1_init_28 : decode cX1_init 28 = .ok (.aload_n 0, 1) := by decide +kernel
theorem dX1_init_29 : decode cX1_init 29 = .ok (.iconst 4, 1) := by decide +kernel
theorem dX1_init_30 : decode cX1_init 30 = .ok (.newarray .int, 2) := by decide +kernel
theorem dX1_init_32 : decode cX1_init 32 = .ok (.putfield 21, 3) := by decide +kernel
theorem dX1_init_35 : decode cX1_init 35 = .ok (.aload_n 0, 1) := by decide +kernel
theorem dX1_init_36 : decode cX1_init 36 = .ok (.iconst 4, 1) := by decide +kernel
theorem dX1_init_37 : decode cX1_init 37 = .ok (.newarray .int, 2) := by decide +kernel
theorem dX1_init_39 : decode cX1_init 39 = .ok (.putfield 24, 3) := by decide +kernel
theorem dX1_init_42 : decode cX1_init 42 = .ok (.aload_n 0, 1) := by decide +kernel
theorem dX1_init_43 : decode cX1_init 43 = .ok (.getfield 24, 3) := by decide +kernel
theorem dX1_init_46 : decode cX1_init 46 = .ok (.sipush 200, 3) := by decide +kernel
theorem dX1_init_49 : decode cX1_init 49 = .ok (.invokestatic 27, 3) := by decide +kernel
theorem dX1_init_52 : decode cX1_init 52 = .ok (.return_, 1) := by decide +kernel
theorem dX1_has_0 : decode cX1_has 0 = .ok (.iload_n 1, 1) := by decide +kernel
theorem dX1_has_1 : decode cX1_has 1 = .ok (.iconst 0, 1) := by decide +kernel
theorem dX1_has_2 : decode cX1_has 2 = .ok (.aload_n 0, 1) := by decide +kernel
theorem dX1_has_3 : decode cX1_has 3 = .ok (.getfield 33, 3) := by decide +kernel
theorem dX1_has_6 : decode cX1_has 6 = .ok (.iconst 1, 1) := by decide +kernel
theorem dX1_has_7 : decode cX1_has 7 = .ok (.isub, 1) := by decide +kernel
theorem dX1_has_8 : decode cX1_has 8 = .ok (.invokestatic 37, 3) := by decide +kernel
theorem dX1_has_11 : decode cX1_has 11 = .ok (.ireturn, 1) := by decide +kernel
theorem dX1_hasAnyOf_0 : decode cX1_hasAnyOf 0 = .ok (.iconst 0, 1) := by decide +kernel
theorem dX1_hasAnyOf_1 : decode cX1_hasAnyOf 1 = .ok (.istore_n 2, 1) := by decide +kernel
theorem dX1_hasAnyOf_2 : decode cX1_hasAnyOf 2 = .ok (.iload_n 2, 1) := by decide +kernel
theorem dX1_hasAnyOf_3 : decode cX1_hasAnyOf 3 = .ok (.aload_n 0, 1) := by decide +kernel
theorem dX1_hasAnyOf_4 : decode cX1_hasAnyOf 4 = .ok (.getfield 33, 3) := by decide +kernel
theorem dX1_hasAnyOf_7 : decode cX1_hasAnyOf 7 = .ok (.if_icmp .ge 21, 3) := by decide +kernel
theorem dX1_hasAnyOf_10 : decode cX1_hasAnyOf 10 = .ok (.aload_n 0, 1) := by decide +kernel
theorem dX1_hasAnyOf_11 : decode cX1_hasAnyOf 11 = .ok (.getfield 9, 3) := by decide +kernel
theorem dX1_hasAnyOf_14 : decode cX1_hasAnyOf 14 = .ok (.iload_n 2, 1) := by decide +kernel
theorem dX1_hasAnyOf_15 : decode cX1_hasAnyOf 15 = .ok (.iaload, 1) := by decide +kernel
theorem dX1_hasAnyOf_16 : decode cX1_hasAnyOf 16 = .ok (.iload_n 1, 1) := by decide +kernel
theorem dX1_hasAnyOf_17 : decode cX1_hasAnyOf 17 = .ok (.if_icmp .ne 5, 3) := by decide +kernel
theorem dX1_hasAnyOf_20 : decode cX1_hasAnyOf 20 = .ok (.iconst 1, 1) := by decide +kernel
theorem dX1_hasAnyOf_21 : decode cX1_hasAnyOf 21 = .ok (.ireturn, 1) := by decide +kernel
theorem dX1_hasAnyOf_22 : decode cX1_hasAnyOf 22 = .ok (.iinc 2 1, 3) := by decide +kernel
theorem dX1_hasAnyOf_25 : decode cX1_hasAnyOf 25 = .ok (.goto (-23), 3) := by decide +kernel
theorem dX1_hasAnyOf_28 : decode cX1_hasAnyOf 28 = .ok (.iconst 0, 1) := by decide +kernel
theorem dX1_hasAnyOf_29 : decode cX1_hasAnyOf 29 = .ok (.ireturn, 1) := by decide +kernel
theorem dX1_join_0 : decode cX1_join 0 = .ok (.aload_n 0, 1) := by decide +kernel
theorem dX1_join_1 : decode cX1_join 1 = .ok (.getfield 33, 3) := by decide +kernel
theorem dX1_join_4 : decode cX1_join 4 = .ok (.istore 4, 2) := by decide +kernel
theorem dX1_join_6 : decode cX1_join 6 = .ok (.aload_n 0, 1) := by decide +kernel
theorem dX1_join_7 : decode cX1_join 7 = .ok (.getfield 9, 3) := by decide +kernel
theorem dX1_join_10 : decode cX1_join 10 = .ok (.iload 4, 2) := by decide +kernel
theorem dX1_join_12 : decode cX1_join 12 = .ok (.iload_n 1, 1) := by decide +kernel
theorem dX1_join_13 : decode cX1_join 13 = .ok (.iastore, 1) := by decide +kernel
theorem dX1_join_14 : decode cX1_join 14 = .ok (.aload_n 0, 1) := by decide +kernel
theorem dX1_join_15 : decode cX1_join 15 = .ok (.getfield 15, 3) := by decide +kernel
theorem dX1_join_18 : decode cX1_join 18 = .ok (.iload 4, 2) := by decide +kernel
theorem dX1_join_20 : decode cX1_join 20 = .ok (.iload_n 2, 1) := by decide +kernel
theorem dX1_join_21 : decode cX1_join 21 = .ok (.iastore, 1) := by decide +kernel
theorem dX1_join_22 : decode cX1_join 22 = .ok (.aload_n 0, 1) := by decide +kernel
theorem dX1_join_23 : decode cX1_join 23 = .ok (.getfield 18, 3) := by decide +kernel
theorem dX1_join_26 : decode cX1_join 26 = .ok (.iload 4, 2) := by decide +kernel
theorem dX1_join_28 : decode cX1_join 28 = .ok (.iload_n 3, 1) := by decide +kernel
theorem dX1_join_29 : decode cX1_join 29 = .ok (.iastore, 1) := by decide +kernel
theorem dX1_join_30 : decode cX1_join 30 = .ok (.aload_n 0, 1) := by decide +kernel
theorem dX1_join_31 : decode cX1_join 31 = .ok (.dup, 1) := by decide +kernel
theorem dX1_join_32 : decode cX1_join 32 = .ok (.getfield 33, 3) := by decide +kernel
theorem dX1_join_35 : decode cX1_join 35 = .ok (.iconst 1, 1) := by decide +kernel
theorem dX1_join_36 : decode cX1_join 36 = .ok (.iadd, 1) := by decide +kernel
theorem dX1_join_37 : decode cX1_join 37 = .ok (.putfield 33, 3) := by decide +kernel
theorem dX1_join_40 : decode cX1_join 40 = .ok (.iload 4, 2) := by decide +kernel
theorem dX1_join_42 : decode cX1_join 42 = .ok (.ireturn, 1) := by decide +kernel
theorem dX2_init_0 : decode cX2_init 0 = .ok (.aload_n 0, 1) := by decide +kernel
theorem dX2_init_1 : decode cX2_init 1 = .ok (.invokespecial 3, 3) := by decide +kernel
theorem dX2_init_4 : decode cX2_init 4 = .ok (.aload_n 0, 1) := by decide +kernel
theorem dX2_init_5 : decode cX2_init 5 = .ok (.iconst 1, 1) := by decide +kernel
theorem dX2_init_6 : decode cX2_init 6 = .ok (.putfield 9, 3) := by decide +kernel
theorem dX2_init_9 : decode cX2_init 9 = .ok (.aload_n 0, 1) := by decide +kernel
theorem dX2_init_10 : decode cX2_init 10 = .ok (.bipush 6, 2) := by decide +kernel
theorem dX2_init_12 : decode cX2_init 12 = .ok (.newarray .int, 2) := by decide +kernel
theorem dX2_init_14 : decode cX2_init 14 = .ok (.putfield 15, 3) := by decide +kernel
theorem dX2_init_17 : decode cX2_init 17 = .ok (.aload_n 0, 1) := by decide +kernel
theorem dX2_init_18 : decode cX2_init 18 = .ok (.bipush 6, 2) := by decide +kernel
theorem dX2_init_20 : decode cX2_init 20 = .ok (.newarray .int, 2) := by decide +kernel
theorem dX2_init_22 : decode cX2_init 22 = .ok (.putfield 19, 3) := by decide +kernel
theorem dX2_init_25 : decode cX2_init 25 = .ok (.aload_n 0, 1) := by decide +kernel
theorem dX2_init_26 : decode cX2_init 26 = .ok (.sipush 200, 3) := by decide +kernel
theorem dX2_init_29 : decode cX2_init 29 = .ok (.newarray .boolean, 2) := by decide +kernel
theorem dX2_init_31 : decode cX2_init 31 = .ok (.putfield 22, 3) := by decide +kernel
theorem dX2_init_34 : decode cX2_init 34 = .ok (.aload_n 0, 1) := by decide +kernel
theorem dX2_init_35 : decode cX2_init 35 = .ok (.iconst 2, 1) := by decide +kernel
theorem dX2_init_36 : decode cX2_init 36 = .ok (.invokevirtual 26, 3) := by decide +kernel
theorem dX2_init_39 : decode cX2_init 39 = .ok (.return_, 1) := by decide +kernel
theorem dX2_layAnew_0 : decode cX2_layAnew 0 = .ok (.aload_n 0, 1) := by decide +kernel
theorem dX2_layAnew_1 : decode cX2_layAnew 1 = .ok (.iload_n 1, 1) := by decide +kernel
theorem dX2_layAnew_2 : decode cX2_layAnew 2 = .ok (.putfield 30, 3) := by decide +kernel
theorem dX2_layAnew_5 : decode cX2_layAnew 5 = .ok (.aload_n 0, 1) := by decide +kernel
theorem dX2_layAnew_6 : decode cX2_layAnew 6 = .ok (.aload_n 0, 1) := by decide +kernel
theorem dX2_layAnew_7 : decode cX2_layAnew 7 = .ok (.getfield 9, 3) := by decide +kernel
theorem dX2_layAnew_10 : decode cX2_layAnew 10 = .ok (.iload_n 1, 1) := by decide +kernel
theorem dX2_layAnew_11 : decode cX2_layAnew 11 = .ok (.invokestatic 33, 3) := by decide +kernel
theorem dX2_layAnew_14 : decode cX2_layAnew 14 = .ok (.putfield 9, 3) := by decide +kernel
theorem dX2_layAnew_17 : decode cX2_layAnew 17 = .ok (.aload_n 0, 1) := by decide +kernel
theorem dX2_layAnew_18 : decode cX2_layAnew 18 = .ok (.getfield 15, 3) := by decide +kernel
theorem dX2_layAnew_21 : decode cX2_layAnew 21 = .ok (.iconst 2, 1) := by decide +kernel
theorem dX2_layAnew_22 : decode cX2_layAnew 22 = .ok (.invokestatic 39, 3) := by decide +kernel
theorem dX2_layAnew_25 : decode cX2_layAnew 25 = .ok (.aload_n 0, 1) := by decide +kernel
theorem dX2_layAnew_26 : decode cX2_layAnew 26 = .ok (.getfield 19, 3) := by decide +kernel
theorem dX2_layAnew_29 : decode cX2_layAnew 29 = .ok (.iconst 1, 1) := by decide +kernel
theorem dX2_layAnew_30 : decode cX2_layAnew 30 = .ok (.invokestatic 39, 3) := by decide +kernel
theorem dX2_layAnew_33 : decode cX2_layAnew 33 = .ok (.return_, 1) := by decide +kernel
theorem dX2_hasPitch_0 : decode cX2_hasPitch 0 = .ok (.iload_n 1, 1) := by decide +kernel
theorem dX2_hasPitch_1 : decode cX2_hasPitch 1 = .ok (.iconst 0, 1) := by decide +kernel
theorem dX2_hasPitch_2 : decode cX2_hasPitch 2 = .ok (.aload_n 0, 1) := by decide +kernel
theorem dX2_hasPitch_3 : decode cX2_hasPitch 3 = .ok (.getfield 30, 3) := by decide +kernel
theorem dX2_hasPitch_6 : decode cX2_hasPitch 6 = .ok (.iconst 1, 1) := by decide +kernel
theorem dX2_hasPitch_7 : decode cX2_hasPitch 7 = .ok (.isub, 1) := by decide +kernel
theorem dX2_hasPitch_8 : decode cX2_hasPitch 8 = .ok (.invokestatic 45, 3) := by decide +kernel
theorem dX2_hasPitch_11 : decode cX2_hasPitch 11 = .ok (.ireturn, 1) := by decide +kernel
theorem dX2_hasCamp_0 : decode cX2_hasCamp 0 = .ok (.iload_n 1, 1) := by decide +kernel
theorem dX2_hasCamp_1 : decode cX2_hasCamp 1 = .ok (.iconst 0, 1) := by decide +kernel
theorem dX2_hasCamp_2 : decode cX2_hasCamp 2 = .ok (.aload_n 0, 1) := by decide +kernel
theorem dX2_hasCamp_3 : decode cX2_hasCamp 3 = .ok (.getfield 30, 3) := by decide +kernel
theorem dX2_hasCamp_6 : decode cX2_hasCamp 6 = .ok (.invokestatic 45, 3) := by decide +kernel
theorem dX2_hasCamp_9 : decode cX2_hasCamp 9 = .ok (.ireturn, 1) := by decide +kernel
theorem dX2_isWindy_0 : decode cX2_isWindy 0 = .ok (.iload_n 1, 1) := by decide +kernel
theorem dX2_isWindy_1 : decode cX2_isWindy 1 = .ok (.iconst 0, 1) := by decide +kernel
theorem dX2_isWindy_2 : decode cX2_isWindy 2 = .ok (.sipush 199, 3) := by decide +kernel
theorem dX2_isWindy_5 : decode cX2_isWindy 5 = .ok (.invokestatic 45, 3) := by decide +kernel
theorem dX2_isWindy_8 : decode cX2_isWindy 8 = .ok (.ifCond .eq 16, 3) := by decide +kernel
theorem dX2_isWindy_11 : decode cX2_isWindy 11 = .ok (.aload_n 0, 1) := by decide +kernel
theorem dX2_isWindy_12 : decode cX2_isWindy 12 = .ok (.getfield 22, 3) := by decide +kernel
theorem dX2_isWindy_15 : decode cX2_isWindy 15 = .ok (.iload_n 1, 1) := by decide +kernel
theorem dX2_isWindy_16 : decode cX2_isWindy 16 = .ok (.baload, 1) := by decide +kernel
theorem dX2_isWindy_17 : decode cX2_isWindy 17 = .ok (.ifCond .eq 7, 3) := by decide +kernel
theorem dX2_isWindy_20 : decode cX2_isWindy 20 = .ok (.iconst 1, 1) := by decide +kernel
theorem dX2_isWindy_21 : decode cX2_isWindy 21 = .ok (.goto 4, 3) := by decide +kernel
theorem dX2_isWindy_24 : decode cX2_isWindy 24 = .ok (.iconst 0, 1) := by decide +kernel
theorem dX2_isWindy_25 : decode cX2_isWindy 25 = .ok (.ireturn, 1) := by decide +kernel
theorem dX3_init_0 : decode cX3_init 0 = .ok (.aload_n 0, 1) := by decide +kernel
theorem dX3_init_1 : decode cX3_init 1 = .ok (.invokespecial 1, 3) := by decide +kernel
theorem dX3_init_4 : decode cX3_init 4 = .ok (.aload_n 0, 1) := by decide +kernel
theorem dX3_init_5 : decode cX3_init 5 = .ok (.new 7, 3) := by decide +kernel
theorem dX3_init_8 : decode cX3_init 8 = .ok (.dup, 1) := by decide +kernel
theorem dX3_init_9 : decode cX3_init 9 = .ok (.invokespecial 9, 3) := by decide +kernel
theorem dX3_init_12 : decode cX3_init 12 = .ok (.putfield 10, 3) := by decide +kernel
theorem dX3_init_15 : decode cX3_init 15 = .ok (.aload_n 0, 1) := by decide +kernel
theorem dX3_init_16 : decode cX3_init 16 = .ok (.new 16, 3) := by decide +kernel
theorem dX3_init_19 : decode cX3_init 19 = .ok (.dup, 1) := by decide +kernel
theorem dX3_init_20 : decode cX3_init 20 = .ok (.invokespecial 18, 3) := by decide +kernel
theorem dX3_init_23 : decode cX3_init 23 = .ok (.putfield 19, 3) := by decide +kernel
theorem dX3_init_26 : decode cX3_init 26 = .ok (.aload_n 0, 1) := by decide +kernel
theorem dX3_init_27 : decode cX3_init 27 = .ok (.new 23, 3) := by decide +kernel
theorem dX3_init_30 : decode cX3_init 30 = .ok (.dup, 1) := by decide +kernel
theorem dX3_init_31 : decode cX3_init 31 = .ok (.aload_n 0, 1) := by decide +kernel
theorem dX3_init_32 : decode cX3_init 32 = .ok (.getfield 10, 3) := by decide +kernel
theorem dX3_init_35 : decode cX3_init 35 = .ok (.aload_n 0, 1) := by decide +kernel
theorem dX3_init_36 : decode cX3_init 36 = .ok (.getfield 19, 3) := by decide +kernel
theorem dX3_init_39 : decode cX3_init 39 = .ok (.aload_n 0, 1) := by decide +kernel
theorem dX3_init_40 : decode cX3_init 40 = .ok (.getfield 19, 3) := by decide +kernel
theorem dX3_init_43 : decode cX3_init 43 = .ok (.getfield 25, 3) := by decide +kernel
theorem dX3_init_46 : decode cX3_init 46 = .ok (.invokespecial 29, 3) := by decide +kernel
theorem dX3_init_49 : decode cX3_init 49 = .ok (.putfield 32, 3) := by decide +kernel
theorem dX3_init_52 : decode cX3_init 52 = .ok (.aload_n 0, 1) := by decide +kernel
theorem dX3_init_53 : decode cX3_init 53 = .ok (.new 23, 3) := by decide +kernel
theorem dX3_init_56 : decode cX3_init 56 = .ok (.dup, 1) := by decide +kernel
theorem dX3_init_57 : decode cX3_init 57 = .ok (.aload_n 0, 1) := by decide +kernel
theorem dX3_init_58 : decode cX3_init 58 = .ok (.getfield 10, 3) := by decide +kernel
theorem dX3_init_61 : decode cX3_init 61 = .ok (.aload_n 0, 1) := by decide +kernel
theorem dX3_init_62 : decode cX3_init 62 = .ok (.getfield 19, 3) := by decide +kernel
theorem dX3_init_65 : decode cX3_init 65 = .ok (.iconst 4, 1) := by decide +kernel
theorem dX3_init_66 : decode cX3_init 66 = .ok (.newarray .int, 2) := by decide +kernel
theorem dX3_init_68 : decode cX3_init 68 = .ok (.invokespecial 29, 3) := by decide +kernel
theorem dX3_init_71 : decode cX3_init 71 = .ok (.putfield 36, 3) := by decide +kernel
theorem dX3_init_74 : decode cX3_init 74 = .ok (.return_, 1) := by decide +kernel
theorem dX3_mountain_0 : decode cX3_mountain 0 = .ok (.iload_n 1, 1) := by decide +kernel
theorem dX3_mountain_1 : decode cX3_mountain 1 = .ok (.iconst 1, 1) := by decide +kernel
theorem dX3_mountain_2 : decode cX3_mountain 2 = .ok (.bipush 6, 2) := by decide +kernel
theorem dX3_mountain_4 : decode cX3_mountain 4 = .ok (.invokestatic 39, 3) := by decide +kernel
theorem dX3_mountain_7 : decode cX3_mountain 7 = .ok (.ifCond .ne 5, 3) := by decide +kernel
theorem dX3_mountain_10 : decode cX3_mountain 10 = .ok (.iconst 0, 1) := by decide +kernel
theorem dX3_mountain_11 : decode cX3_mountain 11 = .ok (.ireturn, 1) := by decide +kernel
theorem dX3_mountain_12 : decode cX3_mountain 12 = .ok (.aload_n 0, 1) := by decide +kernel
theorem dX3_mountain_13 : decode cX3_mountain 13 = .ok (.getfield 10, 3) := by decide +kernel
theorem dX3_mountain_16 : decode cX3_mountain 16 = .ok (.iload_n 1, 1) := by decide +kernel
theorem dX3_mountain_17 : decode cX3_mountain 17 = .ok (.invokevirtual 43, 3) := by decide +kernel
theorem dX3_mountain_20 : decode cX3_mountain 20 = .ok (.aload_n 0, 1) := by decide +kernel
theorem dX3_mountain_21 : decode cX3_mountain 21 = .ok (.getfield 32, 3) := by decide +kernel
theorem dX3_mountain_24 : decode cX3_mountain 24 = .ok (.invokevirtual 47, 3) := by decide +kernel
theorem dX3_mountain_27 : decode cX3_mountain 27 = .ok (.iconst 1, 1) := by decide +kernel
theorem dX3_mountain_28 : decode cX3_mountain 28 = .ok (.ireturn, 1) := by decide +kernel
theorem dX3_pitch_0 : decode cX3_pitch 0 = .ok (.aload_n 0, 1) := by decide +kernel
theorem dX3_pitch_1 : decode cX3_pitch 1 = .ok (.getfield 10, 3) := by decide +kernel
theorem dX3_pitch_4 : decode cX3_pitch 4 = .ok (.iload_n 1, 1) := by decide +kernel
theorem dX3_pitch_5 : decode cX3_pitch 5 = .ok (.invokevirtual 50, 3) := by decide +kernel
theorem dX3_pitch_8 : decode cX3_pitch 8 = .ok (.ifCond .eq 23, 3) := by decide +kernel
theorem dX3_pitch_11 : decode cX3_pitch 11 = .ok (.iload_n 2, 1) := by decide +kernel
theorem dX3_pitch_12 : decode cX3_pitch 12 = .ok (.iconst 1, 1) := by decide +kernel
theorem dX3_pitch_13 : decode cX3_pitch 13 = .ok (.bipush 8, 2) := by decide +kernel
theorem dX3_pitch_15 : decode cX3_pitch 15 = .ok (.invokestatic 39, 3) := by decide +kernel
theorem dX3_pitch_18 : decode cX3_pitch 18 = .ok (.ifCond .eq 13, 3) := by decide +kernel
theorem dX3_pitch_21 : decode cX3_pitch 21 = .ok (.iload_n 3, 1) := by decide +kernel
theorem dX3_pitch_22 : decode cX3_pitch 22 = .ok (.iconst 1, 1) := by decide +kernel
theorem dX3_pitch_23 : decode cX3_pitch 23 = .ok (.bipush 6, 2) := by decide +kernel
theorem dX3_pitch_25 : decode cX3_pitch 25 = .ok (.invokestatic 39, 3) := by decide +kernel
theorem dX3_pitch_28 : decode cX3_pitch 28 = .ok (.ifCond .ne 5, 3) := by decide +kernel
theorem dX3_pitch_31 : decode cX3_pitch 31 = .ok (.iconst 0, 1) := by decide +kernel
theorem dX3_pitch_32 : decode cX3_pitch 32 = .ok (.ireturn, 1) := by decide +kernel
theorem dX3_pitch_33 : decode cX3_pitch 33 = .ok (.aload_n 0, 1) := by decide +kernel
theorem dX3_pitch_34 : decode cX3_pitch 34 = .ok (.getfield 10, 3) := by decide +kernel
theorem dX3_pitch_37 : decode cX3_pitch 37 = .ok (.getfield 54, 3) := by decide +kernel
theorem dX3_pitch_40 : decode cX3_pitch 40 = .ok (.iload_n 1, 1) := by decide +kernel
theorem dX3_pitch_41 : decode cX3_pitch 41 = .ok (.iload_n 2, 1) := by decide +kernel
theorem dX3_pitch_42 : decode cX3_pitch 42 = .ok (.iastore, 1) := by decide +kernel
theorem dX3_pitch_43 : decode cX3_pitch 43 = .ok (.aload_n 0, 1) := by decide +kernel
theorem dX3_pitch_44 : decode cX3_pitch 44 = .ok (.getfield 10, 3) := by decide +kernel
theorem dX3_pitch_47 : decode cX3_pitch 47 = .ok (.getfield 57, 3) := by decide +kernel
theorem dX3_pitch_50 : decode cX3_pitch 50 = .ok (.iload_n 1, 1) := by decide +kernel
theorem dX3_pitch_51 : decode cX3_pitch 51 = .ok (.iload_n 3, 1) := by decide +kernel
theorem dX3_pitch_52 : decode cX3_pitch 52 = .ok (.iastore, 1) := by decide +kernel
theorem dX3_pitch_53 : decode cX3_pitch 53 = .ok (.iconst 1, 1) := by decide +kernel
theorem dX3_pitch_54 : decode cX3_pitch 54 = .ok (.ireturn, 1) := by decide +kernel
theorem dX3_high_0 : decode cX3_high 0 = .ok (.aload_n 0, 1) := by decide +kernel
theorem dX3_high_1 : decode cX3_high 1 = .ok (.getfield 10, 3) := by decide +kernel
theorem dX3_high_4 : decode cX3_high 4 = .ok (.iload_n 1, 1) := by decide +kernel
theorem dX3_high_5 : decode cX3_high 5 = .ok (.invokevirtual 60, 3) := by decide +kernel
theorem dX3_high_8 : decode cX3_high 8 = .ok (.ifCond .ne 5, 3) := by decide +kernel
theorem dX3_high_11 : decode cX3_high 11 = .ok (.iconst (-1), 1) := by decide +kernel
theorem dX3_high_12 : decode cX3_high 12 = .ok (.ireturn, 1) := by decide +kernel
theorem dX3_high_13 : decode cX3_high 13 = .ok (.aload_n 0, 1) := by decide +kernel
theorem dX3_high_14 : decode cX3_high 14 = .ok (.getfield 10, 3) := by decide +kernel
theorem dX3_high_17 : decode cX3_high 17 = .ok (.getfield 63, 3) := by decide +kernel
theorem dX3_high_20 : decode cX3_high 20 = .ok (.istore_n 2, 1) := by decide +kernel
theorem dX3_high_21 : decode cX3_high 21 = .ok (.aload_n 0, 1) := by decide +kernel
theorem dX3_high_22 : decode cX3_high 22 = .ok (.getfield 10, 3) := by decide +kernel
theorem dX3_high_25 : decode cX3_high 25 = .ok (.iload_n 1, 1) := by decide +kernel
theorem dX3_high_26 : decode cX3_high 26 = .ok (.putfield 63, 3) := by decide +kernel
theorem dX3_high_29 : decode cX3_high 29 = .ok (.iload_n 2, 1) := by decide +kernel
theorem dX3_high_30 : decode cX3_high 30 = .ok (.ireturn, 1) := by decide +kernel
theorem dX3_wind_0 : decode cX3_wind 0 = .ok (.iload_n 1, 1) := by decide +kernel
theorem dX3_wind_1 : decode cX3_wind 1 = .ok (.ifCond .lt 15, 3) := by decide +kernel
theorem dX3_wind_4 : decode cX3_wind 4 = .ok (.iload_n 2, 1) := by decide +kernel
theorem dX3_wind_5 : decode cX3_wind 5 = .ok (.iload_n 1, 1) := by decide +kernel
theorem dX3_wind_6 : decode cX3_wind 6 = .ok (.if_icmp .lt 10, 3) := by decide +kernel
theorem dX3_wind_9 : decode cX3_wind 9 = .ok (.iload_n 2, 1) := by decide +kernel
theorem dX3_wind_10 : decode cX3_wind 10 = .ok (.sipush 200, 3) := by decide +kernel
theorem dX3_wind_13 : decode cX3_wind 13 = .ok (.if_icmp .lt 5, 3) := by decide +kernel
theorem dX3_wind_16 : decode cX3_wind 16 = .ok (.iconst 0, 1) := by decide +kernel
theorem dX3_wind_17 : decode cX3_wind 17 = .ok (.ireturn, 1) := by decide +kernel
theorem dX3_wind_18 : decode cX3_wind 18 = .ok (.iload_n 1, 1) := by decide +kernel
theorem dX3_wind_19 : decode cX3_wind 19 = .ok (.istore 4, 2) := by decide +kernel
theorem dX3_wind_21 : decode cX3_wind 21 = .ok (.iload 4, 2) := by decide +kernel
theorem dX3_wind_23 : decode cX3_wind 23 = .ok (.iload_n 2, 1) := by decide +kernel
theorem dX3_wind_24 : decode cX3_wind 24 = .ok (.if_icmp .gt 20, 3) := by decide +kernel
theorem dX3_wind_27 : decode cX3_wind 27 = .ok (.aload_n 0, 1) := by decide +kernel
theorem dX3_wind_28 : decode cX3_wind 28 = .ok (.getfield 10, 3) := by decide +kernel
theorem dX3_wind_31 : decode cX3_wind 31 = .ok (.getfield 67, 3) := by decide +kernel
theorem dX3_wind_34 : decode cX3_wind 34 = .ok (.iload 4, 2) := by decide +kernel
theorem dX3_wind_36 : decode cX3_wind 36 = .ok (.iload_n 3, 1) := by decide +kernel
theorem dX3_wind_37 : decode cX3_wind 37 = .ok (.bastore, 1) := by decide +kernel
theorem dX3_wind_38 : decode cX3_wind 38 = .ok (.iinc 4 1, 3) := by decide +kernel
theorem dX3_wind_41 : decode cX3_wind 41 = .ok (.goto (-20), 3) := by decide +kernel
theorem dX3_wind_44 : decode cX3_wind 44 = .ok (.iconst 1, 1) := by decide +kernel
theorem dX3_wind_45 : decode cX3_wind 45 = .ok (.ireturn, 1) := by decide +kernel
theorem dX3_climber_0 : decode cX3_climber 0 = .ok (.iload_n 1, 1) := by decide +kernel
theorem dX3_climber_1 : decode cX3_climber 1 = .ok (.iconst 0, 1) := by decide +kernel
theorem dX3_climber_2 : decode cX3_climber 2 = .ok (.iconst 3, 1) := by decide +kernel
theorem dX3_climber_3 : decode cX3_climber 3 = .ok (.invokestatic 39, 3) := by decide +kernel
theorem dX3_climber_6 : decode cX3_climber 6 = .ok (.ifCond .eq 35, 3) := by decide +kernel
theorem dX3_climber_9 : decode cX3_climber 9 = .ok (.iload_n 2, 1) := by decide +kernel
theorem dX3_climber_10 : decode cX3_climber 10 = .ok (.iconst 0, 1) := by decide +kernel
theorem dX3_climber_11 : decode cX3_climber 11 = .ok (.iconst 4, 1) := by decide +kernel
theorem dX3_climber_12 : decode cX3_climber 12 = .ok (.invokestatic 39, 3) := by decide +kernel
theorem dX3_climber_15 : decode cX3_climber 15 = .ok (.ifCond .eq 26, 3) := by decide +kernel
theorem dX3_climber_18 : decode cX3_climber 18 = .ok (.iload_n 3, 1) := by decide +kernel
theorem dX3_climber_19 : decode cX3_climber 19 = .ok (.iconst 0, 1) := by decide +kernel
theorem dX3_climber_20 : decode cX3_climber 20 = .ok (.sipush 200, 3) := by decide +kernel
theorem dX3_climber_23 : decode cX3_climber 23 = .ok (.invokestatic 39, 3) := by decide +kernel
theorem dX3_climber_26 : decode cX3_climber 26 = .ok (.ifCond .eq 15, 3) := by decide +kernel
theorem dX3_climber_29 : decode cX3_climber 29 = .ok (.aload_n 0, 1) := by decide +kernel
theorem dX3_climber_30 : decode cX3_climber 30 = .ok (.getfield 19, 3) := by decide +kernel
theorem dX3_climber_33 : decode cX3_climber 33 = .ok (.getfield 71, 3) := by decide +kernel
theorem dX3_climber_36 : decode cX3_climber 36 = .ok (.bipush 12, 2) := by decide +kernel
theorem dX3_climber_38 : decode cX3_climber 38 = .ok (.if_icmp .lt 5, 3) := by decide +kernel
theorem dX3_climber_41 : decode cX3_climber 41 = .ok (.iconst (-1), 1) := by decide +kernel
theorem dX3_climber_42 : decode cX3_climber 42 = .ok (.ireturn, 1) := by decide +kernel
theorem dX3_climber_43 : decode cX3_climber 43 = .ok (.aload_n 0, 1) := by decide +kernel
theorem dX3_climber_44 : decode cX3_climber 44 = .ok (.getfield 19, 3) := by decide +kernel
theorem dX3_climber_47 : decode cX3_climber 47 = .ok (.iload_n 1, 1) := by decide +kernel
theorem dX3_climber_48 : decode cX3_climber 48 = .ok (.iload_n 2, 1) := by decide +kernel
theorem dX3_climber_49 : decode cX3_climber 49 = .ok (.iload_n 3, 1) := by decide +kernel
theorem dX3_climber_50 : decode cX3_climber 50 = .ok (.invokevirtual 74, 3) := by decide +kernel
theorem dX3_climber_53 : decode cX3_climber 53 = .ok (.istore 4, 2) := by decide +kernel
theorem dX3_climber_55 : decode cX3_climber 55 = .ok (.aload_n 0, 1) := by decide +kernel
theorem dX3_climber_56 : decode cX3_climber 56 = .ok (.getfield 32, 3) := by decide +kernel
theorem dX3_climber_59 : decode cX3_climber 59 = .ok (.iload 4, 2) := by decide +kernel
theorem dX3_climber_61 : decode cX3_climber 61 = .ok (.invokevirtual 78, 3) := by decide +kernel
theorem dX3_climber_64 : decode cX3_climber 64 = .ok (.iload 4, 2) := by decide +kernel
theorem dX3_climber_66 : decode cX3_climber 66 = .ok (.ireturn, 1) := by decide +kernel
theorem dX3_team_0 : decode cX3_team 0 = .ok (.iload_n 1, 1) := by decide +kernel
theorem dX3_team_1 : decode cX3_team 1 = .ok (.iconst 0, 1) := by decide +kernel
theorem dX3_team_2 : decode cX3_team 2 = .ok (.iconst 3, 1) := by decide +kernel
theorem dX3_team_3 : decode cX3_team 3 = .ok (.invokestatic 39, 3) := by decide +kernel
theorem dX3_team_6 : decode cX3_team 6 = .ok (.ifCond .eq 12, 3) := by decide +kernel
theorem dX3_team_9 : decode cX3_team 9 = .ok (.iload_n 2, 1) := by decide +kernel
theorem dX3_team_10 : decode cX3_team 10 = .ok (.iconst 0, 1) := by decide +kernel
theorem dX3_team_11 : decode cX3_team 11 = .ok (.iconst 1, 1) := by decide +kernel
theorem dX3_team_12 : decode cX3_team 12 = .ok (.invokestatic 39, 3) := by decide +kernel
theorem dX3_team_15 : decode cX3_team 15 = .ok (.ifCond .ne 5, 3) := by decide +kernel
theorem dX3_team_18 : decode cX3_team 18 = .ok (.iconst (-1), 1) := by decide +kernel
theorem dX3_team_19 : decode cX3_team 19 = .ok (.ireturn, 1) := by decide +kernel
theorem dX3_team_20 : decode cX3_team 20 = .ok (.iload_n 3, 1) := by decide +kernel
theorem dX3_team_21 : decode cX3_team 21 = .ok (.iconst 0, 1) := by decide +kernel
theorem dX3_team_22 : decode cX3_team 22 = .ok (.iload_n 2, 1) := by decide +kernel
theorem dX3_team_23 : decode cX3_team 23 = .ok (.ifCond .ne 8, 3) := by decide +kernel
theorem dX3_team_26 : decode cX3_team 26 = .ok (.bipush 100, 2) := by decide +kernel
theorem dX3_team_28 : decode cX3_team 28 = .ok (.goto 6, 3) := by decide +kernel
theorem dX3_team_31 : decode cX3_team 31 = .ok (.sipush 200, 3) := by decide +kernel
theorem dX3_team_34 : decode cX3_team 34 = .ok (.invokestatic 39, 3) := by decide +kernel
theorem dX3_team_37 : decode cX3_team 37 = .ok (.ifCond .ne 5, 3) := by decide +kernel
theorem dX3_team_40 : decode cX3_team 40 = .ok (.iconst (-1), 1) := by decide +kernel
theorem dX3_team_41 : decode cX3_team 41 = .ok (.ireturn, 1) := by decide +kernel
theorem dX3_team_42 : decode cX3_team 42 = .ok (.iload_n 2, 1) := by decide +kernel
theorem dX3_team_43 : decode cX3_team 43 = .ok (.ifCond .ne 13, 3) := by decide +kernel
theorem dX3_team_46 : decode cX3_team 46 = .ok (.aload_n 0, 1) := by decide +kernel
theorem dX3_team_47 : decode cX3_team 47 = .ok (.getfield 19, 3) := by decide +kernel
theorem dX3_team_50 : decode cX3_team 50 = .ok (.getfield 25, 3) := by decide +kernel
theorem dX3_team_53 : decode cX3_team 53 = .ok (.goto 10, 3) := by decide +kernel
theorem dX3_team_56 : decode cX3_team 56 = .ok (.aload_n 0, 1) := by decide +kernel
theorem dX3_team_57 : decode cX3_team 57 = .ok (.getfield 19, 3) := by decide +kernel
theorem dX3_team_60 : decode cX3_team 60 = .ok (.getfield 81, 3) := by decide +kernel
theorem dX3_team_63 : decode cX3_team 63 = .ok (.astore 4, 2) := by decide +kernel
theorem dX3_team_65 : decode cX3_team 65 = .ok (.aload 4, 2) := by decide +kernel
theorem dX3_team_67 : decode cX3_team 67 = .ok (.iload_n 1, 1) := by decide +kernel
theorem dX3_team_68 : decode cX3_team 68 = .ok (.iaload, 1) := by decide +kernel
theorem dX3_team_69 : decode cX3_team 69 = .ok (.istore 5, 2) := by decide +kernel
theorem dX3_team_71 : decode cX3_team 71 = .ok (.aload 4, 2) := by decide +kernel
theorem dX3_team_73 : decode cX3_team 73 = .ok (.iload_n 1, 1) := by decide +kernel
theorem dX3_team_74 : decode cX3_team 74 = .ok (.iload_n 3, 1) := by decide +kernel
theorem dX3_team_75 : decode cX3_team 75 = .ok (.iastore, 1) := by decide +kernel
theorem dX3_team_76 : decode cX3_team 76 = .ok (.iload 5, 2) := by decide +kernel
theorem dX3_team_78 : decode cX3_team 78 = .ok (.ireturn, 1) := by decide +kernel
theorem dX3_begin_0 : decode cX3_begin 0 = .ok (.aload_n 0, 1) := by decide +kernel
theorem dX3_begin_1 : decode cX3_begin 1 = .ok (.getfield 32, 3) := by decide +kernel
theorem dX3_begin_4 : decode cX3_begin 4 = .ok (.invokevirtual 47, 3) := by decide +kernel
theorem dX3_begin_7 : decode cX3_begin 7 = .ok (.aload_n 0, 1) := by decide +kernel
theorem dX3_begin_8 : decode cX3_begin 8 = .ok (.getfield 19, 3) := by decide +kernel
theorem dX3_begin_11 : decode cX3_begin 11 = .ok (.getfield 71, 3) := by decide +kernel
theorem dX3_begin_14 : decode cX3_begin 14 = .ok (.ireturn, 1) := by decide +kernel
theorem dX3_run_0 : decode cX3_run 0 = .ok (.iload_n 1, 1) := by decide +kernel
theorem dX3_run_1 : decode cX3_run 1 = .ok (.iconst 0, 1) := by decide +kernel
theorem dX3_run_2 : decode cX3_run 2 = .ok (.bipush 100, 2) := by decide +kernel
theorem dX3_run_4 : decode cX3_run 4 = .ok (.invokestatic 39, 3) := by decide +kernel
theorem dX3_run_7 : decode cX3_run 7 = .ok (.ifCond .ne 5, 3) := by decide +kernel
theorem dX3_run_10 : decode cX3_run 10 = .ok (.iconst (-1), 1) := by decide +kernel
theorem dX3_run_11 : decode cX3_run 11 = .ok (.ireturn, 1) := by decide +kernel
theorem dX3_run_12 : decode cX3_run 12 = .ok (.iconst 0, 1) := by decide +kernel
theorem dX3_run_13 : decode cX3_run 13 = .ok (.istore_n 2, 1) := by decide +kernel
theorem dX3_run_14 : decode cX3_run 14 = .ok (.iload_n 2, 1) := by decide +kernel
theorem dX3_run_15 : decode cX3_run 15 = .ok (.iload_n 1, 1) := by decide +kernel
theorem dX3_run_16 : decode cX3_run 16 = .ok (.if_icmp .ge 29, 3) := by decide +kernel
theorem dX3_run_19 : decode cX3_run 19 = .ok (.aload_n 0, 1) := by decide +kernel
theorem dX3_run_20 : decode cX3_run 20 = .ok (.getfield 32, 3) := by decide +kernel
theorem dX3_run_23 : decode cX3_run 23 = .ok (.getfield 84, 3) := by decide +kernel
theorem dX3_run_26 : decode cX3_run 26 = .ok (.sipush 200, 3) := by decide +kernel
theorem dX3_run_29 : decode cX3_run 29 = .ok (.if_icmp .ge 16, 3) := by decide +kernel
theorem dX3_run_32 : decode cX3_run 32 = .ok (.aload_n 0, 1) := by decide +kernel
theorem dX3_run_33 : decode cX3_run 33 = .ok (.getfield 32, 3) := by decide +kernel
theorem dX3_run_36 : decode cX3_run 36 = .ok (.invokevirtual 87, 3) := by decide +kernel
theorem dX3_run_39 : decode cX3_run 39 = .ok (.iinc 2 1, 3) := by decide +kernel
theorem dX3_run_42 : decode cX3_run 42 = .ok (.goto (-28), 3) := by decide +kernel
theorem dX3_run_45 : decode cX3_run 45 = .ok (.aload_n 0, 1) := by decide +kernel
theorem dX3_run_46 : decode cX3_run 46 = .ok (.getfield 32, 3) := by decide +kernel
theorem dX3_run_49 : decode cX3_run 49 = .ok (.getfield 84, 3) := by decide +kernel
theorem dX3_run_52 : decode cX3_run 52 = .ok (.ireturn, 1) := by decide +kernel
theorem dX3_count_0 : decode cX3_count 0 = .ok (.iload_n 1, 1) := by decide +kernel
theorem dX3_count_1 : decode cX3_count 1 = .ok (.tableswitch 113 0 7 #[47, 55, 63, 71, 79, 87, 96, 105], 47) := by decide +kernel
theorem dX3_count_48 : decode cX3_count 48 = .ok (.aload_n 0, 1) := by decide +kernel
theorem dX3_count_49 : decode cX3_count 49 = .ok (.getfield 10, 3) := by decide +kernel
theorem dX3_count_52 : decode cX3_count 52 = .ok (.getfield 90, 3) := by decide +kernel
theorem dX3_count_55 : decode cX3_count 55 = .ok (.ireturn, 1) := by decide +kernel
theorem dX3_count_56 : decode cX3_count 56 = .ok (.aload_n 0, 1) := by decide +kernel
theorem dX3_count_57 : decode cX3_count 57 = .ok (.getfield 19, 3) := by decide +kernel
theorem dX3_count_60 : decode cX3_count 60 = .ok (.getfield 71, 3) := by decide +kernel
theorem dX3_count_63 : decode cX3_count 63 = .ok (.ireturn, 1) := by decide +kernel
theorem dX3_count_64 : decode cX3_count 64 = .ok (.aload_n 0, 1) := by decide +kernel
theorem dX3_count_65 : decode cX3_count 65 = .ok (.getfield 32, 3) := by decide +kernel
theorem dX3_count_68 : decode cX3_count 68 = .ok (.getfield 84, 3) := by decide +kernel
theorem dX3_count_71 : decode cX3_count 71 = .ok (.ireturn, 1) := by decide +kernel
theorem dX3_count_72 : decode cX3_count 72 = .ok (.aload_n 0, 1) := by decide +kernel
theorem dX3_count_73 : decode cX3_count 73 = .ok (.getfield 10, 3) := by decide +kernel
theorem dX3_count_76 : decode cX3_count 76 = .ok (.getfield 63, 3) := by decide +kernel
theorem dX3_count_79 : decode cX3_count 79 = .ok (.ireturn, 1) := by decide +kernel
theorem dX3_count_80 : decode cX3_count 80 = .ok (.aload_n 0, 1) := by decide +kernel
theorem dX3_count_81 : decode cX3_count 81 = .ok (.getfield 32, 3) := by decide +kernel
theorem dX3_count_84 : decode cX3_count 84 = .ok (.invokevirtual 93, 3) := by decide +kernel
theorem dX3_count_87 : decode cX3_count 87 = .ok (.ireturn, 1) := by decide +kernel
theorem dX3_count_88 : decode cX3_count 88 = .ok (.aload_n 0, 1) := by decide +kernel
theorem dX3_count_89 : decode cX3_count 89 = .ok (.getfield 32, 3) := by decide +kernel
theorem dX3_count_92 : decode cX3_count 92 = .ok (.iconst 3, 1) := by decide +kernel
theorem dX3_count_93 : decode cX3_count 93 = .ok (.invokevirtual 97, 3) := by decide +kernel
theorem dX3_count_96 : decode cX3_count 96 = .ok (.ireturn, 1) := by decide +kernel
theorem dX3_count_97 : decode cX3_count 97 = .ok (.aload_n 0, 1) := by decide +kernel
theorem dX3_count_98 : decode cX3_count 98 = .ok (.getfield 32, 3) := by decide +kernel
theorem dX3_count_101 : decode cX3_count 101 = .ok (.iconst 4, 1) := by decide +kernel
theorem dX3_count_102 : decode cX3_count 102 = .ok (.invokevirtual 97, 3) := by decide +kernel
theorem dX3_count_105 : decode cX3_count 105 = .ok (.ireturn, 1) := by decide +kernel
theorem dX3_count_106 : decode cX3_count 106 = .ok (.aload_n 0, 1) := by decide +kernel
theorem dX3_count_107 : decode cX3_count 107 = .ok (.getfield 32, 3) := by decide +kernel
theorem dX3_count_110 : decode cX3_count 110 = .ok (.invokevirtual 101, 3) := by decide +kernel
theorem dX3_count_113 : decode cX3_count 113 = .ok (.ireturn, 1) := by decide +kernel
theorem dX3_count_114 : decode cX3_count 114 = .ok (.iconst (-1), 1) := by decide +kernel
theorem dX3_count_115 : decode cX3_count 115 = .ok (.ireturn, 1) := by decide +kernel
theorem dX3_of_0 : decode cX3_of 0 = .ok (.aload_n 0, 1) := by decide +kernel
theorem dX3_of_1 : decode cX3_of 1 = .ok (.getfield 19, 3) := by decide +kernel
theorem dX3_of_4 : decode cX3_of 4 = .ok (.iload_n 1, 1) := by decide +kernel
theorem dX3_of_5 : decode cX3_of 5 = .ok (.invokevirtual 104, 3) := by decide +kernel
theorem dX3_of_8 : decode cX3_of 8 = .ok (.ifCond .ne 13, 3) := by decide +kernel
theorem dX3_of_11 : decode cX3_of 11 = .ok (.new 107, 3) := by decide +kernel
theorem dX3_of_14 : decode cX3_of 14 = .ok (.dup, 1) := by decide +kernel
theorem dX3_of_15 : decode cX3_of 15 = .ok (.ldc 109, 2) := by decide +kernel
theorem dX3_of_17 : decode cX3_of 17 = .ok (.invokespecial 111, 3) := by decide +kernel
theorem dX3_of_20 : decode cX3_of 20 = .ok (.athrow, 1) := by decide +kernel
theorem dX3_of_21 : decode cX3_of 21 = .ok (.iload_n 2, 1) := by decide +kernel
theorem dX3_of_22 : decode cX3_of 22 = .ok (.tableswitch 112 0 6 #[42, 52, 62, 72, 82, 92, 102], 42) := by decide +kernel
theorem dX3_of_64 : decode cX3_of 64 = .ok (.aload_n 0, 1) := by decide +kernel
theorem dX3_of_65 : decode cX3_of 65 = .ok (.getfield 32, 3) := by decide +kernel
theorem dX3_of_68 : decode cX3_of 68 = .ok (.getfield 114, 3) := by decide +kernel
theorem dX3_of_71 : decode cX3_of 71 = .ok (.iload_n 1, 1) := by decide +kernel
theorem dX3_of_72 : decode cX3_of 72 = .ok (.iaload, 1) := by decide +kernel
theorem dX3_of_73 : decode cX3_of 73 = .ok (.ireturn, 1) := by decide +kernel
theorem dX3_of_74 : decode cX3_of 74 = .ok (.aload_n 0, 1) := by decide +kernel
theorem dX3_of_75 : decode cX3_of 75 = .ok (.getfield 32, 3) := by decide +kernel
theorem dX3_of_78 : decode cX3_of 78 = .ok (.getfield 117, 3) := by decide +kernel
theorem dX3_of_81 : decode cX3_of 81 = .ok (.iload_n 1, 1) := by decide +kernel
theorem dX3_of_82 : decode cX3_of 82 = .ok (.iaload, 1) := by decide +kernel
theorem dX3_of_83 : decode cX3_of 83 = .ok (.ireturn, 1) := by decide +kernel
theorem dX3_of_84 : decode cX3_of 84 = .ok (.aload_n 0, 1) := by decide +kernel
theorem dX3_of_85 : decode cX3_of 85 = .ok (.getfield 32, 3) := by decide +kernel
theorem dX3_of_88 : decode cX3_of 88 = .ok (.getfield 120, 3) := by decide +kernel
theorem dX3_of_91 : decode cX3_of 91 = .ok (.iload_n 1, 1) := by decide +kernel
theorem dX3_of_92 : decode cX3_of 92 = .ok (.iaload, 1) := by decide +kernel
theorem dX3_of_93 : decode cX3_of 93 = .ok (.ireturn, 1) := by decide +kernel
theorem dX3_of_94 : decode cX3_of 94 = .ok (.aload_n 0, 1) := by decide +kernel
theorem dX3_of_95 : decode cX3_of 95 = .ok (.getfield 32, 3) := by decide +kernel
theorem dX3_of_98 : decode cX3_of 98 = .ok (.getfield 123, 3) := by decide +kernel
theorem dX3_of_101 : decode cX3_of 101 = .ok (.iload_n 1, 1) := by decide +kernel
theorem dX3_of_102 : decode cX3_of 102 = .ok (.iaload, 1) := by decide +kernel
theorem dX3_of_103 : decode cX3_of 103 = .ok (.ireturn, 1) := by decide +kernel
theorem dX3_of_104 : decode cX3_of 104 = .ok (.aload_n 0, 1) := by decide +kernel
theorem dX3_of_105 : decode cX3_of 105 = .ok (.getfield 32, 3) := by decide +kernel
theorem dX3_of_108 : decode cX3_of 108 = .ok (.getfield 126, 3) := by decide +kernel
theorem dX3_of_111 : decode cX3_of 111 = .ok (.iload_n 1, 1) := by decide +kernel
theorem dX3_of_112 : decode cX3_of 112 = .ok (.iaload, 1) := by decide +kernel
theorem dX3_of_113 : decode cX3_of 113 = .ok (.ireturn, 1) := by decide +kernel
theorem dX3_of_114 : decode cX3_of 114 = .ok (.aload_n 0, 1) := by decide +kernel
theorem dX3_of_115 : decode cX3_of 115 = .ok (.getfield 32, 3) := by decide +kernel
theorem dX3_of_118 : decode cX3_of 118 = .ok (.getfield 129, 3) := by decide +kernel
theorem dX3_of_121 : decode cX3_of 121 = .ok (.iload_n 1, 1) := by decide +kernel
theorem dX3_of_122 : decode cX3_of 122 = .ok (.iaload, 1) := by decide +kernel
theorem dX3_of_123 : decode cX3_of 123 = .ok (.ireturn, 1) := by decide +kernel
theorem dX3_of_124 : decode cX3_of 124 = .ok (.aload_n 0, 1) := by decide +kernel
theorem dX3_of_125 : decode cX3_of 125 = .ok (.getfield 32, 3) := by decide +kernel
theorem dX3_of_128 : decode cX3_of 128 = .ok (.getfield 132, 3) := by decide +kernel
theorem dX3_of_131 : decode cX3_of 131 = .ok (.iload_n 1, 1) := by decide +kernel
theorem dX3_of_132 : decode cX3_of 132 = .ok (.iaload, 1) := by decide +kernel
theorem dX3_of_133 : decode cX3_of 133 = .ok (.ireturn, 1) := by decide +kernel
theorem dX3_of_134 : decode cX3_of 134 = .ok (.new 107, 3) := by decide +kernel
theorem dX3_of_137 : decode cX3_of 137 = .ok (.dup, 1) := by decide +kernel
theorem dX3_of_138 : decode cX3_of 138 = .ok (.ldc 135, 2) := by decide +kernel
theorem dX3_of_140 : decode cX3_of 140 = .ok (.invokespecial 111, 3) := by decide +kernel
theorem dX3_of_143 : decode cX3_of 143 = .ok (.athrow, 1) := by decide +kernel
theorem dX3_on_0 : decode cX3_on 0 = .ok (.aload_n 0, 1) := by decide +kernel
theorem dX3_on_1 : decode cX3_on 1 = .ok (.getfield 10, 3) := by decide +kernel
theorem dX3_on_4 : decode cX3_on 4 = .ok (.iload_n 1, 1) := by decide +kernel
theorem dX3_on_5 : decode cX3_on 5 = .ok (.invokevirtual 50, 3) := by decide +kernel
theorem dX3_on_8 : decode cX3_on 8 = .ok (.ifCond .eq 14, 3) := by decide +kernel
theorem dX3_on_11 : decode cX3_on 11 = .ok (.aload_n 0, 1) := by decide +kernel
theorem dX3_on_12 : decode cX3_on 12 = .ok (.getfield 32, 3) := by decide +kernel
theorem dX3_on_15 : decode cX3_on 15 = .ok (.iload_n 1, 1) := by decide +kernel
theorem dX3_on_16 : decode cX3_on 16 = .ok (.invokevirtual 137, 3) := by decide +kernel
theorem dX3_on_19 : decode cX3_on 19 = .ok (.goto 4, 3) := by decide +kernel
theorem dX3_on_22 : decode cX3_on 22 = .ok (.iconst (-1), 1) := by decide +kernel
theorem dX3_on_23 : decode cX3_on 23 = .ok (.ireturn, 1) := by decide +kernel
theorem dX3_at_0 : decode cX3_at 0 = .ok (.aload_n 0, 1) := by decide +kernel
theorem dX3_at_1 : decode cX3_at 1 = .ok (.getfield 10, 3) := by decide +kernel
theorem dX3_at_4 : decode cX3_at 4 = .ok (.iload_n 1, 1) := by decide +kernel
theorem dX3_at_5 : decode cX3_at 5 = .ok (.invokevirtual 60, 3) := by decide +kernel
theorem dX3_at_8 : decode cX3_at 8 = .ok (.ifCond .eq 14, 3) := by decide +kernel
theorem dX3_at_11 : decode cX3_at 11 = .ok (.aload_n 0, 1) := by decide +kernel
theorem dX3_at_12 : decode cX3_at 12 = .ok (.getfield 32, 3) := by decide +kernel
theorem dX3_at_15 : decode cX3_at 15 = .ok (.iload_n 1, 1) := by decide +kernel
theorem dX3_at_16 : decode cX3_at 16 = .ok (.invokevirtual 140, 3) := by decide +kernel
theorem dX3_at_19 : decode cX3_at 19 = .ok (.goto 4, 3) := by decide +kernel
theorem dX3_at_22 : decode cX3_at 22 = .ok (.iconst (-1), 1) := by decide +kernel
theorem dX3_at_23 : decode cX3_at 23 = .ok (.ireturn, 1) := by decide +kernel
theorem dX3_fetch_0 : decode cX3_fetch 0 = .ok (.aload_n 0, 1) := by decide +kernel
theorem dX3_fetch_1 : decode cX3_fetch 1 = .ok (.getfield 19, 3) := by decide +kernel
theorem dX3_fetch_4 : decode cX3_fetch 4 = .ok (.iload_n 1, 1) := by decide +kernel
theorem dX3_fetch_5 : decode cX3_fetch 5 = .ok (.invokevirtual 104, 3) := by decide +kernel
theorem dX3_fetch_8 : decode cX3_fetch 8 = .ok (.ifCond .eq 16, 3) := by decide +kernel
theorem dX3_fetch_11 : decode cX3_fetch 11 = .ok (.aload_n 0, 1) := by decide +kernel
theorem dX3_fetch_12 : decode cX3_fetch 12 = .ok (.getfield 32, 3) := by decide +kernel
theorem dX3_fetch_15 : decode cX3_fetch 15 = .ok (.getfield 114, 3) := by decide +kernel
theorem dX3_fetch_18 : decode cX3_fetch 18 = .ok (.iload_n 1, 1) := by decide +kernel
theorem dX3_fetch_19 : decode cX3_fetch 19 = .ok (.iaload, 1) := by decide +kernel
theorem dX3_fetch_20 : decode cX3_fetch 20 = .ok (.iconst 4, 1) := by decide +kernel
theorem dX3_fetch_21 : decode cX3_fetch 21 = .ok (.if_icmp .eq 5, 3) := by decide +kernel
theorem dX3_fetch_24 : decode cX3_fetch 24 = .ok (.iconst (-1), 1) := by decide +kernel
theorem dX3_fetch_25 : decode cX3_fetch 25 = .ok (.ireturn, 1) := by decide +kernel
theorem dX3_fetch_26 : decode cX3_fetch 26 = .ok (.aload_n 0, 1) := by decide +kernel
theorem dX3_fetch_27 : decode cX3_fetch 27 = .ok (.getfield 32, 3) := by decide +kernel
theorem dX3_fetch_30 : decode cX3_fetch 30 = .ok (.aload_n 0, 1) := by decide +kernel
theorem dX3_fetch_31 : decode cX3_fetch 31 = .ok (.getfield 32, 3) := by decide +kernel
theorem dX3_fetch_34 : decode cX3_fetch 34 = .ok (.getfield 117, 3) := by decide +kernel
theorem dX3_fetch_37 : decode cX3_fetch 37 = .ok (.iload_n 1, 1) := by decide +kernel
theorem dX3_fetch_38 : decode cX3_fetch 38 = .ok (.iaload, 1) := by decide +kernel
theorem dX3_fetch_39 : decode cX3_fetch 39 = .ok (.invokevirtual 143, 3) := by decide +kernel
theorem dX3_fetch_42 : decode cX3_fetch 42 = .ok (.ireturn, 1) := by decide +kernel
theorem dX3_tries_0 : decode cX3_tries 0 = .ok (.iload_n 1, 1) := by decide +kernel
theorem dX3_tries_1 : decode cX3_tries 1 = .ok (.iconst 1, 1) := by decide +kernel
theorem dX3_tries_2 : decode cX3_tries 2 = .ok (.iconst 3, 1) := by decide +kernel
theorem dX3_tries_3 : decode cX3_tries 3 = .ok (.invokestatic 39, 3) := by decide +kernel
theorem dX3_tries_6 : decode cX3_tries 6 = .ok (.ifCond .eq 24, 3) := by decide +kernel
theorem dX3_tries_9 : decode cX3_tries 9 = .ok (.iload 5, 2) := by decide +kernel
theorem dX3_tries_11 : decode cX3_tries 11 = .ok (.iconst 0, 1) := by decide +kernel
theorem dX3_tries_12 : decode cX3_tries 12 = .ok (.iconst 2, 1) := by decide +kernel
theorem dX3_tries_13 : decode cX3_tries 13 = .ok (.invokestatic 39, 3) := by decide +kernel
theorem dX3_tries_16 : decode cX3_tries 16 = .ok (.ifCond .eq 14, 3) := by decide +kernel
theorem dX3_tries_19 : decode cX3_tries 19 = .ok (.iload_n 1, 1) := by decide +kernel
theorem dX3_tries_20 : decode cX3_tries 20 = .ok (.iload_n 2, 1) := by decide +kernel
theorem dX3_tries_21 : decode cX3_tries 21 = .ok (.iload_n 3, 1) := by decide +kernel
theorem dX3_tries_22 : decode cX3_tries 22 = .ok (.iload 4, 2) := by decide +kernel
theorem dX3_tries_24 : decode cX3_tries 24 = .ok (.invokestatic 146, 3) := by decide +kernel
theorem dX3_tries_27 : decode cX3_tries 27 = .ok (.ifCond .ne 5, 3) := by decide +kernel
theorem dX3_tries_30 : decode cX3_tries 30 = .ok (.iconst (-1), 1) := by decide +kernel
theorem dX3_tries_31 : decode cX3_tries 31 = .ok (.ireturn, 1) := by decide +kernel
theorem dX3_tries_32 : decode cX3_tries 32 = .ok (.aload_n 0, 1) := by decide +kernel
theorem dX3_tries_33 : decode cX3_tries 33 = .ok (.getfield 36, 3) := by decide +kernel
theorem dX3_tries_36 : decode cX3_tries 36 = .ok (.invokevirtual 150, 3) := by decide +kernel
theorem dX3_tries_39 : decode cX3_tries 39 = .ok (.aload_n 0, 1) := by decide +kernel
theorem dX3_tries_40 : decode cX3_tries 40 = .ok (.getfield 36, 3) := by decide +kernel
theorem dX3_tries_43 : decode cX3_tries 43 = .ok (.getfield 153, 3) := by decide +kernel
theorem dX3_tries_46 : decode cX3_tries 46 = .ok (.iconst 0, 1) := by decide +kernel
theorem dX3_tries_47 : decode cX3_tries 47 = .ok (.iload_n 2, 1) := by decide +kernel
theorem dX3_tries_48 : decode cX3_tries 48 = .ok (.iastore, 1) := by decide +kernel
theorem dX3_tries_49 : decode cX3_tries 49 = .ok (.iload_n 1, 1) := by decide +kernel
theorem dX3_tries_50 : decode cX3_tries 50 = .ok (.iconst 1, 1) := by decide +kernel
theorem dX3_tries_51 : decode cX3_tries 51 = .ok (.if_icmp .le 13, 3) := by decide +kernel
theorem dX3_tries_54 : decode cX3_tries 54 = .ok (.aload_n 0, 1) := by decide +kernel
theorem dX3_tries_55 : decode cX3_tries 55 = .ok (.getfield 36, 3) := by decide +kernel
theorem dX3_tries_58 : decode cX3_tries 58 = .ok (.getfield 153, 3) := by decide +kernel
theorem dX3_tries_61 : decode cX3_tries 61 = .ok (.iconst 1, 1) := by decide +kernel
theorem dX3_tries_62 : decode cX3_tries 62 = .ok (.iload_n 3, 1) := by decide +kernel
theorem dX3_tries_63 : decode cX3_tries 63 = .ok (.iastore, 1) := by decide +kernel
theorem dX3_tries_64 : decode cX3_tries 64 = .ok (.iload_n 1, 1) := by decide +kernel
theorem dX3_tries_65 : decode cX3_tries 65 = .ok (.iconst 2, 1) := by decide +kernel
theorem dX3_tries_66 : decode cX3_tries 66 = .ok (.if_icmp .le 14, 3) := by decide +kernel
theorem dX3_tries_69 : decode cX3_tries 69 = .ok (.aload_n 0, 1) := by decide +kernel
theorem dX3_tries_70 : decode cX3_tries 70 = .ok (.getfield 36, 3) := by decide +kernel
theorem dX3_tries_73 : decode cX3_tries 73 = .ok (.getfield 153, 3) := by decide +kernel
theorem dX3_tries_76 : decode cX3_tries 76 = .ok (.iconst 2, 1) := by decide +kernel
theorem dX3_tries_77 : decode cX3_tries 77 = .ok (.iload 4, 2) := by decide +kernel
theorem dX3_tries_79 : decode cX3_tries 79 = .ok (.iastore, 1) := by decide +kernel
theorem dX3_tries_80 : decode cX3_tries 80 = .ok (.aload_n 0, 1) := by decide +kernel
theorem dX3_tries_81 : decode cX3_tries 81 = .ok (.getfield 36, 3) := by decide +kernel
theorem dX3_tries_84 : decode cX3_tries 84 = .ok (.invokevirtual 154, 3) := by decide +kernel
theorem dX3_tries_87 : decode cX3_tries 87 = .ok (.iload 5, 2) := by decide +kernel
theorem dX3_tries_89 : decode cX3_tries 89 = .ok (.ifCond .ne 11, 3) := by decide +kernel
theorem dX3_tries_92 : decode cX3_tries 92 = .ok (.aload_n 0, 1) := by decide +kernel
theorem dX3_tries_93 : decode cX3_tries 93 = .ok (.getfield 36, 3) := by decide +kernel
theorem dX3_tries_96 : decode cX3_tries 96 = .ok (.invokevirtual 93, 3) := by decide +kernel
theorem dX3_tries_99 : decode cX3_tries 99 = .ok (.ireturn, 1) := by decide +kernel
theorem dX3_tries_100 : decode cX3_tries 100 = .ok (.iload 5, 2) := by decide +kernel
theorem dX3_tries_102 : decode cX3_tries 102 = .ok (.iconst 1, 1) := by decide +kernel
theorem dX3_tries_103 : decode cX3_tries 103 = .ok (.if_icmp .ne 14, 3) := by decide +kernel
theorem dX3_tries_106 : decode cX3_tries 106 = .ok (.aload_n 0, 1) := by decide +kernel
theorem dX3_tries_107 : decode cX3_tries 107 = .ok (.getfield 36, 3) := by decide +kernel
theorem dX3_tries_110 : decode cX3_tries 110 = .ok (.iconst 4, 1) := by decide +kernel
theorem dX3_tries_111 : decode cX3_tries 111 = .ok (.invokevirtual 97, 3) := by decide +kernel
theorem dX3_tries_114 : decode cX3_tries 114 = .ok (.goto 10, 3) := by decide +kernel
theorem dX3_tries_117 : decode cX3_tries 117 = .ok (.aload_n 0, 1) := by decide +kernel
theorem dX3_tries_118 : decode cX3_tries 118 = .ok (.getfield 36, 3) := by decide +kernel
theorem dX3_tries_121 : decode cX3_tries 121 = .ok (.invokevirtual 101, 3) := by decide +kernel
theorem dX3_tries_124 : decode cX3_tries 124 = .ok (.ireturn, 1) := by decide +kernel
theorem dX3_plan_0 : decode cX3_plan 0 = .ok (.iload_n 1, 1) := by decide +kernel
theorem dX3_plan_1 : decode cX3_plan 1 = .ok (.iconst 1, 1) := by decide +kernel
theorem dX3_plan_2 : decode cX3_plan 2 = .ok (.iconst 3, 1) := by decide +kernel
theorem dX3_plan_3 : decode cX3_plan 3 = .ok (.invokestatic 39, 3) := by decide +kernel
theorem dX3_plan_6 : decode cX3_plan 6 = .ok (.ifCond .ne 5, 3) := by decide +kernel
theorem dX3_plan_9 : decode cX3_plan 9 = .ok (.iconst (-1), 1) := by decide +kernel
theorem dX3_plan_10 : decode cX3_plan 10 = .ok (.ireturn, 1) := by decide +kernel
theorem dX3_plan_11 : decode cX3_plan 11 = .ok (.aload_n 0, 1) := by decide +kernel
theorem dX3_plan_12 : decode cX3_plan 12 = .ok (.getfield 36, 3) := by decide +kernel
theorem dX3_plan_15 : decode cX3_plan 15 = .ok (.invokevirtual 150, 3) := by decide +kernel
theorem dX3_plan_18 : decode cX3_plan 18 = .ok (.aload_n 0, 1) := by decide +kernel
theorem dX3_plan_19 : decode cX3_plan 19 = .ok (.iload_n 1, 1) := by decide +kernel
theorem dX3_plan_20 : decode cX3_plan 20 = .ok (.invokevirtual 157, 3) := by decide +kernel
theorem dX3_plan_23 : decode cX3_plan 23 = .ok (.istore_n 2, 1) := by decide +kernel
theorem dX3_plan_24 : decode cX3_plan 24 = .ok (.aload_n 0, 1) := by decide +kernel
theorem dX3_plan_25 : decode cX3_plan 25 = .ok (.iload_n 2, 1) := by decide +kernel
theorem dX3_plan_26 : decode cX3_plan 26 = .ok (.iload_n 1, 1) := by decide +kernel
theorem dX3_plan_27 : decode cX3_plan 27 = .ok (.invokevirtual 160, 3) := by decide +kernel
theorem dX3_plan_30 : decode cX3_plan 30 = .ok (.pop, 1) := by decide +kernel
theorem dX3_plan_31 : decode cX3_plan 31 = .ok (.aload_n 0, 1) := by decide +kernel
theorem dX3_plan_32 : decode cX3_plan 32 = .ok (.getfield 36, 3) := by decide +kernel
theorem dX3_plan_35 : decode cX3_plan 35 = .ok (.invokevirtual 154, 3) := by decide +kernel
theorem dX3_plan_38 : decode cX3_plan 38 = .ok (.aload_n 0, 1) := by decide +kernel
theorem dX3_plan_39 : decode cX3_plan 39 = .ok (.getfield 36, 3) := by decide +kernel
theorem dX3_plan_42 : decode cX3_plan 42 = .ok (.getfield 153, 3) := by decide +kernel
theorem dX3_plan_45 : decode cX3_plan 45 = .ok (.iconst 0, 1) := by decide +kernel
theorem dX3_plan_46 : decode cX3_plan 46 = .ok (.aload_n 0, 1) := by decide +kernel
theorem dX3_plan_47 : decode cX3_plan 47 = .ok (.getfield 19, 3) := by decide +kernel
theorem dX3_plan_50 : decode cX3_plan 50 = .ok (.getfield 25, 3) := by decide +kernel
theorem dX3_plan_53 : decode cX3_plan 53 = .ok (.iconst 0, 1) := by decide +kernel
theorem dX3_plan_54 : decode cX3_plan 54 = .ok (.iload_n 1, 1) := by decide +kernel
theorem dX3_plan_55 : decode cX3_plan 55 = .ok (.invokestatic 164, 3) := by decide +kernel
theorem dX3_plan_58 : decode cX3_plan 58 = .ok (.aload_n 0, 1) := by decide +kernel
theorem dX3_plan_59 : decode cX3_plan 59 = .ok (.getfield 32, 3) := by decide +kernel
theorem dX3_plan_62 : decode cX3_plan 62 = .ok (.invokevirtual 47, 3) := by decide +kernel
theorem dX3_plan_65 : decode cX3_plan 65 = .ok (.aload_n 0, 1) := by decide +kernel
theorem dX3_plan_66 : decode cX3_plan 66 = .ok (.getfield 36, 3) := by decide +kernel
theorem dX3_plan_69 : decode cX3_plan 69 = .ok (.invokevirtual 93, 3) := by decide +kernel
theorem dX3_plan_72 : decode cX3_plan 72 = .ok (.ireturn, 1) := by decide +kernel
theorem dX3_need_0 : decode cX3_need 0 = .ok (.aload_n 0, 1) := by decide +kernel
theorem dX3_need_1 : decode cX3_need 1 = .ok (.getfield 10, 3) := by decide +kernel
theorem dX3_need_4 : decode cX3_need 4 = .ok (.iload_n 1, 1) := by decide +kernel
theorem dX3_need_5 : decode cX3_need 5 = .ok (.invokevirtual 60, 3) := by decide +kernel
theorem dX3_need_8 : decode cX3_need 8 = .ok (.ifCond .eq 14, 3) := by decide +kernel
theorem dX3_need_11 : decode cX3_need 11 = .ok (.iload_n 2, 1) := by decide +kernel
theorem dX3_need_12 : decode cX3_need 12 = .ok (.iconst 0, 1) := by decide +kernel
theorem dX3_need_13 : decode cX3_need 13 = .ok (.sipush 200, 3) := by decide +kernel
theorem dX3_need_16 : decode cX3_need 16 = .ok (.invokestatic 39, 3) := by decide +kernel
theorem dX3_need_19 : decode cX3_need 19 = .ok (.ifCond .ne 5, 3) := by decide +kernel
theorem dX3_need_22 : decode cX3_need 22 = .ok (.iconst (-1), 1) := by decide +kernel
theorem dX3_need_23 : decode cX3_need 23 = .ok (.ireturn, 1) := by decide +kernel
theorem dX3_need_24 : decode cX3_need 24 = .ok (.iload_n 2, 1) := by decide +kernel
theorem dX3_need_25 : decode cX3_need 25 = .ok (.istore_n 3, 1) := by decide +kernel
theorem dX3_need_26 : decode cX3_need 26 = .ok (.iload_n 1, 1) := by decide +kernel
theorem dX3_need_27 : decode cX3_need 27 = .ok (.iconst 1, 1) := by decide +kernel
theorem dX3_need_28 : decode cX3_need 28 = .ok (.isub, 1) := by decide +kernel
theorem dX3_need_29 : decode cX3_need 29 = .ok (.istore 4, 2) := by decide +kernel
theorem dX3_need_31 : decode cX3_need 31 = .ok (.iload 4, 2) := by decide +kernel
theorem dX3_need_33 : decode cX3_need 33 = .ok (.aload_n 0, 1) := by decide +kernel
theorem dX3_need_34 : decode cX3_need 34 = .ok (.getfield 10, 3) := by decide +kernel
theorem dX3_need_37 : decode cX3_need 37 = .ok (.getfield 63, 3) := by decide +kernel
theorem dX3_need_40 : decode cX3_need 40 = .ok (.if_icmp .lt 23, 3) := by decide +kernel
theorem dX3_need_43 : decode cX3_need 43 = .ok (.iload_n 3, 1) := by decide +kernel
theorem dX3_need_44 : decode cX3_need 44 = .ok (.iconst 4, 1) := by decide +kernel
theorem dX3_need_45 : decode cX3_need 45 = .ok (.iadd, 1) := by decide +kernel
theorem dX3_need_46 : decode cX3_need 46 = .ok (.iconst 2, 1) := by decide +kernel
theorem dX3_need_47 : decode cX3_need 47 = .ok (.isub, 1) := by decide +kernel
theorem dX3_need_48 : decode cX3_need 48 = .ok (.iconst 3, 1) := by decide +kernel
theorem dX3_need_49 : decode cX3_need 49 = .ok (.idiv, 1) := by decide +kernel
theorem dX3_need_50 : decode cX3_need 50 = .ok (.istore 5, 2) := by decide +kernel
theorem dX3_need_52 : decode cX3_need 52 = .ok (.iload_n 3, 1) := by decide +kernel
theorem dX3_need_53 : decode cX3_need 53 = .ok (.iload 5, 2) := by decide +kernel
theorem dX3_need_55 : decode cX3_need 55 = .ok (.iadd, 1) := by decide +kernel
theorem dX3_need_56 : decode cX3_need 56 = .ok (.istore_n 3, 1) := by decide +kernel
theorem dX3_need_57 : decode cX3_need 57 = .ok (.iinc 4 (-1), 3) := by decide +kernel
theorem dX3_need_60 : decode cX3_need 60 = .ok (.goto (-29), 3) := by decide +kernel
theorem dX3_need_63 : decode cX3_need 63 = .ok (.iload_n 3, 1) := by decide +kernel
theorem dX3_need_64 : decode cX3_need 64 = .ok (.ireturn, 1) := by decide +kernel
theorem dX3_comes_0 : decode cX3_comes 0 = .ok (.aload_n 0, 1) := by decide +kernel
theorem dX3_comes_1 : decode cX3_comes 1 = .ok (.getfield 10, 3) := by decide +kernel
theorem dX3_comes_4 : decode cX3_comes 4 = .ok (.iload_n 1, 1) := by decide +kernel
theorem dX3_comes_5 : decode cX3_comes 5 = .ok (.invokevirtual 60, 3) := by decide +kernel
theorem dX3_comes_8 : decode cX3_comes 8 = .ok (.ifCond .eq 14, 3) := by decide +kernel
theorem dX3_comes_11 : decode cX3_comes 11 = .ok (.iload_n 2, 1) := by decide +kernel
theorem dX3_comes_12 : decode cX3_comes 12 = .ok (.iconst 0, 1) := by decide +kernel
theorem dX3_comes_13 : decode cX3_comes 13 = .ok (.sipush 2000, 3) := by decide +kernel
theorem dX3_comes_16 : decode cX3_comes 16 = .ok (.invokestatic 39, 3) := by decide +kernel
theorem dX3_comes_19 : decode cX3_comes 19 = .ok (.ifCond .ne 5, 3) := by decide +kernel
theorem dX3_comes_22 : decode cX3_comes 22 = .ok (.iconst (-1), 1) := by decide +kernel
theorem dX3_comes_23 : decode cX3_comes 23 = .ok (.ireturn, 1) := by decide +kernel
theorem dX3_comes_24 : decode cX3_comes 24 = .ok (.iload_n 2, 1) := by decide +kernel
theorem dX3_comes_25 : decode cX3_comes 25 = .ok (.istore_n 3, 1) := by decide +kernel
theorem dX3_comes_26 : decode cX3_comes 26 = .ok (.aload_n 0, 1) := by decide +kernel
theorem dX3_comes_27 : decode cX3_comes 27 = .ok (.getfield 10, 3) := by decide +kernel
theorem dX3_comes_30 : decode cX3_comes 30 = .ok (.getfield 63, 3) := by decide +kernel
theorem dX3_comes_33 : decode cX3_comes 33 = .ok (.istore 4, 2) := by decide +kernel
theorem dX3_comes_35 : decode cX3_comes 35 = .ok (.iload 4, 2) := by decide +kernel
theorem dX3_comes_37 : decode cX3_comes 37 = .ok (.iload_n 1, 1) := by decide +kernel
theorem dX3_comes_38 : decode cX3_comes 38 = .ok (.if_icmp .ge 23, 3) := by decide +kernel
theorem dX3_comes_41 : decode cX3_comes 41 = .ok (.iload_n 3, 1) := by decide +kernel
theorem dX3_comes_42 : decode cX3_comes 42 = .ok (.iconst 4, 1) := by decide +kernel
theorem dX3_comes_43 : decode cX3_comes 43 = .ok (.iadd, 1) := by decide +kernel
theorem dX3_comes_44 : decode cX3_comes 44 = .ok (.iconst 1, 1) := by decide +kernel
theorem dX3_comes_45 : decode cX3_comes 45 = .ok (.isub, 1) := by decide +kernel
theorem dX3_comes_46 : decode cX3_comes 46 = .ok (.iconst 4, 1) := by decide +kernel
theorem dX3_comes_47 : decode cX3_comes 47 = .ok (.idiv, 1) := by decide +kernel
theorem dX3_comes_48 : decode cX3_comes 48 = .ok (.istore 5, 2) := by decide +kernel
theorem dX3_comes_50 : decode cX3_comes 50 = .ok (.iload_n 3, 1) := by decide +kernel
theorem dX3_comes_51 : decode cX3_comes 51 = .ok (.iload 5, 2) := by decide +kernel
theorem dX3_comes_53 : decode cX3_comes 53 = .ok (.isub, 1) := by decide +kernel
theorem dX3_comes_54 : decode cX3_comes 54 = .ok (.istore_n 3, 1) := by decide +kernel
theorem dX3_comes_55 : decode cX3_comes 55 = .ok (.iinc 4 1, 3) := by decide +kernel
theorem dX3_comes_58 : decode cX3_comes 58 = .ok (.goto (-23), 3) := by decide +kernel
theorem dX3_comes_61 : decode cX3_comes 61 = .ok (.iload_n 3, 1) := by decide +kernel
theorem dX3_comes_62 : decode cX3_comes 62 = .ok (.ireturn, 1) := by decide +kernel
theorem dX3_isWithin_0 : decode cX3_isWithin 0 = .ok (.iload_n 0, 1) := by decide +kernel
theorem dX3_isWithin_1 : decode cX3_isWithin 1 = .ok (.iload_n 1, 1) := by decide +kernel
theorem dX3_isWithin_2 : decode cX3_isWithin 2 = .ok (.if_icmp .lt 12, 3) := by decide +kernel
theorem dX3_isWithin_5 : decode cX3_isWithin 5 = .ok (.iload_n 0, 1) := by decide +kernel
theorem dX3_isWithin_6 : decode cX3_isWithin 6 = .ok (.iload_n 2, 1) := by decide +kernel
theorem dX3_isWithin_7 : decode cX3_isWithin 7 = .ok (.if_icmp .gt 7, 3) := by decide +kernel
theorem dX3_isWithin_10 : decode cX3_isWithin 10 = .ok (.iconst 1, 1) := by decide +kernel
theorem dX3_isWithin_11 : decode cX3_isWithin 11 = .ok (.goto 4, 3) := by decide +kernel
theorem dX3_isWithin_14 : decode cX3_isWithin 14 = .ok (.iconst 0, 1) := by decide +kernel
theorem dX3_isWithin_15 : decode cX3_isWithin 15 = .ok (.ireturn, 1) := by decide +kernel
theorem dX3_areTriable_0 : decode cX3_areTriable 0 = .ok (.iload_n 1, 1) := by decide +kernel
theorem dX3_areTriable_1 : decode cX3_areTriable 1 = .ok (.iconst 0, 1) := by decide +kernel
theorem dX3_areTriable_2 : decode cX3_areTriable 2 = .ok (.bipush 10, 2) := by decide +kernel
theorem dX3_areTriable_4 : decode cX3_areTriable 4 = .ok (.invokestatic 39, 3) := by decide +kernel
theorem dX3_areTriable_7 : decode cX3_areTriable 7 = .ok (.ifCond .eq 37, 3) := by decide +kernel
theorem dX3_areTriable_10 : decode cX3_areTriable 10 = .ok (.iload_n 0, 1) := by decide +kernel
theorem dX3_areTriable_11 : decode cX3_areTriable 11 = .ok (.iconst 2, 1) := by decide +kernel
theorem dX3_areTriable_12 : decode cX3_areTriable 12 = .ok (.if_icmp .lt 13, 3) := by decide +kernel
theorem dX3_areTriable_15 : decode cX3_areTriable 15 = .ok (.iload_n 2, 1) := by decide +kernel
theorem dX3_areTriable_16 : decode cX3_areTriable 16 = .ok (.iconst 0, 1) := by decide +kernel
theorem dX3_areTriable_17 : decode cX3_areTriable 17 = .ok (.bipush 10, 2) := by decide +kernel
theorem dX3_areTriable_19 : decode cX3_areTriable 19 = .ok (.invokestatic 39, 3) := by decide +kernel
theorem dX3_areTriable_22 : decode cX3_areTriable 22 = .ok (.ifCond .eq 22, 3) := by decide +kernel
theorem dX3_areTriable_25 : decode cX3_areTriable 25 = .ok (.iload_n 0, 1) := by decide +kernel
theorem dX3_areTriable_26 : decode cX3_areTriable 26 = .ok (.iconst 3, 1) := by decide +kernel
theorem dX3_areTriable_27 : decode cX3_areTriable 27 = .ok (.if_icmp .lt 13, 3) := by decide +kernel
theorem dX3_areTriable_30 : decode cX3_areTriable 30 = .ok (.iload_n 3, 1) := by decide +kernel
theorem dX3_areTriable_31 : decode cX3_areTriable 31 = .ok (.iconst 0, 1) := by decide +kernel
theorem dX3_areTriable_32 : decode cX3_areTriable 32 = .ok (.bipush 10, 2) := by decide +kernel
theorem dX3_areTriable_34 : decode cX3_areTriable 34 = .ok (.invokestatic 39, 3) := by decide +kernel
theorem dX3_areTriable_37 : decode cX3_areTriable 37 = .ok (.ifCond .eq 7, 3) := by decide +kernel
theorem dX3_areTriable_40 : decode cX3_areTriable 40 = .ok (.iconst 1, 1) := by decide +kernel
theorem dX3_areTriable_41 : decode cX3_areTriable 41 = .ok (.goto 4, 3) := by decide +kernel
theorem dX3_areTriable_44 : decode cX3_areTriable 44 = .ok (.iconst 0, 1) := by decide +kernel
theorem dX3_areTriable_45 : decode cX3_areTriable 45 = .ok (.ireturn, 1) := by decide +kernel
theorem dX3_bestPlan_0 : decode cX3_bestPlan 0 = .ok (.iconst 1, 1) := by decide +kernel
theorem dX3_bestPlan_1 : decode cX3_bestPlan 1 = .ok (.istore_n 2, 1) := by decide +kernel
theorem dX3_bestPlan_2 : decode cX3_bestPlan 2 = .ok (.iconst 0, 1) := by decide +kernel
theorem dX3_bestPlan_3 : decode cX3_bestPlan 3 = .ok (.istore_n 3, 1) := by decide +kernel
theorem dX3_bestPlan_4 : decode cX3_bestPlan 4 = .ok (.iload_n 3, 1) := by decide +kernel
theorem dX3_bestPlan_5 : decode cX3_bestPlan 5 = .ok (.iload_n 1, 1) := by decide +kernel
theorem dX3_bestPlan_6 : decode cX3_bestPlan 6 = .ok (.if_icmp .ge 14, 3) := by decide +kernel
theorem dX3_bestPlan_9 : decode cX3_bestPlan 9 = .ok (.iload_n 2, 1) := by decide +kernel
theorem dX3_bestPlan_10 : decode cX3_bestPlan 10 = .ok (.bipush 6, 2) := by decide +kernel
theorem dX3_bestPlan_12 : decode cX3_bestPlan 12 = .ok (.imul, 1) := by decide +kernel
theorem dX3_bestPlan_13 : decode cX3_bestPlan 13 = .ok (.istore_n 2, 1) := by decide +kernel
theorem dX3_bestPlan_14 : decode cX3_bestPlan 14 = .ok (.iinc 3 1, 3) := by decide +kernel
theorem dX3_bestPlan_17 : decode cX3_bestPlan 17 = .ok (.goto (-13), 3) := by decide +kernel
theorem dX3_bestPlan_20 : decode cX3_bestPlan 20 = .ok (.iconst 0, 1) := by decide +kernel
theorem dX3_bestPlan_21 : decode cX3_bestPlan 21 = .ok (.istore_n 3, 1) := by decide +kernel
theorem dX3_bestPlan_22 : decode cX3_bestPlan 22 = .ok (.iconst (-1), 1) := by decide +kernel
theorem dX3_bestPlan_23 : decode cX3_bestPlan 23 = .ok (.istore 4, 2) := by decide +kernel
theorem dX3_bestPlan_25 : decode cX3_bestPlan 25 = .ok (.aload_n 0, 1) := by decide +kernel
theorem dX3_bestPlan_26 : decode cX3_bestPlan 26 = .ok (.getfield 19, 3) := by decide +kernel
theorem dX3_bestPlan_29 : decode cX3_bestPlan 29 = .ok (.getfield 71, 3) := by decide +kernel
theorem dX3_bestPlan_32 : decode cX3_bestPlan 32 = .ok (.iconst 0, 1) := by decide +kernel
theorem dX3_bestPlan_33 : decode cX3_bestPlan 33 = .ok (.iconst 0, 1) := by decide +kernel
theorem dX3_bestPlan_34 : decode cX3_bestPlan 34 = .ok (.invokestatic 170, 3) := by decide +kernel
theorem dX3_bestPlan_37 : decode cX3_bestPlan 37 = .ok (.istore 5, 2) := by decide +kernel
theorem dX3_bestPlan_39 : decode cX3_bestPlan 39 = .ok (.iconst 0, 1) := by decide +kernel
theorem dX3_bestPlan_40 : decode cX3_bestPlan 40 = .ok (.istore 6, 2) := by decide +kernel
theorem dX3_bestPlan_42 : decode cX3_bestPlan 42 = .ok (.iload 6, 2) := by decide +kernel
theorem dX3_bestPlan_44 : decode cX3_bestPlan 44 = .ok (.iload_n 2, 1) := by decide +kernel
theorem dX3_bestPlan_45 : decode cX3_bestPlan 45 = .ok (.if_icmp .ge 77, 3) := by decide +kernel
theorem dX3_bestPlan_48 : decode cX3_bestPlan 48 = .ok (.iload 4, 2) := by decide +kernel
theorem dX3_bestPlan_50 : decode cX3_bestPlan 50 = .ok (.iload 5, 2) := by decide +kernel
theorem dX3_bestPlan_52 : decode cX3_bestPlan 52 = .ok (.if_icmp .ge 70, 3) := by decide +kernel
theorem dX3_bestPlan_55 : decode cX3_bestPlan 55 = .ok (.aload_n 0, 1) := by decide +kernel
theorem dX3_bestPlan_56 : decode cX3_bestPlan 56 = .ok (.iload 6, 2) := by decide +kernel
theorem dX3_bestPlan_58 : decode cX3_bestPlan 58 = .ok (.iload_n 1, 1) := by decide +kernel
theorem dX3_bestPlan_59 : decode cX3_bestPlan 59 = .ok (.invokevirtual 160, 3) := by decide +kernel
theorem dX3_bestPlan_62 : decode cX3_bestPlan 62 = .ok (.ifCond .ne 6, 3) := by decide +kernel
theorem dX3_bestPlan_65 : decode cX3_bestPlan 65 = .ok (.goto 51, 3) := by decide +kernel
theorem dX3_bestPlan_68 : decode cX3_bestPlan 68 = .ok (.aload_n 0, 1) := by decide +kernel
theorem dX3_bestPlan_69 : decode cX3_bestPlan 69 = .ok (.getfield 36, 3) := by decide +kernel
theorem dX3_bestPlan_72 : decode cX3_bestPlan 72 = .ok (.invokevirtual 154, 3) := by decide +kernel
theorem dX3_bestPlan_75 : decode cX3_bestPlan 75 = .ok (.aload_n 0, 1) := by decide +kernel
theorem dX3_bestPlan_76 : decode cX3_bestPlan 76 = .ok (.getfield 36, 3) := by decide +kernel
theorem dX3_bestPlan_79 : decode cX3_bestPlan 79 = .ok (.invokevirtual 93, 3) := by decide +kernel
theorem dX3_bestPlan_82 : decode cX3_bestPlan 82 = .ok (.aload_n 0, 1) := by decide +kernel
theorem dX3_bestPlan_83 : decode cX3_bestPlan 83 = .ok (.getfield 36, 3) := by decide +kernel
theorem dX3_bestPlan_86 : decode cX3_bestPlan 86 = .ok (.iconst 4, 1) := by decide +kernel
theorem dX3_bestPlan_87 : decode cX3_bestPlan 87 = .ok (.invokevirtual 97, 3) := by decide +kernel
theorem dX3_bestPlan_90 : decode cX3_bestPlan 90 = .ok (.aload_n 0, 1) := by decide +kernel
theorem dX3_bestPlan_91 : decode cX3_bestPlan 91 = .ok (.getfield 36, 3) := by decide +kernel
theorem dX3_bestPlan_94 : decode cX3_bestPlan 94 = .ok (.invokevirtual 101, 3) := by decide +kernel
theorem dX3_bestPlan_97 : decode cX3_bestPlan 97 = .ok (.invokestatic 170, 3) := by decide +kernel
theorem dX3_bestPlan_100 : decode cX3_bestPlan 100 = .ok (.istore 7, 2) := by decide +kernel
theorem dX3_bestPlan_102 : decode cX3_bestPlan 102 = .ok (.iload 7, 2) := by decide +kernel
theorem dX3_bestPlan_104 : decode cX3_bestPlan 104 = .ok (.iload 4, 2) := by decide +kernel
theorem dX3_bestPlan_106 : decode cX3_bestPlan 106 = .ok (.if_icmp .le 10, 3) := by decide +kernel
theorem dX3_bestPlan_109 : decode cX3_bestPlan 109 = .ok (.iload 7, 2) := by decide +kernel
theorem dX3_bestPlan_111 : decode cX3_bestPlan 111 = .ok (.istore 4, 2) := by decide +kernel
theorem dX3_bestPlan_113 : decode cX3_bestPlan 113 = .ok (.iload 6, 2) := by decide +kernel
theorem dX3_bestPlan_115 : decode cX3_bestPlan 115 = .ok (.istore_n 3, 1) := by decide +kernel
theorem dX3_bestPlan_116 : decode cX3_bestPlan 116 = .ok (.iinc 6 1, 3) := by decide +kernel
theorem dX3_bestPlan_119 : decode cX3_bestPlan 119 = .ok (.goto (-77), 3) := by decide +kernel
theorem dX3_bestPlan_122 : decode cX3_bestPlan 122 = .ok (.iload_n 3, 1) := by decide +kernel
theorem dX3_bestPlan_123 : decode cX3_bestPlan 123 = .ok (.ireturn, 1) := by decide +kernel
theorem dX3_readPlan_0 : decode cX3_readPlan 0 = .ok (.iconst 1, 1) := by decide +kernel
theorem dX3_readPlan_1 : decode cX3_readPlan 1 = .ok (.istore_n 3, 1) := by decide +kernel
theorem dX3_readPlan_2 : decode cX3_readPlan 2 = .ok (.iload_n 1, 1) := by decide +kernel
theorem dX3_readPlan_3 : decode cX3_readPlan 3 = .ok (.istore 4, 2) := by decide +kernel
theorem dX3_readPlan_5 : decode cX3_readPlan 5 = .ok (.iload_n 2, 1) := by decide +kernel
theorem dX3_readPlan_6 : decode cX3_readPlan 6 = .ok (.iconst 1, 1) := by decide +kernel
theorem dX3_readPlan_7 : decode cX3_readPlan 7 = .ok (.isub, 1) := by decide +kernel
theorem dX3_readPlan_8 : decode cX3_readPlan 8 = .ok (.istore 5, 2) := by decide +kernel
theorem dX3_readPlan_10 : decode cX3_readPlan 10 = .ok (.iload 5, 2) := by decide +kernel
theorem dX3_readPlan_12 : decode cX3_readPlan 12 = .ok (.ifCond .lt 56, 3) := by decide +kernel
theorem dX3_readPlan_15 : decode cX3_readPlan 15 = .ok (.iload 4, 2) := by decide +kernel
theorem dX3_readPlan_17 : decode cX3_readPlan 17 = .ok (.bipush 6, 2) := by decide +kernel
theorem dX3_readPlan_19 : decode cX3_readPlan 19 = .ok (.irem, 1) := by decide +kernel
theorem dX3_readPlan_20 : decode cX3_readPlan 20 = .ok (.iconst 2, 1) := by decide +kernel
theorem dX3_readPlan_21 : decode cX3_readPlan 21 = .ok (.imul, 1) := by decide +kernel
theorem dX3_readPlan_22 : decode cX3_readPlan 22 = .ok (.istore 6, 2) := by decide +kernel
theorem dX3_readPlan_24 : decode cX3_readPlan 24 = .ok (.iload 4, 2) := by decide +kernel
theorem dX3_readPlan_26 : decode cX3_readPlan 26 = .ok (.bipush 6, 2) := by decide +kernel
theorem dX3_readPlan_28 : decode cX3_readPlan 28 = .ok (.idiv, 1) := by decide +kernel
theorem dX3_readPlan_29 : decode cX3_readPlan 29 = .ok (.istore 4, 2) := by decide +kernel
theorem dX3_readPlan_31 : decode cX3_readPlan 31 = .ok (.aload_n 0, 1) := by decide +kernel
theorem dX3_readPlan_32 : decode cX3_readPlan 32 = .ok (.getfield 36, 3) := by decide +kernel
theorem dX3_readPlan_35 : decode cX3_readPlan 35 = .ok (.getfield 153, 3) := by decide +kernel
theorem dX3_readPlan_38 : decode cX3_readPlan 38 = .ok (.iload 5, 2) := by decide +kernel
theorem dX3_readPlan_40 : decode cX3_readPlan 40 = .ok (.iload 6, 2) := by decide +kernel
theorem dX3_readPlan_42 : decode cX3_readPlan 42 = .ok (.iastore, 1) := by decide +kernel
theorem dX3_readPlan_43 : decode cX3_readPlan 43 = .ok (.iload 6, 2) := by decide +kernel
theorem dX3_readPlan_45 : decode cX3_readPlan 45 = .ok (.ifCond .le 17, 3) := by decide +kernel
theorem dX3_readPlan_48 : decode cX3_readPlan 48 = .ok (.aload_n 0, 1) := by decide +kernel
theorem dX3_readPlan_49 : decode cX3_readPlan 49 = .ok (.getfield 19, 3) := by decide +kernel
theorem dX3_readPlan_52 : decode cX3_readPlan 52 = .ok (.iload 5, 2) := by decide +kernel
theorem dX3_readPlan_54 : decode cX3_readPlan 54 = .ok (.invokevirtual 173, 3) := by decide +kernel
theorem dX3_readPlan_57 : decode cX3_readPlan 57 = .ok (.ifCond .ne 5, 3) := by decide +kernel
theorem dX3_readPlan_60 : decode cX3_readPlan 60 = .ok (.iconst 0, 1) := by decide +kernel
theorem dX3_readPlan_61 : decode cX3_readPlan 61 = .ok (.istore_n 3, 1) := by decide +kernel
theorem dX3_readPlan_62 : decode cX3_readPlan 62 = .ok (.iinc 5 (-1), 3) := by decide +kernel
theorem dX3_readPlan_65 : decode cX3_readPlan 65 = .ok (.goto (-55), 3) := by decide +kernel
theorem dX3_readPlan_68 : decode cX3_readPlan 68 = .ok (.iload_n 3, 1) := by decide +kernel
theorem dX3_readPlan_69 : decode cX3_readPlan 69 = .ok (.ireturn, 1) := by decide +kernel
theorem dX3_merit_0 : decode cX3_merit 0 = .ok (.sipush 1200, 3) := by decide +kernel
theorem dX3_merit_3 : decode cX3_merit 3 = .ok (.istore_n 3, 1) := by decide +kernel
theorem dX3_merit_4 : decode cX3_merit 4 = .ok (.iload_n 0, 1) := by decide +kernel
theorem dX3_merit_5 : decode cX3_merit 5 = .ok (.bipush 13, 2) := by decide +kernel
theorem dX3_merit_7 : decode cX3_merit 7 = .ok (.imul, 1) := by decide +kernel
theorem dX3_merit_8 : decode cX3_merit 8 = .ok (.bipush 12, 2) := by decide +kernel
theorem dX3_merit_10 : decode cX3_merit 10 = .ok (.iadd, 1) := by decide +kernel
theorem dX3_merit_11 : decode cX3_merit 11 = .ok (.iload_n 1, 1) := by decide +kernel
theorem dX3_merit_12 : decode cX3_merit 12 = .ok (.isub, 1) := by decide +kernel
theorem dX3_merit_13 : decode cX3_merit 13 = .ok (.istore 4, 2) := by decide +kernel
theorem dX3_merit_15 : decode cX3_merit 15 = .ok (.iload 4, 2) := by decide +kernel
theorem dX3_merit_17 : decode cX3_merit 17 = .ok (.iload_n 3, 1) := by decide +kernel
theorem dX3_merit_18 : decode cX3_merit 18 = .ok (.iconst 1, 1) := by decide +kernel
theorem dX3_merit_19 : decode cX3_merit 19 = .ok (.iadd, 1) := by decide +kernel
theorem dX3_merit_20 : decode cX3_merit 20 = .ok (.imul, 1) := by decide +kernel
theorem dX3_merit_21 : decode cX3_merit 21 = .ok (.iload_n 3, 1) := by decide +kernel
theorem dX3_merit_22 : decode cX3_merit 22 = .ok (.iadd, 1) := by decide +kernel
theorem dX3_merit_23 : decode cX3_merit 23 = .ok (.iload_n 2, 1) := by decide +kernel
theorem dX3_merit_24 : decode cX3_merit 24 = .ok (.isub, 1) := by decide +kernel
theorem dX3_merit_25 : decode cX3_merit 25 = .ok (.ireturn, 1) := by decide +kernel
theorem dX4_init_0 : decode cX4_init 0 = .ok (.aload_n 0, 1) := by decide +kernel
theorem dX4_init_1 : decode cX4_init 1 = .ok (.invokespecial 1, 3) := by decide +kernel
theorem dX4_init_4 : decode cX4_init 4 = .ok (.aload_n 0, 1) := by decide +kernel
theorem dX4_init_5 : decode cX4_init 5 = .ok (.iconst 2, 1) := by decide +kernel
theorem dX4_init_6 : decode cX4_init 6 = .ok (.putfield 7, 3) := by decide +kernel
theorem dX4_init_9 : decode cX4_init 9 = .ok (.aload_n 0, 1) := by decide +kernel
theorem dX4_init_10 : decode cX4_init 10 = .ok (.bipush 7, 2) := by decide +kernel
theorem dX4_init_12 : decode cX4_init 12 = .ok (.newarray .int, 2) := by decide +kernel
theorem dX4_init_14 : decode cX4_init 14 = .ok (.putfield 13, 3) := by decide +kernel
theorem dX4_init_17 : decode cX4_init 17 = .ok (.aload_n 0, 1) := by decide +kernel
theorem dX4_init_18 : decode cX4_init 18 = .ok (.bipush 7, 2) := by decide +kernel
theorem dX4_init_20 : decode cX4_init 20 = .ok (.newarray .int, 2) := by decide +kernel
theorem dX4_init_22 : decode cX4_init 22 = .ok (.putfield 17, 3) := by decide +kernel
theorem dX4_init_25 : decode cX4_init 25 = .ok (.aload_n 0, 1) := by decide +kernel
theorem dX4_init_26 : decode cX4_init 26 = .ok (.iconst 1, 1) := by decide +kernel
theorem dX4_init_27 : decode cX4_init 27 = .ok (.putfield 20, 3) := by decide +kernel
theorem dX4_init_30 : decode cX4_init 30 = .ok (.aload_n 0, 1) := by decide +kernel
theorem dX4_init_31 : decode cX4_init 31 = .ok (.sipush 201, 3) := by decide +kernel
theorem dX4_init_34 : decode cX4_init 34 = .ok (.newarray .boolean, 2) := by decide +kernel
theorem dX4_init_36 : decode cX4_init 36 = .ok (.putfield 23, 3) := by decide +kernel
theorem dX4_init_39 : decode cX4_init 39 = .ok (.aload_n 0, 1) := by decide +kernel
theorem dX4_init_40 : decode cX4_init 40 = .ok (.iconst 4, 1) := by decide +kernel
theorem dX4_init_41 : decode cX4_init 41 = .ok (.newarray .int, 2) := by decide +kernel
theorem dX4_init_43 : decode cX4_init 43 = .ok (.putfield 27, 3) := by decide +kernel
theorem dX4_init_46 : decode cX4_init 46 = .ok (.aload_n 0, 1) := by decide +kernel
theorem dX4_init_47 : decode cX4_init 47 = .ok (.iconst 4, 1) := by decide +kernel
theorem dX4_init_48 : decode cX4_init 48 = .ok (.newarray .int, 2) := by decide +kernel
theorem dX4_init_50 : decode cX4_init 50 = .ok (.putfield 30, 3) := by decide +kernel
theorem dX4_init_53 : decode cX4_init 53 = .ok (.aload_n 0, 1) := by decide +kernel
theorem dX4_init_54 : decode cX4_init 54 = .ok (.bipush 12, 2) := by decide +kernel
theorem dX4_init_56 : decode cX4_init 56 = .ok (.newarray .int, 2) := by decide +kernel
theorem dX4_init_58 : decode cX4_init 58 = .ok (.putfield 33, 3) := by decide +kernel
theorem dX4_init_61 : decode cX4_init 61 = .ok (.aload_n 0, 1) := by decide +kernel
theorem dX4_init_62 : decode cX4_init 62 = .ok (.bipush 12, 2) := by decide +kernel
theorem dX4_init_64 : decode cX4_init 64 = .ok (.newarray .int, 2) := by decide +kernel
theorem dX4_init_66 : decode cX4_init 66 = .ok (.putfield 36, 3) := by decide +kernel
theorem dX4_init_69 : decode cX4_init 69 = .ok (.aload_n 0, 1) := by decide +kernel
theorem dX4_init_70 : decode cX4_init 70 = .ok (.bipush 12, 2) := by decide +kernel
theorem dX4_init_72 : decode cX4_init 72 = .ok (.newarray .int, 2) := by decide +kernel
theorem dX4_init_74 : decode cX4_init 74 = .ok (.putfield 39, 3) := by decide +kernel
theorem dX4_init_77 : decode cX4_init 77 = .ok (.aload_n 0, 1) := by decide +kernel
theorem dX4_init_78 : decode cX4_init 78 = .ok (.bipush 84, 2) := by decide +kernel
theorem dX4_init_80 : decode cX4_init 80 = .ok (.newarray .int, 2) := by decide +kernel
theorem dX4_init_82 : decode cX4_init 82 = .ok (.putfield 42, 3) := by decide +kernel
theorem dX4_init_85 : decode cX4_init 85 = .ok (.aload_n 0, 1) := by decide +kernel
theorem dX4_init_86 : decode cX4_init 86 = .ok (.bipush 84, 2) := by decide +kernel
theorem dX4_init_88 : decode cX4_init 88 = .ok (.newarray .int, 2) := by decide +kernel
theorem dX4_init_90 : decode cX4_init 90 = .ok (.putfield 45, 3) := by decide +kernel
theorem dX4_init_93 : decode cX4_init 93 = .ok (.aload_n 0, 1) := by decide +kernel
theorem dX4_init_94 : decode cX4_init 94 = .ok (.iconst 4, 1) := by decide +kernel
theorem dX4_init_95 : decode cX4_init 95 = .ok (.newarray .int, 2) := by decide +kernel
theorem dX4_init_97 : decode cX4_init 97 = .ok (.putfield 48, 3) := by decide +kernel
theorem dX4_init_100 : decode cX4_init 100 = .ok (.iconst 0, 1) := by decide +kernel
theorem dX4_init_101 : decode cX4_init 101 = .ok (.istore_n 1, 1) := by decide +kernel
theorem dX4_init_102 : decode cX4_init 102 = .ok (.iload_n 1, 1) := by decide +kernel
theorem dX4_init_103 : decode cX4_init 103 = .ok (.iconst 4, 1) := by decide +kernel
theorem dX4_init_104 : decode cX4_init 104 = .ok (.if_icmp .ge 18, 3) := by decide +kernel
theorem dX4_init_107 : decode cX4_init 107 = .ok (.aload_n 0, 1) := by decide +kernel
theorem dX4_init_108 : decode cX4_init 108 = .ok (.getfield 30, 3) := by decide +kernel
theorem dX4_init_111 : decode cX4_init 111 = .ok (.iload_n 1, 1) := by decide +kernel
theorem dX4_init_112 : decode cX4_init 112 = .ok (.sipush 200, 3) := by decide +kernel
theorem dX4_init_115 : decode cX4_init 115 = .ok (.iastore, 1) := by decide +kernel
theorem dX4_init_116 : decode cX4_init 116 = .ok (.iinc 1 1, 3) := by decide +kernel
theorem dX4_init_119 : decode cX4_init 119 = .ok (.goto (-17), 3) := by decide +kernel
theorem dX4_init_122 : decode cX4_init 122 = .ok (.aload_n 0, 1) := by decide +kernel
theorem dX4_init_123 : decode cX4_init 123 = .ok (.invokevirtual 51, 3) := by decide +kernel
theorem dX4_init_126 : decode cX4_init 126 = .ok (.return_, 1) := by decide +kernel
theorem dX4_thrown_0 : decode cX4_thrown 0 = .ok (.aload_n 0, 1) := by decide +kernel
theorem dX4_thrown_1 : decode cX4_thrown 1 = .ok (.getfield 54, 3) := by decide +kernel
theorem dX4_thrown_4 : decode cX4_thrown 4 = .ok (.ireturn, 1) := by decide +kernel
theorem dX4_in_0 : decode cX4_in 0 = .ok (.iload_n 0, 1) := by decide +kernel
theorem dX4_in_1 : decode cX4_in 1 = .ok (.iload_n 1, 1) := by decide +kernel
theorem dX4_in_2 : decode cX4_in 2 = .ok (.if_icmp .lt 12, 3) := by decide +kernel
theorem dX4_in_5 : decode cX4_in 5 = .ok (.iload_n 0, 1) := by decide +kernel
theorem dX4_in_6 : decode cX4_in 6 = .ok (.iload_n 2, 1) := by decide +kernel
theorem dX4_in_7 : decode cX4_in 7 = .ok (.if_icmp .gt 7, 3) := by decide +kernel
theorem dX4_in_10 : decode cX4_in 10 = .ok (.iconst 1, 1) := by decide +kernel
theorem dX4_in_11 : decode cX4_in 11 = .ok (.goto 4, 3) := by decide +kernel
theorem dX4_in_14 : decode cX4_in 14 = .ok (.iconst 0, 1) := by decide +kernel
theorem dX4_in_15 : decode cX4_in 15 = .ok (.ireturn, 1) := by decide +kernel
theorem dX4_levelAll_0 : decode cX4_levelAll 0 = .ok (.iconst 0, 1) := by decide +kernel
theorem dX4_levelAll_1 : decode cX4_levelAll 1 = .ok (.istore_n 1, 1) := by decide +kernel
theorem dX4_levelAll_2 : decode cX4_levelAll 2 = .ok (.iload_n 1, 1) := by decide +kernel
theorem dX4_levelAll_3 : decode cX4_levelAll 3 = .ok (.bipush 7, 2) := by decide +kernel
theorem dX4_levelAll_5 : decode cX4_levelAll 5 = .ok (.if_icmp .ge 23, 3) := by decide +kernel
theorem dX4_levelAll_8 : decode cX4_levelAll 8 = .ok (.aload_n 0, 1) := by decide +kernel
theorem dX4_levelAll_9 : decode cX4_levelAll 9 = .ok (.getfield 13, 3) := by decide +kernel
theorem dX4_levelAll_12 : decode cX4_levelAll 12 = .ok (.iload_n 1, 1) := by decide +kernel
theorem dX4_levelAll_13 : decode cX4_levelAll 13 = .ok (.iconst 2, 1) := by decide +kernel
theorem dX4_levelAll_14 : decode cX4_levelAll 14 = .ok (.iastore, 1) := by decide +kernel
theorem dX4_levelAll_15 : decode cX4_levelAll 15 = .ok (.aload_n 0, 1) := by decide +kernel
theorem dX4_levelAll_16 : decode cX4_levelAll 16 = .ok (.getfield 17, 3) := by decide +kernel
theorem dX4_levelAll_19 : decode cX4_levelAll 19 = .ok (.iload_n 1, 1) := by decide +kernel
theorem dX4_levelAll_20 : decode cX4_levelAll 20 = .ok (.iconst 1, 1) := by decide +kernel
theorem dX4_levelAll_21 : decode cX4_levelAll 21 = .ok (.iastore, 1) := by decide +kernel
theorem dX4_levelAll_22 : decode cX4_levelAll 22 = .ok (.iinc 1 1, 3) := by decide +kernel
theorem dX4_levelAll_25 : decode cX4_levelAll 25 = .ok (.goto (-23), 3) := by decide +kernel
theorem dX4_levelAll_28 : decode cX4_levelAll 28 = .ok (.return_, 1) := by decide +kernel
theorem dX4_get_0 : decode cX4_get 0 = .ok (.aload_n 0, 1) := by decide +kernel
theorem dX4_get_1 : decode cX4_get 1 = .ok (.getfield 42, 3) := by decide +kernel
theorem dX4_get_4 : decode cX4_get 4 = .ok (.bipush 7, 2) := by decide +kernel
theorem dX4_get_6 : decode cX4_get 6 = .ok (.iload_n 1, 1) := by decide +kernel
theorem dX4_get_7 : decode cX4_get 7 = .ok (.imul, 1) := by decide +kernel
theorem dX4_get_8 : decode cX4_get 8 = .ok (.iload_n 2, 1) := by decide +kernel
theorem dX4_get_9 : decode cX4_get 9 = .ok (.iadd, 1) := by decide +kernel
theorem dX4_get_10 : decode cX4_get 10 = .ok (.iaload, 1) := by decide +kernel
theorem dX4_get_11 : decode cX4_get 11 = .ok (.ireturn, 1) := by decide +kernel
theorem dX4_put_0 : decode cX4_put 0 = .ok (.aload_n 0, 1) := by decide +kernel
theorem dX4_put_1 : decode cX4_put 1 = .ok (.getfield 42, 3) := by decide +kernel
theorem dX4_put_4 : decode cX4_put 4 = .ok (.bipush 7, 2) := by decide +kernel
theorem dX4_put_6 : decode cX4_put 6 = .ok (.iload_n 1, 1) := by decide +kernel
theorem dX4_put_7 : decode cX4_put 7 = .ok (.imul, 1) := by decide +kernel
theorem dX4_put_8 : decode cX4_put 8 = .ok (.iload_n 2, 1) := by decide +kernel
theorem dX4_put_9 : decode cX4_put 9 = .ok (.iadd, 1) := by decide +kernel
theorem dX4_put_10 : decode cX4_put 10 = .ok (.iload_n 3, 1) := by decide +kernel
theorem dX4_put_11 : decode cX4_put 11 = .ok (.iastore, 1) := by decide +kernel
theorem dX4_put_12 : decode cX4_put 12 = .ok (.return_, 1) := by decide +kernel
theorem dX4_lay_0 : decode cX4_lay 0 = .ok (.aload_n 0, 1) := by decide +kernel
theorem dX4_lay_1 : decode cX4_lay 1 = .ok (.iload_n 1, 1) := by decide +kernel
theorem dX4_lay_2 : decode cX4_lay 2 = .ok (.iconst 0, 1) := by decide +kernel
theorem dX4_lay_3 : decode cX4_lay 3 = .ok (.iconst 0, 1) := by decide +kernel
theorem dX4_lay_4 : decode cX4_lay 4 = .ok (.invokevirtual 57, 3) := by decide +kernel
theorem dX4_lay_7 : decode cX4_lay 7 = .ok (.aload_n 0, 1) := by decide +kernel
theorem dX4_lay_8 : decode cX4_lay 8 = .ok (.iload_n 1, 1) := by decide +kernel
theorem dX4_lay_9 : decode cX4_lay 9 = .ok (.iconst 1, 1) := by decide +kernel
theorem dX4_lay_10 : decode cX4_lay 10 = .ok (.iconst 0, 1) := by decide +kernel
theorem dX4_lay_11 : decode cX4_lay 11 = .ok (.invokevirtual 57, 3) := by decide +kernel
theorem dX4_lay_14 : decode cX4_lay 14 = .ok (.aload_n 0, 1) := by decide +kernel
theorem dX4_lay_15 : decode cX4_lay 15 = .ok (.iload_n 1, 1) := by decide +kernel
theorem dX4_lay_16 : decode cX4_lay 16 = .ok (.iconst 2, 1) := by decide +kernel
theorem dX4_lay_17 : decode cX4_lay 17 = .ok (.iconst 0, 1) := by decide +kernel
theorem dX4_lay_18 : decode cX4_lay 18 = .ok (.invokevirtual 57, 3) := by decide +kernel
theorem dX4_lay_21 : decode cX4_lay 21 = .ok (.aload_n 0, 1) := by decide +kernel
theorem dX4_lay_22 : decode cX4_lay 22 = .ok (.iload_n 1, 1) := by decide +kernel
theorem dX4_lay_23 : decode cX4_lay 23 = .ok (.iconst 3, 1) := by decide +kernel
theorem dX4_lay_24 : decode cX4_lay 24 = .ok (.aload_n 0, 1) := by decide +kernel
theorem dX4_lay_25 : decode cX4_lay 25 = .ok (.getfield 39, 3) := by decide +kernel
theorem dX4_lay_28 : decode cX4_lay 28 = .ok (.iload_n 1, 1) := by decide +kernel
theorem dX4_lay_29 : decode cX4_lay 29 = .ok (.iaload, 1) := by decide +kernel
theorem dX4_lay_30 : decode cX4_lay 30 = .ok (.invokevirtual 57, 3) := by decide +kernel
theorem dX4_lay_33 : decode cX4_lay 33 = .ok (.aload_n 0, 1) := by decide +kernel
theorem dX4_lay_34 : decode cX4_lay 34 = .ok (.iload_n 1, 1) := by decide +kernel
theorem dX4_lay_35 : decode cX4_lay 35 = .ok (.iconst 4, 1) := by decide +kernel
theorem dX4_lay_36 : decode cX4_lay 36 = .ok (.iconst (-1), 1) := by decide +kernel
theorem dX4_lay_37 : decode cX4_lay 37 = .ok (.invokevirtual 57, 3) := by decide +kernel
theorem dX4_lay_40 : decode cX4_lay 40 = .ok (.aload_n 0, 1) := by decide +kernel
theorem dX4_lay_41 : decode cX4_lay 41 = .ok (.iload_n 1, 1) := by decide +kernel
theorem dX4_lay_42 : decode cX4_lay 42 = .ok (.iconst 5, 1) := by decide +kernel
theorem dX4_lay_43 : decode cX4_lay 43 = .ok (.iconst 0, 1) := by decide +kernel
theorem dX4_lay_44 : decode cX4_lay 44 = .ok (.invokevirtual 57, 3) := by decide +kernel
theorem dX4_lay_47 : decode cX4_lay 47 = .ok (.aload_n 0, 1) := by decide +kernel
theorem dX4_lay_48 : decode cX4_lay 48 = .ok (.iload_n 1, 1) := by decide +kernel
theorem dX4_lay_49 : decode cX4_lay 49 = .ok (.bipush 6, 2) := by decide +kernel
theorem dX4_lay_51 : decode cX4_lay 51 = .ok (.iload_n 2, 1) := by decide +kernel
theorem dX4_lay_52 : decode cX4_lay 52 = .ok (.invokevirtual 57, 3) := by decide +kernel
theorem dX4_lay_55 : decode cX4_lay 55 = .ok (.return_, 1) := by decide +kernel
theorem dX4_beginAll_0 : decode cX4_beginAll 0 = .ok (.aload_n 0, 1) := by decide +kernel
theorem dX4_beginAll_1 : decode cX4_beginAll 1 = .ok (.iconst 0, 1) := by decide +kernel
theorem dX4_beginAll_2 : decode cX4_beginAll 2 = .ok (.putfield 61, 3) := by decide +kernel
theorem dX4_beginAll_5 : decode cX4_beginAll 5 = .ok (.iconst 0, 1) := by decide +kernel
theorem dX4_beginAll_6 : decode cX4_beginAll 6 = .ok (.istore_n 1, 1) := by decide +kernel
theorem dX4_beginAll_7 : decode cX4_beginAll 7 = .ok (.iload_n 1, 1) := by decide +kernel
theorem dX4_beginAll_8 : decode cX4_beginAll 8 = .ok (.aload_n 0, 1) := by decide +kernel
theorem dX4_beginAll_9 : decode cX4_beginAll 9 = .ok (.getfield 64, 3) := by decide +kernel
theorem dX4_beginAll_12 : decode cX4_beginAll 12 = .ok (.if_icmp .ge 15, 3) := by decide +kernel
theorem dX4_beginAll_15 : decode cX4_beginAll 15 = .ok (.aload_n 0, 1) := by decide +kernel
theorem dX4_beginAll_16 : decode cX4_beginAll 16 = .ok (.iload_n 1, 1) := by decide +kernel
theorem dX4_beginAll_17 : decode cX4_beginAll 17 = .ok (.iconst 0, 1) := by decide +kernel
theorem dX4_beginAll_18 : decode cX4_beginAll 18 = .ok (.invokevirtual 67, 3) := by decide +kernel
theorem dX4_beginAll_21 : decode cX4_beginAll 21 = .ok (.iinc 1 1, 3) := by decide +kernel
theorem dX4_beginAll_24 : decode cX4_beginAll 24 = .ok (.goto (-17), 3) := by decide +kernel
theorem dX4_beginAll_27 : decode cX4_beginAll 27 = .ok (.return_, 1) := by decide +kernel
theorem dX4_mountain_0 : decode cX4_mountain 0 = .ok (.aload_n 0, 1) := by decide +kernel
theorem dX4_mountain_1 : decode cX4_mountain 1 = .ok (.iconst 0, 1) := by decide +kernel
theorem dX4_mountain_2 : decode cX4_mountain 2 = .ok (.putfield 54, 3) := by decide +kernel
theorem dX4_mountain_5 : decode cX4_mountain 5 = .ok (.iload_n 1, 1) := by decide +kernel
theorem dX4_mountain_6 : decode cX4_mountain 6 = .ok (.iconst 1, 1) := by decide +kernel
theorem dX4_mountain_7 : decode cX4_mountain 7 = .ok (.bipush 6, 2) := by decide +kernel
theorem dX4_mountain_9 : decode cX4_mountain 9 = .ok (.invokestatic 71, 3) := by decide +kernel
theorem dX4_mountain_12 : decode cX4_mountain 12 = .ok (.ifCond .ne 5, 3) := by decide +kernel
theorem dX4_mountain_15 : decode cX4_mountain 15 = .ok (.iconst 0, 1) := by decide +kernel
theorem dX4_mountain_16 : decode cX4_mountain 16 = .ok (.ireturn, 1) := by decide +kernel
theorem dX4_mountain_17 : decode cX4_mountain 17 = .ok (.aload_n 0, 1) := by decide +kernel
theorem dX4_mountain_18 : decode cX4_mountain 18 = .ok (.iload_n 1, 1) := by decide +kernel
theorem dX4_mountain_19 : decode cX4_mountain 19 = .ok (.putfield 7, 3) := by decide +kernel
theorem dX4_mountain_22 : decode cX4_mountain 22 = .ok (.aload_n 0, 1) := by decide +kernel
theorem dX4_mountain_23 : decode cX4_mountain 23 = .ok (.invokevirtual 51, 3) := by decide +kernel
theorem dX4_mountain_26 : decode cX4_mountain 26 = .ok (.aload_n 0, 1) := by decide +kernel
theorem dX4_mountain_27 : decode cX4_mountain 27 = .ok (.aload_n 0, 1) := by decide +kernel
theorem dX4_mountain_28 : decode cX4_mountain 28 = .ok (.getfield 20, 3) := by decide +kernel
theorem dX4_mountain_31 : decode cX4_mountain 31 = .ok (.iload_n 1, 1) := by decide +kernel
theorem dX4_mountain_32 : decode cX4_mountain 32 = .ok (.invokestatic 75, 3) := by decide +kernel
theorem dX4_mountain_35 : decode cX4_mountain 35 = .ok (.putfield 20, 3) := by decide +kernel
theorem dX4_mountain_38 : decode cX4_mountain 38 = .ok (.aload_n 0, 1) := by decide +kernel
theorem dX4_mountain_39 : decode cX4_mountain 39 = .ok (.invokevirtual 81, 3) := by decide +kernel
theorem dX4_mountain_42 : decode cX4_mountain 42 = .ok (.iconst 1, 1) := by decide +kernel
theorem dX4_mountain_43 : decode cX4_mountain 43 = .ok (.ireturn, 1) := by decide +kernel
theorem dX4_isPitch_0 : decode cX4_isPitch 0 = .ok (.iload_n 1, 1) := by decide +kernel
theorem dX4_isPitch_1 : decode cX4_isPitch 1 = .ok (.iconst 0, 1) := by decide +kernel
theorem dX4_isPitch_2 : decode cX4_isPitch 2 = .ok (.aload_n 0, 1) := by decide +kernel
theorem dX4_isPitch_3 : decode cX4_isPitch 3 = .ok (.getfield 7, 3) := by decide +kernel
theorem dX4_isPitch_6 : decode cX4_isPitch 6 = .ok (.iconst 1, 1) := by decide +kernel
theorem dX4_isPitch_7 : decode cX4_isPitch 7 = .ok (.isub, 1) := by decide +kernel
theorem dX4_isPitch_8 : decode cX4_isPitch 8 = .ok (.invokestatic 71, 3) := by decide +kernel
theorem dX4_isPitch_11 : decode cX4_isPitch 11 = .ok (.ireturn, 1) := by decide +kernel
theorem dX4_pitch_0 : decode cX4_pitch 0 = .ok (.aload_n 0, 1) := by decide +kernel
theorem dX4_pitch_1 : decode cX4_pitch 1 = .ok (.iconst 0, 1) := by decide +kernel
theorem dX4_pitch_2 : decode cX4_pitch 2 = .ok (.putfield 54, 3) := by decide +kernel
theorem dX4_pitch_5 : decode cX4_pitch 5 = .ok (.aload_n 0, 1) := by decide +kernel
theorem dX4_pitch_6 : decode cX4_pitch 6 = .ok (.iload_n 1, 1) := by decide +kernel
theorem dX4_pitch_7 : decode cX4_pitch 7 = .ok (.invokevirtual 84, 3) := by decide +kernel
theorem dX4_pitch_10 : decode cX4_pitch 10 = .ok (.ifCond .eq 23, 3) := by decide +kernel
theorem dX4_pitch_13 : decode cX4_pitch 13 = .ok (.iload_n 2, 1) := by decide +kernel
theorem dX4_pitch_14 : decode cX4_pitch 14 = .ok (.iconst 1, 1) := by decide +kernel
theorem dX4_pitch_15 : decode cX4_pitch 15 = .ok (.bipush 8, 2) := by decide +kernel
theorem dX4_pitch_17 : decode cX4_pitch 17 = .ok (.invokestatic 71, 3) := by decide +kernel
theorem dX4_pitch_20 : decode cX4_pitch 20 = .ok (.ifCond .eq 13, 3) := by decide +kernel
theorem dX4_pitch_23 : decode cX4_pitch 23 = .ok (.iload_n 3, 1) := by decide +kernel
theorem dX4_pitch_24 : decode cX4_pitch 24 = .ok (.iconst 1, 1) := by decide +kernel
theorem dX4_pitch_25 : decode cX4_pitch 25 = .ok (.bipush 6, 2) := by decide +kernel
theorem dX4_pitch_27 : decode cX4_pitch 27 = .ok (.invokestatic 71, 3) := by decide +kernel
theorem dX4_pitch_30 : decode cX4_pitch 30 = .ok (.ifCond .ne 5, 3) := by decide +kernel
theorem dX4_pitch_33 : decode cX4_pitch 33 = .ok (.iconst 0, 1) := by decide +kernel
theorem dX4_pitch_34 : decode cX4_pitch 34 = .ok (.ireturn, 1) := by decide +kernel
theorem dX4_pitch_35 : decode cX4_pitch 35 = .ok (.aload_n 0, 1) := by decide +kernel
theorem dX4_pitch_36 : decode cX4_pitch 36 = .ok (.getfield 13, 3) := by decide +kernel
theorem dX4_pitch_39 : decode cX4_pitch 39 = .ok (.iload_n 1, 1) := by decide +kernel
theorem dX4_pitch_40 : decode cX4_pitch 40 = .ok (.iload_n 2, 1) := by decide +kernel
theorem dX4_pitch_41 : decode cX4_pitch 41 = .ok (.iastore, 1) := by decide +kernel
theorem dX4_pitch_42 : decode cX4_pitch 42 = .ok (.aload_n 0, 1) := by decide +kernel
theorem dX4_pitch_43 : decode cX4_pitch 43 = .ok (.getfield 17, 3) := by decide +kernel
theorem dX4_pitch_46 : decode cX4_pitch 46 = .ok (.iload_n 1, 1) := by decide +kernel
theorem dX4_pitch_47 : decode cX4_pitch 47 = .ok (.iload_n 3, 1) := by decide +kernel
theorem dX4_pitch_48 : decode cX4_pitch 48 = .ok (.iastore, 1) := by decide +kernel
theorem dX4_pitch_49 : decode cX4_pitch 49 = .ok (.iconst 1, 1) := by decide +kernel
theorem dX4_pitch_50 : decode cX4_pitch 50 = .ok (.ireturn, 1) := by decide +kernel
theorem dX4_high_0 : decode cX4_high 0 = .ok (.aload_n 0, 1) := by decide +kernel
theorem dX4_high_1 : decode cX4_high 1 = .ok (.iconst 0, 1) := by decide +kernel
theorem dX4_high_2 : decode cX4_high 2 = .ok (.putfield 54, 3) := by decide +kernel
theorem dX4_high_5 : decode cX4_high 5 = .ok (.iload_n 1, 1) := by decide +kernel
theorem dX4_high_6 : decode cX4_high 6 = .ok (.iconst 0, 1) := by decide +kernel
theorem dX4_high_7 : decode cX4_high 7 = .ok (.aload_n 0, 1) := by decide +kernel
theorem dX4_high_8 : decode cX4_high 8 = .ok (.getfield 7, 3) := by decide +kernel
theorem dX4_high_11 : decode cX4_high 11 = .ok (.invokestatic 71, 3) := by decide +kernel
theorem dX4_high_14 : decode cX4_high 14 = .ok (.ifCond .ne 5, 3) := by decide +kernel
theorem dX4_high_17 : decode cX4_high 17 = .ok (.iconst (-1), 1) := by decide +kernel
theorem dX4_high_18 : decode cX4_high 18 = .ok (.ireturn, 1) := by decide +kernel
theorem dX4_high_19 : decode cX4_high 19 = .ok (.aload_n 0, 1) := by decide +kernel
theorem dX4_high_20 : decode cX4_high 20 = .ok (.getfield 20, 3) := by decide +kernel
theorem dX4_high_23 : decode cX4_high 23 = .ok (.istore_n 2, 1) := by decide +kernel
theorem dX4_high_24 : decode cX4_high 24 = .ok (.aload_n 0, 1) := by decide +kernel
theorem dX4_high_25 : decode cX4_high 25 = .ok (.iload_n 1, 1) := by decide +kernel
theorem dX4_high_26 : decode cX4_high 26 = .ok (.putfield 20, 3) := by decide +kernel
theorem dX4_high_29 : decode cX4_high 29 = .ok (.iload_n 2, 1) := by decide +kernel
theorem dX4_high_30 : decode cX4_high 30 = .ok (.ireturn, 1) := by decide +kernel
theorem dX4_wind_0 : decode cX4_wind 0 = .ok (.aload_n 0, 1) := by decide +kernel
theorem dX4_wind_1 : decode cX4_wind 1 = .ok (.iconst 0, 1) := by decide +kernel
theorem dX4_wind_2 : decode cX4_wind 2 = .ok (.putfield 54, 3) := by decide +kernel
theorem dX4_wind_5 : decode cX4_wind 5 = .ok (.iload_n 2, 1) := by decide +kernel
theorem dX4_wind_6 : decode cX4_wind 6 = .ok (.iconst 0, 1) := by decide +kernel
theorem dX4_wind_7 : decode cX4_wind 7 = .ok (.sipush 199, 3) := by decide +kernel
theorem dX4_wind_10 : decode cX4_wind 10 = .ok (.invokestatic 71, 3) := by decide +kernel
theorem dX4_wind_13 : decode cX4_wind 13 = .ok (.ifCond .eq 12, 3) := by decide +kernel
theorem dX4_wind_16 : decode cX4_wind 16 = .ok (.iload_n 1, 1) := by decide +kernel
theorem dX4_wind_17 : decode cX4_wind 17 = .ok (.iconst 0, 1) := by decide +kernel
theorem dX4_wind_18 : decode cX4_wind 18 = .ok (.iload_n 2, 1) := by decide +kernel
theorem dX4_wind_19 : decode cX4_wind 19 = .ok (.invokestatic 71, 3) := by decide +kernel
theorem dX4_wind_22 : decode cX4_wind 22 = .ok (.ifCond .ne 5, 3) := by decide +kernel
theorem dX4_wind_25 : decode cX4_wind 25 = .ok (.iconst 0, 1) := by decide +kernel
theorem dX4_wind_26 : decode cX4_wind 26 = .ok (.ireturn, 1) := by decide +kernel
theorem dX4_wind_27 : decode cX4_wind 27 = .ok (.iload_n 1, 1) := by decide +kernel
theorem dX4_wind_28 : decode cX4_wind 28 = .ok (.istore 4, 2) := by decide +kernel
theorem dX4_wind_30 : decode cX4_wind 30 = .ok (.iload 4, 2) := by decide +kernel
theorem dX4_wind_32 : decode cX4_wind 32 = .ok (.iload_n 2, 1) := by decide +kernel
theorem dX4_wind_33 : decode cX4_wind 33 = .ok (.if_icmp .gt 17, 3) := by decide +kernel
theorem dX4_wind_36 : decode cX4_wind 36 = .ok (.aload_n 0, 1) := by decide +kernel
theorem dX4_wind_37 : decode cX4_wind 37 = .ok (.getfield 23, 3) := by decide +kernel
theorem dX4_wind_40 : decode cX4_wind 40 = .ok (.iload 4, 2) := by decide +kernel
theorem dX4_wind_42 : decode cX4_wind 42 = .ok (.iload_n 3, 1) := by decide +kernel
theorem dX4_wind_43 : decode cX4_wind 43 = .ok (.bastore, 1) := by decide +kernel
theorem dX4_wind_44 : decode cX4_wind 44 = .ok (.iinc 4 1, 3) := by decide +kernel
theorem dX4_wind_47 : decode cX4_wind 47 = .ok (.goto (-17), 3) := by decide +kernel
theorem dX4_wind_50 : decode cX4_wind 50 = .ok (.iconst 1, 1) := by decide +kernel
theorem dX4_wind_51 : decode cX4_wind 51 = .ok (.ireturn, 1) := by decide +kernel
theorem dX4_climber_0 : decode cX4_climber 0 = .ok (.aload_n 0, 1) := by decide +kernel
theorem dX4_climber_1 : decode cX4_climber 1 = .ok (.iconst 0, 1) := by decide +kernel
theorem dX4_climber_2 : decode cX4_climber 2 = .ok (.putfield 54, 3) := by decide +kernel
theorem dX4_climber_5 : decode cX4_climber 5 = .ok (.iload_n 1, 1) := by decide +kernel
theorem dX4_climber_6 : decode cX4_climber 6 = .ok (.iconst 0, 1) := by decide +kernel
theorem dX4_climber_7 : decode cX4_climber 7 = .ok (.iconst 3, 1) := by decide +kernel
theorem dX4_climber_8 : decode cX4_climber 8 = .ok (.invokestatic 71, 3) := by decide +kernel
theorem dX4_climber_11 : decode cX4_climber 11 = .ok (.ifCond .eq 32, 3) := by decide +kernel
theorem dX4_climber_14 : decode cX4_climber 14 = .ok (.iload_n 2, 1) := by decide +kernel
theorem dX4_climber_15 : decode cX4_climber 15 = .ok (.iconst 0, 1) := by decide +kernel
theorem dX4_climber_16 : decode cX4_climber 16 = .ok (.iconst 4, 1) := by decide +kernel
theorem dX4_climber_17 : decode cX4_climber 17 = .ok (.invokestatic 71, 3) := by decide +kernel
theorem dX4_climber_20 : decode cX4_climber 20 = .ok (.ifCond .eq 23, 3) := by decide +kernel
theorem dX4_climber_23 : decode cX4_climber 23 = .ok (.iload_n 3, 1) := by decide +kernel
theorem dX4_climber_24 : decode cX4_climber 24 = .ok (.iconst 0, 1) := by decide +kernel
theorem dX4_climber_25 : decode cX4_climber 25 = .ok (.sipush 200, 3) := by decide +kernel
theorem dX4_climber_28 : decode cX4_climber 28 = .ok (.invokestatic 71, 3) := by decide +kernel
theorem dX4_climber_31 : decode cX4_climber 31 = .ok (.ifCond .eq 12, 3) := by decide +kernel
theorem dX4_climber_34 : decode cX4_climber 34 = .ok (.aload_n 0, 1) := by decide +kernel
theorem dX4_climber_35 : decode cX4_climber 35 = .ok (.getfield 64, 3) := by decide +kernel
theorem dX4_climber_38 : decode cX4_climber 38 = .ok (.bipush 12, 2) := by decide +kernel
theorem dX4_climber_40 : decode cX4_climber 40 = .ok (.if_icmp .ne 5, 3) := by decide +kernel
theorem dX4_climber_43 : decode cX4_climber 43 = .ok (.iconst (-1), 1) := by decide +kernel
theorem dX4_climber_44 : decode cX4_climber 44 = .ok (.ireturn, 1) := by decide +kernel
theorem dX4_climber_45 : decode cX4_climber 45 = .ok (.aload_n 0, 1) := by decide +kernel
theorem dX4_climber_46 : decode cX4_climber 46 = .ok (.getfield 33, 3) := by decide +kernel
theorem dX4_climber_49 : decode cX4_climber 49 = .ok (.aload_n 0, 1) := by decide +kernel
theorem dX4_climber_50 : decode cX4_climber 50 = .ok (.getfield 64, 3) := by decide +kernel
theorem dX4_climber_53 : decode cX4_climber 53 = .ok (.iload_n 1, 1) := by decide +kernel
theorem dX4_climber_54 : decode cX4_climber 54 = .ok (.iastore, 1) := by decide +kernel
theorem dX4_climber_55 : decode cX4_climber 55 = .ok (.aload_n 0, 1) := by decide +kernel
theorem dX4_climber_56 : decode cX4_climber 56 = .ok (.getfield 36, 3) := by decide +kernel
theorem dX4_climber_59 : decode cX4_climber 59 = .ok (.aload_n 0, 1) := by decide +kernel
theorem dX4_climber_60 : decode cX4_climber 60 = .ok (.getfield 64, 3) := by decide +kernel
theorem dX4_climber_63 : decode cX4_climber 63 = .ok (.iload_n 2, 1) := by decide +kernel
theorem dX4_climber_64 : decode cX4_climber 64 = .ok (.iastore, 1) := by decide +kernel
theorem dX4_climber_65 : decode cX4_climber 65 = .ok (.aload_n 0, 1) := by decide +kernel
theorem dX4_climber_66 : decode cX4_climber 66 = .ok (.getfield 39, 3) := by decide +kernel
theorem dX4_climber_69 : decode cX4_climber 69 = .ok (.aload_n 0, 1) := by decide +kernel
theorem dX4_climber_70 : decode cX4_climber 70 = .ok (.getfield 64, 3) := by decide +kernel
theorem dX4_climber_73 : decode cX4_climber 73 = .ok (.iload_n 3, 1) := by decide +kernel
theorem dX4_climber_74 : decode cX4_climber 74 = .ok (.iastore, 1) := by decide +kernel
theorem dX4_climber_75 : decode cX4_climber 75 = .ok (.aload_n 0, 1) := by decide +kernel
theorem dX4_climber_76 : decode cX4_climber 76 = .ok (.dup, 1) := by decide +kernel
theorem dX4_climber_77 : decode cX4_climber 77 = .ok (.getfield 64, 3) := by decide +kernel
theorem dX4_climber_80 : decode cX4_climber 80 = .ok (.iconst 1, 1) := by decide +kernel
theorem dX4_climber_81 : decode cX4_climber 81 = .ok (.iadd, 1) := by decide +kernel
theorem dX4_climber_82 : decode cX4_climber 82 = .ok (.putfield 64, 3) := by decide +kernel
theorem dX4_climber_85 : decode cX4_climber 85 = .ok (.aload_n 0, 1) := by decide +kernel
theorem dX4_climber_86 : decode cX4_climber 86 = .ok (.aload_n 0, 1) := by decide +kernel
theorem dX4_climber_87 : decode cX4_climber 87 = .ok (.getfield 64, 3) := by decide +kernel
theorem dX4_climber_90 : decode cX4_climber 90 = .ok (.iconst 1, 1) := by decide +kernel
theorem dX4_climber_91 : decode cX4_climber 91 = .ok (.isub, 1) := by decide +kernel
theorem dX4_climber_92 : decode cX4_climber 92 = .ok (.aload_n 0, 1) := by decide +kernel
theorem dX4_climber_93 : decode cX4_climber 93 = .ok (.getfield 61, 3) := by decide +kernel
theorem dX4_climber_96 : decode cX4_climber 96 = .ok (.invokevirtual 67, 3) := by decide +kernel
theorem dX4_climber_99 : decode cX4_climber 99 = .ok (.aload_n 0, 1) := by decide +kernel
theorem dX4_climber_100 : decode cX4_climber 100 = .ok (.getfield 64, 3) := by decide +kernel
theorem dX4_climber_103 : decode cX4_climber 103 = .ok (.iconst 1, 1) := by decide +kernel
theorem dX4_climber_104 : decode cX4_climber 104 = .ok (.isub, 1) := by decide +kernel
theorem dX4_climber_105 : decode cX4_climber 105 = .ok (.ireturn, 1) := by decide +kernel
theorem dX4_team_0 : decode cX4_team 0 = .ok (.aload_n 0, 1) := by decide +kernel
theorem dX4_team_1 : decode cX4_team 1 = .ok (.iconst 0, 1) := by decide +kernel
theorem dX4_team_2 : decode cX4_team 2 = .ok (.putfield 54, 3) := by decide +kernel
theorem dX4_team_5 : decode cX4_team 5 = .ok (.iload_n 1, 1) := by decide +kernel
theorem dX4_team_6 : decode cX4_team 6 = .ok (.iconst 0, 1) := by decide +kernel
theorem dX4_team_7 : decode cX4_team 7 = .ok (.iconst 3, 1) := by decide +kernel
theorem dX4_team_8 : decode cX4_team 8 = .ok (.invokestatic 71, 3) := by decide +kernel
theorem dX4_team_11 : decode cX4_team 11 = .ok (.ifCond .eq 32, 3) := by decide +kernel
theorem dX4_team_14 : decode cX4_team 14 = .ok (.iload_n 2, 1) := by decide +kernel
theorem dX4_team_15 : decode cX4_team 15 = .ok (.iconst 0, 1) := by decide +kernel
theorem dX4_team_16 : decode cX4_team 16 = .ok (.iconst 1, 1) := by decide +kernel
theorem dX4_team_17 : decode cX4_team 17 = .ok (.invokestatic 71, 3) := by decide +kernel
theorem dX4_team_20 : decode cX4_team 20 = .ok (.ifCond .eq 23, 3) := by decide +kernel
theorem dX4_team_23 : decode cX4_team 23 = .ok (.iload_n 3, 1) := by decide +kernel
theorem dX4_team_24 : decode cX4_team 24 = .ok (.iconst 0, 1) := by decide +kernel
theorem dX4_team_25 : decode cX4_team 25 = .ok (.iload_n 2, 1) := by decide +kernel
theorem dX4_team_26 : decode cX4_team 26 = .ok (.ifCond .ne 8, 3) := by decide +kernel
theorem dX4_team_29 : decode cX4_team 29 = .ok (.bipush 100, 2) := by decide +kernel
theorem dX4_team_31 : decode cX4_team 31 = .ok (.goto 6, 3) := by decide +kernel
theorem dX4_team_34 : decode cX4_team 34 = .ok (.sipush 200, 3) := by decide +kernel
theorem dX4_team_37 : decode cX4_team 37 = .ok (.invokestatic 71, 3) := by decide +kernel
theorem dX4_team_40 : decode cX4_team 40 = .ok (.ifCond .ne 5, 3) := by decide +kernel
theorem dX4_team_43 : decode cX4_team 43 = .ok (.iconst (-1), 1) := by decide +kernel
theorem dX4_team_44 : decode cX4_team 44 = .ok (.ireturn, 1) := by decide +kernel
theorem dX4_team_45 : decode cX4_team 45 = .ok (.iload_n 2, 1) := by decide +kernel
theorem dX4_team_46 : decode cX4_team 46 = .ok (.ifCond .ne 12, 3) := by decide +kernel
theorem dX4_team_49 : decode cX4_team 49 = .ok (.aload_n 0, 1) := by decide +kernel
theorem dX4_team_50 : decode cX4_team 50 = .ok (.getfield 27, 3) := by decide +kernel
theorem dX4_team_53 : decode cX4_team 53 = .ok (.iload_n 1, 1) := by decide +kernel
theorem dX4_team_54 : decode cX4_team 54 = .ok (.iaload, 1) := by decide +kernel
theorem dX4_team_55 : decode cX4_team 55 = .ok (.goto 9, 3) := by decide +kernel
theorem dX4_team_58 : decode cX4_team 58 = .ok (.aload_n 0, 1) := by decide +kernel
theorem dX4_team_59 : decode cX4_team 59 = .ok (.getfield 30, 3) := by decide +kernel
theorem dX4_team_62 : decode cX4_team 62 = .ok (.iload_n 1, 1) := by decide +kernel
theorem dX4_team_63 : decode cX4_team 63 = .ok (.iaload, 1) := by decide +kernel
theorem dX4_team_64 : decode cX4_team 64 = .ok (.istore 4, 2) := by decide +kernel
theorem dX4_team_66 : decode cX4_team 66 = .ok (.iload_n 2, 1) := by decide +kernel
theorem dX4_team_67 : decode cX4_team 67 = .ok (.ifCond .ne 13, 3) := by decide +kernel
theorem dX4_team_70 : decode cX4_team 70 = .ok (.aload_n 0, 1) := by decide +kernel
theorem dX4_team_71 : decode cX4_team 71 = .ok (.getfield 27, 3) := by decide +kernel
theorem dX4_team_74 : decode cX4_team 74 = .ok (.iload_n 1, 1) := by decide +kernel
theorem dX4_team_75 : decode cX4_team 75 = .ok (.iload_n 3, 1) := by decide +kernel
theorem dX4_team_76 : decode cX4_team 76 = .ok (.iastore, 1) := by decide +kernel
theorem dX4_team_77 : decode cX4_team 77 = .ok (.goto 10, 3) := by decide +kernel
theorem dX4_team_80 : decode cX4_team 80 = .ok (.aload_n 0, 1) := by decide +kernel
theorem dX4_team_81 : decode cX4_team 81 = .ok (.getfield 30, 3) := by decide +kernel
theorem dX4_team_84 : decode cX4_team 84 = .ok (.iload_n 1, 1) := by decide +kernel
theorem dX4_team_85 : decode cX4_team 85 = .ok (.iload_n 3, 1) := by decide +kernel
theorem dX4_team_86 : decode cX4_team 86 = .ok (.iastore, 1) := by decide +kernel
theorem dX4_team_87 : decode cX4_team 87 = .ok (.iload 4, 2) := by decide +kernel
theorem dX4_team_89 : decode cX4_team 89 = .ok (.ireturn, 1) := by decide +kernel
theorem dX4_begin_0 : decode cX4_begin 0 = .ok (.aload_n 0, 1) := by decide +kernel
theorem dX4_begin_1 : decode cX4_begin 1 = .ok (.iconst 0, 1) := by decide +kernel
theorem dX4_begin_2 : decode cX4_begin 2 = .ok (.putfield 54, 3) := by decide +kernel
theorem dX4_begin_5 : decode cX4_begin 5 = .ok (.aload_n 0, 1) := by decide +kernel
theorem dX4_begin_6 : decode cX4_begin 6 = .ok (.invokevirtual 81, 3) := by decide +kernel
theorem dX4_begin_9 : decode cX4_begin 9 = .ok (.aload_n 0, 1) := by decide +kernel
theorem dX4_begin_10 : decode cX4_begin 10 = .ok (.getfield 64, 3) := by decide +kernel
theorem dX4_begin_13 : decode cX4_begin 13 = .ok (.ireturn, 1) := by decide +kernel
theorem dX4_isAtCamp_0 : decode cX4_isAtCamp 0 = .ok (.aload_n 0, 1) := by decide +kernel
theorem dX4_isAtCamp_1 : decode cX4_isAtCamp 1 = .ok (.iload_n 1, 1) := by decide +kernel
theorem dX4_isAtCamp_2 : decode cX4_isAtCamp 2 = .ok (.iconst 2, 1) := by decide +kernel
theorem dX4_isAtCamp_3 : decode cX4_isAtCamp 3 = .ok (.invokevirtual 88, 3) := by decide +kernel
theorem dX4_isAtCamp_6 : decode cX4_isAtCamp 6 = .ok (.ifCond .ne 7, 3) := by decide +kernel
theorem dX4_isAtCamp_9 : decode cX4_isAtCamp 9 = .ok (.iconst 1, 1) := by decide +kernel
theorem dX4_isAtCamp_10 : decode cX4_isAtCamp 10 = .ok (.goto 4, 3) := by decide +kernel
theorem dX4_isAtCamp_13 : decode cX4_isAtCamp 13 = .ok (.iconst 0, 1) := by decide +kernel
theorem dX4_isAtCamp_14 : decode cX4_isAtCamp 14 = .ok (.ireturn, 1) := by decide +kernel
theorem dX4_isWeak_0 : decode cX4_isWeak 0 = .ok (.aload_n 0, 1) := by decide +kernel
theorem dX4_isWeak_1 : decode cX4_isWeak 1 = .ok (.iload_n 1, 1) := by decide +kernel
theorem dX4_isWeak_2 : decode cX4_isWeak 2 = .ok (.iconst 3, 1) := by decide +kernel
theorem dX4_isWeak_3 : decode cX4_isWeak 3 = .ok (.invokevirtual 88, 3) := by decide +kernel
theorem dX4_isWeak_6 : decode cX4_isWeak 6 = .ok (.ifCond .ne 7, 3) := by decide +kernel
theorem dX4_isWeak_9 : decode cX4_isWeak 9 = .ok (.iconst 1, 1) := by decide +kernel
theorem dX4_isWeak_10 : decode cX4_isWeak 10 = .ok (.goto 4, 3) := by decide +kernel
theorem dX4_isWeak_13 : decode cX4_isWeak 13 = .ok (.iconst 0, 1) := by decide +kernel
theorem dX4_isWeak_14 : decode cX4_isWeak 14 = .ok (.ireturn, 1) := by decide +kernel
theorem dX4_pitchOf_0 : decode cX4_pitchOf 0 = .ok (.aload_n 0, 1) := by decide +kernel
theorem dX4_pitchOf_1 : decode cX4_pitchOf 1 = .ok (.iload_n 1, 1) := by decide +kernel
theorem dX4_pitchOf_2 : decode cX4_pitchOf 2 = .ok (.iconst 0, 1) := by decide +kernel
theorem dX4_pitchOf_3 : decode cX4_pitchOf 3 = .ok (.invokevirtual 88, 3) := by decide +kernel
theorem dX4_pitchOf_6 : decode cX4_pitchOf 6 = .ok (.iconst 2, 1) := by decide +kernel
theorem dX4_pitchOf_7 : decode cX4_pitchOf 7 = .ok (.if_icmp .ne 14, 3) := by decide +kernel
theorem dX4_pitchOf_10 : decode cX4_pitchOf 10 = .ok (.aload_n 0, 1) := by decide +kernel
theorem dX4_pitchOf_11 : decode cX4_pitchOf 11 = .ok (.iload_n 1, 1) := by decide +kernel
theorem dX4_pitchOf_12 : decode cX4_pitchOf 12 = .ok (.iconst 1, 1) := by decide +kernel
theorem dX4_pitchOf_13 : decode cX4_pitchOf 13 = .ok (.invokevirtual 88, 3) := by decide +kernel
theorem dX4_pitchOf_16 : decode cX4_pitchOf 16 = .ok (.iconst 1, 1) := by decide +kernel
theorem dX4_pitchOf_17 : decode cX4_pitchOf 17 = .ok (.isub, 1) := by decide +kernel
theorem dX4_pitchOf_18 : decode cX4_pitchOf 18 = .ok (.goto 9, 3) := by decide +kernel
theorem dX4_pitchOf_21 : decode cX4_pitchOf 21 = .ok (.aload_n 0, 1) := by decide +kernel
theorem dX4_pitchOf_22 : decode cX4_pitchOf 22 = .ok (.iload_n 1, 1) := by decide +kernel
theorem dX4_pitchOf_23 : decode cX4_pitchOf 23 = .ok (.iconst 1, 1) := by decide +kernel
theorem dX4_pitchOf_24 : decode cX4_pitchOf 24 = .ok (.invokevirtual 88, 3) := by decide +kernel
theorem dX4_pitchOf_27 : decode cX4_pitchOf 27 = .ok (.ireturn, 1) := by decide +kernel
theorem dX4_move_0 : decode cX4_move 0 = .ok (.iconst 0, 1) := by decide +kernel
theorem dX4_move_1 : decode cX4_move 1 = .ok (.istore_n 1, 1) := by decide +kernel
theorem dX4_move_2 : decode cX4_move 2 = .ok (.iload_n 1, 1) := by decide +kernel
theorem dX4_move_3 : decode cX4_move 3 = .ok (.aload_n 0, 1) := by decide +kernel
theorem dX4_move_4 : decode cX4_move 4 = .ok (.getfield 64, 3) := by decide +kernel
theorem dX4_move_7 : decode cX4_move 7 = .ok (.if_icmp .ge 92, 3) := by decide +kernel
theorem dX4_move_10 : decode cX4_move 10 = .ok (.aload_n 0, 1) := by decide +kernel
theorem dX4_move_11 : decode cX4_move 11 = .ok (.iload_n 1, 1) := by decide +kernel
theorem dX4_move_12 : decode cX4_move 12 = .ok (.invokevirtual 91, 3) := by decide +kernel
theorem dX4_move_15 : decode cX4_move 15 = .ok (.ifCond .eq 6, 3) := by decide +kernel
theorem dX4_move_18 : decode cX4_move 18 = .ok (.goto 75, 3) := by decide +kernel
theorem dX4_move_21 : decode cX4_move 21 = .ok (.aload_n 0, 1) := by decide +kernel
theorem dX4_move_22 : decode cX4_move 22 = .ok (.iload_n 1, 1) := by decide +kernel
theorem dX4_move_23 : decode cX4_move 23 = .ok (.iconst 2, 1) := by decide +kernel
theorem dX4_move_24 : decode cX4_move 24 = .ok (.aload_n 0, 1) := by decide +kernel
theorem dX4_move_25 : decode cX4_move 25 = .ok (.iload_n 1, 1) := by decide +kernel
theorem dX4_move_26 : decode cX4_move 26 = .ok (.iconst 2, 1) := by decide +kernel
theorem dX4_move_27 : decode cX4_move 27 = .ok (.invokevirtual 88, 3) := by decide +kernel
theorem dX4_move_30 : decode cX4_move 30 = .ok (.iconst 1, 1) := by decide +kernel
theorem dX4_move_31 : decode cX4_move 31 = .ok (.isub, 1) := by decide +kernel
theorem dX4_move_32 : decode cX4_move 32 = .ok (.invokevirtual 57, 3) := by decide +kernel
theorem dX4_move_35 : decode cX4_move 35 = .ok (.aload_n 0, 1) := by decide +kernel
theorem dX4_move_36 : decode cX4_move 36 = .ok (.iload_n 1, 1) := by decide +kernel
theorem dX4_move_37 : decode cX4_move 37 = .ok (.iconst 2, 1) := by decide +kernel
theorem dX4_move_38 : decode cX4_move 38 = .ok (.invokevirtual 88, 3) := by decide +kernel
theorem dX4_move_41 : decode cX4_move 41 = .ok (.ifCond .le 6, 3) := by decide +kernel
theorem dX4_move_44 : decode cX4_move 44 = .ok (.goto 49, 3) := by decide +kernel
theorem dX4_move_47 : decode cX4_move 47 = .ok (.aload_n 0, 1) := by decide +kernel
theorem dX4_move_48 : decode cX4_move 48 = .ok (.iload_n 1, 1) := by decide +kernel
theorem dX4_move_49 : decode cX4_move 49 = .ok (.iconst 1, 1) := by decide +kernel
theorem dX4_move_50 : decode cX4_move 50 = .ok (.aload_n 0, 1) := by decide +kernel
theorem dX4_move_51 : decode cX4_move 51 = .ok (.iload_n 1, 1) := by decide +kernel
theorem dX4_move_52 : decode cX4_move 52 = .ok (.iconst 0, 1) := by decide +kernel
theorem dX4_move_53 : decode cX4_move 53 = .ok (.invokevirtual 88, 3) := by decide +kernel
theorem dX4_move_56 : decode cX4_move 56 = .ok (.iconst 2, 1) := by decide +kernel
theorem dX4_move_57 : decode cX4_move 57 = .ok (.if_icmp .ne 14, 3) := by decide +kernel
theorem dX4_move_60 : decode cX4_move 60 = .ok (.aload_n 0, 1) := by decide +kernel
theorem dX4_move_61 : decode cX4_move 61 = .ok (.iload_n 1, 1) := by decide +kernel
theorem dX4_move_62 : decode cX4_move 62 = .ok (.iconst 1, 1) := by decide +kernel
theorem dX4_move_63 : decode cX4_move 63 = .ok (.invokevirtual 88, 3) := by decide +kernel
theorem dX4_move_66 : decode cX4_move 66 = .ok (.iconst 1, 1) := by decide +kernel
theorem dX4_move_67 : decode cX4_move 67 = .ok (.isub, 1) := by decide +kernel
theorem dX4_move_68 : decode cX4_move 68 = .ok (.goto 11, 3) := by decide +kernel
theorem dX4_move_71 : decode cX4_move 71 = .ok (.aload_n 0, 1) := by decide +kernel
theorem dX4_move_72 : decode cX4_move 72 = .ok (.iload_n 1, 1) := by decide +kernel
theorem dX4_move_73 : decode cX4_move 73 = .ok (.iconst 1, 1) := by decide +kernel
theorem dX4_move_74 : decode cX4_move 74 = .ok (.invokevirtual 88, 3) := by decide +kernel
theorem dX4_move_77 : decode cX4_move 77 = .ok (.iconst 1, 1) := by decide +kernel
theorem dX4_move_78 : decode cX4_move 78 = .ok (.iadd, 1) := by decide +kernel
theorem dX4_move_79 : decode cX4_move 79 = .ok (.invokevirtual 57, 3) := by decide +kernel
theorem dX4_move_82 : decode cX4_move 82 = .ok (.aload_n 0, 1) := by decide +kernel
theorem dX4_move_83 : decode cX4_move 83 = .ok (.iload_n 1, 1) := by decide +kernel
theorem dX4_move_84 : decode cX4_move 84 = .ok (.bipush 6, 2) := by decide +kernel
theorem dX4_move_86 : decode cX4_move 86 = .ok (.aload_n 0, 1) := by decide +kernel
theorem dX4_move_87 : decode cX4_move 87 = .ok (.getfield 61, 3) := by decide +kernel
theorem dX4_move_90 : decode cX4_move 90 = .ok (.invokevirtual 57, 3) := by decide +kernel
theorem dX4_move_93 : decode cX4_move 93 = .ok (.iinc 1 1, 3) := by decide +kernel
theorem dX4_move_96 : decode cX4_move 96 = .ok (.goto (-94), 3) := by decide +kernel
theorem dX4_move_99 : decode cX4_move 99 = .ok (.return_, 1) := by decide +kernel
theorem dX4_decide_0 : decode cX4_decide 0 = .ok (.aload_n 0, 1) := by decide +kernel
theorem dX4_decide_1 : decode cX4_decide 1 = .ok (.iload_n 1, 1) := by decide +kernel
theorem dX4_decide_2 : decode cX4_decide 2 = .ok (.iconst 1, 1) := by decide +kernel
theorem dX4_decide_3 : decode cX4_decide 3 = .ok (.invokevirtual 88, 3) := by decide +kernel
theorem dX4_decide_6 : decode cX4_decide 6 = .ok (.aload_n 0, 1) := by decide +kernel
theorem dX4_decide_7 : decode cX4_decide 7 = .ok (.getfield 7, 3) := by decide +kernel
theorem dX4_decide_10 : decode cX4_decide 10 = .ok (.if_icmp .ne 7, 3) := by decide +kernel
theorem dX4_decide_13 : decode cX4_decide 13 = .ok (.iconst 1, 1) := by decide +kernel
theorem dX4_decide_14 : decode cX4_decide 14 = .ok (.goto 4, 3) := by decide +kernel
theorem dX4_decide_17 : decode cX4_decide 17 = .ok (.iconst 0, 1) := by decide +kernel
theorem dX4_decide_18 : decode cX4_decide 18 = .ok (.istore_n 2, 1) := by decide +kernel
theorem dX4_decide_19 : decode cX4_decide 19 = .ok (.aload_n 0, 1) := by decide +kernel
theorem dX4_decide_20 : decode cX4_decide 20 = .ok (.iload_n 1, 1) := by decide +kernel
theorem dX4_decide_21 : decode cX4_decide 21 = .ok (.iconst 0, 1) := by decide +kernel
theorem dX4_decide_22 : decode cX4_decide 22 = .ok (.invokevirtual 88, 3) := by decide +kernel
theorem dX4_decide_25 : decode cX4_decide 25 = .ok (.ifCond .ne 35, 3) := by decide +kernel
theorem dX4_decide_28 : decode cX4_decide 28 = .ok (.iload_n 2, 1) := by decide +kernel
theorem dX4_decide_29 : decode cX4_decide 29 = .ok (.ifCond .eq 31, 3) := by decide +kernel
theorem dX4_decide_32 : decode cX4_decide 32 = .ok (.aload_n 0, 1) := by decide +kernel
theorem dX4_decide_33 : decode cX4_decide 33 = .ok (.iload_n 1, 1) := by decide +kernel
theorem dX4_decide_34 : decode cX4_decide 34 = .ok (.iconst 0, 1) := by decide +kernel
theorem dX4_decide_35 : decode cX4_decide 35 = .ok (.iconst 1, 1) := by decide +kernel
theorem dX4_decide_36 : decode cX4_decide 36 = .ok (.invokevirtual 57, 3) := by decide +kernel
theorem dX4_decide_39 : decode cX4_decide 39 = .ok (.aload_n 0, 1) := by decide +kernel
theorem dX4_decide_40 : decode cX4_decide 40 = .ok (.iload_n 1, 1) := by decide +kernel
theorem dX4_decide_41 : decode cX4_decide 41 = .ok (.iconst 4, 1) := by decide +kernel
theorem dX4_decide_42 : decode cX4_decide 42 = .ok (.invokevirtual 88, 3) := by decide +kernel
theorem dX4_decide_45 : decode cX4_decide 45 = .ok (.iconst (-1), 1) := by decide +kernel
theorem dX4_decide_46 : decode cX4_decide 46 = .ok (.if_icmp .ne 13, 3) := by decide +kernel
theorem dX4_decide_49 : decode cX4_decide 49 = .ok (.aload_n 0, 1) := by decide +kernel
theorem dX4_decide_50 : decode cX4_decide 50 = .ok (.iload_n 1, 1) := by decide +kernel
theorem dX4_decide_51 : decode cX4_decide 51 = .ok (.iconst 4, 1) := by decide +kernel
theorem dX4_decide_52 : decode cX4_decide 52 = .ok (.aload_n 0, 1) := by decide +kernel
theorem dX4_decide_53 : decode cX4_decide 53 = .ok (.getfield 61, 3) := by decide +kernel
theorem dX4_decide_56 : decode cX4_decide 56 = .ok (.invokevirtual 57, 3) := by decide +kernel
theorem dX4_decide_59 : decode cX4_decide 59 = .ok (.return_, 1) := by decide +kernel
theorem dX4_decide_60 : decode cX4_decide 60 = .ok (.aload_n 0, 1) := by decide +kernel
theorem dX4_decide_61 : decode cX4_decide 61 = .ok (.getfield 61, 3) := by decide +kernel
theorem dX4_decide_64 : decode cX4_decide 64 = .ok (.aload_n 0, 1) := by decide +kernel
theorem dX4_decide_65 : decode cX4_decide 65 = .ok (.getfield 30, 3) := by decide +kernel
theorem dX4_decide_68 : decode cX4_decide 68 = .ok (.aload_n 0, 1) := by decide +kernel
theorem dX4_decide_69 : decode cX4_decide 69 = .ok (.getfield 33, 3) := by decide +kernel
theorem dX4_decide_72 : decode cX4_decide 72 = .ok (.iload_n 1, 1) := by decide +kernel
theorem dX4_decide_73 : decode cX4_decide 73 = .ok (.iaload, 1) := by decide +kernel
theorem dX4_decide_74 : decode cX4_decide 74 = .ok (.iaload, 1) := by decide +kernel
theorem dX4_decide_75 : decode cX4_decide 75 = .ok (.if_icmp .lt 25, 3) := by decide +kernel
theorem dX4_decide_78 : decode cX4_decide 78 = .ok (.aload_n 0, 1) := by decide +kernel
theorem dX4_decide_79 : decode cX4_decide 79 = .ok (.getfield 61, 3) := by decide +kernel
theorem dX4_decide_82 : decode cX4_decide 82 = .ok (.aload_n 0, 1) := by decide +kernel
theorem dX4_decide_83 : decode cX4_decide 83 = .ok (.getfield 27, 3) := by decide +kernel
theorem dX4_decide_86 : decode cX4_decide 86 = .ok (.aload_n 0, 1) := by decide +kernel
theorem dX4_decide_87 : decode cX4_decide 87 = .ok (.getfield 33, 3) := by decide +kernel
theorem dX4_decide_90 : decode cX4_decide 90 = .ok (.iload_n 1, 1) := by decide +kernel
theorem dX4_decide_91 : decode cX4_decide 91 = .ok (.iaload, 1) := by decide +kernel
theorem dX4_decide_92 : decode cX4_decide 92 = .ok (.iaload, 1) := by decide +kernel
theorem dX4_decide_93 : decode cX4_decide 93 = .ok (.if_icmp .lt 7, 3) := by decide +kernel
theorem dX4_decide_96 : decode cX4_decide 96 = .ok (.iconst 1, 1) := by decide +kernel
theorem dX4_decide_97 : decode cX4_decide 97 = .ok (.goto 4, 3) := by decide +kernel
theorem dX4_decide_100 : decode cX4_decide 100 = .ok (.iconst 0, 1) := by decide +kernel
theorem dX4_decide_101 : decode cX4_decide 101 = .ok (.istore_n 3, 1) := by decide +kernel
theorem dX4_decide_102 : decode cX4_decide 102 = .ok (.aload_n 0, 1) := by decide +kernel
theorem dX4_decide_103 : decode cX4_decide 103 = .ok (.iload_n 1, 1) := by decide +kernel
theorem dX4_decide_104 : decode cX4_decide 104 = .ok (.iconst 0, 1) := by decide +kernel
theorem dX4_decide_105 : decode cX4_decide 105 = .ok (.invokevirtual 88, 3) := by decide +kernel
theorem dX4_decide_108 : decode cX4_decide 108 = .ok (.iconst 2, 1) := by decide +kernel
theorem dX4_decide_109 : decode cX4_decide 109 = .ok (.if_icmp .ge 26, 3) := by decide +kernel
theorem dX4_decide_112 : decode cX4_decide 112 = .ok (.iload_n 2, 1) := by decide +kernel
theorem dX4_decide_113 : decode cX4_decide 113 = .ok (.ifCond .ne 15, 3) := by decide +kernel
theorem dX4_decide_116 : decode cX4_decide 116 = .ok (.iload_n 3, 1) := by decide +kernel
theorem dX4_decide_117 : decode cX4_decide 117 = .ok (.ifCond .ne 11, 3) := by decide +kernel
theorem dX4_decide_120 : decode cX4_decide 120 = .ok (.aload_n 0, 1) := by decide +kernel
theorem dX4_decide_121 : decode cX4_decide 121 = .ok (.iload_n 1, 1) := by decide +kernel
theorem dX4_decide_122 : decode cX4_decide 122 = .ok (.invokevirtual 94, 3) := by decide +kernel
theorem dX4_decide_125 : decode cX4_decide 125 = .ok (.ifCond .eq 10, 3) := by decide +kernel
theorem dX4_decide_128 : decode cX4_decide 128 = .ok (.aload_n 0, 1) := by decide +kernel
theorem dX4_decide_129 : decode cX4_decide 129 = .ok (.iload_n 1, 1) := by decide +kernel
theorem dX4_decide_130 : decode cX4_decide 130 = .ok (.iconst 0, 1) := by decide +kernel
theorem dX4_decide_131 : decode cX4_decide 131 = .ok (.iconst 2, 1) := by decide +kernel
theorem dX4_decide_132 : decode cX4_decide 132 = .ok (.invokevirtual 57, 3) := by decide +kernel
theorem dX4_decide_135 : decode cX4_decide 135 = .ok (.aload_n 0, 1) := by decide +kernel
theorem dX4_decide_136 : decode cX4_decide 136 = .ok (.iload_n 1, 1) := by decide +kernel
theorem dX4_decide_137 : decode cX4_decide 137 = .ok (.iconst 0, 1) := by decide +kernel
theorem dX4_decide_138 : decode cX4_decide 138 = .ok (.invokevirtual 88, 3) := by decide +kernel
theorem dX4_decide_141 : decode cX4_decide 141 = .ok (.iconst 2, 1) := by decide +kernel
theorem dX4_decide_142 : decode cX4_decide 142 = .ok (.if_icmp .ne 19, 3) := by decide +kernel
theorem dX4_decide_145 : decode cX4_decide 145 = .ok (.aload_n 0, 1) := by decide +kernel
theorem dX4_decide_146 : decode cX4_decide 146 = .ok (.iload_n 1, 1) := by decide +kernel
theorem dX4_decide_147 : decode cX4_decide 147 = .ok (.iconst 1, 1) := by decide +kernel
theorem dX4_decide_148 : decode cX4_decide 148 = .ok (.invokevirtual 88, 3) := by decide +kernel
theorem dX4_decide_151 : decode cX4_decide 151 = .ok (.ifCond .ne 10, 3) := by decide +kernel
theorem dX4_decide_154 : decode cX4_decide 154 = .ok (.aload_n 0, 1) := by decide +kernel
theorem dX4_decide_155 : decode cX4_decide 155 = .ok (.iload_n 1, 1) := by decide +kernel
theorem dX4_decide_156 : decode cX4_decide 156 = .ok (.iconst 0, 1) := by decide +kernel
theorem dX4_decide_157 : decode cX4_decide 157 = .ok (.iconst 3, 1) := by decide +kernel
theorem dX4_decide_158 : decode cX4_decide 158 = .ok (.invokevirtual 57, 3) := by decide +kernel
theorem dX4_decide_161 : decode cX4_decide 161 = .ok (.return_, 1) := by decide +kernel
theorem dX4_firstFor_0 : decode cX4_firstFor 0 = .ok (.iconst (-1), 1) := by decide +kernel
theorem dX4_firstFor_1 : decode cX4_firstFor 1 = .ok (.istore_n 3, 1) := by decide +kernel
theorem dX4_firstFor_2 : decode cX4_firstFor 2 = .ok (.iconst 0, 1) := by decide +kernel
theorem dX4_firstFor_3 : decode cX4_firstFor 3 = .ok (.istore 4, 2) := by decide +kernel
theorem dX4_firstFor_5 : decode cX4_firstFor 5 = .ok (.iload 4, 2) := by decide +kernel
theorem dX4_firstFor_7 : decode cX4_firstFor 7 = .ok (.aload_n 0, 1) := by decide +kernel
theorem dX4_firstFor_8 : decode cX4_firstFor 8 = .ok (.getfield 64, 3) := by decide +kernel
theorem dX4_firstFor_11 : decode cX4_firstFor 11 = .ok (.if_icmp .ge 117, 3) := by decide +kernel
theorem dX4_firstFor_14 : decode cX4_firstFor 14 = .ok (.aload_n 0, 1) := by decide +kernel
theorem dX4_firstFor_15 : decode cX4_firstFor 15 = .ok (.iload 4, 2) := by decide +kernel
theorem dX4_firstFor_17 : decode cX4_firstFor 17 = .ok (.invokevirtual 91, 3) := by decide +kernel
theorem dX4_firstFor_20 : decode cX4_firstFor 20 = .ok (.ifCond .eq 102, 3) := by decide +kernel
theorem dX4_firstFor_23 : decode cX4_firstFor 23 = .ok (.aload_n 0, 1) := by decide +kernel
theorem dX4_firstFor_24 : decode cX4_firstFor 24 = .ok (.iload 4, 2) := by decide +kernel
theorem dX4_firstFor_26 : decode cX4_firstFor 26 = .ok (.iconst 0, 1) := by decide +kernel
theorem dX4_firstFor_27 : decode cX4_firstFor 27 = .ok (.invokevirtual 88, 3) := by decide +kernel
theorem dX4_firstFor_30 : decode cX4_firstFor 30 = .ok (.iload_n 2, 1) := by decide +kernel
theorem dX4_firstFor_31 : decode cX4_firstFor 31 = .ok (.ifCond .eq 7, 3) := by decide +kernel
theorem dX4_firstFor_34 : decode cX4_firstFor 34 = .ok (.iconst 2, 1) := by decide +kernel
theorem dX4_firstFor_35 : decode cX4_firstFor 35 = .ok (.goto 4, 3) := by decide +kernel
theorem dX4_firstFor_38 : decode cX4_firstFor 38 = .ok (.iconst 0, 1) := by decide +kernel
theorem dX4_firstFor_39 : decode cX4_firstFor 39 = .ok (.if_icmp .ne 83, 3) := by decide +kernel
theorem dX4_firstFor_42 : decode cX4_firstFor 42 = .ok (.aload_n 0, 1) := by decide +kernel
theorem dX4_firstFor_43 : decode cX4_firstFor 43 = .ok (.iload 4, 2) := by decide +kernel
theorem dX4_firstFor_45 : decode cX4_firstFor 45 = .ok (.iconst 1, 1) := by decide +kernel
theorem dX4_firstFor_46 : decode cX4_firstFor 46 = .ok (.invokevirtual 88, 3) := by decide +kernel
theorem dX4_firstFor_49 : decode cX4_firstFor 49 = .ok (.iload_n 2, 1) := by decide +kernel
theorem dX4_firstFor_50 : decode cX4_firstFor 50 = .ok (.ifCond .eq 9, 3) := by decide +kernel
theorem dX4_firstFor_53 : decode cX4_firstFor 53 = .ok (.iload_n 1, 1) := by decide +kernel
theorem dX4_firstFor_54 : decode cX4_firstFor 54 = .ok (.iconst 1, 1) := by decide +kernel
theorem dX4_firstFor_55 : decode cX4_firstFor 55 = .ok (.iadd, 1) := by decide +kernel
theorem dX4_firstFor_56 : decode cX4_firstFor 56 = .ok (.goto 4, 3) := by decide +kernel
theorem dX4_firstFor_59 : decode cX4_firstFor 59 = .ok (.iload_n 1, 1) := by decide +kernel
theorem dX4_firstFor_60 : decode cX4_firstFor 60 = .ok (.if_icmp .eq 6, 3) := by decide +kernel
theorem dX4_firstFor_63 : decode cX4_firstFor 63 = .ok (.goto 59, 3) := by decide +kernel
theorem dX4_firstFor_66 : decode cX4_firstFor 66 = .ok (.iload_n 2, 1) := by decide +kernel
theorem dX4_firstFor_67 : decode cX4_firstFor 67 = .ok (.ifCond .ne 29, 3) := by decide +kernel
theorem dX4_firstFor_70 : decode cX4_firstFor 70 = .ok (.iload_n 1, 1) := by decide +kernel
theorem dX4_firstFor_71 : decode cX4_firstFor 71 = .ok (.ifCond .ne 25, 3) := by decide +kernel
theorem dX4_firstFor_74 : decode cX4_firstFor 74 = .ok (.aload_n 0, 1) := by decide +kernel
theorem dX4_firstFor_75 : decode cX4_firstFor 75 = .ok (.getfield 61, 3) := by decide +kernel
theorem dX4_firstFor_78 : decode cX4_firstFor 78 = .ok (.aload_n 0, 1) := by decide +kernel
theorem dX4_firstFor_79 : decode cX4_firstFor 79 = .ok (.getfield 27, 3) := by decide +kernel
theorem dX4_firstFor_82 : decode cX4_firstFor 82 = .ok (.aload_n 0, 1) := by decide +kernel
theorem dX4_firstFor_83 : decode cX4_firstFor 83 = .ok (.getfield 33, 3) := by decide +kernel
theorem dX4_firstFor_86 : decode cX4_firstFor 86 = .ok (.iload 4, 2) := by decide +kernel
theorem dX4_firstFor_88 : decode cX4_firstFor 88 = .ok (.iaload, 1) := by decide +kernel
theorem dX4_firstFor_89 : decode cX4_firstFor 89 = .ok (.iaload, 1) := by decide +kernel
theorem dX4_firstFor_90 : decode cX4_firstFor 90 = .ok (.if_icmp .ge 6, 3) := by decide +kernel
theorem dX4_firstFor_93 : decode cX4_firstFor 93 = .ok (.goto 29, 3) := by decide +kernel
theorem dX4_firstFor_96 : decode cX4_firstFor 96 = .ok (.iload_n 3, 1) := by decide +kernel
theorem dX4_firstFor_97 : decode cX4_firstFor 97 = .ok (.iconst (-1), 1) := by decide +kernel
theorem dX4_firstFor_98 : decode cX4_firstFor 98 = .ok (.if_icmp .eq 21, 3) := by decide +kernel
theorem dX4_firstFor_101 : decode cX4_firstFor 101 = .ok (.aload_n 0, 1) := by decide +kernel
theorem dX4_firstFor_102 : decode cX4_firstFor 102 = .ok (.iload 4, 2) := by decide +kernel
theorem dX4_firstFor_104 : decode cX4_firstFor 104 = .ok (.bipush 6, 2) := by decide +kernel
theorem dX4_firstFor_106 : decode cX4_firstFor 106 = .ok (.invokevirtual 88, 3) := by decide +kernel
theorem dX4_firstFor_109 : decode cX4_firstFor 109 = .ok (.aload_n 0, 1) := by decide +kernel
theorem dX4_firstFor_110 : decode cX4_firstFor 110 = .ok (.iload_n 3, 1) := by decide +kernel
theorem dX4_firstFor_111 : decode cX4_firstFor 111 = .ok (.bipush 6, 2) := by decide +kernel
theorem dX4_firstFor_113 : decode cX4_firstFor 113 = .ok (.invokevirtual 88, 3) := by decide +kernel
theorem dX4_firstFor_116 : decode cX4_firstFor 116 = .ok (.if_icmp .ge 6, 3) := by decide +kernel
theorem dX4_firstFor_119 : decode cX4_firstFor 119 = .ok (.iload 4, 2) := by decide +kernel
theorem dX4_firstFor_121 : decode cX4_firstFor 121 = .ok (.istore_n 3, 1) := by decide +kernel
theorem dX4_firstFor_122 : decode cX4_firstFor 122 = .ok (.iinc 4 1, 3) := by decide +kernel
theorem dX4_firstFor_125 : decode cX4_firstFor 125 = .ok (.goto (-120), 3) := by decide +kernel
theorem dX4_firstFor_128 : decode cX4_firstFor 128 = .ok (.iload_n 3, 1) := by decide +kernel
theorem dX4_firstFor_129 : decode cX4_firstFor 129 = .ok (.ireturn, 1) := by decide +kernel
theorem dX4_startOn_0 : decode cX4_startOn 0 = .ok (.iconst 0, 1) := by decide +kernel
theorem dX4_startOn_1 : decode cX4_startOn 1 = .ok (.istore_n 2, 1) := by decide +kernel
theorem dX4_startOn_2 : decode cX4_startOn 2 = .ok (.iload_n 2, 1) := by decide +kernel
theorem dX4_startOn_3 : decode cX4_startOn 3 = .ok (.aload_n 0, 1) := by decide +kernel
theorem dX4_startOn_4 : decode cX4_startOn 4 = .ok (.getfield 17, 3) := by decide +kernel
theorem dX4_startOn_7 : decode cX4_startOn 7 = .ok (.iload_n 1, 1) := by decide +kernel
theorem dX4_startOn_8 : decode cX4_startOn 8 = .ok (.iaload, 1) := by decide +kernel
theorem dX4_startOn_9 : decode cX4_startOn 9 = .ok (.if_icmp .ge 106, 3) := by decide +kernel
theorem dX4_startOn_12 : decode cX4_startOn 12 = .ok (.aload_n 0, 1) := by decide +kernel
theorem dX4_startOn_13 : decode cX4_startOn 13 = .ok (.iload_n 1, 1) := by decide +kernel
theorem dX4_startOn_14 : decode cX4_startOn 14 = .ok (.iconst 1, 1) := by decide +kernel
theorem dX4_startOn_15 : decode cX4_startOn 15 = .ok (.invokevirtual 97, 3) := by decide +kernel
theorem dX4_startOn_18 : decode cX4_startOn 18 = .ok (.istore_n 3, 1) := by decide +kernel
theorem dX4_startOn_19 : decode cX4_startOn 19 = .ok (.iload_n 3, 1) := by decide +kernel
theorem dX4_startOn_20 : decode cX4_startOn 20 = .ok (.iconst (-1), 1) := by decide +kernel
theorem dX4_startOn_21 : decode cX4_startOn 21 = .ok (.if_icmp .eq 7, 3) := by decide +kernel
theorem dX4_startOn_24 : decode cX4_startOn 24 = .ok (.iconst 1, 1) := by decide +kernel
theorem dX4_startOn_25 : decode cX4_startOn 25 = .ok (.goto 4, 3) := by decide +kernel
theorem dX4_startOn_28 : decode cX4_startOn 28 = .ok (.iconst 0, 1) := by decide +kernel
theorem dX4_startOn_29 : decode cX4_startOn 29 = .ok (.istore 4, 2) := by decide +kernel
theorem dX4_startOn_31 : decode cX4_startOn 31 = .ok (.iload 4, 2) := by decide +kernel
theorem dX4_startOn_33 : decode cX4_startOn 33 = .ok (.ifCond .ne 10, 3) := by decide +kernel
theorem dX4_startOn_36 : decode cX4_startOn 36 = .ok (.aload_n 0, 1) := by decide +kernel
theorem dX4_startOn_37 : decode cX4_startOn 37 = .ok (.iload_n 1, 1) := by decide +kernel
theorem dX4_startOn_38 : decode cX4_startOn 38 = .ok (.iconst 0, 1) := by decide +kernel
theorem dX4_startOn_39 : decode cX4_startOn 39 = .ok (.invokevirtual 97, 3) := by decide +kernel
theorem dX4_startOn_42 : decode cX4_startOn 42 = .ok (.istore_n 3, 1) := by decide +kernel
theorem dX4_startOn_43 : decode cX4_startOn 43 = .ok (.iload_n 3, 1) := by decide +kernel
theorem dX4_startOn_44 : decode cX4_startOn 44 = .ok (.iconst (-1), 1) := by decide +kernel
theorem dX4_startOn_45 : decode cX4_startOn 45 = .ok (.if_icmp .ne 4, 3) := by decide +kernel
theorem dX4_startOn_48 : decode cX4_startOn 48 = .ok (.return_, 1) := by decide +kernel
theorem dX4_startOn_49 : decode cX4_startOn 49 = .ok (.iload 4, 2) := by decide +kernel
theorem dX4_startOn_51 : decode cX4_startOn 51 = .ok (.ifCond .eq 12, 3) := by decide +kernel
theorem dX4_startOn_54 : decode cX4_startOn 54 = .ok (.aload_n 0, 1) := by decide +kernel
theorem dX4_startOn_55 : decode cX4_startOn 55 = .ok (.getfield 13, 3) := by decide +kernel
theorem dX4_startOn_58 : decode cX4_startOn 58 = .ok (.iload_n 1, 1) := by decide +kernel
theorem dX4_startOn_59 : decode cX4_startOn 59 = .ok (.iaload, 1) := by decide +kernel
theorem dX4_startOn_60 : decode cX4_startOn 60 = .ok (.goto 16, 3) := by decide +kernel
theorem dX4_startOn_63 : decode cX4_startOn 63 = .ok (.aload_n 0, 1) := by decide +kernel
theorem dX4_startOn_64 : decode cX4_startOn 64 = .ok (.getfield 13, 3) := by decide +kernel
theorem dX4_startOn_67 : decode cX4_startOn 67 = .ok (.iload_n 1, 1) := by decide +kernel
theorem dX4_startOn_68 : decode cX4_startOn 68 = .ok (.iaload, 1) := by decide +kernel
theorem dX4_startOn_69 : decode cX4_startOn 69 = .ok (.aload_n 0, 1) := by decide +kernel
theorem dX4_startOn_70 : decode cX4_startOn 70 = .ok (.getfield 36, 3) := by decide +kernel
theorem dX4_startOn_73 : decode cX4_startOn 73 = .ok (.iload_n 3, 1) := by decide +kernel
theorem dX4_startOn_74 : decode cX4_startOn 74 = .ok (.iaload, 1) := by decide +kernel
theorem dX4_startOn_75 : decode cX4_startOn 75 = .ok (.iadd, 1) := by decide +kernel
theorem dX4_startOn_76 : decode cX4_startOn 76 = .ok (.istore 5, 2) := by decide +kernel
theorem dX4_startOn_78 : decode cX4_startOn 78 = .ok (.aload_n 0, 1) := by decide +kernel
theorem dX4_startOn_79 : decode cX4_startOn 79 = .ok (.iload_n 3, 1) := by decide +kernel
theorem dX4_startOn_80 : decode cX4_startOn 80 = .ok (.iconst 2, 1) := by decide +kernel
theorem dX4_startOn_81 : decode cX4_startOn 81 = .ok (.aload_n 0, 1) := by decide +kernel
theorem dX4_startOn_82 : decode cX4_startOn 82 = .ok (.iload_n 3, 1) := by decide +kernel
theorem dX4_startOn_83 : decode cX4_startOn 83 = .ok (.invokevirtual 94, 3) := by decide +kernel
theorem dX4_startOn_86 : decode cX4_startOn 86 = .ok (.ifCond .eq 10, 3) := by decide +kernel
theorem dX4_startOn_89 : decode cX4_startOn 89 = .ok (.iconst 2, 1) := by decide +kernel
theorem dX4_startOn_90 : decode cX4_startOn 90 = .ok (.iload 5, 2) := by decide +kernel
theorem dX4_startOn_92 : decode cX4_startOn 92 = .ok (.imul, 1) := by decide +kernel
theorem dX4_startOn_93 : decode cX4_startOn 93 = .ok (.goto 5, 3) := by decide +kernel
theorem dX4_startOn_96 : decode cX4_startOn 96 = .ok (.iload 5, 2) := by decide +kernel
theorem dX4_startOn_98 : decode cX4_startOn 98 = .ok (.invokevirtual 57, 3) := by decide +kernel
theorem dX4_startOn_101 : decode cX4_startOn 101 = .ok (.aload_n 0, 1) := by decide +kernel
theorem dX4_startOn_102 : decode cX4_startOn 102 = .ok (.iload_n 3, 1) := by decide +kernel
theorem dX4_startOn_103 : decode cX4_startOn 103 = .ok (.bipush 6, 2) := by decide +kernel
theorem dX4_startOn_105 : decode cX4_startOn 105 = .ok (.iconst (-1), 1) := by decide +kernel
theorem dX4_startOn_106 : decode cX4_startOn 106 = .ok (.invokevirtual 57, 3) := by decide +kernel
theorem dX4_startOn_109 : decode cX4_startOn 109 = .ok (.iinc 2 1, 3) := by decide +kernel
theorem dX4_startOn_112 : decode cX4_startOn 112 = .ok (.goto (-110), 3) := by decide +kernel
theorem dX4_startOn_115 : decode cX4_startOn 115 = .ok (.return_, 1) := by decide +kernel
theorem dX4_breathe_0 : decode cX4_breathe 0 = .ok (.aload_n 0, 1) := by decide +kernel
theorem dX4_breathe_1 : decode cX4_breathe 1 = .ok (.iload_n 1, 1) := by decide +kernel
theorem dX4_breathe_2 : decode cX4_breathe 2 = .ok (.iconst 0, 1) := by decide +kernel
theorem dX4_breathe_3 : decode cX4_breathe 3 = .ok (.invokevirtual 88, 3) := by decide +kernel
theorem dX4_breathe_6 : decode cX4_breathe 6 = .ok (.iconst 3, 1) := by decide +kernel
theorem dX4_breathe_7 : decode cX4_breathe 7 = .ok (.if_icmp .ne 4, 3) := by decide +kernel
theorem dX4_breathe_10 : decode cX4_breathe 10 = .ok (.return_, 1) := by decide +kernel
theorem dX4_breathe_11 : decode cX4_breathe 11 = .ok (.aload_n 0, 1) := by decide +kernel
theorem dX4_breathe_12 : decode cX4_breathe 12 = .ok (.iload_n 1, 1) := by decide +kernel
theorem dX4_breathe_13 : decode cX4_breathe 13 = .ok (.invokevirtual 91, 3) := by decide +kernel
theorem dX4_breathe_16 : decode cX4_breathe 16 = .ok (.istore_n 2, 1) := by decide +kernel
theorem dX4_breathe_17 : decode cX4_breathe 17 = .ok (.iload_n 2, 1) := by decide +kernel
theorem dX4_breathe_18 : decode cX4_breathe 18 = .ok (.ifCond .eq 12, 3) := by decide +kernel
theorem dX4_breathe_21 : decode cX4_breathe 21 = .ok (.aload_n 0, 1) := by decide +kernel
theorem dX4_breathe_22 : decode cX4_breathe 22 = .ok (.iload_n 1, 1) := by decide +kernel
theorem dX4_breathe_23 : decode cX4_breathe 23 = .ok (.iconst 1, 1) := by decide +kernel
theorem dX4_breathe_24 : decode cX4_breathe 24 = .ok (.invokevirtual 88, 3) := by decide +kernel
theorem dX4_breathe_27 : decode cX4_breathe 27 = .ok (.goto 8, 3) := by decide +kernel
theorem dX4_breathe_30 : decode cX4_breathe 30 = .ok (.aload_n 0, 1) := by decide +kernel
theorem dX4_breathe_31 : decode cX4_breathe 31 = .ok (.iload_n 1, 1) := by decide +kernel
theorem dX4_breathe_32 : decode cX4_breathe 32 = .ok (.invokevirtual 101, 3) := by decide +kernel
theorem dX4_breathe_35 : decode cX4_breathe 35 = .ok (.aload_n 0, 1) := by decide +kernel
theorem dX4_breathe_36 : decode cX4_breathe 36 = .ok (.getfield 20, 3) := by decide +kernel
theorem dX4_breathe_39 : decode cX4_breathe 39 = .ok (.if_icmp .ge 4, 3) := by decide +kernel
theorem dX4_breathe_42 : decode cX4_breathe 42 = .ok (.return_, 1) := by decide +kernel
theorem dX4_breathe_43 : decode cX4_breathe 43 = .ok (.aload_n 0, 1) := by decide +kernel
theorem dX4_breathe_44 : decode cX4_breathe 44 = .ok (.iload_n 1, 1) := by decide +kernel
theorem dX4_breathe_45 : decode cX4_breathe 45 = .ok (.iconst 3, 1) := by decide +kernel
theorem dX4_breathe_46 : decode cX4_breathe 46 = .ok (.iconst 0, 1) := by decide +kernel
theorem dX4_breathe_47 : decode cX4_breathe 47 = .ok (.aload_n 0, 1) := by decide +kernel
theorem dX4_breathe_48 : decode cX4_breathe 48 = .ok (.iload_n 1, 1) := by decide +kernel
theorem dX4_breathe_49 : decode cX4_breathe 49 = .ok (.iconst 3, 1) := by decide +kernel
theorem dX4_breathe_50 : decode cX4_breathe 50 = .ok (.invokevirtual 88, 3) := by decide +kernel
theorem dX4_breathe_53 : decode cX4_breathe 53 = .ok (.iconst 1, 1) := by decide +kernel
theorem dX4_breathe_54 : decode cX4_breathe 54 = .ok (.isub, 1) := by decide +kernel
theorem dX4_breathe_55 : decode cX4_breathe 55 = .ok (.invokestatic 105, 3) := by decide +kernel
theorem dX4_breathe_58 : decode cX4_breathe 58 = .ok (.invokevirtual 57, 3) := by decide +kernel
theorem dX4_breathe_61 : decode cX4_breathe 61 = .ok (.iload_n 2, 1) := by decide +kernel
theorem dX4_breathe_62 : decode cX4_breathe 62 = .ok (.ifCond .eq 45, 3) := by decide +kernel
theorem dX4_breathe_65 : decode cX4_breathe 65 = .ok (.aload_n 0, 1) := by decide +kernel
theorem dX4_breathe_66 : decode cX4_breathe 66 = .ok (.iload_n 1, 1) := by decide +kernel
theorem dX4_breathe_67 : decode cX4_breathe 67 = .ok (.invokevirtual 94, 3) := by decide +kernel
theorem dX4_breathe_70 : decode cX4_breathe 70 = .ok (.ifCond .eq 37, 3) := by decide +kernel
theorem dX4_breathe_73 : decode cX4_breathe 73 = .ok (.aload_n 0, 1) := by decide +kernel
theorem dX4_breathe_74 : decode cX4_breathe 74 = .ok (.iload_n 1, 1) := by decide +kernel
theorem dX4_breathe_75 : decode cX4_breathe 75 = .ok (.iconst 0, 1) := by decide +kernel
theorem dX4_breathe_76 : decode cX4_breathe 76 = .ok (.invokevirtual 88, 3) := by decide +kernel
theorem dX4_breathe_79 : decode cX4_breathe 79 = .ok (.iconst 3, 1) := by decide +kernel
theorem dX4_breathe_80 : decode cX4_breathe 80 = .ok (.if_icmp .ge 27, 3) := by decide +kernel
theorem dX4_breathe_83 : decode cX4_breathe 83 = .ok (.aload_n 0, 1) := by decide +kernel
theorem dX4_breathe_84 : decode cX4_breathe 84 = .ok (.getfield 61, 3) := by decide +kernel
theorem dX4_breathe_87 : decode cX4_breathe 87 = .ok (.aload_n 0, 1) := by decide +kernel
theorem dX4_breathe_88 : decode cX4_breathe 88 = .ok (.iload_n 1, 1) := by decide +kernel
theorem dX4_breathe_89 : decode cX4_breathe 89 = .ok (.bipush 6, 2) := by decide +kernel
theorem dX4_breathe_91 : decode cX4_breathe 91 = .ok (.invokevirtual 88, 3) := by decide +kernel
theorem dX4_breathe_94 : decode cX4_breathe 94 = .ok (.isub, 1) := by decide +kernel
theorem dX4_breathe_95 : decode cX4_breathe 95 = .ok (.bipush 6, 2) := by decide +kernel
theorem dX4_breathe_97 : decode cX4_breathe 97 = .ok (.if_icmp .lt 10, 3) := by decide +kernel
theorem dX4_breathe_100 : decode cX4_breathe 100 = .ok (.aload_n 0, 1) := by decide +kernel
theorem dX4_breathe_101 : decode cX4_breathe 101 = .ok (.iload_n 1, 1) := by decide +kernel
theorem dX4_breathe_102 : decode cX4_breathe 102 = .ok (.iconst 0, 1) := by decide +kernel
theorem dX4_breathe_103 : decode cX4_breathe 103 = .ok (.iconst 4, 1) := by decide +kernel
theorem dX4_breathe_104 : decode cX4_breathe 104 = .ok (.invokevirtual 57, 3) := by decide +kernel
theorem dX4_breathe_107 : decode cX4_breathe 107 = .ok (.return_, 1) := by decide +kernel
theorem dX4_step_0 : decode cX4_step 0 = .ok (.aload_n 0, 1) := by decide +kernel
theorem dX4_step_1 : decode cX4_step 1 = .ok (.invokevirtual 108, 3) := by decide +kernel
theorem dX4_step_4 : decode cX4_step 4 = .ok (.iconst 0, 1) := by decide +kernel
theorem dX4_step_5 : decode cX4_step 5 = .ok (.istore_n 1, 1) := by decide +kernel
theorem dX4_step_6 : decode cX4_step 6 = .ok (.iload_n 1, 1) := by decide +kernel
theorem dX4_step_7 : decode cX4_step 7 = .ok (.aload_n 0, 1) := by decide +kernel
theorem dX4_step_8 : decode cX4_step 8 = .ok (.getfield 64, 3) := by decide +kernel
theorem dX4_step_11 : decode cX4_step 11 = .ok (.if_icmp .ge 32, 3) := by decide +kernel
theorem dX4_step_14 : decode cX4_step 14 = .ok (.aload_n 0, 1) := by decide +kernel
theorem dX4_step_15 : decode cX4_step 15 = .ok (.iload_n 1, 1) := by decide +kernel
theorem dX4_step_16 : decode cX4_step 16 = .ok (.invokevirtual 91, 3) := by decide +kernel
theorem dX4_step_19 : decode cX4_step 19 = .ok (.ifCond .eq 18, 3) := by decide +kernel
theorem dX4_step_22 : decode cX4_step 22 = .ok (.aload_n 0, 1) := by decide +kernel
theorem dX4_step_23 : decode cX4_step 23 = .ok (.iload_n 1, 1) := by decide +kernel
theorem dX4_step_24 : decode cX4_step 24 = .ok (.iconst 0, 1) := by decide +kernel
theorem dX4_step_25 : decode cX4_step 25 = .ok (.invokevirtual 88, 3) := by decide +kernel
theorem dX4_step_28 : decode cX4_step 28 = .ok (.iconst 3, 1) := by decide +kernel
theorem dX4_step_29 : decode cX4_step 29 = .ok (.if_icmp .ge 8, 3) := by decide +kernel
theorem dX4_step_32 : decode cX4_step 32 = .ok (.aload_n 0, 1) := by decide +kernel
theorem dX4_step_33 : decode cX4_step 33 = .ok (.iload_n 1, 1) := by decide +kernel
theorem dX4_step_34 : decode cX4_step 34 = .ok (.invokevirtual 111, 3) := by decide +kernel
theorem dX4_step_37 : decode cX4_step 37 = .ok (.iinc 1 1, 3) := by decide +kernel
theorem dX4_step_40 : decode cX4_step 40 = .ok (.goto (-34), 3) := by decide +kernel
theorem dX4_step_43 : decode cX4_step 43 = .ok (.aload_n 0, 1) := by decide +kernel
theorem dX4_step_44 : decode cX4_step 44 = .ok (.getfield 7, 3) := by decide +kernel
theorem dX4_step_47 : decode cX4_step 47 = .ok (.iconst 1, 1) := by decide +kernel
theorem dX4_step_48 : decode cX4_step 48 = .ok (.isub, 1) := by decide +kernel
theorem dX4_step_49 : decode cX4_step 49 = .ok (.istore_n 1, 1) := by decide +kernel
theorem dX4_step_50 : decode cX4_step 50 = .ok (.iload_n 1, 1) := by decide +kernel
theorem dX4_step_51 : decode cX4_step 51 = .ok (.ifCond .lt 26, 3) := by decide +kernel
theorem dX4_step_54 : decode cX4_step 54 = .ok (.aload_n 0, 1) := by decide +kernel
theorem dX4_step_55 : decode cX4_step 55 = .ok (.getfield 23, 3) := by decide +kernel
theorem dX4_step_58 : decode cX4_step 58 = .ok (.aload_n 0, 1) := by decide +kernel
theorem dX4_step_59 : decode cX4_step 59 = .ok (.getfield 61, 3) := by decide +kernel
theorem dX4_step_62 : decode cX4_step 62 = .ok (.baload, 1) := by decide +kernel
theorem dX4_step_63 : decode cX4_step 63 = .ok (.ifCond .ne 14, 3) := by decide +kernel
theorem dX4_step_66 : decode cX4_step 66 = .ok (.aload_n 0, 1) := by decide +kernel
theorem dX4_step_67 : decode cX4_step 67 = .ok (.iload_n 1, 1) := by decide +kernel
theorem dX4_step_68 : decode cX4_step 68 = .ok (.invokevirtual 115, 3) := by decide +kernel
theorem dX4_step_71 : decode cX4_step 71 = .ok (.iinc 1 (-1), 3) := by decide +kernel
theorem dX4_step_74 : decode cX4_step 74 = .ok (.goto (-24), 3) := by decide +kernel
theorem dX4_step_77 : decode cX4_step 77 = .ok (.iconst 0, 1) := by decide +kernel
theorem dX4_step_78 : decode cX4_step 78 = .ok (.istore_n 1, 1) := by decide +kernel
theorem dX4_step_79 : decode cX4_step 79 = .ok (.iload_n 1, 1) := by decide +kernel
theorem dX4_step_80 : decode cX4_step 80 = .ok (.aload_n 0, 1) := by decide +kernel
theorem dX4_step_81 : decode cX4_step 81 = .ok (.getfield 64, 3) := by decide +kernel
theorem dX4_step_84 : decode cX4_step 84 = .ok (.if_icmp .ge 14, 3) := by decide +kernel
theorem dX4_step_87 : decode cX4_step 87 = .ok (.aload_n 0, 1) := by decide +kernel
theorem dX4_step_88 : decode cX4_step 88 = .ok (.iload_n 1, 1) := by decide +kernel
theorem dX4_step_89 : decode cX4_step 89 = .ok (.invokevirtual 118, 3) := by decide +kernel
theorem dX4_step_92 : decode cX4_step 92 = .ok (.iinc 1 1, 3) := by decide +kernel
theorem dX4_step_95 : decode cX4_step 95 = .ok (.goto (-16), 3) := by decide +kernel
theorem dX4_step_98 : decode cX4_step 98 = .ok (.iconst 0, 1) := by decide +kernel
theorem dX4_step_99 : decode cX4_step 99 = .ok (.istore_n 1, 1) := by decide +kernel
theorem dX4_step_100 : decode cX4_step 100 = .ok (.iload_n 1, 1) := by decide +kernel
theorem dX4_step_101 : decode cX4_step 101 = .ok (.aload_n 0, 1) := by decide +kernel
theorem dX4_step_102 : decode cX4_step 102 = .ok (.getfield 64, 3) := by decide +kernel
theorem dX4_step_105 : decode cX4_step 105 = .ok (.if_icmp .ge 59, 3) := by decide +kernel
theorem dX4_step_108 : decode cX4_step 108 = .ok (.aload_n 0, 1) := by decide +kernel
theorem dX4_step_109 : decode cX4_step 109 = .ok (.iload_n 1, 1) := by decide +kernel
theorem dX4_step_110 : decode cX4_step 110 = .ok (.invokevirtual 91, 3) := by decide +kernel
theorem dX4_step_113 : decode cX4_step 113 = .ok (.ifCond .eq 45, 3) := by decide +kernel
theorem dX4_step_116 : decode cX4_step 116 = .ok (.aload_n 0, 1) := by decide +kernel
theorem dX4_step_117 : decode cX4_step 117 = .ok (.iload_n 1, 1) := by decide +kernel
theorem dX4_step_118 : decode cX4_step 118 = .ok (.iconst 1, 1) := by decide +kernel
theorem dX4_step_119 : decode cX4_step 119 = .ok (.invokevirtual 88, 3) := by decide +kernel
theorem dX4_step_122 : decode cX4_step 122 = .ok (.ifCond .le 36, 3) := by decide +kernel
theorem dX4_step_125 : decode cX4_step 125 = .ok (.aload_n 0, 1) := by decide +kernel
theorem dX4_step_126 : decode cX4_step 126 = .ok (.iload_n 1, 1) := by decide +kernel
theorem dX4_step_127 : decode cX4_step 127 = .ok (.iconst 0, 1) := by decide +kernel
theorem dX4_step_128 : decode cX4_step 128 = .ok (.invokevirtual 88, 3) := by decide +kernel
theorem dX4_step_131 : decode cX4_step 131 = .ok (.ifCond .eq 13, 3) := by decide +kernel
theorem dX4_step_134 : decode cX4_step 134 = .ok (.aload_n 0, 1) := by decide +kernel
theorem dX4_step_135 : decode cX4_step 135 = .ok (.iload_n 1, 1) := by decide +kernel
theorem dX4_step_136 : decode cX4_step 136 = .ok (.iconst 0, 1) := by decide +kernel
theorem dX4_step_137 : decode cX4_step 137 = .ok (.invokevirtual 88, 3) := by decide +kernel
theorem dX4_step_140 : decode cX4_step 140 = .ok (.iconst 2, 1) := by decide +kernel
theorem dX4_step_141 : decode cX4_step 141 = .ok (.if_icmp .ne 17, 3) := by decide +kernel
theorem dX4_step_144 : decode cX4_step 144 = .ok (.aload_n 0, 1) := by decide +kernel
theorem dX4_step_145 : decode cX4_step 145 = .ok (.iload_n 1, 1) := by decide +kernel
theorem dX4_step_146 : decode cX4_step 146 = .ok (.iconst 5, 1) := by decide +kernel
theorem dX4_step_147 : decode cX4_step 147 = .ok (.aload_n 0, 1) := by decide +kernel
theorem dX4_step_148 : decode cX4_step 148 = .ok (.iload_n 1, 1) := by decide +kernel
theorem dX4_step_149 : decode cX4_step 149 = .ok (.iconst 5, 1) := by decide +kernel
theorem dX4_step_150 : decode cX4_step 150 = .ok (.invokevirtual 88, 3) := by decide +kernel
theorem dX4_step_153 : decode cX4_step 153 = .ok (.iconst 1, 1) := by decide +kernel
theorem dX4_step_154 : decode cX4_step 154 = .ok (.iadd, 1) := by decide +kernel
theorem dX4_step_155 : decode cX4_step 155 = .ok (.invokevirtual 57, 3) := by decide +kernel
theorem dX4_step_158 : decode cX4_step 158 = .ok (.iinc 1 1, 3) := by decide +kernel
theorem dX4_step_161 : decode cX4_step 161 = .ok (.goto (-61), 3) := by decide +kernel
theorem dX4_step_164 : decode cX4_step 164 = .ok (.aload_n 0, 1) := by decide +kernel
theorem dX4_step_165 : decode cX4_step 165 = .ok (.dup, 1) := by decide +kernel
theorem dX4_step_166 : decode cX4_step 166 = .ok (.getfield 61, 3) := by decide +kernel
theorem dX4_step_169 : decode cX4_step 169 = .ok (.iconst 1, 1) := by decide +kernel
theorem dX4_step_170 : decode cX4_step 170 = .ok (.iadd, 1) := by decide +kernel
theorem dX4_step_171 : decode cX4_step 171 = .ok (.putfield 61, 3) := by decide +kernel
theorem dX4_step_174 : decode cX4_step 174 = .ok (.return_, 1) := by decide +kernel
theorem dX4_run_0 : decode cX4_run 0 = .ok (.aload_n 0, 1) := by decide +kernel
theorem dX4_run_1 : decode cX4_run 1 = .ok (.iconst 0, 1) := by decide +kernel
theorem dX4_run_2 : decode cX4_run 2 = .ok (.putfield 54, 3) := by decide +kernel
theorem dX4_run_5 : decode cX4_run 5 = .ok (.iload_n 1, 1) := by decide +kernel
theorem dX4_run_6 : decode cX4_run 6 = .ok (.iconst 0, 1) := by decide +kernel
theorem dX4_run_7 : decode cX4_run 7 = .ok (.bipush 100, 2) := by decide +kernel
theorem dX4_run_9 : decode cX4_run 9 = .ok (.invokestatic 71, 3) := by decide +kernel
theorem dX4_run_12 : decode cX4_run 12 = .ok (.ifCond .ne 5, 3) := by decide +kernel
theorem dX4_run_15 : decode cX4_run 15 = .ok (.iconst (-1), 1) := by decide +kernel
theorem dX4_run_16 : decode cX4_run 16 = .ok (.ireturn, 1) := by decide +kernel
theorem dX4_run_17 : decode cX4_run 17 = .ok (.iconst 0, 1) := by decide +kernel
theorem dX4_run_18 : decode cX4_run 18 = .ok (.istore_n 2, 1) := by decide +kernel
theorem dX4_run_19 : decode cX4_run 19 = .ok (.iload_n 2, 1) := by decide +kernel
theorem dX4_run_20 : decode cX4_run 20 = .ok (.iload_n 1, 1) := by decide +kernel
theorem dX4_run_21 : decode cX4_run 21 = .ok (.if_icmp .ge 23, 3) := by decide +kernel
theorem dX4_run_24 : decode cX4_run 24 = .ok (.aload_n 0, 1) := by decide +kernel
theorem dX4_run_25 : decode cX4_run 25 = .ok (.getfield 61, 3) := by decide +kernel
theorem dX4_run_28 : decode cX4_run 28 = .ok (.sipush 200, 3) := by decide +kernel
theorem dX4_run_31 : decode cX4_run 31 = .ok (.if_icmp .ge 13, 3) := by decide +kernel
theorem dX4_run_34 : decode cX4_run 34 = .ok (.aload_n 0, 1) := by decide +kernel
theorem dX4_run_35 : decode cX4_run 35 = .ok (.invokevirtual 121, 3) := by decide +kernel
theorem dX4_run_38 : decode cX4_run 38 = .ok (.iinc 2 1, 3) := by decide +kernel
theorem dX4_run_41 : decode cX4_run 41 = .ok (.goto (-22), 3) := by decide +kernel
theorem dX4_run_44 : decode cX4_run 44 = .ok (.aload_n 0, 1) := by decide +kernel
theorem dX4_run_45 : decode cX4_run 45 = .ok (.getfield 61, 3) := by decide +kernel
theorem dX4_run_48 : decode cX4_run 48 = .ok (.ireturn, 1) := by decide +kernel
theorem dX4_summits_0 : decode cX4_summits 0 = .ok (.iconst 0, 1) := by decide +kernel
theorem dX4_summits_1 : decode cX4_summits 1 = .ok (.istore_n 1, 1) := by decide +kernel
theorem dX4_summits_2 : decode cX4_summits 2 = .ok (.iconst 0, 1) := by decide +kernel
theorem dX4_summits_3 : decode cX4_summits 3 = .ok (.istore_n 2, 1) := by decide +kernel
theorem dX4_summits_4 : decode cX4_summits 4 = .ok (.iload_n 2, 1) := by decide +kernel
theorem dX4_summits_5 : decode cX4_summits 5 = .ok (.aload_n 0, 1) := by decide +kernel
theorem dX4_summits_6 : decode cX4_summits 6 = .ok (.getfield 64, 3) := by decide +kernel
theorem dX4_summits_9 : decode cX4_summits 9 = .ok (.if_icmp .ge 22, 3) := by decide +kernel
theorem dX4_summits_12 : decode cX4_summits 12 = .ok (.aload_n 0, 1) := by decide +kernel
theorem dX4_summits_13 : decode cX4_summits 13 = .ok (.iload_n 2, 1) := by decide +kernel
theorem dX4_summits_14 : decode cX4_summits 14 = .ok (.iconst 4, 1) := by decide +kernel
theorem dX4_summits_15 : decode cX4_summits 15 = .ok (.invokevirtual 88, 3) := by decide +kernel
theorem dX4_summits_18 : decode cX4_summits 18 = .ok (.iconst (-1), 1) := by decide +kernel
theorem dX4_summits_19 : decode cX4_summits 19 = .ok (.if_icmp .eq 6, 3) := by decide +kernel
theorem dX4_summits_22 : decode cX4_summits 22 = .ok (.iinc 1 1, 3) := by decide +kernel
theorem dX4_summits_25 : decode cX4_summits 25 = .ok (.iinc 2 1, 3) := by decide +kernel
theorem dX4_summits_28 : decode cX4_summits 28 = .ok (.goto (-24), 3) := by decide +kernel
theorem dX4_summits_31 : decode cX4_summits 31 = .ok (.iload_n 1, 1) := by decide +kernel
theorem dX4_summits_32 : decode cX4_summits 32 = .ok (.ireturn, 1) := by decide +kernel
theorem dX4_inState_0 : decode cX4_inState 0 = .ok (.iconst 0, 1) := by decide +kernel
theorem dX4_inState_1 : decode cX4_inState 1 = .ok (.istore_n 2, 1) := by decide +kernel
theorem dX4_inState_2 : decode cX4_inState 2 = .ok (.iconst 0, 1) := by decide +kernel
theorem dX4_inState_3 : decode cX4_inState 3 = .ok (.istore_n 3, 1) := by decide +kernel
theorem dX4_inState_4 : decode cX4_inState 4 = .ok (.iload_n 3, 1) := by decide +kernel
theorem dX4_inState_5 : decode cX4_inState 5 = .ok (.aload_n 0, 1) := by decide +kernel
theorem dX4_inState_6 : decode cX4_inState 6 = .ok (.getfield 64, 3) := by decide +kernel
theorem dX4_inState_9 : decode cX4_inState 9 = .ok (.if_icmp .ge 22, 3) := by decide +kernel
theorem dX4_inState_12 : decode cX4_inState 12 = .ok (.aload_n 0, 1) := by decide +kernel
theorem dX4_inState_13 : decode cX4_inState 13 = .ok (.iload_n 3, 1) := by decide +kernel
theorem dX4_inState_14 : decode cX4_inState 14 = .ok (.iconst 0, 1) := by decide +kernel
theorem dX4_inState_15 : decode cX4_inState 15 = .ok (.invokevirtual 88, 3) := by decide +kernel
theorem dX4_inState_18 : decode cX4_inState 18 = .ok (.iload_n 1, 1) := by decide +kernel
theorem dX4_inState_19 : decode cX4_inState 19 = .ok (.if_icmp .ne 6, 3) := by decide +kernel
theorem dX4_inState_22 : decode cX4_inState 22 = .ok (.iinc 2 1, 3) := by decide +kernel
theorem dX4_inState_25 : decode cX4_inState 25 = .ok (.iinc 3 1, 3) := by decide +kernel
theorem dX4_inState_28 : decode cX4_inState 28 = .ok (.goto (-24), 3) := by decide +kernel
theorem dX4_inState_31 : decode cX4_inState 31 = .ok (.iload_n 2, 1) := by decide +kernel
theorem dX4_inState_32 : decode cX4_inState 32 = .ok (.ireturn, 1) := by decide +kernel
theorem dX4_waits_0 : decode cX4_waits 0 = .ok (.iconst 0, 1) := by decide +kernel
theorem dX4_waits_1 : decode cX4_waits 1 = .ok (.istore_n 1, 1) := by decide +kernel
theorem dX4_waits_2 : decode cX4_waits 2 = .ok (.iconst 0, 1) := by decide +kernel
theorem dX4_waits_3 : decode cX4_waits 3 = .ok (.istore_n 2, 1) := by decide +kernel
theorem dX4_waits_4 : decode cX4_waits 4 = .ok (.iload_n 2, 1) := by decide +kernel
theorem dX4_waits_5 : decode cX4_waits 5 = .ok (.aload_n 0, 1) := by decide +kernel
theorem dX4_waits_6 : decode cX4_waits 6 = .ok (.getfield 64, 3) := by decide +kernel
theorem dX4_waits_9 : decode cX4_waits 9 = .ok (.if_icmp .ge 18, 3) := by decide +kernel
theorem dX4_waits_12 : decode cX4_waits 12 = .ok (.iload_n 1, 1) := by decide +kernel
theorem dX4_waits_13 : decode cX4_waits 13 = .ok (.aload_n 0, 1) := by decide +kernel
theorem dX4_waits_14 : decode cX4_waits 14 = .ok (.iload_n 2, 1) := by decide +kernel
theorem dX4_waits_15 : decode cX4_waits 15 = .ok (.iconst 5, 1) := by decide +kernel
theorem dX4_waits_16 : decode cX4_waits 16 = .ok (.invokevirtual 88, 3) := by decide +kernel
theorem dX4_waits_19 : decode cX4_waits 19 = .ok (.iadd, 1) := by decide +kernel
theorem dX4_waits_20 : decode cX4_waits 20 = .ok (.istore_n 1, 1) := by decide +kernel
theorem dX4_waits_21 : decode cX4_waits 21 = .ok (.iinc 2 1, 3) := by decide +kernel
theorem dX4_waits_24 : decode cX4_waits 24 = .ok (.goto (-20), 3) := by decide +kernel
theorem dX4_waits_27 : decode cX4_waits 27 = .ok (.iload_n 1, 1) := by decide +kernel
theorem dX4_waits_28 : decode cX4_waits 28 = .ok (.ireturn, 1) := by decide +kernel
theorem dX4_count_0 : decode cX4_count 0 = .ok (.aload_n 0, 1) := by decide +kernel
theorem dX4_count_1 : decode cX4_count 1 = .ok (.iconst 0, 1) := by decide +kernel
theorem dX4_count_2 : decode cX4_count 2 = .ok (.putfield 54, 3) := by decide +kernel
theorem dX4_count_5 : decode cX4_count 5 = .ok (.iload_n 1, 1) := by decide +kernel
theorem dX4_count_6 : decode cX4_count 6 = .ok (.tableswitch 88 0 7 #[46, 51, 56, 61, 66, 71, 77, 83], 46) := by decide +kernel
theorem dX4_count_52 : decode cX4_count 52 = .ok (.aload_n 0, 1) := by decide +kernel
theorem dX4_count_53 : decode cX4_count 53 = .ok (.getfield 7, 3) := by decide +kernel
theorem dX4_count_56 : decode cX4_count 56 = .ok (.ireturn, 1) := by decide +kernel
theorem dX4_count_57 : decode cX4_count 57 = .ok (.aload_n 0, 1) := by decide +kernel
theorem dX4_count_58 : decode cX4_count 58 = .ok (.getfield 64, 3) := by decide +kernel
theorem dX4_count_61 : decode cX4_count 61 = .ok (.ireturn, 1) := by decide +kernel
theorem dX4_count_62 : decode cX4_count 62 = .ok (.aload_n 0, 1) := by decide +kernel
theorem dX4_count_63 : decode cX4_count 63 = .ok (.getfield 61, 3) := by decide +kernel
theorem dX4_count_66 : decode cX4_count 66 = .ok (.ireturn, 1) := by decide +kernel
theorem dX4_count_67 : decode cX4_count 67 = .ok (.aload_n 0, 1) := by decide +kernel
theorem dX4_count_68 : decode cX4_count 68 = .ok (.getfield 20, 3) := by decide +kernel
theorem dX4_count_71 : decode cX4_count 71 = .ok (.ireturn, 1) := by decide +kernel
theorem dX4_count_72 : decode cX4_count 72 = .ok (.aload_n 0, 1) := by decide +kernel
theorem dX4_count_73 : decode cX4_count 73 = .ok (.invokevirtual 124, 3) := by decide +kernel
theorem dX4_count_76 : decode cX4_count 76 = .ok (.ireturn, 1) := by decide +kernel
theorem dX4_count_77 : decode cX4_count 77 = .ok (.aload_n 0, 1) := by decide +kernel
theorem dX4_count_78 : decode cX4_count 78 = .ok (.iconst 3, 1) := by decide +kernel
theorem dX4_count_79 : decode cX4_count 79 = .ok (.invokevirtual 128, 3) := by decide +kernel
theorem dX4_count_82 : decode cX4_count 82 = .ok (.ireturn, 1) := by decide +kernel
theorem dX4_count_83 : decode cX4_count 83 = .ok (.aload_n 0, 1) := by decide +kernel
theorem dX4_count_84 : decode cX4_count 84 = .ok (.iconst 4, 1) := by decide +kernel
theorem dX4_count_85 : decode cX4_count 85 = .ok (.invokevirtual 128, 3) := by decide +kernel
theorem dX4_count_88 : decode cX4_count 88 = .ok (.ireturn, 1) := by decide +kernel
theorem dX4_count_89 : decode cX4_count 89 = .ok (.aload_n 0, 1) := by decide +kernel
theorem dX4_count_90 : decode cX4_count 90 = .ok (.invokevirtual 131, 3) := by decide +kernel
theorem dX4_count_93 : decode cX4_count 93 = .ok (.ireturn, 1) := by decide +kernel
theorem dX4_count_94 : decode cX4_count 94 = .ok (.iconst (-1), 1) := by decide +kernel
theorem dX4_count_95 : decode cX4_count 95 = .ok (.ireturn, 1) := by decide +kernel
theorem dX4_of_0 : decode cX4_of 0 = .ok (.aload_n 0, 1) := by decide +kernel
theorem dX4_of_1 : decode cX4_of 1 = .ok (.iconst 0, 1) := by decide +kernel
theorem dX4_of_2 : decode cX4_of 2 = .ok (.putfield 54, 3) := by decide +kernel
theorem dX4_of_5 : decode cX4_of 5 = .ok (.iload_n 1, 1) := by decide +kernel
theorem dX4_of_6 : decode cX4_of 6 = .ok (.iconst 0, 1) := by decide +kernel
theorem dX4_of_7 : decode cX4_of 7 = .ok (.aload_n 0, 1) := by decide +kernel
theorem dX4_of_8 : decode cX4_of 8 = .ok (.getfield 64, 3) := by decide +kernel
theorem dX4_of_11 : decode cX4_of 11 = .ok (.iconst 1, 1) := by decide +kernel
theorem dX4_of_12 : decode cX4_of 12 = .ok (.isub, 1) := by decide +kernel
theorem dX4_of_13 : decode cX4_of 13 = .ok (.invokestatic 71, 3) := by decide +kernel
theorem dX4_of_16 : decode cX4_of 16 = .ok (.ifCond .eq 13, 3) := by decide +kernel
theorem dX4_of_19 : decode cX4_of 19 = .ok (.iload_n 2, 1) := by decide +kernel
theorem dX4_of_20 : decode cX4_of 20 = .ok (.iconst 0, 1) := by decide +kernel
theorem dX4_of_21 : decode cX4_of 21 = .ok (.bipush 6, 2) := by decide +kernel
theorem dX4_of_23 : decode cX4_of 23 = .ok (.invokestatic 71, 3) := by decide +kernel
theorem dX4_of_26 : decode cX4_of 26 = .ok (.ifCond .ne 10, 3) := by decide +kernel
theorem dX4_of_29 : decode cX4_of 29 = .ok (.aload_n 0, 1) := by decide +kernel
theorem dX4_of_30 : decode cX4_of 30 = .ok (.iconst 1, 1) := by decide +kernel
theorem dX4_of_31 : decode cX4_of 31 = .ok (.putfield 54, 3) := by decide +kernel
theorem dX4_of_34 : decode cX4_of 34 = .ok (.iconst 0, 1) := by decide +kernel
theorem dX4_of_35 : decode cX4_of 35 = .ok (.ireturn, 1) := by decide +kernel
theorem dX4_of_36 : decode cX4_of 36 = .ok (.aload_n 0, 1) := by decide +kernel
theorem dX4_of_37 : decode cX4_of 37 = .ok (.iload_n 1, 1) := by decide +kernel
theorem dX4_of_38 : decode cX4_of 38 = .ok (.iload_n 2, 1) := by decide +kernel
theorem dX4_of_39 : decode cX4_of 39 = .ok (.invokevirtual 88, 3) := by decide +kernel
theorem dX4_of_42 : decode cX4_of 42 = .ok (.ireturn, 1) := by decide +kernel
theorem dX4_on_0 : decode cX4_on 0 = .ok (.aload_n 0, 1) := by decide +kernel
theorem dX4_on_1 : decode cX4_on 1 = .ok (.iconst 0, 1) := by decide +kernel
theorem dX4_on_2 : decode cX4_on 2 = .ok (.putfield 54, 3) := by decide +kernel
theorem dX4_on_5 : decode cX4_on 5 = .ok (.aload_n 0, 1) := by decide +kernel
theorem dX4_on_6 : decode cX4_on 6 = .ok (.iload_n 1, 1) := by decide +kernel
theorem dX4_on_7 : decode cX4_on 7 = .ok (.invokevirtual 84, 3) := by decide +kernel
theorem dX4_on_10 : decode cX4_on 10 = .ok (.ifCond .ne 5, 3) := by decide +kernel
theorem dX4_on_13 : decode cX4_on 13 = .ok (.iconst (-1), 1) := by decide +kernel
theorem dX4_on_14 : decode cX4_on 14 = .ok (.ireturn, 1) := by decide +kernel
theorem dX4_on_15 : decode cX4_on 15 = .ok (.iconst 0, 1) := by decide +kernel
theorem dX4_on_16 : decode cX4_on 16 = .ok (.istore_n 2, 1) := by decide +kernel
theorem dX4_on_17 : decode cX4_on 17 = .ok (.iconst 0, 1) := by decide +kernel
theorem dX4_on_18 : decode cX4_on 18 = .ok (.istore_n 3, 1) := by decide +kernel
theorem dX4_on_19 : decode cX4_on 19 = .ok (.iload_n 3, 1) := by decide +kernel
theorem dX4_on_20 : decode cX4_on 20 = .ok (.aload_n 0, 1) := by decide +kernel
theorem dX4_on_21 : decode cX4_on 21 = .ok (.getfield 64, 3) := by decide +kernel
theorem dX4_on_24 : decode cX4_on 24 = .ok (.if_icmp .ge 29, 3) := by decide +kernel
theorem dX4_on_27 : decode cX4_on 27 = .ok (.aload_n 0, 1) := by decide +kernel
theorem dX4_on_28 : decode cX4_on 28 = .ok (.iload_n 3, 1) := by decide +kernel
theorem dX4_on_29 : decode cX4_on 29 = .ok (.invokevirtual 91, 3) := by decide +kernel
theorem dX4_on_32 : decode cX4_on 32 = .ok (.ifCond .ne 15, 3) := by decide +kernel
theorem dX4_on_35 : decode cX4_on 35 = .ok (.aload_n 0, 1) := by decide +kernel
theorem dX4_on_36 : decode cX4_on 36 = .ok (.iload_n 3, 1) := by decide +kernel
theorem dX4_on_37 : decode cX4_on 37 = .ok (.invokevirtual 101, 3) := by decide +kernel
theorem dX4_on_40 : decode cX4_on 40 = .ok (.iload_n 1, 1) := by decide +kernel
theorem dX4_on_41 : decode cX4_on 41 = .ok (.if_icmp .ne 6, 3) := by decide +kernel
theorem dX4_on_44 : decode cX4_on 44 = .ok (.iinc 2 1, 3) := by decide +kernel
theorem dX4_on_47 : decode cX4_on 47 = .ok (.iinc 3 1, 3) := by decide +kernel
theorem dX4_on_50 : decode cX4_on 50 = .ok (.goto (-31), 3) := by decide +kernel
theorem dX4_on_53 : decode cX4_on 53 = .ok (.iload_n 2, 1) := by decide +kernel
theorem dX4_on_54 : decode cX4_on 54 = .ok (.ireturn, 1) := by decide +kernel
theorem dX4_at_0 : decode cX4_at 0 = .ok (.aload_n 0, 1) := by decide +kernel
theorem dX4_at_1 : decode cX4_at 1 = .ok (.iconst 0, 1) := by decide +kernel
theorem dX4_at_2 : decode cX4_at 2 = .ok (.putfield 54, 3) := by decide +kernel
theorem dX4_at_5 : decode cX4_at 5 = .ok (.iload_n 1, 1) := by decide +kernel
theorem dX4_at_6 : decode cX4_at 6 = .ok (.iconst 0, 1) := by decide +kernel
theorem dX4_at_7 : decode cX4_at 7 = .ok (.aload_n 0, 1) := by decide +kernel
theorem dX4_at_8 : decode cX4_at 8 = .ok (.getfield 7, 3) := by decide +kernel
theorem dX4_at_11 : decode cX4_at 11 = .ok (.invokestatic 71, 3) := by decide +kernel
theorem dX4_at_14 : decode cX4_at 14 = .ok (.ifCond .ne 5, 3) := by decide +kernel
theorem dX4_at_17 : decode cX4_at 17 = .ok (.iconst (-1), 1) := by decide +kernel
theorem dX4_at_18 : decode cX4_at 18 = .ok (.ireturn, 1) := by decide +kernel
theorem dX4_at_19 : decode cX4_at 19 = .ok (.iconst 0, 1) := by decide +kernel
theorem dX4_at_20 : decode cX4_at 20 = .ok (.istore_n 2, 1) := by decide +kernel
theorem dX4_at_21 : decode cX4_at 21 = .ok (.iconst 0, 1) := by decide +kernel
theorem dX4_at_22 : decode cX4_at 22 = .ok (.istore_n 3, 1) := by decide +kernel
theorem dX4_at_23 : decode cX4_at 23 = .ok (.iload_n 3, 1) := by decide +kernel
theorem dX4_at_24 : decode cX4_at 24 = .ok (.aload_n 0, 1) := by decide +kernel
theorem dX4_at_25 : decode cX4_at 25 = .ok (.getfield 64, 3) := by decide +kernel
theorem dX4_at_28 : decode cX4_at 28 = .ok (.if_icmp .ge 30, 3) := by decide +kernel
theorem dX4_at_31 : decode cX4_at 31 = .ok (.aload_n 0, 1) := by decide +kernel
theorem dX4_at_32 : decode cX4_at 32 = .ok (.iload_n 3, 1) := by decide +kernel
theorem dX4_at_33 : decode cX4_at 33 = .ok (.invokevirtual 91, 3) := by decide +kernel
theorem dX4_at_36 : decode cX4_at 36 = .ok (.ifCond .eq 16, 3) := by decide +kernel
theorem dX4_at_39 : decode cX4_at 39 = .ok (.aload_n 0, 1) := by decide +kernel
theorem dX4_at_40 : decode cX4_at 40 = .ok (.iload_n 3, 1) := by decide +kernel
theorem dX4_at_41 : decode cX4_at 41 = .ok (.iconst 1, 1) := by decide +kernel
theorem dX4_at_42 : decode cX4_at 42 = .ok (.invokevirtual 88, 3) := by decide +kernel
theorem dX4_at_45 : decode cX4_at 45 = .ok (.iload_n 1, 1) := by decide +kernel
theorem dX4_at_46 : decode cX4_at 46 = .ok (.if_icmp .ne 6, 3) := by decide +kernel
theorem dX4_at_49 : decode cX4_at 49 = .ok (.iinc 2 1, 3) := by decide +kernel
theorem dX4_at_52 : decode cX4_at 52 = .ok (.iinc 3 1, 3) := by decide +kernel
theorem dX4_at_55 : decode cX4_at 55 = .ok (.goto (-32), 3) := by decide +kernel
theorem dX4_at_58 : decode cX4_at 58 = .ok (.iload_n 2, 1) := by decide +kernel
theorem dX4_at_59 : decode cX4_at 59 = .ok (.ireturn, 1) := by decide +kernel
theorem dX4_hoursTo_0 : decode cX4_hoursTo 0 = .ok (.iconst 0, 1) := by decide +kernel
theorem dX4_hoursTo_1 : decode cX4_hoursTo 1 = .ok (.istore 4, 2) := by decide +kernel
theorem dX4_hoursTo_3 : decode cX4_hoursTo 3 = .ok (.aload_n 0, 1) := by decide +kernel
theorem dX4_hoursTo_4 : decode cX4_hoursTo 4 = .ok (.iload_n 1, 1) := by decide +kernel
theorem dX4_hoursTo_5 : decode cX4_hoursTo 5 = .ok (.iconst 1, 1) := by decide +kernel
theorem dX4_hoursTo_6 : decode cX4_hoursTo 6 = .ok (.invokevirtual 88, 3) := by decide +kernel
theorem dX4_hoursTo_9 : decode cX4_hoursTo 9 = .ok (.istore 5, 2) := by decide +kernel
theorem dX4_hoursTo_11 : decode cX4_hoursTo 11 = .ok (.iload 5, 2) := by decide +kernel
theorem dX4_hoursTo_13 : decode cX4_hoursTo 13 = .ok (.iload_n 2, 1) := by decide +kernel
theorem dX4_hoursTo_14 : decode cX4_hoursTo 14 = .ok (.if_icmp .ge 41, 3) := by decide +kernel
theorem dX4_hoursTo_17 : decode cX4_hoursTo 17 = .ok (.iload_n 3, 1) := by decide +kernel
theorem dX4_hoursTo_18 : decode cX4_hoursTo 18 = .ok (.ifCond .eq 12, 3) := by decide +kernel
theorem dX4_hoursTo_21 : decode cX4_hoursTo 21 = .ok (.iload 5, 2) := by decide +kernel
theorem dX4_hoursTo_23 : decode cX4_hoursTo 23 = .ok (.aload_n 0, 1) := by decide +kernel
theorem dX4_hoursTo_24 : decode cX4_hoursTo 24 = .ok (.getfield 20, 3) := by decide +kernel
theorem dX4_hoursTo_27 : decode cX4_hoursTo 27 = .ok (.if_icmp .lt 22, 3) := by decide +kernel
theorem dX4_hoursTo_30 : decode cX4_hoursTo 30 = .ok (.iload 4, 2) := by decide +kernel
theorem dX4_hoursTo_32 : decode cX4_hoursTo 32 = .ok (.aload_n 0, 1) := by decide +kernel
theorem dX4_hoursTo_33 : decode cX4_hoursTo 33 = .ok (.getfield 13, 3) := by decide +kernel
theorem dX4_hoursTo_36 : decode cX4_hoursTo 36 = .ok (.iload 5, 2) := by decide +kernel
theorem dX4_hoursTo_38 : decode cX4_hoursTo 38 = .ok (.iaload, 1) := by decide +kernel
theorem dX4_hoursTo_39 : decode cX4_hoursTo 39 = .ok (.aload_n 0, 1) := by decide +kernel
theorem dX4_hoursTo_40 : decode cX4_hoursTo 40 = .ok (.getfield 36, 3) := by decide +kernel
theorem dX4_hoursTo_43 : decode cX4_hoursTo 43 = .ok (.iload_n 1, 1) := by decide +kernel
theorem dX4_hoursTo_44 : decode cX4_hoursTo 44 = .ok (.iaload, 1) := by decide +kernel
theorem dX4_hoursTo_45 : decode cX4_hoursTo 45 = .ok (.iadd, 1) := by decide +kernel
theorem dX4_hoursTo_46 : decode cX4_hoursTo 46 = .ok (.iadd, 1) := by decide +kernel
theorem dX4_hoursTo_47 : decode cX4_hoursTo 47 = .ok (.istore 4, 2) := by decide +kernel
theorem dX4_hoursTo_49 : decode cX4_hoursTo 49 = .ok (.iinc 5 1, 3) := by decide +kernel
theorem dX4_hoursTo_52 : decode cX4_hoursTo 52 = .ok (.goto (-41), 3) := by decide +kernel
theorem dX4_hoursTo_55 : decode cX4_hoursTo 55 = .ok (.iload_n 2, 1) := by decide +kernel
theorem dX4_hoursTo_56 : decode cX4_hoursTo 56 = .ok (.istore 5, 2) := by decide +kernel
theorem dX4_hoursTo_58 : decode cX4_hoursTo 58 = .ok (.iload 5, 2) := by decide +kernel
theorem dX4_hoursTo_60 : decode cX4_hoursTo 60 = .ok (.aload_n 0, 1) := by decide +kernel
theorem dX4_hoursTo_61 : decode cX4_hoursTo 61 = .ok (.iload_n 1, 1) := by decide +kernel
theorem dX4_hoursTo_62 : decode cX4_hoursTo 62 = .ok (.iconst 1, 1) := by decide +kernel
theorem dX4_hoursTo_63 : decode cX4_hoursTo 63 = .ok (.invokevirtual 88, 3) := by decide +kernel
theorem dX4_hoursTo_66 : decode cX4_hoursTo 66 = .ok (.if_icmp .ge 34, 3) := by decide +kernel
theorem dX4_hoursTo_69 : decode cX4_hoursTo 69 = .ok (.iload_n 3, 1) := by decide +kernel
theorem dX4_hoursTo_70 : decode cX4_hoursTo 70 = .ok (.ifCond .eq 12, 3) := by decide +kernel
theorem dX4_hoursTo_73 : decode cX4_hoursTo 73 = .ok (.iload 5, 2) := by decide +kernel
theorem dX4_hoursTo_75 : decode cX4_hoursTo 75 = .ok (.aload_n 0, 1) := by decide +kernel
theorem dX4_hoursTo_76 : decode cX4_hoursTo 76 = .ok (.getfield 20, 3) := by decide +kernel
theorem dX4_hoursTo_79 : decode cX4_hoursTo 79 = .ok (.if_icmp .lt 15, 3) := by decide +kernel
theorem dX4_hoursTo_82 : decode cX4_hoursTo 82 = .ok (.iload 4, 2) := by decide +kernel
theorem dX4_hoursTo_84 : decode cX4_hoursTo 84 = .ok (.aload_n 0, 1) := by decide +kernel
theorem dX4_hoursTo_85 : decode cX4_hoursTo 85 = .ok (.getfield 13, 3) := by decide +kernel
theorem dX4_hoursTo_88 : decode cX4_hoursTo 88 = .ok (.iload 5, 2) := by decide +kernel
theorem dX4_hoursTo_90 : decode cX4_hoursTo 90 = .ok (.iaload, 1) := by decide +kernel
theorem dX4_hoursTo_91 : decode cX4_hoursTo 91 = .ok (.iadd, 1) := by decide +kernel
theorem dX4_hoursTo_92 : decode cX4_hoursTo 92 = .ok (.istore 4, 2) := by decide +kernel
theorem dX4_hoursTo_94 : decode cX4_hoursTo 94 = .ok (.iinc 5 1, 3) := by decide +kernel
theorem dX4_hoursTo_97 : decode cX4_hoursTo 97 = .ok (.goto (-39), 3) := by decide +kernel
theorem dX4_hoursTo_100 : decode cX4_hoursTo 100 = .ok (.iload 4, 2) := by decide +kernel
theorem dX4_hoursTo_102 : decode cX4_hoursTo 102 = .ok (.ireturn, 1) := by decide +kernel
theorem dX4_fetch_0 : decode cX4_fetch 0 = .ok (.aload_n 0, 1) := by decide +kernel
theorem dX4_fetch_1 : decode cX4_fetch 1 = .ok (.iconst 0, 1) := by decide +kernel
theorem dX4_fetch_2 : decode cX4_fetch 2 = .ok (.putfield 54, 3) := by decide +kernel
theorem dX4_fetch_5 : decode cX4_fetch 5 = .ok (.iload_n 1, 1) := by decide +kernel
theorem dX4_fetch_6 : decode cX4_fetch 6 = .ok (.iconst 0, 1) := by decide +kernel
theorem dX4_fetch_7 : decode cX4_fetch 7 = .ok (.aload_n 0, 1) := by decide +kernel
theorem dX4_fetch_8 : decode cX4_fetch 8 = .ok (.getfield 64, 3) := by decide +kernel
theorem dX4_fetch_11 : decode cX4_fetch 11 = .ok (.iconst 1, 1) := by decide +kernel
theorem dX4_fetch_12 : decode cX4_fetch 12 = .ok (.isub, 1) := by decide +kernel
theorem dX4_fetch_13 : decode cX4_fetch 13 = .ok (.invokestatic 71, 3) := by decide +kernel
theorem dX4_fetch_16 : decode cX4_fetch 16 = .ok (.ifCond .eq 13, 3) := by decide +kernel
theorem dX4_fetch_19 : decode cX4_fetch 19 = .ok (.aload_n 0, 1) := by decide +kernel
theorem dX4_fetch_20 : decode cX4_fetch 20 = .ok (.iload_n 1, 1) := by decide +kernel
theorem dX4_fetch_21 : decode cX4_fetch 21 = .ok (.iconst 0, 1) := by decide +kernel
theorem dX4_fetch_22 : decode cX4_fetch 22 = .ok (.invokevirtual 88, 3) := by decide +kernel
theorem dX4_fetch_25 : decode cX4_fetch 25 = .ok (.iconst 4, 1) := by decide +kernel
theorem dX4_fetch_26 : decode cX4_fetch 26 = .ok (.if_icmp .eq 5, 3) := by decide +kernel
theorem dX4_fetch_29 : decode cX4_fetch 29 = .ok (.iconst (-1), 1) := by decide +kernel
theorem dX4_fetch_30 : decode cX4_fetch 30 = .ok (.ireturn, 1) := by decide +kernel
theorem dX4_fetch_31 : decode cX4_fetch 31 = .ok (.aload_n 0, 1) := by decide +kernel
theorem dX4_fetch_32 : decode cX4_fetch 32 = .ok (.iload_n 1, 1) := by decide +kernel
theorem dX4_fetch_33 : decode cX4_fetch 33 = .ok (.iconst 1, 1) := by decide +kernel
theorem dX4_fetch_34 : decode cX4_fetch 34 = .ok (.invokevirtual 88, 3) := by decide +kernel
theorem dX4_fetch_37 : decode cX4_fetch 37 = .ok (.istore_n 2, 1) := by decide +kernel
theorem dX4_fetch_38 : decode cX4_fetch 38 = .ok (.iconst (-1), 1) := by decide +kernel
theorem dX4_fetch_39 : decode cX4_fetch 39 = .ok (.istore_n 3, 1) := by decide +kernel
theorem dX4_fetch_40 : decode cX4_fetch 40 = .ok (.iconst 0, 1) := by decide +kernel
theorem dX4_fetch_41 : decode cX4_fetch 41 = .ok (.istore 4, 2) := by decide +kernel
theorem dX4_fetch_43 : decode cX4_fetch 43 = .ok (.iload 4, 2) := by decide +kernel
theorem dX4_fetch_45 : decode cX4_fetch 45 = .ok (.aload_n 0, 1) := by decide +kernel
theorem dX4_fetch_46 : decode cX4_fetch 46 = .ok (.getfield 64, 3) := by decide +kernel
theorem dX4_fetch_49 : decode cX4_fetch 49 = .ok (.if_icmp .ge 78, 3) := by decide +kernel
theorem dX4_fetch_52 : decode cX4_fetch 52 = .ok (.aload_n 0, 1) := by decide +kernel
theorem dX4_fetch_53 : decode cX4_fetch 53 = .ok (.iload 4, 2) := by decide +kernel
theorem dX4_fetch_55 : decode cX4_fetch 55 = .ok (.invokevirtual 91, 3) := by decide +kernel
theorem dX4_fetch_58 : decode cX4_fetch 58 = .ok (.ifCond .eq 63, 3) := by decide +kernel
theorem dX4_fetch_61 : decode cX4_fetch 61 = .ok (.aload_n 0, 1) := by decide +kernel
theorem dX4_fetch_62 : decode cX4_fetch 62 = .ok (.iload 4, 2) := by decide +kernel
theorem dX4_fetch_64 : decode cX4_fetch 64 = .ok (.iconst 0, 1) := by decide +kernel
theorem dX4_fetch_65 : decode cX4_fetch 65 = .ok (.invokevirtual 88, 3) := by decide +kernel
theorem dX4_fetch_68 : decode cX4_fetch 68 = .ok (.iconst 2, 1) := by decide +kernel
theorem dX4_fetch_69 : decode cX4_fetch 69 = .ok (.if_icmp .gt 52, 3) := by decide +kernel
theorem dX4_fetch_72 : decode cX4_fetch 72 = .ok (.aload_n 0, 1) := by decide +kernel
theorem dX4_fetch_73 : decode cX4_fetch 73 = .ok (.iload 4, 2) := by decide +kernel
theorem dX4_fetch_75 : decode cX4_fetch 75 = .ok (.iconst 3, 1) := by decide +kernel
theorem dX4_fetch_76 : decode cX4_fetch 76 = .ok (.invokevirtual 88, 3) := by decide +kernel
theorem dX4_fetch_79 : decode cX4_fetch 79 = .ok (.iconst 2, 1) := by decide +kernel
theorem dX4_fetch_80 : decode cX4_fetch 80 = .ok (.aload_n 0, 1) := by decide +kernel
theorem dX4_fetch_81 : decode cX4_fetch 81 = .ok (.iload 4, 2) := by decide +kernel
theorem dX4_fetch_83 : decode cX4_fetch 83 = .ok (.iload_n 2, 1) := by decide +kernel
theorem dX4_fetch_84 : decode cX4_fetch 84 = .ok (.iconst 1, 1) := by decide +kernel
theorem dX4_fetch_85 : decode cX4_fetch 85 = .ok (.invokevirtual 134, 3) := by decide +kernel
theorem dX4_fetch_88 : decode cX4_fetch 88 = .ok (.imul, 1) := by decide +kernel
theorem dX4_fetch_89 : decode cX4_fetch 89 = .ok (.if_icmp .ge 6, 3) := by decide +kernel
theorem dX4_fetch_92 : decode cX4_fetch 92 = .ok (.goto 29, 3) := by decide +kernel
theorem dX4_fetch_95 : decode cX4_fetch 95 = .ok (.iload_n 3, 1) := by decide +kernel
theorem dX4_fetch_96 : decode cX4_fetch 96 = .ok (.iconst (-1), 1) := by decide +kernel
theorem dX4_fetch_97 : decode cX4_fetch 97 = .ok (.if_icmp .eq 21, 3) := by decide +kernel
theorem dX4_fetch_100 : decode cX4_fetch 100 = .ok (.aload_n 0, 1) := by decide +kernel
theorem dX4_fetch_101 : decode cX4_fetch 101 = .ok (.iload 4, 2) := by decide +kernel
theorem dX4_fetch_103 : decode cX4_fetch 103 = .ok (.iload_n 2, 1) := by decide +kernel
theorem dX4_fetch_104 : decode cX4_fetch 104 = .ok (.iconst 0, 1) := by decide +kernel
theorem dX4_fetch_105 : decode cX4_fetch 105 = .ok (.invokevirtual 134, 3) := by decide +kernel
theorem dX4_fetch_108 : decode cX4_fetch 108 = .ok (.aload_n 0, 1) := by decide +kernel
theorem dX4_fetch_109 : decode cX4_fetch 109 = .ok (.iload_n 3, 1) := by decide +kernel
theorem dX4_fetch_110 : decode cX4_fetch 110 = .ok (.iload_n 2, 1) := by decide +kernel
theorem dX4_fetch_111 : decode cX4_fetch 111 = .ok (.iconst 0, 1) := by decide +kernel
theorem dX4_fetch_112 : decode cX4_fetch 112 = .ok (.invokevirtual 134, 3) := by decide +kernel
theorem dX4_fetch_115 : decode cX4_fetch 115 = .ok (.if_icmp .ge 6, 3) := by decide +kernel
theorem dX4_fetch_118 : decode cX4_fetch 118 = .ok (.iload 4, 2) := by decide +kernel
theorem dX4_fetch_120 : decode cX4_fetch 120 = .ok (.istore_n 3, 1) := by decide +kernel
theorem dX4_fetch_121 : decode cX4_fetch 121 = .ok (.iinc 4 1, 3) := by decide +kernel
theorem dX4_fetch_124 : decode cX4_fetch 124 = .ok (.goto (-81), 3) := by decide +kernel
theorem dX4_fetch_127 : decode cX4_fetch 127 = .ok (.iload_n 3, 1) := by decide +kernel
theorem dX4_fetch_128 : decode cX4_fetch 128 = .ok (.ireturn, 1) := by decide +kernel
theorem dX4_runAside_0 : decode cX4_runAside 0 = .ok (.aload_n 0, 1) := by decide +kernel
theorem dX4_runAside_1 : decode cX4_runAside 1 = .ok (.getfield 61, 3) := by decide +kernel
theorem dX4_runAside_4 : decode cX4_runAside 4 = .ok (.istore_n 1, 1) := by decide +kernel
theorem dX4_runAside_5 : decode cX4_runAside 5 = .ok (.iconst 0, 1) := by decide +kernel
theorem dX4_runAside_6 : decode cX4_runAside 6 = .ok (.istore_n 2, 1) := by decide +kernel
theorem dX4_runAside_7 : decode cX4_runAside 7 = .ok (.iload_n 2, 1) := by decide +kernel
theorem dX4_runAside_8 : decode cX4_runAside 8 = .ok (.bipush 84, 2) := by decide +kernel
theorem dX4_runAside_10 : decode cX4_runAside 10 = .ok (.if_icmp .ge 21, 3) := by decide +kernel
theorem dX4_runAside_13 : decode cX4_runAside 13 = .ok (.aload_n 0, 1) := by decide +kernel
theorem dX4_runAside_14 : decode cX4_runAside 14 = .ok (.getfield 45, 3) := by decide +kernel
theorem dX4_runAside_17 : decode cX4_runAside 17 = .ok (.iload_n 2, 1) := by decide +kernel
theorem dX4_runAside_18 : decode cX4_runAside 18 = .ok (.aload_n 0, 1) := by decide +kernel
theorem dX4_runAside_19 : decode cX4_runAside 19 = .ok (.getfield 42, 3) := by decide +kernel
theorem dX4_runAside_22 : decode cX4_runAside 22 = .ok (.iload_n 2, 1) := by decide +kernel
theorem dX4_runAside_23 : decode cX4_runAside 23 = .ok (.iaload, 1) := by decide +kernel
theorem dX4_runAside_24 : decode cX4_runAside 24 = .ok (.iastore, 1) := by decide +kernel
theorem dX4_runAside_25 : decode cX4_runAside 25 = .ok (.iinc 2 1, 3) := by decide +kernel
theorem dX4_runAside_28 : decode cX4_runAside 28 = .ok (.goto (-21), 3) := by decide +kernel
theorem dX4_runAside_31 : decode cX4_runAside 31 = .ok (.aload_n 0, 1) := by decide +kernel
theorem dX4_runAside_32 : decode cX4_runAside 32 = .ok (.invokevirtual 81, 3) := by decide +kernel
theorem dX4_runAside_35 : decode cX4_runAside 35 = .ok (.iconst 0, 1) := by decide +kernel
theorem dX4_runAside_36 : decode cX4_runAside 36 = .ok (.istore_n 2, 1) := by decide +kernel
theorem dX4_runAside_37 : decode cX4_runAside 37 = .ok (.iload_n 2, 1) := by decide +kernel
theorem dX4_runAside_38 : decode cX4_runAside 38 = .ok (.bipush 100, 2) := by decide +kernel
theorem dX4_runAside_40 : decode cX4_runAside 40 = .ok (.if_icmp .ge 13, 3) := by decide +kernel
theorem dX4_runAside_43 : decode cX4_runAside 43 = .ok (.aload_n 0, 1) := by decide +kernel
theorem dX4_runAside_44 : decode cX4_runAside 44 = .ok (.invokevirtual 121, 3) := by decide +kernel
theorem dX4_runAside_47 : decode cX4_runAside 47 = .ok (.iinc 2 1, 3) := by decide +kernel
theorem dX4_runAside_50 : decode cX4_runAside 50 = .ok (.goto (-13), 3) := by decide +kernel
theorem dX4_runAside_53 : decode cX4_runAside 53 = .ok (.aload_n 0, 1) := by decide +kernel
theorem dX4_runAside_54 : decode cX4_runAside 54 = .ok (.aload_n 0, 1) := by decide +kernel
theorem dX4_runAside_55 : decode cX4_runAside 55 = .ok (.invokevirtual 124, 3) := by decide +kernel
theorem dX4_runAside_58 : decode cX4_runAside 58 = .ok (.putfield 138, 3) := by decide +kernel
theorem dX4_runAside_61 : decode cX4_runAside 61 = .ok (.aload_n 0, 1) := by decide +kernel
theorem dX4_runAside_62 : decode cX4_runAside 62 = .ok (.aload_n 0, 1) := by decide +kernel
theorem dX4_runAside_63 : decode cX4_runAside 63 = .ok (.iconst 4, 1) := by decide +kernel
theorem dX4_runAside_64 : decode cX4_runAside 64 = .ok (.invokevirtual 128, 3) := by decide +kernel
theorem dX4_runAside_67 : decode cX4_runAside 67 = .ok (.putfield 141, 3) := by decide +kernel
theorem dX4_runAside_70 : decode cX4_runAside 70 = .ok (.aload_n 0, 1) := by decide +kernel
theorem dX4_runAside_71 : decode cX4_runAside 71 = .ok (.aload_n 0, 1) := by decide +kernel
theorem dX4_runAside_72 : decode cX4_runAside 72 = .ok (.invokevirtual 131, 3) := by decide +kernel
theorem dX4_runAside_75 : decode cX4_runAside 75 = .ok (.putfield 144, 3) := by decide +kernel
theorem dX4_runAside_78 : decode cX4_runAside 78 = .ok (.iconst 0, 1) := by decide +kernel
theorem dX4_runAside_79 : decode cX4_runAside 79 = .ok (.istore_n 2, 1) := by decide +kernel
theorem dX4_runAside_80 : decode cX4_runAside 80 = .ok (.iload_n 2, 1) := by decide +kernel
theorem dX4_runAside_81 : decode cX4_runAside 81 = .ok (.bipush 84, 2) := by decide +kernel
theorem dX4_runAside_83 : decode cX4_runAside 83 = .ok (.if_icmp .ge 21, 3) := by decide +kernel
theorem dX4_runAside_86 : decode cX4_runAside 86 = .ok (.aload_n 0, 1) := by decide +kernel
theorem dX4_runAside_87 : decode cX4_runAside 87 = .ok (.getfield 42, 3) := by decide +kernel
theorem dX4_runAside_90 : decode cX4_runAside 90 = .ok (.iload_n 2, 1) := by decide +kernel
theorem dX4_runAside_91 : decode cX4_runAside 91 = .ok (.aload_n 0, 1) := by decide +kernel
theorem dX4_runAside_92 : decode cX4_runAside 92 = .ok (.getfield 45, 3) := by decide +kernel
theorem dX4_runAside_95 : decode cX4_runAside 95 = .ok (.iload_n 2, 1) := by decide +kernel
theorem dX4_runAside_96 : decode cX4_runAside 96 = .ok (.iaload, 1) := by decide +kernel
theorem dX4_runAside_97 : decode cX4_runAside 97 = .ok (.iastore, 1) := by decide +kernel
theorem dX4_runAside_98 : decode cX4_runAside 98 = .ok (.iinc 2 1, 3) := by decide +kernel
theorem dX4_runAside_101 : decode cX4_runAside 101 = .ok (.goto (-21), 3) := by decide +kernel
theorem dX4_runAside_104 : decode cX4_runAside 104 = .ok (.aload_n 0, 1) := by decide +kernel
theorem dX4_runAside_105 : decode cX4_runAside 105 = .ok (.iload_n 1, 1) := by decide +kernel
theorem dX4_runAside_106 : decode cX4_runAside 106 = .ok (.putfield 61, 3) := by decide +kernel
theorem dX4_runAside_109 : decode cX4_runAside 109 = .ok (.return_, 1) := by decide +kernel
theorem dX4_tries_0 : decode cX4_tries 0 = .ok (.aload_n 0, 1) := by decide +kernel
theorem dX4_tries_1 : decode cX4_tries 1 = .ok (.iconst 0, 1) := by decide +kernel
theorem dX4_tries_2 : decode cX4_tries 2 = .ok (.putfield 54, 3) := by decide +kernel
theorem dX4_tries_5 : decode cX4_tries 5 = .ok (.iload_n 1, 1) := by decide +kernel
theorem dX4_tries_6 : decode cX4_tries 6 = .ok (.iconst 1, 1) := by decide +kernel
theorem dX4_tries_7 : decode cX4_tries 7 = .ok (.iconst 3, 1) := by decide +kernel
theorem dX4_tries_8 : decode cX4_tries 8 = .ok (.invokestatic 71, 3) := by decide +kernel
theorem dX4_tries_11 : decode cX4_tries 11 = .ok (.ifCond .eq 54, 3) := by decide +kernel
theorem dX4_tries_14 : decode cX4_tries 14 = .ok (.iload 5, 2) := by decide +kernel
theorem dX4_tries_16 : decode cX4_tries 16 = .ok (.iconst 0, 1) := by decide +kernel
theorem dX4_tries_17 : decode cX4_tries 17 = .ok (.iconst 2, 1) := by decide +kernel
theorem dX4_tries_18 : decode cX4_tries 18 = .ok (.invokestatic 71, 3) := by decide +kernel
theorem dX4_tries_21 : decode cX4_tries 21 = .ok (.ifCond .eq 44, 3) := by decide +kernel
theorem dX4_tries_24 : decode cX4_tries 24 = .ok (.iload_n 2, 1) := by decide +kernel
theorem dX4_tries_25 : decode cX4_tries 25 = .ok (.iconst 0, 1) := by decide +kernel
theorem dX4_tries_26 : decode cX4_tries 26 = .ok (.bipush 10, 2) := by decide +kernel
theorem dX4_tries_28 : decode cX4_tries 28 = .ok (.invokestatic 71, 3) := by decide +kernel
theorem dX4_tries_31 : decode cX4_tries 31 = .ok (.ifCond .eq 34, 3) := by decide +kernel
theorem dX4_tries_34 : decode cX4_tries 34 = .ok (.iload_n 1, 1) := by decide +kernel
theorem dX4_tries_35 : decode cX4_tries 35 = .ok (.iconst 1, 1) := by decide +kernel
theorem dX4_tries_36 : decode cX4_tries 36 = .ok (.if_icmp .le 13, 3) := by decide +kernel
theorem dX4_tries_39 : decode cX4_tries 39 = .ok (.iload_n 3, 1) := by decide +kernel
theorem dX4_tries_40 : decode cX4_tries 40 = .ok (.iconst 0, 1) := by decide +kernel
theorem dX4_tries_41 : decode cX4_tries 41 = .ok (.bipush 10, 2) := by decide +kernel
theorem dX4_tries_43 : decode cX4_tries 43 = .ok (.invokestatic 71, 3) := by decide +kernel
theorem dX4_tries_46 : decode cX4_tries 46 = .ok (.ifCond .eq 19, 3) := by decide +kernel
theorem dX4_tries_49 : decode cX4_tries 49 = .ok (.iload_n 1, 1) := by decide +kernel
theorem dX4_tries_50 : decode cX4_tries 50 = .ok (.iconst 2, 1) := by decide +kernel
theorem dX4_tries_51 : decode cX4_tries 51 = .ok (.if_icmp .le 16, 3) := by decide +kernel
theorem dX4_tries_54 : decode cX4_tries 54 = .ok (.iload 4, 2) := by decide +kernel
theorem dX4_tries_56 : decode cX4_tries 56 = .ok (.iconst 0, 1) := by decide +kernel
theorem dX4_tries_57 : decode cX4_tries 57 = .ok (.bipush 10, 2) := by decide +kernel
theorem dX4_tries_59 : decode cX4_tries 59 = .ok (.invokestatic 71, 3) := by decide +kernel
theorem dX4_tries_62 : decode cX4_tries 62 = .ok (.ifCond .ne 5, 3) := by decide +kernel
theorem dX4_tries_65 : decode cX4_tries 65 = .ok (.iconst (-1), 1) := by decide +kernel
theorem dX4_tries_66 : decode cX4_tries 66 = .ok (.ireturn, 1) := by decide +kernel
theorem dX4_tries_67 : decode cX4_tries 67 = .ok (.iconst 0, 1) := by decide +kernel
theorem dX4_tries_68 : decode cX4_tries 68 = .ok (.istore 6, 2) := by decide +kernel
theorem dX4_tries_70 : decode cX4_tries 70 = .ok (.iload 6, 2) := by decide +kernel
theorem dX4_tries_72 : decode cX4_tries 72 = .ok (.iconst 4, 1) := by decide +kernel
theorem dX4_tries_73 : decode cX4_tries 73 = .ok (.if_icmp .ge 23, 3) := by decide +kernel
theorem dX4_tries_76 : decode cX4_tries 76 = .ok (.aload_n 0, 1) := by decide +kernel
theorem dX4_tries_77 : decode cX4_tries 77 = .ok (.getfield 48, 3) := by decide +kernel
theorem dX4_tries_80 : decode cX4_tries 80 = .ok (.iload 6, 2) := by decide +kernel
theorem dX4_tries_82 : decode cX4_tries 82 = .ok (.aload_n 0, 1) := by decide +kernel
theorem dX4_tries_83 : decode cX4_tries 83 = .ok (.getfield 27, 3) := by decide +kernel
theorem dX4_tries_86 : decode cX4_tries 86 = .ok (.iload 6, 2) := by decide +kernel
theorem dX4_tries_88 : decode cX4_tries 88 = .ok (.iaload, 1) := by decide +kernel
theorem dX4_tries_89 : decode cX4_tries 89 = .ok (.iastore, 1) := by decide +kernel
theorem dX4_tries_90 : decode cX4_tries 90 = .ok (.iinc 6 1, 3) := by decide +kernel
theorem dX4_tries_93 : decode cX4_tries 93 = .ok (.goto (-23), 3) := by decide +kernel
theorem dX4_tries_96 : decode cX4_tries 96 = .ok (.aload_n 0, 1) := by decide +kernel
theorem dX4_tries_97 : decode cX4_tries 97 = .ok (.getfield 27, 3) := by decide +kernel
theorem dX4_tries_100 : decode cX4_tries 100 = .ok (.iconst 0, 1) := by decide +kernel
theorem dX4_tries_101 : decode cX4_tries 101 = .ok (.iload_n 2, 1) := by decide +kernel
theorem dX4_tries_102 : decode cX4_tries 102 = .ok (.iastore, 1) := by decide +kernel
theorem dX4_tries_103 : decode cX4_tries 103 = .ok (.iload_n 1, 1) := by decide +kernel
theorem dX4_tries_104 : decode cX4_tries 104 = .ok (.iconst 1, 1) := by decide +kernel
theorem dX4_tries_105 : decode cX4_tries 105 = .ok (.if_icmp .le 10, 3) := by decide +kernel
theorem dX4_tries_108 : decode cX4_tries 108 = .ok (.aload_n 0, 1) := by decide +kernel
theorem dX4_tries_109 : decode cX4_tries 109 = .ok (.getfield 27, 3) := by decide +kernel
theorem dX4_tries_112 : decode cX4_tries 112 = .ok (.iconst 1, 1) := by decide +kernel
theorem dX4_tries_113 : decode cX4_tries 113 = .ok (.iload_n 3, 1) := by decide +kernel
theorem dX4_tries_114 : decode cX4_tries 114 = .ok (.iastore, 1) := by decide +kernel
theorem dX4_tries_115 : decode cX4_tries 115 = .ok (.iload_n 1, 1) := by decide +kernel
theorem dX4_tries_116 : decode cX4_tries 116 = .ok (.iconst 2, 1) := by decide +kernel
theorem dX4_tries_117 : decode cX4_tries 117 = .ok (.if_icmp .le 11, 3) := by decide +kernel
theorem dX4_tries_120 : decode cX4_tries 120 = .ok (.aload_n 0, 1) := by decide +kernel
theorem dX4_tries_121 : decode cX4_tries 121 = .ok (.getfield 27, 3) := by decide +kernel
theorem dX4_tries_124 : decode cX4_tries 124 = .ok (.iconst 2, 1) := by decide +kernel
theorem dX4_tries_125 : decode cX4_tries 125 = .ok (.iload 4, 2) := by decide +kernel
theorem dX4_tries_127 : decode cX4_tries 127 = .ok (.iastore, 1) := by decide +kernel
theorem dX4_tries_128 : decode cX4_tries 128 = .ok (.aload_n 0, 1) := by decide +kernel
theorem dX4_tries_129 : decode cX4_tries 129 = .ok (.invokevirtual 147, 3) := by decide +kernel
theorem dX4_tries_132 : decode cX4_tries 132 = .ok (.iconst 0, 1) := by decide +kernel
theorem dX4_tries_133 : decode cX4_tries 133 = .ok (.istore 6, 2) := by decide +kernel
theorem dX4_tries_135 : decode cX4_tries 135 = .ok (.iload 6, 2) := by decide +kernel
theorem dX4_tries_137 : decode cX4_tries 137 = .ok (.iconst 4, 1) := by decide +kernel
theorem dX4_tries_138 : decode cX4_tries 138 = .ok (.if_icmp .ge 23, 3) := by decide +kernel
theorem dX4_tries_141 : decode cX4_tries 141 = .ok (.aload_n 0, 1) := by decide +kernel
theorem dX4_tries_142 : decode cX4_tries 142 = .ok (.getfield 27, 3) := by decide +kernel
theorem dX4_tries_145 : decode cX4_tries 145 = .ok (.iload 6, 2) := by decide +kernel
theorem dX4_tries_147 : decode cX4_tries 147 = .ok (.aload_n 0, 1) := by decide +kernel
theorem dX4_tries_148 : decode cX4_tries 148 = .ok (.getfield 48, 3) := by decide +kernel
theorem dX4_tries_151 : decode cX4_tries 151 = .ok (.iload 6, 2) := by decide +kernel
theorem dX4_tries_153 : decode cX4_tries 153 = .ok (.iaload, 1) := by decide +kernel
theorem dX4_tries_154 : decode cX4_tries 154 = .ok (.iastore, 1) := by decide +kernel
theorem dX4_tries_155 : decode cX4_tries 155 = .ok (.iinc 6 1, 3) := by decide +kernel
theorem dX4_tries_158 : decode cX4_tries 158 = .ok (.goto (-23), 3) := by decide +kernel
theorem dX4_tries_161 : decode cX4_tries 161 = .ok (.iload 5, 2) := by decide +kernel
theorem dX4_tries_163 : decode cX4_tries 163 = .ok (.ifCond .ne 10, 3) := by decide +kernel
theorem dX4_tries_166 : decode cX4_tries 166 = .ok (.aload_n 0, 1) := by decide +kernel
theorem dX4_tries_167 : decode cX4_tries 167 = .ok (.getfield 138, 3) := by decide +kernel
theorem dX4_tries_170 : decode cX4_tries 170 = .ok (.goto 20, 3) := by decide +kernel
theorem dX4_tries_173 : decode cX4_tries 173 = .ok (.iload 5, 2) := by decide +kernel
theorem dX4_tries_175 : decode cX4_tries 175 = .ok (.iconst 1, 1) := by decide +kernel
theorem dX4_tries_176 : decode cX4_tries 176 = .ok (.if_icmp .ne 10, 3) := by decide +kernel
theorem dX4_tries_179 : decode cX4_tries 179 = .ok (.aload_n 0, 1) := by decide +kernel
theorem dX4_tries_180 : decode cX4_tries 180 = .ok (.getfield 141, 3) := by decide +kernel
theorem dX4_tries_183 : decode cX4_tries 183 = .ok (.goto 7, 3) := by decide +kernel
theorem dX4_tries_186 : decode cX4_tries 186 = .ok (.aload_n 0, 1) := by decide +kernel
theorem dX4_tries_187 : decode cX4_tries 187 = .ok (.getfield 144, 3) := by decide +kernel
theorem dX4_tries_190 : decode cX4_tries 190 = .ok (.ireturn, 1) := by decide +kernel
theorem dX4_plan_0 : decode cX4_plan 0 = .ok (.aload_n 0, 1) := by decide +kernel
theorem dX4_plan_1 : decode cX4_plan 1 = .ok (.iconst 0, 1) := by decide +kernel
theorem dX4_plan_2 : decode cX4_plan 2 = .ok (.putfield 54, 3) := by decide +kernel
theorem dX4_plan_5 : decode cX4_plan 5 = .ok (.iload_n 1, 1) := by decide +kernel
theorem dX4_plan_6 : decode cX4_plan 6 = .ok (.iconst 1, 1) := by decide +kernel
theorem dX4_plan_7 : decode cX4_plan 7 = .ok (.iconst 3, 1) := by decide +kernel
theorem dX4_plan_8 : decode cX4_plan 8 = .ok (.invokestatic 71, 3) := by decide +kernel
theorem dX4_plan_11 : decode cX4_plan 11 = .ok (.ifCond .ne 5, 3) := by decide +kernel
theorem dX4_plan_14 : decode cX4_plan 14 = .ok (.iconst (-1), 1) := by decide +kernel
theorem dX4_plan_15 : decode cX4_plan 15 = .ok (.ireturn, 1) := by decide +kernel
theorem dX4_plan_16 : decode cX4_plan 16 = .ok (.iload_n 1, 1) := by decide +kernel
theorem dX4_plan_17 : decode cX4_plan 17 = .ok (.iconst 1, 1) := by decide +kernel
theorem dX4_plan_18 : decode cX4_plan 18 = .ok (.if_icmp .ne 8, 3) := by decide +kernel
theorem dX4_plan_21 : decode cX4_plan 21 = .ok (.bipush 6, 2) := by decide +kernel
theorem dX4_plan_23 : decode cX4_plan 23 = .ok (.goto 16, 3) := by decide +kernel
theorem dX4_plan_26 : decode cX4_plan 26 = .ok (.iload_n 1, 1) := by decide +kernel
theorem dX4_plan_27 : decode cX4_plan 27 = .ok (.iconst 2, 1) := by decide +kernel
theorem dX4_plan_28 : decode cX4_plan 28 = .ok (.if_icmp .ne 8, 3) := by decide +kernel
theorem dX4_plan_31 : decode cX4_plan 31 = .ok (.bipush 36, 2) := by decide +kernel
theorem dX4_plan_33 : decode cX4_plan 33 = .ok (.goto 6, 3) := by decide +kernel
theorem dX4_plan_36 : decode cX4_plan 36 = .ok (.sipush 216, 3) := by decide +kernel
theorem dX4_plan_39 : decode cX4_plan 39 = .ok (.istore_n 2, 1) := by decide +kernel
theorem dX4_plan_40 : decode cX4_plan 40 = .ok (.iconst (-1), 1) := by decide +kernel
theorem dX4_plan_41 : decode cX4_plan 41 = .ok (.istore_n 3, 1) := by decide +kernel
theorem dX4_plan_42 : decode cX4_plan 42 = .ok (.iconst 0, 1) := by decide +kernel
theorem dX4_plan_43 : decode cX4_plan 43 = .ok (.istore 4, 2) := by decide +kernel
theorem dX4_plan_45 : decode cX4_plan 45 = .ok (.iconst 0, 1) := by decide +kernel
theorem dX4_plan_46 : decode cX4_plan 46 = .ok (.istore 5, 2) := by decide +kernel
theorem dX4_plan_48 : decode cX4_plan 48 = .ok (.iconst 0, 1) := by decide +kernel
theorem dX4_plan_49 : decode cX4_plan 49 = .ok (.istore 6, 2) := by decide +kernel
theorem dX4_plan_51 : decode cX4_plan 51 = .ok (.iconst 0, 1) := by decide +kernel
theorem dX4_plan_52 : decode cX4_plan 52 = .ok (.istore 7, 2) := by decide +kernel
theorem dX4_plan_54 : decode cX4_plan 54 = .ok (.iload 7, 2) := by decide +kernel
theorem dX4_plan_56 : decode cX4_plan 56 = .ok (.iload_n 2, 1) := by decide +kernel
theorem dX4_plan_57 : decode cX4_plan 57 = .ok (.if_icmp .ge 106, 3) := by decide +kernel
theorem dX4_plan_60 : decode cX4_plan 60 = .ok (.aload_n 0, 1) := by decide +kernel
theorem dX4_plan_61 : decode cX4_plan 61 = .ok (.iload_n 1, 1) := by decide +kernel
theorem dX4_plan_62 : decode cX4_plan 62 = .ok (.iload 7, 2) := by decide +kernel
theorem dX4_plan_64 : decode cX4_plan 64 = .ok (.invokevirtual 150, 3) := by decide +kernel
theorem dX4_plan_67 : decode cX4_plan 67 = .ok (.aload_n 0, 1) := by decide +kernel
theorem dX4_plan_68 : decode cX4_plan 68 = .ok (.invokevirtual 147, 3) := by decide +kernel
theorem dX4_plan_71 : decode cX4_plan 71 = .ok (.aload_n 0, 1) := by decide +kernel
theorem dX4_plan_72 : decode cX4_plan 72 = .ok (.getfield 138, 3) := by decide +kernel
theorem dX4_plan_75 : decode cX4_plan 75 = .ok (.iload 4, 2) := by decide +kernel
theorem dX4_plan_77 : decode cX4_plan 77 = .ok (.if_icmp .gt 39, 3) := by decide +kernel
theorem dX4_plan_80 : decode cX4_plan 80 = .ok (.aload_n 0, 1) := by decide +kernel
theorem dX4_plan_81 : decode cX4_plan 81 = .ok (.getfield 138, 3) := by decide +kernel
theorem dX4_plan_84 : decode cX4_plan 84 = .ok (.iload 4, 2) := by decide +kernel
theorem dX4_plan_86 : decode cX4_plan 86 = .ok (.if_icmp .ne 34, 3) := by decide +kernel
theorem dX4_plan_89 : decode cX4_plan 89 = .ok (.aload_n 0, 1) := by decide +kernel
theorem dX4_plan_90 : decode cX4_plan 90 = .ok (.getfield 141, 3) := by decide +kernel
theorem dX4_plan_93 : decode cX4_plan 93 = .ok (.iload 5, 2) := by decide +kernel
theorem dX4_plan_95 : decode cX4_plan 95 = .ok (.if_icmp .lt 21, 3) := by decide +kernel
theorem dX4_plan_98 : decode cX4_plan 98 = .ok (.aload_n 0, 1) := by decide +kernel
theorem dX4_plan_99 : decode cX4_plan 99 = .ok (.getfield 141, 3) := by decide +kernel
theorem dX4_plan_102 : decode cX4_plan 102 = .ok (.iload 5, 2) := by decide +kernel
theorem dX4_plan_104 : decode cX4_plan 104 = .ok (.if_icmp .ne 16, 3) := by decide +kernel
theorem dX4_plan_107 : decode cX4_plan 107 = .ok (.aload_n 0, 1) := by decide +kernel
theorem dX4_plan_108 : decode cX4_plan 108 = .ok (.getfield 144, 3) := by decide +kernel
theorem dX4_plan_111 : decode cX4_plan 111 = .ok (.iload 6, 2) := by decide +kernel
theorem dX4_plan_113 : decode cX4_plan 113 = .ok (.if_icmp .ge 7, 3) := by decide +kernel
theorem dX4_plan_116 : decode cX4_plan 116 = .ok (.iconst 1, 1) := by decide +kernel
theorem dX4_plan_117 : decode cX4_plan 117 = .ok (.goto 4, 3) := by decide +kernel
theorem dX4_plan_120 : decode cX4_plan 120 = .ok (.iconst 0, 1) := by decide +kernel
theorem dX4_plan_121 : decode cX4_plan 121 = .ok (.istore 8, 2) := by decide +kernel
theorem dX4_plan_123 : decode cX4_plan 123 = .ok (.iload_n 3, 1) := by decide +kernel
theorem dX4_plan_124 : decode cX4_plan 124 = .ok (.iconst (-1), 1) := by decide +kernel
theorem dX4_plan_125 : decode cX4_plan 125 = .ok (.if_icmp .eq 11, 3) := by decide +kernel
theorem dX4_plan_128 : decode cX4_plan 128 = .ok (.iload 8, 2) := by decide +kernel
theorem dX4_plan_130 : decode cX4_plan 130 = .ok (.ifCond .ne 6, 3) := by decide +kernel
theorem dX4_plan_133 : decode cX4_plan 133 = .ok (.goto 24, 3) := by decide +kernel
theorem dX4_plan_136 : decode cX4_plan 136 = .ok (.iload 7, 2) := by decide +kernel
theorem dX4_plan_138 : decode cX4_plan 138 = .ok (.istore_n 3, 1) := by decide +kernel
theorem dX4_plan_139 : decode cX4_plan 139 = .ok (.aload_n 0, 1) := by decide +kernel
theorem dX4_plan_140 : decode cX4_plan 140 = .ok (.getfield 138, 3) := by decide +kernel
theorem dX4_plan_143 : decode cX4_plan 143 = .ok (.istore 4, 2) := by decide +kernel
theorem dX4_plan_145 : decode cX4_plan 145 = .ok (.aload_n 0, 1) := by decide +kernel
theorem dX4_plan_146 : decode cX4_plan 146 = .ok (.getfield 141, 3) := by decide +kernel
theorem dX4_plan_149 : decode cX4_plan 149 = .ok (.istore 5, 2) := by decide +kernel
theorem dX4_plan_151 : decode cX4_plan 151 = .ok (.aload_n 0, 1) := by decide +kernel
theorem dX4_plan_152 : decode cX4_plan 152 = .ok (.getfield 144, 3) := by decide +kernel
theorem dX4_plan_155 : decode cX4_plan 155 = .ok (.istore 6, 2) := by decide +kernel
theorem dX4_plan_157 : decode cX4_plan 157 = .ok (.iinc 7 1, 3) := by decide +kernel
theorem dX4_plan_160 : decode cX4_plan 160 = .ok (.goto (-106), 3) := by decide +kernel
theorem dX4_plan_163 : decode cX4_plan 163 = .ok (.aload_n 0, 1) := by decide +kernel
theorem dX4_plan_164 : decode cX4_plan 164 = .ok (.iload_n 1, 1) := by decide +kernel
theorem dX4_plan_165 : decode cX4_plan 165 = .ok (.iload_n 3, 1) := by decide +kernel
theorem dX4_plan_166 : decode cX4_plan 166 = .ok (.invokevirtual 150, 3) := by decide +kernel
theorem dX4_plan_169 : decode cX4_plan 169 = .ok (.aload_n 0, 1) := by decide +kernel
theorem dX4_plan_170 : decode cX4_plan 170 = .ok (.invokevirtual 81, 3) := by decide +kernel
theorem dX4_plan_173 : decode cX4_plan 173 = .ok (.iload 4, 2) := by decide +kernel
theorem dX4_plan_175 : decode cX4_plan 175 = .ok (.ireturn, 1) := by decide +kernel
theorem dX4_tell_0 : decode cX4_tell 0 = .ok (.iload_n 2, 1) := by decide +kernel
theorem dX4_tell_1 : decode cX4_tell 1 = .ok (.istore_n 3, 1) := by decide +kernel
theorem dX4_tell_2 : decode cX4_tell 2 = .ok (.iload_n 1, 1) := by decide +kernel
theorem dX4_tell_3 : decode cX4_tell 3 = .ok (.iconst 1, 1) := by decide +kernel
theorem dX4_tell_4 : decode cX4_tell 4 = .ok (.isub, 1) := by decide +kernel
theorem dX4_tell_5 : decode cX4_tell 5 = .ok (.istore 4, 2) := by decide +kernel
theorem dX4_tell_7 : decode cX4_tell 7 = .ok (.iload 4, 2) := by decide +kernel
theorem dX4_tell_9 : decode cX4_tell 9 = .ok (.ifCond .lt 27, 3) := by decide +kernel
theorem dX4_tell_12 : decode cX4_tell 12 = .ok (.aload_n 0, 1) := by decide +kernel
theorem dX4_tell_13 : decode cX4_tell 13 = .ok (.getfield 27, 3) := by decide +kernel
theorem dX4_tell_16 : decode cX4_tell 16 = .ok (.iload 4, 2) := by decide +kernel
theorem dX4_tell_18 : decode cX4_tell 18 = .ok (.iconst 2, 1) := by decide +kernel
theorem dX4_tell_19 : decode cX4_tell 19 = .ok (.iload_n 3, 1) := by decide +kernel
theorem dX4_tell_20 : decode cX4_tell 20 = .ok (.bipush 6, 2) := by decide +kernel
theorem dX4_tell_22 : decode cX4_tell 22 = .ok (.irem, 1) := by decide +kernel
theorem dX4_tell_23 : decode cX4_tell 23 = .ok (.imul, 1) := by decide +kernel
theorem dX4_tell_24 : decode cX4_tell 24 = .ok (.iastore, 1) := by decide +kernel
theorem dX4_tell_25 : decode cX4_tell 25 = .ok (.iload_n 3, 1) := by decide +kernel
theorem dX4_tell_26 : decode cX4_tell 26 = .ok (.bipush 6, 2) := by decide +kernel
theorem dX4_tell_28 : decode cX4_tell 28 = .ok (.idiv, 1) := by decide +kernel
theorem dX4_tell_29 : decode cX4_tell 29 = .ok (.istore_n 3, 1) := by decide +kernel
theorem dX4_tell_30 : decode cX4_tell 30 = .ok (.iinc 4 (-1), 3) := by decide +kernel
theorem dX4_tell_33 : decode cX4_tell 33 = .ok (.goto (-26), 3) := by decide +kernel
theorem dX4_tell_36 : decode cX4_tell 36 = .ok (.return_, 1) := by decide +kernel
theorem dX4_need_0 : decode cX4_need 0 = .ok (.aload_n 0, 1) := by decide +kernel
theorem dX4_need_1 : decode cX4_need 1 = .ok (.iconst 0, 1) := by decide +kernel
theorem dX4_need_2 : decode cX4_need 2 = .ok (.putfield 54, 3) := by decide +kernel
theorem dX4_need_5 : decode cX4_need 5 = .ok (.iload_n 1, 1) := by decide +kernel
theorem dX4_need_6 : decode cX4_need 6 = .ok (.iconst 0, 1) := by decide +kernel
theorem dX4_need_7 : decode cX4_need 7 = .ok (.aload_n 0, 1) := by decide +kernel
theorem dX4_need_8 : decode cX4_need 8 = .ok (.getfield 7, 3) := by decide +kernel
theorem dX4_need_11 : decode cX4_need 11 = .ok (.invokestatic 71, 3) := by decide +kernel
theorem dX4_need_14 : decode cX4_need 14 = .ok (.ifCond .eq 14, 3) := by decide +kernel
theorem dX4_need_17 : decode cX4_need 17 = .ok (.iload_n 2, 1) := by decide +kernel
theorem dX4_need_18 : decode cX4_need 18 = .ok (.iconst 0, 1) := by decide +kernel
theorem dX4_need_19 : decode cX4_need 19 = .ok (.sipush 200, 3) := by decide +kernel
theorem dX4_need_22 : decode cX4_need 22 = .ok (.invokestatic 71, 3) := by decide +kernel
theorem dX4_need_25 : decode cX4_need 25 = .ok (.ifCond .ne 5, 3) := by decide +kernel
theorem dX4_need_28 : decode cX4_need 28 = .ok (.iconst (-1), 1) := by decide +kernel
theorem dX4_need_29 : decode cX4_need 29 = .ok (.ireturn, 1) := by decide +kernel
theorem dX4_need_30 : decode cX4_need 30 = .ok (.iload_n 2, 1) := by decide +kernel
theorem dX4_need_31 : decode cX4_need 31 = .ok (.istore_n 3, 1) := by decide +kernel
theorem dX4_need_32 : decode cX4_need 32 = .ok (.iload_n 1, 1) := by decide +kernel
theorem dX4_need_33 : decode cX4_need 33 = .ok (.iconst 1, 1) := by decide +kernel
theorem dX4_need_34 : decode cX4_need 34 = .ok (.isub, 1) := by decide +kernel
theorem dX4_need_35 : decode cX4_need 35 = .ok (.istore 4, 2) := by decide +kernel
theorem dX4_need_37 : decode cX4_need 37 = .ok (.iload 4, 2) := by decide +kernel
theorem dX4_need_39 : decode cX4_need 39 = .ok (.ifCond .lt 26, 3) := by decide +kernel
theorem dX4_need_42 : decode cX4_need 42 = .ok (.iload 4, 2) := by decide +kernel
theorem dX4_need_44 : decode cX4_need 44 = .ok (.aload_n 0, 1) := by decide +kernel
theorem dX4_need_45 : decode cX4_need 45 = .ok (.getfield 20, 3) := by decide +kernel
theorem dX4_need_48 : decode cX4_need 48 = .ok (.if_icmp .lt 11, 3) := by decide +kernel
theorem dX4_need_51 : decode cX4_need 51 = .ok (.iload_n 3, 1) := by decide +kernel
theorem dX4_need_52 : decode cX4_need 52 = .ok (.iload_n 3, 1) := by decide +kernel
theorem dX4_need_53 : decode cX4_need 53 = .ok (.iconst 2, 1) := by decide +kernel
theorem dX4_need_54 : decode cX4_need 54 = .ok (.iadd, 1) := by decide +kernel
theorem dX4_need_55 : decode cX4_need 55 = .ok (.iconst 3, 1) := by decide +kernel
theorem dX4_need_56 : decode cX4_need 56 = .ok (.idiv, 1) := by decide +kernel
theorem dX4_need_57 : decode cX4_need 57 = .ok (.iadd, 1) := by decide +kernel
theorem dX4_need_58 : decode cX4_need 58 = .ok (.istore_n 3, 1) := by decide +kernel
theorem dX4_need_59 : decode cX4_need 59 = .ok (.iinc 4 (-1), 3) := by decide +kernel
theorem dX4_need_62 : decode cX4_need 62 = .ok (.goto (-25), 3) := by decide +kernel
theorem dX4_need_65 : decode cX4_need 65 = .ok (.iload_n 3, 1) := by decide +kernel
theorem dX4_need_66 : decode cX4_need 66 = .ok (.ireturn, 1) := by decide +kernel
theorem dX4_comes_0 : decode cX4_comes 0 = .ok (.aload_n 0, 1) := by decide +kernel
theorem dX4_comes_1 : decode cX4_comes 1 = .ok (.iconst 0, 1) := by decide +kernel
theorem dX4_comes_2 : decode cX4_comes 2 = .ok (.putfield 54, 3) := by decide +kernel
theorem dX4_comes_5 : decode cX4_comes 5 = .ok (.iload_n 1, 1) := by decide +kernel
theorem dX4_comes_6 : decode cX4_comes 6 = .ok (.iconst 0, 1) := by decide +kernel
theorem dX4_comes_7 : decode cX4_comes 7 = .ok (.aload_n 0, 1) := by decide +kernel
theorem dX4_comes_8 : decode cX4_comes 8 = .ok (.getfield 7, 3) := by decide +kernel
theorem dX4_comes_11 : decode cX4_comes 11 = .ok (.invokestatic 71, 3) := by decide +kernel
theorem dX4_comes_14 : decode cX4_comes 14 = .ok (.ifCond .eq 14, 3) := by decide +kernel
theorem dX4_comes_17 : decode cX4_comes 17 = .ok (.iload_n 2, 1) := by decide +kernel
theorem dX4_comes_18 : decode cX4_comes 18 = .ok (.iconst 0, 1) := by decide +kernel
theorem dX4_comes_19 : decode cX4_comes 19 = .ok (.sipush 2000, 3) := by decide +kernel
theorem dX4_comes_22 : decode cX4_comes 22 = .ok (.invokestatic 71, 3) := by decide +kernel
theorem dX4_comes_25 : decode cX4_comes 25 = .ok (.ifCond .ne 5, 3) := by decide +kernel
theorem dX4_comes_28 : decode cX4_comes 28 = .ok (.iconst (-1), 1) := by decide +kernel
theorem dX4_comes_29 : decode cX4_comes 29 = .ok (.ireturn, 1) := by decide +kernel
theorem dX4_comes_30 : decode cX4_comes 30 = .ok (.iload_n 2, 1) := by decide +kernel
theorem dX4_comes_31 : decode cX4_comes 31 = .ok (.istore_n 3, 1) := by decide +kernel
theorem dX4_comes_32 : decode cX4_comes 32 = .ok (.iconst 0, 1) := by decide +kernel
theorem dX4_comes_33 : decode cX4_comes 33 = .ok (.istore 4, 2) := by decide +kernel
theorem dX4_comes_35 : decode cX4_comes 35 = .ok (.iload 4, 2) := by decide +kernel
theorem dX4_comes_37 : decode cX4_comes 37 = .ok (.iload_n 1, 1) := by decide +kernel
theorem dX4_comes_38 : decode cX4_comes 38 = .ok (.if_icmp .ge 26, 3) := by decide +kernel
theorem dX4_comes_41 : decode cX4_comes 41 = .ok (.iload 4, 2) := by decide +kernel
theorem dX4_comes_43 : decode cX4_comes 43 = .ok (.aload_n 0, 1) := by decide +kernel
theorem dX4_comes_44 : decode cX4_comes 44 = .ok (.getfield 20, 3) := by decide +kernel
theorem dX4_comes_47 : decode cX4_comes 47 = .ok (.if_icmp .lt 11, 3) := by decide +kernel
theorem dX4_comes_50 : decode cX4_comes 50 = .ok (.iload_n 3, 1) := by decide +kernel
theorem dX4_comes_51 : decode cX4_comes 51 = .ok (.iload_n 3, 1) := by decide +kernel
theorem dX4_comes_52 : decode cX4_comes 52 = .ok (.iconst 3, 1) := by decide +kernel
theorem dX4_comes_53 : decode cX4_comes 53 = .ok (.iadd, 1) := by decide +kernel
theorem dX4_comes_54 : decode cX4_comes 54 = .ok (.iconst 4, 1) := by decide +kernel
theorem dX4_comes_55 : decode cX4_comes 55 = .ok (.idiv, 1) := by decide +kernel
theorem dX4_comes_56 : decode cX4_comes 56 = .ok (.isub, 1) := by decide +kernel
theorem dX4_comes_57 : decode cX4_comes 57 = .ok (.istore_n 3, 1) := by decide +kernel
theorem dX4_comes_58 : decode cX4_comes 58 = .ok (.iinc 4 1, 3) := by decide +kernel
theorem dX4_comes_61 : decode cX4_comes 61 = .ok (.goto (-26), 3) := by decide +kernel
theorem dX4_comes_64 : decode cX4_comes 64 = .ok (.iload_n 3, 1) := by decide +kernel
theorem dX4_comes_65 : decode cX4_comes 65 = .ok (.ireturn, 1) := by decide +kernel
theorem dL_of_0 : decode cL_of 0 = .ok (.aload_n 3, 1) := by decide +kernel
theorem dL_of_1 : decode cL_of 1 = .ok (.iconst 0, 1) := by decide +kernel
theorem dL_of_2 : decode cL_of 2 = .ok (.aload_n 0, 1) := by decide +kernel
theorem dL_of_3 : decode cL_of 3 = .ok (.iload_n 1, 1) := by decide +kernel
theorem dL_of_4 : decode cL_of 4 = .ok (.iload_n 2, 1) := by decide +kernel
theorem dL_of_5 : decode cL_of 5 = .ok (.invokevirtual 7, 3) := by decide +kernel
theorem dL_of_8 : decode cL_of 8 = .ok (.i2l, 1) := by decide +kernel
theorem dL_of_9 : decode cL_of 9 = .ok (.lastore, 1) := by decide +kernel
theorem dL_of_10 : decode cL_of 10 = .ok (.goto 7, 3) := by decide +kernel
theorem dL_of_13 : decode cL_of 13 = .ok (.astore 4, 2) := by decide +kernel
theorem dL_of_15 : decode cL_of 15 = .ok (.iconst 1, 1) := by decide +kernel
theorem dL_of_16 : decode cL_of 16 = .ok (.ireturn, 1) := by decide +kernel
theorem dL_of_17 : decode cL_of 17 = .ok (.iconst 0, 1) := by decide +kernel
theorem dL_of_18 : decode cL_of 18 = .ok (.ireturn, 1) := by decide +kernel
theorem dL_law_0 : decode cL_law 0 = .ok (.new 8, 3) := by decide +kernel
theorem dL_law_3 : decode cL_law 3 = .ok (.dup, 1) := by decide +kernel
theorem dL_law_4 : decode cL_law 4 = .ok (.invokespecial 15, 3) := by decide +kernel
theorem dL_law_7 : decode cL_law 7 = .ok (.astore_n 1, 1) := by decide +kernel
theorem dL_law_8 : decode cL_law 8 = .ok (.new 16, 3) := by decide +kernel
theorem dL_law_11 : decode cL_law 11 = .ok (.dup, 1) := by decide +kernel
theorem dL_law_12 : decode cL_law 12 = .ok (.invokespecial 18, 3) := by decide +kernel
theorem dL_law_15 : decode cL_law 15 = .ok (.astore_n 2, 1) := by decide +kernel
theorem dL_law_16 : decode cL_law 16 = .ok (.iconst 1, 1) := by decide +kernel
theorem dL_law_17 : decode cL_law 17 = .ok (.newarray .long, 2) := by decide +kernel
theorem dL_law_19 : decode cL_law 19 = .ok (.astore_n 3, 1) := by decide +kernel
theorem dL_law_20 : decode cL_law 20 = .ok (.iconst 0, 1) := by decide +kernel
theorem dL_law_21 : decode cL_law 21 = .ok (.istore 4, 2) := by decide +kernel
theorem dL_law_23 : decode cL_law 23 = .ok (.iload 4, 2) := by decide +kernel
theorem dL_law_25 : decode cL_law 25 = .ok (.aload_n 0, 1) := by decide +kernel
theorem dL_law_26 : decode cL_law 26 = .ok (.arraylength, 1) := by decide +kernel
theorem dL_law_27 : decode cL_law 27 = .ok (.bipush 6, 2) := by decide +kernel
theorem dL_law_29 : decode cL_law 29 = .ok (.isub, 1) := by decide +kernel
theorem dL_law_30 : decode cL_law 30 = .ok (.if_icmp .gt 740, 3) := by decide +kernel
theorem dL_law_33 : decode cL_law 33 = .ok (.aload_n 0, 1) := by decide +kernel
theorem dL_law_34 : decode cL_law 34 = .ok (.iload 4, 2) := by decide +kernel
theorem dL_law_36 : decode cL_law 36 = .ok (.iaload, 1) := by decide +kernel
theorem dL_law_37 : decode cL_law 37 = .ok (.bipush 31, 2) := by decide +kernel
theorem dL_law_39 : decode cL_law 39 = .ok (.iand, 1) := by decide +kernel
theorem dL_law_40 : decode cL_law 40 = .ok (.tableswitch 724 0 16 #[84, 109, 158, 183, 248, 297, 346, 359, 384, 409, 477, 502, 527, 552, 625, 650, 687], 84) := by decide +kernel
theorem dL_law_124 : decode cL_law 124 = .ok (.aload_n 1, 1) := by decide +kernel
theorem dL_law_125 : decode cL_law 125 = .ok (.aload_n 0, 1) := by decide +kernel
theorem dL_law_126 : decode cL_law 126 = .ok (.iload 4, 2) := by decide +kernel
theorem dL_law_128 : decode cL_law 128 = .ok (.iconst 1, 1) := by decide +kernel
theorem dL_law_129 : decode cL_law 129 = .ok (.iadd, 1) := by decide +kernel
theorem dL_law_130 : decode cL_law 130 = .ok (.iaload, 1) := by decide +kernel
theorem dL_law_131 : decode cL_law 131 = .ok (.invokevirtual 19, 3) := by decide +kernel
theorem dL_law_134 : decode cL_law 134 = .ok (.aload_n 2, 1) := by decide +kernel
theorem dL_law_135 : decode cL_law 135 = .ok (.aload_n 0, 1) := by decide +kernel
theorem dL_law_136 : decode cL_law 136 = .ok (.iload 4, 2) := by decide +kernel
theorem dL_law_138 : decode cL_law 138 = .ok (.iconst 1, 1) := by decide +kernel
theorem dL_law_139 : decode cL_law 139 = .ok (.iadd, 1) := by decide +kernel
theorem dL_law_140 : decode cL_law 140 = .ok (.iaload, 1) := by decide +kernel
theorem dL_law_141 : decode cL_law 141 = .ok (.invokevirtual 23, 3) := by decide +kernel
theorem dL_law_144 : decode cL_law 144 = .ok (.if_icmp .eq 620, 3) := by decide +kernel
theorem dL_law_147 : decode cL_law 147 = .ok (.iconst 0, 1) := by decide +kernel
theorem dL_law_148 : decode cL_law 148 = .ok (.ireturn, 1) := by decide +kernel
theorem dL_law_149 : decode cL_law 149 = .ok (.aload_n 1, 1) := by decide +kernel
theorem dL_law_150 : decode cL_law 150 = .ok (.aload_n 0, 1) := by decide +kernel
theorem dL_law_151 : decode cL_law 151 = .ok (.iload 4, 2) := by decide +kernel
theorem dL_law_153 : decode cL_law 153 = .ok (.iconst 1, 1) := by decide +kernel
theorem dL_law_154 : decode cL_law 154 = .ok (.iadd, 1) := by decide +kernel
theorem dL_law_155 : decode cL_law 155 = .ok (.iaload, 1) := by decide +kernel
theorem dL_law_156 : decode cL_law 156 = .ok (.aload_n 0, 1) := by decide +kernel
theorem dL_law_157 : decode cL_law 157 = .ok (.iload 4, 2) := by decide +kernel
theorem dL_law_159 : decode cL_law 159 = .ok (.iconst 2, 1) := by decide +kernel
theorem dL_law_160 : decode cL_law 160 = .ok (.iadd, 1) := by decide +kernel
theorem dL_law_161 : decode cL_law 161 = .ok (.iaload, 1) := by decide +kernel
theorem dL_law_162 : decode cL_law 162 = .ok (.aload_n 0, 1) := by decide +kernel
theorem dL_law_163 : decode cL_law 163 = .ok (.iload 4, 2) := by decide +kernel
theorem dL_law_165 : decode cL_law 165 = .ok (.iconst 3, 1) := by decide +kernel
theorem dL_law_166 : decode cL_law 166 = .ok (.iadd, 1) := by decide +kernel
theorem dL_law_167 : decode cL_law 167 = .ok (.iaload, 1) := by decide +kernel
theorem dL_law_168 : decode cL_law 168 = .ok (.invokevirtual 24, 3) := by decide +kernel
theorem dL_law_171 : decode cL_law 171 = .ok (.aload_n 2, 1) := by decide +kernel
theorem dL_law_172 : decode cL_law 172 = .ok (.aload_n 0, 1) := by decide +kernel
theorem dL_law_173 : decode cL_law 173 = .ok (.iload 4, 2) := by decide +kernel
theorem dL_law_175 : decode cL_law 175 = .ok (.iconst 1, 1) := by decide +kernel
theorem dL_law_176 : decode cL_law 176 = .ok (.iadd, 1) := by decide +kernel
theorem dL_law_177 : decode cL_law 177 = .ok (.iaload, 1) := by decide +kernel
theorem dL_law_178 : decode cL_law 178 = .ok (.aload_n 0, 1) := by decide +kernel
theorem dL_law_179 : decode cL_law 179 = .ok (.iload 4, 2) := by decide +kernel
theorem dL_law_181 : decode cL_law 181 = .ok (.iconst 2, 1) := by decide +kernel
theorem dL_law_182 : decode cL_law 182 = .ok (.iadd, 1) := by decide +kernel
theorem dL_law_183 : decode cL_law 183 = .ok (.iaload, 1) := by decide +kernel
theorem dL_law_184 : decode cL_law 184 = .ok (.aload_n 0, 1) := by decide +kernel
theorem dL_law_185 : decode cL_law 185 = .ok (.iload 4, 2) := by decide +kernel
theorem dL_law_187 : decode cL_law 187 = .ok (.iconst 3, 1) := by decide +kernel
theorem dL_law_188 : decode cL_law 188 = .ok (.iadd, 1) := by decide +kernel
theorem dL_law_189 : decode cL_law 189 = .ok (.iaload, 1) := by decide +kernel
theorem dL_law_190 : decode cL_law 190 = .ok (.invokevirtual 28, 3) := by decide +kernel
theorem dL_law_193 : decode cL_law 193 = .ok (.if_icmp .eq 571, 3) := by decide +kernel
theorem dL_law_196 : decode cL_law 196 = .ok (.iconst 0, 1) := by decide +kernel
theorem dL_law_197 : decode cL_law 197 = .ok (.ireturn, 1) := by decide +kernel
theorem dL_law_198 : decode cL_law 198 = .ok (.aload_n 1, 1) := by decide +kernel
theorem dL_law_199 : decode cL_law 199 = .ok (.aload_n 0, 1) := by decide +kernel
theorem dL_law_200 : decode cL_law 200 = .ok (.iload 4, 2) := by decide +kernel
theorem dL_law_202 : decode cL_law 202 = .ok (.iconst 1, 1) := by decide +kernel
theorem dL_law_203 : decode cL_law 203 = .ok (.iadd, 1) := by decide +kernel
theorem dL_law_204 : decode cL_law 204 = .ok (.iaload, 1) := by decide +kernel
theorem dL_law_205 : decode cL_law 205 = .ok (.invokevirtual 29, 3) := by decide +kernel
theorem dL_law_208 : decode cL_law 208 = .ok (.aload_n 2, 1) := by decide +kernel
theorem dL_law_209 : decode cL_law 209 = .ok (.aload_n 0, 1) := by decide +kernel
theorem dL_law_210 : decode cL_law 210 = .ok (.iload 4, 2) := by decide +kernel
theorem dL_law_212 : decode cL_law 212 = .ok (.iconst 1, 1) := by decide +kernel
theorem dL_law_213 : decode cL_law 213 = .ok (.iadd, 1) := by decide +kernel
theorem dL_law_214 : decode cL_law 214 = .ok (.iaload, 1) := by decide +kernel
theorem dL_law_215 : decode cL_law 215 = .ok (.invokevirtual 33, 3) := by decide +kernel
theorem dL_law_218 : decode cL_law 218 = .ok (.if_icmp .eq 546, 3) := by decide +kernel
theorem dL_law_221 : decode cL_law 221 = .ok (.iconst 0, 1) := by decide +kernel
theorem dL_law_222 : decode cL_law 222 = .ok (.ireturn, 1) := by decide +kernel
theorem dL_law_223 : decode cL_law 223 = .ok (.aload_n 1, 1) := by decide +kernel
theorem dL_law_224 : decode cL_law 224 = .ok (.aload_n 0, 1) := by decide +kernel
theorem dL_law_225 : decode cL_law 225 = .ok (.iload 4, 2) := by decide +kernel
theorem dL_law_227 : decode cL_law 227 = .ok (.iconst 1, 1) := by decide +kernel
theorem dL_law_228 : decode cL_law 228 = .ok (.iadd, 1) := by decide +kernel
theorem dL_law_229 : decode cL_law 229 = .ok (.iaload, 1) := by decide +kernel
theorem dL_law_230 : decode cL_law 230 = .ok (.aload_n 0, 1) := by decide +kernel
theorem dL_law_231 : decode cL_law 231 = .ok (.iload 4, 2) := by decide +kernel
theorem dL_law_233 : decode cL_law 233 = .ok (.iconst 2, 1) := by decide +kernel
theorem dL_law_234 : decode cL_law 234 = .ok (.iadd, 1) := by decide +kernel
theorem dL_law_235 : decode cL_law 235 = .ok (.iaload, 1) := by decide +kernel
theorem dL_law_236 : decode cL_law 236 = .ok (.aload_n 0, 1) := by decide +kernel
theorem dL_law_237 : decode cL_law 237 = .ok (.iload 4, 2) := by decide +kernel
theorem dL_law_239 : decode cL_law 239 = .ok (.iconst 3, 1) := by decide +kernel
theorem dL_law_240 : decode cL_law 240 = .ok (.iadd, 1) := by decide +kernel
theorem dL_law_241 : decode cL_law 241 = .ok (.iaload, 1) := by decide +kernel
theorem dL_law_242 : decode cL_law 242 = .ok (.ifCond .eq 7, 3) := by decide +kernel
theorem dL_law_245 : decode cL_law 245 = .ok (.iconst 1, 1) := by decide +kernel
theorem dL_law_246 : decode cL_law 246 = .ok (.goto 4, 3) := by decide +kernel
theorem dL_law_249 : decode cL_law 249 = .ok (.iconst 0, 1) := by decide +kernel
theorem dL_law_250 : decode cL_law 250 = .ok (.invokevirtual 34, 3) := by decide +kernel
theorem dL_law_253 : decode cL_law 253 = .ok (.aload_n 2, 1) := by decide +kernel
theorem dL_law_254 : decode cL_law 254 = .ok (.aload_n 0, 1) := by decide +kernel
theorem dL_law_255 : decode cL_law 255 = .ok (.iload 4, 2) := by decide +kernel
theorem dL_law_257 : decode cL_law 257 = .ok (.iconst 1, 1) := by decide +kernel
theorem dL_law_258 : decode cL_law 258 = .ok (.iadd, 1) := by decide +kernel
theorem dL_law_259 : decode cL_law 259 = .ok (.iaload, 1) := by decide +kernel
theorem dL_law_260 : decode cL_law 260 = .ok (.aload_n 0, 1) := by decide +kernel
theorem dL_law_261 : decode cL_law 261 = .ok (.iload 4, 2) := by decide +kernel
theorem dL_law_263 : decode cL_law 263 = .ok (.iconst 2, 1) := by decide +kernel
theorem dL_law_264 : decode cL_law 264 = .ok (.iadd, 1) := by decide +kernel
theorem dL_law_265 : decode cL_law 265 = .ok (.iaload, 1) := by decide +kernel
theorem dL_law_266 : decode cL_law 266 = .ok (.aload_n 0, 1) := by decide +kernel
theorem dL_law_267 : decode cL_law 267 = .ok (.iload 4, 2) := by decide +kernel
theorem dL_law_269 : decode cL_law 269 = .ok (.iconst 3, 1) := by decide +kernel
theorem dL_law_270 : decode cL_law 270 = .ok (.iadd, 1) := by decide +kernel
theorem dL_law_271 : decode cL_law 271 = .ok (.iaload, 1) := by decide +kernel
theorem dL_law_272 : decode cL_law 272 = .ok (.ifCond .eq 7, 3) := by decide +kernel
theorem dL_law_275 : decode cL_law 275 = .ok (.iconst 1, 1) := by decide +kernel
theorem dL_law_276 : decode cL_law 276 = .ok (.goto 4, 3) := by decide +kernel
theorem dL_law_279 : decode cL_law 279 = .ok (.iconst 0, 1) := by decide +kernel
theorem dL_law_280 : decode cL_law 280 = .ok (.invokevirtual 38, 3) := by decide +kernel
theorem dL_law_283 : decode cL_law 283 = .ok (.if_icmp .eq 481, 3) := by decide +kernel
theorem dL_law_286 : decode cL_law 286 = .ok (.iconst 0, 1) := by decide +kernel
theorem dL_law_287 : decode cL_law 287 = .ok (.ireturn, 1) := by decide +kernel
theorem dL_law_288 : decode cL_law 288 = .ok (.aload_n 1, 1) := by decide +kernel
theorem dL_law_289 : decode cL_law 289 = .ok (.aload_n 0, 1) := by decide +kernel
theorem dL_law_290 : decode cL_law 290 = .ok (.iload 4, 2) := by decide +kernel
theorem dL_law_292 : decode cL_law 292 = .ok (.iconst 1, 1) := by decide +kernel
theorem dL_law_293 : decode cL_law 293 = .ok (.iadd, 1) := by decide +kernel
theorem dL_law_294 : decode cL_law 294 = .ok (.iaload, 1) := by decide +kernel
theorem dL_law_295 : decode cL_law 295 = .ok (.aload_n 0, 1) := by decide +kernel
theorem dL_law_296 : decode cL_law 296 = .ok (.iload 4, 2) := by decide +kernel
theorem dL_law_298 : decode cL_law 298 = .ok (.iconst 2, 1) := by decide +kernel
theorem dL_law_299 : decode cL_law 299 = .ok (.iadd, 1) := by decide +kernel
theorem dL_law_300 : decode cL_law 300 = .ok (.iaload, 1) := by decide +kernel
theorem dL_law_301 : decode cL_law 301 = .ok (.aload_n 0, 1) := by decide +kernel
theorem dL_law_302 : decode cL_law 302 = .ok (.iload 4, 2) := by decide +kernel
theorem dL_law_304 : decode cL_law 304 = .ok (.iconst 3, 1) := by decide +kernel
theorem dL_law_305 : decode cL_law 305 = .ok (.iadd, 1) := by decide +kernel
theorem dL_law_306 : decode cL_law 306 = .ok (.iaload, 1) := by decide +kernel
theorem dL_law_307 : decode cL_law 307 = .ok (.invokevirtual 39, 3) := by decide +kernel
theorem dL_law_310 : decode cL_law 310 = .ok (.aload_n 2, 1) := by decide +kernel
theorem dL_law_311 : decode cL_law 311 = .ok (.aload_n 0, 1) := by decide +kernel
theorem dL_law_312 : decode cL_law 312 = .ok (.iload 4, 2) := by decide +kernel
theorem dL_law_314 : decode cL_law 314 = .ok (.iconst 1, 1) := by decide +kernel
theorem dL_law_315 : decode cL_law 315 = .ok (.iadd, 1) := by decide +kernel
theorem dL_law_316 : decode cL_law 316 = .ok (.iaload, 1) := by decide +kernel
theorem dL_law_317 : decode cL_law 317 = .ok (.aload_n 0, 1) := by decide +kernel
theorem dL_law_318 : decode cL_law 318 = .ok (.iload 4, 2) := by decide +kernel
theorem dL_law_320 : decode cL_law 320 = .ok (.iconst 2, 1) := by decide +kernel
theorem dL_law_321 : decode cL_law 321 = .ok (.iadd, 1) := by decide +kernel
theorem dL_law_322 : decode cL_law 322 = .ok (.iaload, 1) := by decide +kernel
theorem dL_law_323 : decode cL_law 323 = .ok (.aload_n 0, 1) := by decide +kernel
theorem dL_law_324 : decode cL_law 324 = .ok (.iload 4, 2) := by decide +kernel
theorem dL_law_326 : decode cL_law 326 = .ok (.iconst 3, 1) := by decide +kernel
theorem dL_law_327 : decode cL_law 327 = .ok (.iadd, 1) := by decide +kernel
theorem dL_law_328 : decode cL_law 328 = .ok (.iaload, 1) := by decide +kernel
theorem dL_law_329 : decode cL_law 329 = .ok (.invokevirtual 43, 3) := by decide +kernel
theorem dL_law_332 : decode cL_law 332 = .ok (.if_icmp .eq 432, 3) := by decide +kernel
theorem dL_law_335 : decode cL_law 335 = .ok (.iconst 0, 1) := by decide +kernel
theorem dL_law_336 : decode cL_law 336 = .ok (.ireturn, 1) := by decide +kernel
theorem dL_law_337 : decode cL_law 337 = .ok (.aload_n 1, 1) := by decide +kernel
theorem dL_law_338 : decode cL_law 338 = .ok (.aload_n 0, 1) := by decide +kernel
theorem dL_law_339 : decode cL_law 339 = .ok (.iload 4, 2) := by decide +kernel
theorem dL_law_341 : decode cL_law 341 = .ok (.iconst 1, 1) := by decide +kernel
theorem dL_law_342 : decode cL_law 342 = .ok (.iadd, 1) := by decide +kernel
theorem dL_law_343 : decode cL_law 343 = .ok (.iaload, 1) := by decide +kernel
theorem dL_law_344 : decode cL_law 344 = .ok (.aload_n 0, 1) := by decide +kernel
theorem dL_law_345 : decode cL_law 345 = .ok (.iload 4, 2) := by decide +kernel
theorem dL_law_347 : decode cL_law 347 = .ok (.iconst 2, 1) := by decide +kernel
theorem dL_law_348 : decode cL_law 348 = .ok (.iadd, 1) := by decide +kernel
theorem dL_law_349 : decode cL_law 349 = .ok (.iaload, 1) := by decide +kernel
theorem dL_law_350 : decode cL_law 350 = .ok (.aload_n 0, 1) := by decide +kernel
theorem dL_law_351 : decode cL_law 351 = .ok (.iload 4, 2) := by decide +kernel
theorem dL_law_353 : decode cL_law 353 = .ok (.iconst 3, 1) := by decide +kernel
theorem dL_law_354 : decode cL_law 354 = .ok (.iadd, 1) := by decide +kernel
theorem dL_law_355 : decode cL_law 355 = .ok (.iaload, 1) := by decide +kernel
theorem dL_law_356 : decode cL_law 356 = .ok (.invokevirtual 44, 3) := by decide +kernel
theorem dL_law_359 : decode cL_law 359 = .ok (.aload_n 2, 1) := by decide +kernel
theorem dL_law_360 : decode cL_law 360 = .ok (.aload_n 0, 1) := by decide +kernel
theorem dL_law_361 : decode cL_law 361 = .ok (.iload 4, 2) := by decide +kernel
theorem dL_law_363 : decode cL_law 363 = .ok (.iconst 1, 1) := by decide +kernel
theorem dL_law_364 : decode cL_law 364 = .ok (.iadd, 1) := by decide +kernel
theorem dL_law_365 : decode cL_law 365 = .ok (.iaload, 1) := by decide +kernel
theorem dL_law_366 : decode cL_law 366 = .ok (.aload_n 0, 1) := by decide +kernel
theorem dL_law_367 : decode cL_law 367 = .ok (.iload 4, 2) := by decide +kernel
theorem dL_law_369 : decode cL_law 369 = .ok (.iconst 2, 1) := by decide +kernel
theorem dL_law_370 : decode cL_law 370 = .ok (.iadd, 1) := by decide +kernel
theorem dL_law_371 : decode cL_law 371 = .ok (.iaload, 1) := by decide +kernel
theorem dL_law_372 : decode cL_law 372 = .ok (.aload_n 0, 1) := by decide +kernel
theorem dL_law_373 : decode cL_law 373 = .ok (.iload 4, 2) := by decide +kernel
theorem dL_law_375 : decode cL_law 375 = .ok (.iconst 3, 1) := by decide +kernel
theorem dL_law_376 : decode cL_law 376 = .ok (.iadd, 1) := by decide +kernel
theorem dL_law_377 : decode cL_law 377 = .ok (.iaload, 1) := by decide +kernel
theorem dL_law_378 : decode cL_law 378 = .ok (.invokevirtual 47, 3) := by decide +kernel
theorem dL_law_381 : decode cL_law 381 = .ok (.if_icmp .eq 383, 3) := by decide +kernel
theorem dL_law_384 : decode cL_law 384 = .ok (.iconst 0, 1) := by decide +kernel
theorem dL_law_385 : decode cL_law 385 = .ok (.ireturn, 1) := by decide +kernel
theorem dL_law_386 : decode cL_law 386 = .ok (.aload_n 1, 1) := by decide +kernel
theorem dL_law_387 : decode cL_law 387 = .ok (.invokevirtual 48, 3) := by decide +kernel
theorem dL_law_390 : decode cL_law 390 = .ok (.aload_n 2, 1) := by decide +kernel
theorem dL_law_391 : decode cL_law 391 = .ok (.invokevirtual 52, 3) := by decide +kernel
theorem dL_law_394 : decode cL_law 394 = .ok (.if_icmp .eq 370, 3) := by decide +kernel
theorem dL_law_397 : decode cL_law 397 = .ok (.iconst 0, 1) := by decide +kernel
theorem dL_law_398 : decode cL_law 398 = .ok (.ireturn, 1) := by decide +kernel
theorem dL_law_399 : decode cL_law 399 = .ok (.aload_n 1, 1) := by decide +kernel
theorem dL_law_400 : decode cL_law 400 = .ok (.aload_n 0, 1) := by decide +kernel
theorem dL_law_401 : decode cL_law 401 = .ok (.iload 4, 2) := by decide +kernel
theorem dL_law_403 : decode cL_law 403 = .ok (.iconst 1, 1) := by decide +kernel
theorem dL_law_404 : decode cL_law 404 = .ok (.iadd, 1) := by decide +kernel
theorem dL_law_405 : decode cL_law 405 = .ok (.iaload, 1) := by decide +kernel
theorem dL_law_406 : decode cL_law 406 = .ok (.invokevirtual 53, 3) := by decide +kernel
theorem dL_law_409 : decode cL_law 409 = .ok (.aload_n 2, 1) := by decide +kernel
theorem dL_law_410 : decode cL_law 410 = .ok (.aload_n 0, 1) := by decide +kernel
theorem dL_law_411 : decode cL_law 411 = .ok (.iload 4, 2) := by decide +kernel
theorem dL_law_413 : decode cL_law 413 = .ok (.iconst 1, 1) := by decide +kernel
theorem dL_law_414 : decode cL_law 414 = .ok (.iadd, 1) := by decide +kernel
theorem dL_law_415 : decode cL_law 415 = .ok (.iaload, 1) := by decide +kernel
theorem dL_law_416 : decode cL_law 416 = .ok (.invokevirtual 56, 3) := by decide +kernel
theorem dL_law_419 : decode cL_law 419 = .ok (.if_icmp .eq 345, 3) := by decide +kernel
theorem dL_law_422 : decode cL_law 422 = .ok (.iconst 0, 1) := by decide +kernel
theorem dL_law_423 : decode cL_law 423 = .ok (.ireturn, 1) := by decide +kernel
theorem dL_law_424 : decode cL_law 424 = .ok (.aload_n 1, 1) := by decide +kernel
theorem dL_law_425 : decode cL_law 425 = .ok (.aload_n 0, 1) := by decide +kernel
theorem dL_law_426 : decode cL_law 426 = .ok (.iload 4, 2) := by decide +kernel
theorem dL_law_428 : decode cL_law 428 = .ok (.iconst 1, 1) := by decide +kernel
theorem dL_law_429 : decode cL_law 429 = .ok (.iadd, 1) := by decide +kernel
theorem dL_law_430 : decode cL_law 430 = .ok (.iaload, 1) := by decide +kernel
theorem dL_law_431 : decode cL_law 431 = .ok (.invokevirtual 57, 3) := by decide +kernel
theorem dL_law_434 : decode cL_law 434 = .ok (.aload_n 2, 1) := by decide +kernel
theorem dL_law_435 : decode cL_law 435 = .ok (.aload_n 0, 1) := by decide +kernel
theorem dL_law_436 : decode cL_law 436 = .ok (.iload 4, 2) := by decide +kernel
theorem dL_law_438 : decode cL_law 438 = .ok (.iconst 1, 1) := by decide +kernel
theorem dL_law_439 : decode cL_law 439 = .ok (.iadd, 1) := by decide +kernel
theorem dL_law_440 : decode cL_law 440 = .ok (.iaload, 1) := by decide +kernel
theorem dL_law_441 : decode cL_law 441 = .ok (.invokevirtual 60, 3) := by decide +kernel
theorem dL_law_444 : decode cL_law 444 = .ok (.if_icmp .eq 320, 3) := by decide +kernel
theorem dL_law_447 : decode cL_law 447 = .ok (.iconst 0, 1) := by decide +kernel
theorem dL_law_448 : decode cL_law 448 = .ok (.ireturn, 1) := by decide +kernel
theorem dL_law_449 : decode cL_law 449 = .ok (.aload_n 1, 1) := by decide +kernel
theorem dL_law_450 : decode cL_law 450 = .ok (.aload_n 0, 1) := by decide +kernel
theorem dL_law_451 : decode cL_law 451 = .ok (.iload 4, 2) := by decide +kernel
theorem dL_law_453 : decode cL_law 453 = .ok (.iconst 1, 1) := by decide +kernel
theorem dL_law_454 : decode cL_law 454 = .ok (.iadd, 1) := by decide +kernel
theorem dL_law_455 : decode cL_law 455 = .ok (.iaload, 1) := by decide +kernel
theorem dL_law_456 : decode cL_law 456 = .ok (.aload_n 0, 1) := by decide +kernel
theorem dL_law_457 : decode cL_law 457 = .ok (.iload 4, 2) := by decide +kernel
theorem dL_law_459 : decode cL_law 459 = .ok (.iconst 2, 1) := by decide +kernel
theorem dL_law_460 : decode cL_law 460 = .ok (.iadd, 1) := by decide +kernel
theorem dL_law_461 : decode cL_law 461 = .ok (.iaload, 1) := by decide +kernel
theorem dL_law_462 : decode cL_law 462 = .ok (.aload_n 3, 1) := by decide +kernel
theorem dL_law_463 : decode cL_law 463 = .ok (.invokestatic 61, 3) := by decide +kernel
theorem dL_law_466 : decode cL_law 466 = .ok (.istore 5, 2) := by decide +kernel
theorem dL_law_468 : decode cL_law 468 = .ok (.aload_n 2, 1) := by decide +kernel
theorem dL_law_469 : decode cL_law 469 = .ok (.aload_n 0, 1) := by decide +kernel
theorem dL_law_470 : decode cL_law 470 = .ok (.iload 4, 2) := by decide +kernel
theorem dL_law_472 : decode cL_law 472 = .ok (.iconst 1, 1) := by decide +kernel
theorem dL_law_473 : decode cL_law 473 = .ok (.iadd, 1) := by decide +kernel
theorem dL_law_474 : decode cL_law 474 = .ok (.iaload, 1) := by decide +kernel
theorem dL_law_475 : decode cL_law 475 = .ok (.aload_n 0, 1) := by decide +kernel
theorem dL_law_476 : decode cL_law 476 = .ok (.iload 4, 2) := by decide +kernel
theorem dL_law_478 : decode cL_law 478 = .ok (.iconst 2, 1) := by decide +kernel
theorem dL_law_479 : decode cL_law 479 = .ok (.iadd, 1) := by decide +kernel
theorem dL_law_480 : decode cL_law 480 = .ok (.iaload, 1) := by decide +kernel
theorem dL_law_481 : decode cL_law 481 = .ok (.invokevirtual 66, 3) := by decide +kernel
theorem dL_law_484 : decode cL_law 484 = .ok (.istore 6, 2) := by decide +kernel
theorem dL_law_486 : decode cL_law 486 = .ok (.aload_n 2, 1) := by decide +kernel
theorem dL_law_487 : decode cL_law 487 = .ok (.invokevirtual 67, 3) := by decide +kernel
theorem dL_law_490 : decode cL_law 490 = .ok (.iload 5, 2) := by decide +kernel
theorem dL_law_492 : decode cL_law 492 = .ok (.if_icmp .eq 5, 3) := by decide +kernel
theorem dL_law_495 : decode cL_law 495 = .ok (.iconst 0, 1) := by decide +kernel
theorem dL_law_496 : decode cL_law 496 = .ok (.ireturn, 1) := by decide +kernel
theorem dL_law_497 : decode cL_law 497 = .ok (.iload 5, 2) := by decide +kernel
theorem dL_law_499 : decode cL_law 499 = .ok (.ifCond .ne 15, 3) := by decide +kernel
theorem dL_law_502 : decode cL_law 502 = .ok (.aload_n 3, 1) := by decide +kernel
theorem dL_law_503 : decode cL_law 503 = .ok (.iconst 0, 1) := by decide +kernel
theorem dL_law_504 : decode cL_law 504 = .ok (.laload, 1) := by decide +kernel
theorem dL_law_505 : decode cL_law 505 = .ok (.iload 6, 2) := by decide +kernel
theorem dL_law_507 : decode cL_law 507 = .ok (.i2l, 1) := by decide +kernel
theorem dL_law_508 : decode cL_law 508 = .ok (.lcmp, 1) := by decide +kernel
theorem dL_law_509 : decode cL_law 509 = .ok (.ifCond .eq 5, 3) := by decide +kernel
theorem dL_law_512 : decode cL_law 512 = .ok (.iconst 0, 1) := by decide +kernel
theorem dL_law_513 : decode cL_law 513 = .ok (.ireturn, 1) := by decide +kernel
theorem dL_law_514 : decode cL_law 514 = .ok (.goto 250, 3) := by decide +kernel
theorem dL_law_517 : decode cL_law 517 = .ok (.aload_n 1, 1) := by decide +kernel
theorem dL_law_518 : decode cL_law 518 = .ok (.aload_n 0, 1) := by decide +kernel
theorem dL_law_519 : decode cL_law 519 = .ok (.iload 4, 2) := by decide +kernel
theorem dL_law_521 : decode cL_law 521 = .ok (.iconst 1, 1) := by decide +kernel
theorem dL_law_522 : decode cL_law 522 = .ok (.iadd, 1) := by decide +kernel
theorem dL_law_523 : decode cL_law 523 = .ok (.iaload, 1) := by decide +kernel
theorem dL_law_524 : decode cL_law 524 = .ok (.invokevirtual 70, 3) := by decide +kernel
theorem dL_law_527 : decode cL_law 527 = .ok (.aload_n 2, 1) := by decide +kernel
theorem dL_law_528 : decode cL_law 528 = .ok (.aload_n 0, 1) := by decide +kernel
theorem dL_law_529 : decode cL_law 529 = .ok (.iload 4, 2) := by decide +kernel
theorem dL_law_531 : decode cL_law 531 = .ok (.iconst 1, 1) := by decide +kernel
theorem dL_law_532 : decode cL_law 532 = .ok (.iadd, 1) := by decide +kernel
theorem dL_law_533 : decode cL_law 533 = .ok (.iaload, 1) := by decide +kernel
theorem dL_law_534 : decode cL_law 534 = .ok (.invokevirtual 73, 3) := by decide +kernel
theorem dL_law_537 : decode cL_law 537 = .ok (.if_icmp .eq 227, 3) := by decide +kernel
theorem dL_law_540 : decode cL_law 540 = .ok (.iconst 0, 1) := by decide +kernel
theorem dL_law_541 : decode cL_law 541 = .ok (.ireturn, 1) := by decide +kernel
theorem dL_law_542 : decode cL_law 542 = .ok (.aload_n 1, 1) := by decide +kernel
theorem dL_law_543 : decode cL_law 543 = .ok (.aload_n 0, 1) := by decide +kernel
theorem dL_law_544 : decode cL_law 544 = .ok (.iload 4, 2) := by decide +kernel
theorem dL_law_546 : decode cL_law 546 = .ok (.iconst 1, 1) := by decide +kernel
theorem dL_law_547 : decode cL_law 547 = .ok (.iadd, 1) := by decide +kernel
theorem dL_law_548 : decode cL_law 548 = .ok (.iaload, 1) := by decide +kernel
theorem dL_law_549 : decode cL_law 549 = .ok (.invokevirtual 74, 3) := by decide +kernel
theorem dL_law_552 : decode cL_law 552 = .ok (.aload_n 2, 1) := by decide +kernel
theorem dL_law_553 : decode cL_law 553 = .ok (.aload_n 0, 1) := by decide +kernel
theorem dL_law_554 : decode cL_law 554 = .ok (.iload 4, 2) := by decide +kernel
theorem dL_law_556 : decode cL_law 556 = .ok (.iconst 1, 1) := by decide +kernel
theorem dL_law_557 : decode cL_law 557 = .ok (.iadd, 1) := by decide +kernel
theorem dL_law_558 : decode cL_law 558 = .ok (.iaload, 1) := by decide +kernel
theorem dL_law_559 : decode cL_law 559 = .ok (.invokevirtual 77, 3) := by decide +kernel
theorem dL_law_562 : decode cL_law 562 = .ok (.if_icmp .eq 202, 3) := by decide +kernel
theorem dL_law_565 : decode cL_law 565 = .ok (.iconst 0, 1) := by decide +kernel
theorem dL_law_566 : decode cL_law 566 = .ok (.ireturn, 1) := by decide +kernel
theorem dL_law_567 : decode cL_law 567 = .ok (.aload_n 1, 1) := by decide +kernel
theorem dL_law_568 : decode cL_law 568 = .ok (.aload_n 0, 1) := by decide +kernel
theorem dL_law_569 : decode cL_law 569 = .ok (.iload 4, 2) := by decide +kernel
theorem dL_law_571 : decode cL_law 571 = .ok (.iconst 1, 1) := by decide +kernel
theorem dL_law_572 : decode cL_law 572 = .ok (.iadd, 1) := by decide +kernel
theorem dL_law_573 : decode cL_law 573 = .ok (.iaload, 1) := by decide +kernel
theorem dL_law_574 : decode cL_law 574 = .ok (.invokevirtual 78, 3) := by decide +kernel
theorem dL_law_577 : decode cL_law 577 = .ok (.aload_n 2, 1) := by decide +kernel
theorem dL_law_578 : decode cL_law 578 = .ok (.aload_n 0, 1) := by decide +kernel
theorem dL_law_579 : decode cL_law 579 = .ok (.iload 4, 2) := by decide +kernel
theorem dL_law_581 : decode cL_law 581 = .ok (.iconst 1, 1) := by decide +kernel
theorem dL_law_582 : decode cL_law 582 = .ok (.iadd, 1) := by decide +kernel
theorem dL_law_583 : decode cL_law 583 = .ok (.iaload, 1) := by decide +kernel
theorem dL_law_584 : decode cL_law 584 = .ok (.invokevirtual 81, 3) := by decide +kernel
theorem dL_law_587 : decode cL_law 587 = .ok (.if_icmp .eq 177, 3) := by decide +kernel
theorem dL_law_590 : decode cL_law 590 = .ok (.iconst 0, 1) := by decide +kernel
theorem dL_law_591 : decode cL_law 591 = .ok (.ireturn, 1) := by decide +kernel
theorem dL_law_592 : decode cL_law 592 = .ok (.aload_n 1, 1) := by decide +kernel
theorem dL_law_593 : decode cL_law 593 = .ok (.aload_n 0, 1) := by decide +kernel
theorem dL_law_594 : decode cL_law 594 = .ok (.iload 4, 2) := by decide +kernel
theorem dL_law_596 : decode cL_law 596 = .ok (.iconst 1, 1) := by decide +kernel
theorem dL_law_597 : decode cL_law 597 = .ok (.iadd, 1) := by decide +kernel
theorem dL_law_598 : decode cL_law 598 = .ok (.iaload, 1) := by decide +kernel
theorem dL_law_599 : decode cL_law 599 = .ok (.aload_n 0, 1) := by decide +kernel
theorem dL_law_600 : decode cL_law 600 = .ok (.iload 4, 2) := by decide +kernel
theorem dL_law_602 : decode cL_law 602 = .ok (.iconst 2, 1) := by decide +kernel
theorem dL_law_603 : decode cL_law 603 = .ok (.iadd, 1) := by decide +kernel
theorem dL_law_604 : decode cL_law 604 = .ok (.iaload, 1) := by decide +kernel
theorem dL_law_605 : decode cL_law 605 = .ok (.aload_n 0, 1) := by decide +kernel
theorem dL_law_606 : decode cL_law 606 = .ok (.iload 4, 2) := by decide +kernel
theorem dL_law_608 : decode cL_law 608 = .ok (.iconst 3, 1) := by decide +kernel
theorem dL_law_609 : decode cL_law 609 = .ok (.iadd, 1) := by decide +kernel
theorem dL_law_610 : decode cL_law 610 = .ok (.iaload, 1) := by decide +kernel
theorem dL_law_611 : decode cL_law 611 = .ok (.aload_n 0, 1) := by decide +kernel
theorem dL_law_612 : decode cL_law 612 = .ok (.iload 4, 2) := by decide +kernel
theorem dL_law_614 : decode cL_law 614 = .ok (.iconst 4, 1) := by decide +kernel
theorem dL_law_615 : decode cL_law 615 = .ok (.iadd, 1) := by decide +kernel
theorem dL_law_616 : decode cL_law 616 = .ok (.iaload, 1) := by decide +kernel
theorem dL_law_617 : decode cL_law 617 = .ok (.aload_n 0, 1) := by decide +kernel
theorem dL_law_618 : decode cL_law 618 = .ok (.iload 4, 2) := by decide +kernel
theorem dL_law_620 : decode cL_law 620 = .ok (.iconst 5, 1) := by decide +kernel
theorem dL_law_621 : decode cL_law 621 = .ok (.iadd, 1) := by decide +kernel
theorem dL_law_622 : decode cL_law 622 = .ok (.iaload, 1) := by decide +kernel
theorem dL_law_623 : decode cL_law 623 = .ok (.invokevirtual 82, 3) := by decide +kernel
theorem dL_law_626 : decode cL_law 626 = .ok (.aload_n 2, 1) := by decide +kernel
theorem dL_law_627 : decode cL_law 627 = .ok (.aload_n 0, 1) := by decide +kernel
theorem dL_law_628 : decode cL_law 628 = .ok (.iload 4, 2) := by decide +kernel
theorem dL_law_630 : decode cL_law 630 = .ok (.iconst 1, 1) := by decide +kernel
theorem dL_law_631 : decode cL_law 631 = .ok (.iadd, 1) := by decide +kernel
theorem dL_law_632 : decode cL_law 632 = .ok (.iaload, 1) := by decide +kernel
theorem dL_law_633 : decode cL_law 633 = .ok (.aload_n 0, 1) := by decide +kernel
theorem dL_law_634 : decode cL_law 634 = .ok (.iload 4, 2) := by decide +kernel
theorem dL_law_636 : decode cL_law 636 = .ok (.iconst 2, 1) := by decide +kernel
theorem dL_law_637 : decode cL_law 637 = .ok (.iadd, 1) := by decide +kernel
theorem dL_law_638 : decode cL_law 638 = .ok (.iaload, 1) := by decide +kernel
theorem dL_law_639 : decode cL_law 639 = .ok (.aload_n 0, 1) := by decide +kernel
theorem dL_law_640 : decode cL_law 640 = .ok (.iload 4, 2) := by decide +kernel
theorem dL_law_642 : decode cL_law 642 = .ok (.iconst 3, 1) := by decide +kernel
theorem dL_law_643 : decode cL_law 643 = .ok (.iadd, 1) := by decide +kernel
theorem dL_law_644 : decode cL_law 644 = .ok (.iaload, 1) := by decide +kernel
theorem dL_law_645 : decode cL_law 645 = .ok (.aload_n 0, 1) := by decide +kernel
theorem dL_law_646 : decode cL_law 646 = .ok (.iload 4, 2) := by decide +kernel
theorem dL_law_648 : decode cL_law 648 = .ok (.iconst 4, 1) := by decide +kernel
theorem dL_law_649 : decode cL_law 649 = .ok (.iadd, 1) := by decide +kernel
theorem dL_law_650 : decode cL_law 650 = .ok (.iaload, 1) := by decide +kernel
theorem dL_law_651 : decode cL_law 651 = .ok (.aload_n 0, 1) := by decide +kernel
theorem dL_law_652 : decode cL_law 652 = .ok (.iload 4, 2) := by decide +kernel
theorem dL_law_654 : decode cL_law 654 = .ok (.iconst 5, 1) := by decide +kernel
theorem dL_law_655 : decode cL_law 655 = .ok (.iadd, 1) := by decide +kernel
theorem dL_law_656 : decode cL_law 656 = .ok (.iaload, 1) := by decide +kernel
theorem dL_law_657 : decode cL_law 657 = .ok (.invokevirtual 86, 3) := by decide +kernel
theorem dL_law_660 : decode cL_law 660 = .ok (.if_icmp .eq 104, 3) := by decide +kernel
theorem dL_law_663 : decode cL_law 663 = .ok (.iconst 0, 1) := by decide +kernel
theorem dL_law_664 : decode cL_law 664 = .ok (.ireturn, 1) := by decide +kernel
theorem dL_law_665 : decode cL_law 665 = .ok (.aload_n 1, 1) := by decide +kernel
theorem dL_law_666 : decode cL_law 666 = .ok (.aload_n 0, 1) := by decide +kernel
theorem dL_law_667 : decode cL_law 667 = .ok (.iload 4, 2) := by decide +kernel
theorem dL_law_669 : decode cL_law 669 = .ok (.iconst 1, 1) := by decide +kernel
theorem dL_law_670 : decode cL_law 670 = .ok (.iadd, 1) := by decide +kernel
theorem dL_law_671 : decode cL_law 671 = .ok (.iaload, 1) := by decide +kernel
theorem dL_law_672 : decode cL_law 672 = .ok (.invokevirtual 87, 3) := by decide +kernel
theorem dL_law_675 : decode cL_law 675 = .ok (.aload_n 2, 1) := by decide +kernel
theorem dL_law_676 : decode cL_law 676 = .ok (.aload_n 0, 1) := by decide +kernel
theorem dL_law_677 : decode cL_law 677 = .ok (.iload 4, 2) := by decide +kernel
theorem dL_law_679 : decode cL_law 679 = .ok (.iconst 1, 1) := by decide +kernel
theorem dL_law_680 : decode cL_law 680 = .ok (.iadd, 1) := by decide +kernel
theorem dL_law_681 : decode cL_law 681 = .ok (.iaload, 1) := by decide +kernel
theorem dL_law_682 : decode cL_law 682 = .ok (.invokevirtual 90, 3) := by decide +kernel
theorem dL_law_685 : decode cL_law 685 = .ok (.if_icmp .eq 79, 3) := by decide +kernel
theorem dL_law_688 : decode cL_law 688 = .ok (.iconst 0, 1) := by decide +kernel
theorem dL_law_689 : decode cL_law 689 = .ok (.ireturn, 1) := by decide +kernel
theorem dL_law_690 : decode cL_law 690 = .ok (.aload_n 1, 1) := by decide +kernel
theorem dL_law_691 : decode cL_law 691 = .ok (.aload_n 0, 1) := by decide +kernel
theorem dL_law_692 : decode cL_law 692 = .ok (.iload 4, 2) := by decide +kernel
theorem dL_law_694 : decode cL_law 694 = .ok (.iconst 1, 1) := by decide +kernel
theorem dL_law_695 : decode cL_law 695 = .ok (.iadd, 1) := by decide +kernel
theorem dL_law_696 : decode cL_law 696 = .ok (.iaload, 1) := by decide +kernel
theorem dL_law_697 : decode cL_law 697 = .ok (.aload_n 0, 1) := by decide +kernel
theorem dL_law_698 : decode cL_law 698 = .ok (.iload 4, 2) := by decide +kernel
theorem dL_law_700 : decode cL_law 700 = .ok (.iconst 2, 1) := by decide +kernel
theorem dL_law_701 : decode cL_law 701 = .ok (.iadd, 1) := by decide +kernel
theorem dL_law_702 : decode cL_law 702 = .ok (.iaload, 1) := by decide +kernel
theorem dL_law_703 : decode cL_law 703 = .ok (.invokevirtual 91, 3) := by decide +kernel
theorem dL_law_706 : decode cL_law 706 = .ok (.aload_n 2, 1) := by decide +kernel
theorem dL_law_707 : decode cL_law 707 = .ok (.aload_n 0, 1) := by decide +kernel
theorem dL_law_708 : decode cL_law 708 = .ok (.iload 4, 2) := by decide +kernel
theorem dL_law_710 : decode cL_law 710 = .ok (.iconst 1, 1) := by decide +kernel
theorem dL_law_711 : decode cL_law 711 = .ok (.iadd, 1) := by decide +kernel
theorem dL_law_712 : decode cL_law 712 = .ok (.iaload, 1) := by decide +kernel
theorem dL_law_713 : decode cL_law 713 = .ok (.aload_n 0, 1) := by decide +kernel
theorem dL_law_714 : decode cL_law 714 = .ok (.iload 4, 2) := by decide +kernel
theorem dL_law_716 : decode cL_law 716 = .ok (.iconst 2, 1) := by decide +kernel
theorem dL_law_717 : decode cL_law 717 = .ok (.iadd, 1) := by decide +kernel
theorem dL_law_718 : decode cL_law 718 = .ok (.iaload, 1) := by decide +kernel
theorem dL_law_719 : decode cL_law 719 = .ok (.invokevirtual 94, 3) := by decide +kernel
theorem dL_law_722 : decode cL_law 722 = .ok (.if_icmp .eq 42, 3) := by decide +kernel
theorem dL_law_725 : decode cL_law 725 = .ok (.iconst 0, 1) := by decide +kernel
theorem dL_law_726 : decode cL_law 726 = .ok (.ireturn, 1) := by decide +kernel
theorem dL_law_727 : decode cL_law 727 = .ok (.aload_n 1, 1) := by decide +kernel
theorem dL_law_728 : decode cL_law 728 = .ok (.aload_n 0, 1) := by decide +kernel
theorem dL_law_729 : decode cL_law 729 = .ok (.iload 4, 2) := by decide +kernel
theorem dL_law_731 : decode cL_law 731 = .ok (.iconst 1, 1) := by decide +kernel
theorem dL_law_732 : decode cL_law 732 = .ok (.iadd, 1) := by decide +kernel
theorem dL_law_733 : decode cL_law 733 = .ok (.iaload, 1) := by decide +kernel
theorem dL_law_734 : decode cL_law 734 = .ok (.aload_n 0, 1) := by decide +kernel
theorem dL_law_735 : decode cL_law 735 = .ok (.iload 4, 2) := by decide +kernel
theorem dL_law_737 : decode cL_law 737 = .ok (.iconst 2, 1) := by decide +kernel
theorem dL_law_738 : decode cL_law 738 = .ok (.iadd, 1) := by decide +kernel
theorem dL_law_739 : decode cL_law 739 = .ok (.iaload, 1) := by decide +kernel
theorem dL_law_740 : decode cL_law 740 = .ok (.invokevirtual 95, 3) := by decide +kernel
theorem dL_law_743 : decode cL_law 743 = .ok (.aload_n 2, 1) := by decide +kernel
theorem dL_law_744 : decode cL_law 744 = .ok (.aload_n 0, 1) := by decide +kernel
theorem dL_law_745 : decode cL_law 745 = .ok (.iload 4, 2) := by decide +kernel
theorem dL_law_747 : decode cL_law 747 = .ok (.iconst 1, 1) := by decide +kernel
theorem dL_law_748 : decode cL_law 748 = .ok (.iadd, 1) := by decide +kernel
theorem dL_law_749 : decode cL_law 749 = .ok (.iaload, 1) := by decide +kernel
theorem dL_law_750 : decode cL_law 750 = .ok (.aload_n 0, 1) := by decide +kernel
theorem dL_law_751 : decode cL_law 751 = .ok (.iload 4, 2) := by decide +kernel
theorem dL_law_753 : decode cL_law 753 = .ok (.iconst 2, 1) := by decide +kernel
theorem dL_law_754 : decode cL_law 754 = .ok (.iadd, 1) := by decide +kernel
theorem dL_law_755 : decode cL_law 755 = .ok (.iaload, 1) := by decide +kernel
theorem dL_law_756 : decode cL_law 756 = .ok (.invokevirtual 98, 3) := by decide +kernel
theorem dL_law_759 : decode cL_law 759 = .ok (.if_icmp .eq 5, 3) := by decide +kernel
theorem dL_law_762 : decode cL_law 762 = .ok (.iconst 0, 1) := by decide +kernel
theorem dL_law_763 : decode cL_law 763 = .ok (.ireturn, 1) := by decide +kernel
theorem dL_law_764 : decode cL_law 764 = .ok (.iinc 4 6, 3) := by decide +kernel
theorem dL_law_767 : decode cL_law 767 = .ok (.goto (-744), 3) := by decide +kernel
theorem dL_law_770 : decode cL_law 770 = .ok (.iconst 1, 1) := by decide +kernel
theorem dL_law_771 : decode cL_law 771 = .ok (.ireturn, 1) := by decide +kernel
