theorem dX7_init_0 : decode cX7_init 0 = .ok (.aload_n 0, 1) := by decide +kernel
theorem dX7_init_1 : decode cX7_init 1 = .ok (.invokespecial 1, 3) := by decide +kernel
theorem dX7_init_4 : decode cX7_init 4 = .ok (.aload_n 0, 1) := by decide +kernel
theorem dX7_init_5 : decode cX7_init 5 = .ok (.new 7, 3) := by decide +kernel
theorem dX7_init_8 : decode cX7_init 8 = .ok (.dup, 1) := by decide +kernel
theorem dX7_init_9 : decode cX7_init 9 = .ok (.invokespecial 9, 3) := by decide +kernel
theorem dX7_init_12 : decode cX7_init 12 = .ok (.putfield 10, 3) := by decide +kernel
theorem dX7_init_15 : decode cX7_init 15 = .ok (.aload_n 0, 1) := by decide +kernel
theorem dX7_init_16 : decode cX7_init 16 = .ok (.new 7, 3) := by decide +kernel
theorem dX7_init_19 : decode cX7_init 19 = .ok (.dup, 1) := by decide +kernel
theorem dX7_init_20 : decode cX7_init 20 = .ok (.invokespecial 9, 3) := by decide +kernel
theorem dX7_init_23 : decode cX7_init 23 = .ok (.putfield 16, 3) := by decide +kernel
theorem dX7_init_26 : decode cX7_init 26 = .ok (.aload_n 0, 1) := by decide +kernel
theorem dX7_init_27 : decode cX7_init 27 = .ok (.new 19, 3) := by decide +kernel
theorem dX7_init_30 : decode cX7_init 30 = .ok (.dup, 1) := by decide +kernel
theorem dX7_init_31 : decode cX7_init 31 = .ok (.invokespecial 21, 3) := by decide +kernel
theorem dX7_init_34 : decode cX7_init 34 = .ok (.putfield 22, 3) := by decide +kernel
theorem dX7_init_37 : decode cX7_init 37 = .ok (.aload_n 0, 1) := by decide +kernel
theorem dX7_init_38 : decode cX7_init 38 = .ok (.new 26, 3) := by decide +kernel
theorem dX7_init_41 : decode cX7_init 41 = .ok (.dup, 1) := by decide +kernel
theorem dX7_init_42 : decode cX7_init 42 = .ok (.invokespecial 28, 3) := by decide +kernel
theorem dX7_init_45 : decode cX7_init 45 = .ok (.putfield 29, 3) := by decide +kernel
theorem dX7_init_48 : decode cX7_init 48 = .ok (.aload_n 0, 1) := by decide +kernel
theorem dX7_init_49 : decode cX7_init 49 = .ok (.iconst 4, 1) := by decide +kernel
theorem dX7_init_50 : decode cX7_init 50 = .ok (.anewarray 33, 3) := by decide +kernel
theorem dX7_init_53 : decode cX7_init 53 = .ok (.putfield 35, 3) := by decide +kernel
theorem dX7_init_56 : decode cX7_init 56 = .ok (.iconst 0, 1) := by decide +kernel
theorem dX7_init_57 : decode cX7_init 57 = .ok (.istore_n 1, 1) := by decide +kernel
theorem dX7_init_58 : decode cX7_init 58 = .ok (.iload_n 1, 1) := by decide +kernel
theorem dX7_init_59 : decode cX7_init 59 = .ok (.aload_n 0, 1) := by decide +kernel
theorem dX7_init_60 : decode cX7_init 60 = .ok (.getfield 35, 3) := by decide +kernel
theorem dX7_init_63 : decode cX7_init 63 = .ok (.arraylength, 1) := by decide +kernel
theorem dX7_init_64 : decode cX7_init 64 = .ok (.if_icmp .ge 22, 3) := by decide +kernel
theorem dX7_init_67 : decode cX7_init 67 = .ok (.aload_n 0, 1) := by decide +kernel
theorem dX7_init_68 : decode cX7_init 68 = .ok (.getfield 35, 3) := by decide +kernel
theorem dX7_init_71 : decode cX7_init 71 = .ok (.iload_n 1, 1) := by decide +kernel
theorem dX7_init_72 : decode cX7_init 72 = .ok (.new 33, 3) := by decide +kernel
theorem dX7_init_75 : decode cX7_init 75 = .ok (.dup, 1) := by decide +kernel
theorem dX7_init_76 : decode cX7_init 76 = .ok (.invokespecial 39, 3) := by decide +kernel
theorem dX7_init_79 : decode cX7_init 79 = .ok (.aastore, 1) := by decide +kernel
theorem dX7_init_80 : decode cX7_init 80 = .ok (.iinc 1 1, 3) := by decide +kernel
theorem dX7_init_83 : decode cX7_init 83 = .ok (.goto (-25), 3) := by decide +kernel
theorem dX7_init_86 : decode cX7_init 86 = .ok (.return_, 1) := by decide +kernel
theorem dX7_thing_0 : decode cX7_thing 0 = .ok (.iload_n 1, 1) := by decide +kernel
theorem dX7_thing_1 : decode cX7_thing 1 = .ok (.iconst 3, 1) := by decide +kernel
theorem dX7_thing_2 : decode cX7_thing 2 = .ok (.invokestatic 40, 3) := by decide +kernel
theorem dX7_thing_5 : decode cX7_thing 5 = .ok (.ifCond .ne 31, 3) := by decide +kernel
theorem dX7_thing_8 : decode cX7_thing 8 = .ok (.iload_n 2, 1) := by decide +kernel
theorem dX7_thing_9 : decode cX7_thing 9 = .ok (.bipush 99, 2) := by decide +kernel
theorem dX7_thing_11 : decode cX7_thing 11 = .ok (.invokestatic 40, 3) := by decide +kernel
theorem dX7_thing_14 : decode cX7_thing 14 = .ok (.ifCond .ne 22, 3) := by decide +kernel
theorem dX7_thing_17 : decode cX7_thing 17 = .ok (.iload_n 3, 1) := by decide +kernel
theorem dX7_thing_18 : decode cX7_thing 18 = .ok (.bipush 30, 2) := by decide +kernel
theorem dX7_thing_20 : decode cX7_thing 20 = .ok (.invokestatic 40, 3) := by decide +kernel
theorem dX7_thing_23 : decode cX7_thing 23 = .ok (.ifCond .ne 13, 3) := by decide +kernel
theorem dX7_thing_26 : decode cX7_thing 26 = .ok (.iload 4, 2) := by decide +kernel
theorem dX7_thing_28 : decode cX7_thing 28 = .ok (.bipush 30, 2) := by decide +kernel
theorem dX7_thing_30 : decode cX7_thing 30 = .ok (.invokestatic 40, 3) := by decide +kernel
theorem dX7_thing_33 : decode cX7_thing 33 = .ok (.ifCond .eq 5, 3) := by decide +kernel
theorem dX7_thing_36 : decode cX7_thing 36 = .ok (.iconst (-1), 1) := by decide +kernel
theorem dX7_thing_37 : decode cX7_thing 37 = .ok (.ireturn, 1) := by decide +kernel
theorem dX7_thing_38 : decode cX7_thing 38 = .ok (.aload_n 0, 1) := by decide +kernel
theorem dX7_thing_39 : decode cX7_thing 39 = .ok (.getfield 10, 3) := by decide +kernel
theorem dX7_thing_42 : decode cX7_thing 42 = .ok (.getfield 44, 3) := by decide +kernel
theorem dX7_thing_45 : decode cX7_thing 45 = .ok (.getfield 48, 3) := by decide +kernel
theorem dX7_thing_48 : decode cX7_thing 48 = .ok (.bipush 10, 2) := by decide +kernel
theorem dX7_thing_50 : decode cX7_thing 50 = .ok (.if_icmp .lt 6, 3) := by decide +kernel
theorem dX7_thing_53 : decode cX7_thing 53 = .ok (.bipush (-3), 2) := by decide +kernel
theorem dX7_thing_55 : decode cX7_thing 55 = .ok (.ireturn, 1) := by decide +kernel
theorem dX7_thing_56 : decode cX7_thing 56 = .ok (.aload_n 0, 1) := by decide +kernel
theorem dX7_thing_57 : decode cX7_thing 57 = .ok (.getfield 10, 3) := by decide +kernel
theorem dX7_thing_60 : decode cX7_thing 60 = .ok (.iconst 0, 1) := by decide +kernel
theorem dX7_thing_61 : decode cX7_thing 61 = .ok (.putfield 54, 3) := by decide +kernel
theorem dX7_thing_64 : decode cX7_thing 64 = .ok (.aload_n 0, 1) := by decide +kernel
theorem dX7_thing_65 : decode cX7_thing 65 = .ok (.getfield 10, 3) := by decide +kernel
theorem dX7_thing_68 : decode cX7_thing 68 = .ok (.getfield 44, 3) := by decide +kernel
theorem dX7_thing_71 : decode cX7_thing 71 = .ok (.iload_n 1, 1) := by decide +kernel
theorem dX7_thing_72 : decode cX7_thing 72 = .ok (.iload_n 2, 1) := by decide +kernel
theorem dX7_thing_73 : decode cX7_thing 73 = .ok (.iload_n 3, 1) := by decide +kernel
theorem dX7_thing_74 : decode cX7_thing 74 = .ok (.iload 4, 2) := by decide +kernel
theorem dX7_thing_76 : decode cX7_thing 76 = .ok (.invokevirtual 57, 3) := by decide +kernel
theorem dX7_thing_79 : decode cX7_thing 79 = .ok (.ireturn, 1) := by decide +kernel
theorem dX7_of_0 : decode cX7_of 0 = .ok (.aload_n 0, 1) := by decide +kernel
theorem dX7_of_1 : decode cX7_of 1 = .ok (.getfield 10, 3) := by decide +kernel
theorem dX7_of_4 : decode cX7_of 4 = .ok (.getfield 44, 3) := by decide +kernel
theorem dX7_of_7 : decode cX7_of 7 = .ok (.iload_n 1, 1) := by decide +kernel
theorem dX7_of_8 : decode cX7_of 8 = .ok (.invokevirtual 61, 3) := by decide +kernel
theorem dX7_of_11 : decode cX7_of 11 = .ok (.ifCond .ne 5, 3) := by decide +kernel
theorem dX7_of_14 : decode cX7_of 14 = .ok (.iconst (-1), 1) := by decide +kernel
theorem dX7_of_15 : decode cX7_of 15 = .ok (.ireturn, 1) := by decide +kernel
theorem dX7_of_16 : decode cX7_of 16 = .ok (.aload_n 0, 1) := by decide +kernel
theorem dX7_of_17 : decode cX7_of 17 = .ok (.getfield 10, 3) := by decide +kernel
theorem dX7_of_20 : decode cX7_of 20 = .ok (.getfield 44, 3) := by decide +kernel
theorem dX7_of_23 : decode cX7_of 23 = .ok (.getfield 65, 3) := by decide +kernel
theorem dX7_of_26 : decode cX7_of 26 = .ok (.iload_n 1, 1) := by decide +kernel
theorem dX7_of_27 : decode cX7_of 27 = .ok (.aaload, 1) := by decide +kernel
theorem dX7_of_28 : decode cX7_of 28 = .ok (.astore_n 3, 1) := by decide +kernel
theorem dX7_of_29 : decode cX7_of 29 = .ok (.iload_n 2, 1) := by decide +kernel
theorem dX7_of_30 : decode cX7_of 30 = .ok (.tableswitch 73 0 4 #[34, 39, 44, 49, 54], 34) := by decide +kernel
theorem dX7_of_64 : decode cX7_of 64 = .ok (.aload_n 3, 1) := by decide +kernel
theorem dX7_of_65 : decode cX7_of 65 = .ok (.getfield 69, 3) := by decide +kernel
theorem dX7_of_68 : decode cX7_of 68 = .ok (.ireturn, 1) := by decide +kernel
theorem dX7_of_69 : decode cX7_of 69 = .ok (.aload_n 3, 1) := by decide +kernel
theorem dX7_of_70 : decode cX7_of 70 = .ok (.getfield 74, 3) := by decide +kernel
theorem dX7_of_73 : decode cX7_of 73 = .ok (.ireturn, 1) := by decide +kernel
theorem dX7_of_74 : decode cX7_of 74 = .ok (.aload_n 3, 1) := by decide +kernel
theorem dX7_of_75 : decode cX7_of 75 = .ok (.getfield 77, 3) := by decide +kernel
theorem dX7_of_78 : decode cX7_of 78 = .ok (.ireturn, 1) := by decide +kernel
theorem dX7_of_79 : decode cX7_of 79 = .ok (.aload_n 3, 1) := by decide +kernel
theorem dX7_of_80 : decode cX7_of 80 = .ok (.getfield 80, 3) := by decide +kernel
theorem dX7_of_83 : decode cX7_of 83 = .ok (.ireturn, 1) := by decide +kernel
theorem dX7_of_84 : decode cX7_of 84 = .ok (.aload_n 0, 1) := by decide +kernel
theorem dX7_of_85 : decode cX7_of 85 = .ok (.getfield 10, 3) := by decide +kernel
theorem dX7_of_88 : decode cX7_of 88 = .ok (.getfield 44, 3) := by decide +kernel
theorem dX7_of_91 : decode cX7_of 91 = .ok (.iload_n 1, 1) := by decide +kernel
theorem dX7_of_92 : decode cX7_of 92 = .ok (.aload_n 0, 1) := by decide +kernel
theorem dX7_of_93 : decode cX7_of 93 = .ok (.getfield 10, 3) := by decide +kernel
theorem dX7_of_96 : decode cX7_of 96 = .ok (.getfield 83, 3) := by decide +kernel
theorem dX7_of_99 : decode cX7_of 99 = .ok (.invokevirtual 87, 3) := by decide +kernel
theorem dX7_of_102 : decode cX7_of 102 = .ok (.ireturn, 1) := by decide +kernel
theorem dX7_of_103 : decode cX7_of 103 = .ok (.iconst (-1), 1) := by decide +kernel
theorem dX7_of_104 : decode cX7_of 104 = .ok (.ireturn, 1) := by decide +kernel
theorem dX7_felt_0 : decode cX7_felt 0 = .ok (.aload_n 0, 1) := by decide +kernel
theorem dX7_felt_1 : decode cX7_felt 1 = .ok (.getfield 10, 3) := by decide +kernel
theorem dX7_felt_4 : decode cX7_felt 4 = .ok (.getfield 44, 3) := by decide +kernel
theorem dX7_felt_7 : decode cX7_felt 7 = .ok (.iload_n 1, 1) := by decide +kernel
theorem dX7_felt_8 : decode cX7_felt 8 = .ok (.invokevirtual 61, 3) := by decide +kernel
theorem dX7_felt_11 : decode cX7_felt 11 = .ok (.ifCond .eq 20, 3) := by decide +kernel
theorem dX7_felt_14 : decode cX7_felt 14 = .ok (.iload_n 2, 1) := by decide +kernel
theorem dX7_felt_15 : decode cX7_felt 15 = .ok (.bipush 99, 2) := by decide +kernel
theorem dX7_felt_17 : decode cX7_felt 17 = .ok (.invokestatic 40, 3) := by decide +kernel
theorem dX7_felt_20 : decode cX7_felt 20 = .ok (.ifCond .ne 11, 3) := by decide +kernel
theorem dX7_felt_23 : decode cX7_felt 23 = .ok (.iload_n 3, 1) := by decide +kernel
theorem dX7_felt_24 : decode cX7_felt 24 = .ok (.iconst 1, 1) := by decide +kernel
theorem dX7_felt_25 : decode cX7_felt 25 = .ok (.invokestatic 40, 3) := by decide +kernel
theorem dX7_felt_28 : decode cX7_felt 28 = .ok (.ifCond .eq 5, 3) := by decide +kernel
theorem dX7_felt_31 : decode cX7_felt 31 = .ok (.iconst (-1), 1) := by decide +kernel
theorem dX7_felt_32 : decode cX7_felt 32 = .ok (.ireturn, 1) := by decide +kernel
theorem dX7_felt_33 : decode cX7_felt 33 = .ok (.aload_n 0, 1) := by decide +kernel
theorem dX7_felt_34 : decode cX7_felt 34 = .ok (.getfield 10, 3) := by decide +kernel
theorem dX7_felt_37 : decode cX7_felt 37 = .ok (.getfield 44, 3) := by decide +kernel
theorem dX7_felt_40 : decode cX7_felt 40 = .ok (.getfield 65, 3) := by decide +kernel
theorem dX7_felt_43 : decode cX7_felt 43 = .ok (.iload_n 1, 1) := by decide +kernel
theorem dX7_felt_44 : decode cX7_felt 44 = .ok (.aaload, 1) := by decide +kernel
theorem dX7_felt_45 : decode cX7_felt 45 = .ok (.iload_n 3, 1) := by decide +kernel
theorem dX7_felt_46 : decode cX7_felt 46 = .ok (.iload_n 2, 1) := by decide +kernel
theorem dX7_felt_47 : decode cX7_felt 47 = .ok (.invokevirtual 91, 3) := by decide +kernel
theorem dX7_felt_50 : decode cX7_felt 50 = .ok (.ireturn, 1) := by decide +kernel
theorem dX7_person_0 : decode cX7_person 0 = .ok (.iload_n 1, 1) := by decide +kernel
theorem dX7_person_1 : decode cX7_person 1 = .ok (.bipush 11, 2) := by decide +kernel
theorem dX7_person_3 : decode cX7_person 3 = .ok (.invokestatic 40, 3) := by decide +kernel
theorem dX7_person_6 : decode cX7_person 6 = .ok (.ifCond .ne 20, 3) := by decide +kernel
theorem dX7_person_9 : decode cX7_person 9 = .ok (.aload_n 0, 1) := by decide +kernel
theorem dX7_person_10 : decode cX7_person 10 = .ok (.iload_n 2, 1) := by decide +kernel
theorem dX7_person_11 : decode cX7_person 11 = .ok (.invokevirtual 95, 3) := by decide +kernel
theorem dX7_person_14 : decode cX7_person 14 = .ok (.ifCond .ne 12, 3) := by decide +kernel
theorem dX7_person_17 : decode cX7_person 17 = .ok (.iload_n 3, 1) := by decide +kernel
theorem dX7_person_18 : decode cX7_person 18 = .ok (.bipush 20, 2) := by decide +kernel
theorem dX7_person_20 : decode cX7_person 20 = .ok (.invokestatic 40, 3) := by decide +kernel
theorem dX7_person_23 : decode cX7_person 23 = .ok (.ifCond .eq 5, 3) := by decide +kernel
theorem dX7_person_26 : decode cX7_person 26 = .ok (.iconst (-1), 1) := by decide +kernel
theorem dX7_person_27 : decode cX7_person 27 = .ok (.ireturn, 1) := by decide +kernel
theorem dX7_person_28 : decode cX7_person 28 = .ok (.iload_n 2, 1) := by decide +kernel
theorem dX7_person_29 : decode cX7_person 29 = .ok (.bipush (-4), 2) := by decide +kernel
theorem dX7_person_31 : decode cX7_person 31 = .ok (.if_icmp .eq 14, 3) := by decide +kernel
theorem dX7_person_34 : decode cX7_person 34 = .ok (.aload_n 0, 1) := by decide +kernel
theorem dX7_person_35 : decode cX7_person 35 = .ok (.iload_n 2, 1) := by decide +kernel
theorem dX7_person_36 : decode cX7_person 36 = .ok (.invokevirtual 98, 3) := by decide +kernel
theorem dX7_person_39 : decode cX7_person 39 = .ok (.ifCond .eq 6, 3) := by decide +kernel
theorem dX7_person_42 : decode cX7_person 42 = .ok (.bipush (-2), 2) := by decide +kernel
theorem dX7_person_44 : decode cX7_person 44 = .ok (.ireturn, 1) := by decide +kernel
theorem dX7_person_45 : decode cX7_person 45 = .ok (.aload_n 0, 1) := by decide +kernel
theorem dX7_person_46 : decode cX7_person 46 = .ok (.getfield 10, 3) := by decide +kernel
theorem dX7_person_49 : decode cX7_person 49 = .ok (.getfield 44, 3) := by decide +kernel
theorem dX7_person_52 : decode cX7_person 52 = .ok (.getfield 101, 3) := by decide +kernel
theorem dX7_person_55 : decode cX7_person 55 = .ok (.bipush 8, 2) := by decide +kernel
theorem dX7_person_57 : decode cX7_person 57 = .ok (.if_icmp .lt 6, 3) := by decide +kernel
theorem dX7_person_60 : decode cX7_person 60 = .ok (.bipush (-3), 2) := by decide +kernel
theorem dX7_person_62 : decode cX7_person 62 = .ok (.ireturn, 1) := by decide +kernel
theorem dX7_person_63 : decode cX7_person 63 = .ok (.aload_n 0, 1) := by decide +kernel
theorem dX7_person_64 : decode cX7_person 64 = .ok (.getfield 10, 3) := by decide +kernel
theorem dX7_person_67 : decode cX7_person 67 = .ok (.iconst 0, 1) := by decide +kernel
theorem dX7_person_68 : decode cX7_person 68 = .ok (.putfield 54, 3) := by decide +kernel
theorem dX7_person_71 : decode cX7_person 71 = .ok (.aload_n 0, 1) := by decide +kernel
theorem dX7_person_72 : decode cX7_person 72 = .ok (.getfield 10, 3) := by decide +kernel
theorem dX7_person_75 : decode cX7_person 75 = .ok (.getfield 44, 3) := by decide +kernel
theorem dX7_person_78 : decode cX7_person 78 = .ok (.iload_n 1, 1) := by decide +kernel
theorem dX7_person_79 : decode cX7_person 79 = .ok (.iload_n 3, 1) := by decide +kernel
theorem dX7_person_80 : decode cX7_person 80 = .ok (.iload_n 2, 1) := by decide +kernel
theorem dX7_person_81 : decode cX7_person 81 = .ok (.aload_n 0, 1) := by decide +kernel
theorem dX7_person_82 : decode cX7_person 82 = .ok (.getfield 10, 3) := by decide +kernel
theorem dX7_person_85 : decode cX7_person 85 = .ok (.getfield 83, 3) := by decide +kernel
theorem dX7_person_88 : decode cX7_person 88 = .ok (.invokevirtual 104, 3) := by decide +kernel
theorem dX7_person_91 : decode cX7_person 91 = .ok (.ireturn, 1) := by decide +kernel
theorem dX7_told_0 : decode cX7_told 0 = .ok (.aload_n 0, 1) := by decide +kernel
theorem dX7_told_1 : decode cX7_told 1 = .ok (.getfield 10, 3) := by decide +kernel
theorem dX7_told_4 : decode cX7_told 4 = .ok (.getfield 44, 3) := by decide +kernel
theorem dX7_told_7 : decode cX7_told 7 = .ok (.iload_n 1, 1) := by decide +kernel
theorem dX7_told_8 : decode cX7_told 8 = .ok (.invokevirtual 108, 3) := by decide +kernel
theorem dX7_told_11 : decode cX7_told 11 = .ok (.ifCond .ne 5, 3) := by decide +kernel
theorem dX7_told_14 : decode cX7_told 14 = .ok (.iconst (-1), 1) := by decide +kernel
theorem dX7_told_15 : decode cX7_told 15 = .ok (.ireturn, 1) := by decide +kernel
theorem dX7_told_16 : decode cX7_told 16 = .ok (.iload_n 2, 1) := by decide +kernel
theorem dX7_told_17 : decode cX7_told 17 = .ok (.tableswitch 66 0 2 #[27, 40, 53], 27) := by decide +kernel
theorem dX7_told_44 : decode cX7_told 44 = .ok (.aload_n 0, 1) := by decide +kernel
theorem dX7_told_45 : decode cX7_told 45 = .ok (.getfield 10, 3) := by decide +kernel
theorem dX7_told_48 : decode cX7_told 48 = .ok (.getfield 44, 3) := by decide +kernel
theorem dX7_told_51 : decode cX7_told 51 = .ok (.getfield 111, 3) := by decide +kernel
theorem dX7_told_54 : decode cX7_told 54 = .ok (.iload_n 1, 1) := by decide +kernel
theorem dX7_told_55 : decode cX7_told 55 = .ok (.iaload, 1) := by decide +kernel
theorem dX7_told_56 : decode cX7_told 56 = .ok (.ireturn, 1) := by decide +kernel
theorem dX7_told_57 : decode cX7_told 57 = .ok (.aload_n 0, 1) := by decide +kernel
theorem dX7_told_58 : decode cX7_told 58 = .ok (.getfield 10, 3) := by decide +kernel
theorem dX7_told_61 : decode cX7_told 61 = .ok (.getfield 83, 3) := by decide +kernel
theorem dX7_told_64 : decode cX7_told 64 = .ok (.getfield 115, 3) := by decide +kernel
theorem dX7_told_67 : decode cX7_told 67 = .ok (.iload_n 1, 1) := by decide +kernel
theorem dX7_told_68 : decode cX7_told 68 = .ok (.iaload, 1) := by decide +kernel
theorem dX7_told_69 : decode cX7_told 69 = .ok (.ireturn, 1) := by decide +kernel
theorem dX7_told_70 : decode cX7_told 70 = .ok (.aload_n 0, 1) := by decide +kernel
theorem dX7_told_71 : decode cX7_told 71 = .ok (.getfield 10, 3) := by decide +kernel
theorem dX7_told_74 : decode cX7_told 74 = .ok (.getfield 44, 3) := by decide +kernel
theorem dX7_told_77 : decode cX7_told 77 = .ok (.getfield 120, 3) := by decide +kernel
theorem dX7_told_80 : decode cX7_told 80 = .ok (.iload_n 1, 1) := by decide +kernel
theorem dX7_told_81 : decode cX7_told 81 = .ok (.iaload, 1) := by decide +kernel
theorem dX7_told_82 : decode cX7_told 82 = .ok (.ireturn, 1) := by decide +kernel
theorem dX7_told_83 : decode cX7_told 83 = .ok (.iconst (-1), 1) := by decide +kernel
theorem dX7_told_84 : decode cX7_told 84 = .ok (.ireturn, 1) := by decide +kernel
theorem dX7_move_0 : decode cX7_move 0 = .ok (.aload_n 0, 1) := by decide +kernel
theorem dX7_move_1 : decode cX7_move 1 = .ok (.getfield 10, 3) := by decide +kernel
theorem dX7_move_4 : decode cX7_move 4 = .ok (.getfield 44, 3) := by decide +kernel
theorem dX7_move_7 : decode cX7_move 7 = .ok (.iload_n 1, 1) := by decide +kernel
theorem dX7_move_8 : decode cX7_move 8 = .ok (.invokevirtual 108, 3) := by decide +kernel
theorem dX7_move_11 : decode cX7_move 11 = .ok (.ifCond .eq 12, 3) := by decide +kernel
theorem dX7_move_14 : decode cX7_move 14 = .ok (.iload_n 2, 1) := by decide +kernel
theorem dX7_move_15 : decode cX7_move 15 = .ok (.bipush 11, 2) := by decide +kernel
theorem dX7_move_17 : decode cX7_move 17 = .ok (.invokestatic 40, 3) := by decide +kernel
theorem dX7_move_20 : decode cX7_move 20 = .ok (.ifCond .eq 5, 3) := by decide +kernel
theorem dX7_move_23 : decode cX7_move 23 = .ok (.iconst (-1), 1) := by decide +kernel
theorem dX7_move_24 : decode cX7_move 24 = .ok (.ireturn, 1) := by decide +kernel
theorem dX7_move_25 : decode cX7_move 25 = .ok (.aload_n 0, 1) := by decide +kernel
theorem dX7_move_26 : decode cX7_move 26 = .ok (.getfield 10, 3) := by decide +kernel
theorem dX7_move_29 : decode cX7_move 29 = .ok (.getfield 44, 3) := by decide +kernel
theorem dX7_move_32 : decode cX7_move 32 = .ok (.getfield 111, 3) := by decide +kernel
theorem dX7_move_35 : decode cX7_move 35 = .ok (.iload_n 1, 1) := by decide +kernel
theorem dX7_move_36 : decode cX7_move 36 = .ok (.iaload, 1) := by decide +kernel
theorem dX7_move_37 : decode cX7_move 37 = .ok (.istore_n 3, 1) := by decide +kernel
theorem dX7_move_38 : decode cX7_move 38 = .ok (.aload_n 0, 1) := by decide +kernel
theorem dX7_move_39 : decode cX7_move 39 = .ok (.getfield 10, 3) := by decide +kernel
theorem dX7_move_42 : decode cX7_move 42 = .ok (.getfield 44, 3) := by decide +kernel
theorem dX7_move_45 : decode cX7_move 45 = .ok (.getfield 111, 3) := by decide +kernel
theorem dX7_move_48 : decode cX7_move 48 = .ok (.iload_n 1, 1) := by decide +kernel
theorem dX7_move_49 : decode cX7_move 49 = .ok (.iload_n 2, 1) := by decide +kernel
theorem dX7_move_50 : decode cX7_move 50 = .ok (.iastore, 1) := by decide +kernel
theorem dX7_move_51 : decode cX7_move 51 = .ok (.iload_n 3, 1) := by decide +kernel
theorem dX7_move_52 : decode cX7_move 52 = .ok (.ireturn, 1) := by decide +kernel
theorem dX7_take_0 : decode cX7_take 0 = .ok (.aload_n 0, 1) := by decide +kernel
theorem dX7_take_1 : decode cX7_take 1 = .ok (.iload_n 1, 1) := by decide +kernel
theorem dX7_take_2 : decode cX7_take 2 = .ok (.invokevirtual 95, 3) := by decide +kernel
theorem dX7_take_5 : decode cX7_take 5 = .ok (.ifCond .eq 5, 3) := by decide +kernel
theorem dX7_take_8 : decode cX7_take 8 = .ok (.iconst (-1), 1) := by decide +kernel
theorem dX7_take_9 : decode cX7_take 9 = .ok (.ireturn, 1) := by decide +kernel
theorem dX7_take_10 : decode cX7_take 10 = .ok (.aload_n 0, 1) := by decide +kernel
theorem dX7_take_11 : decode cX7_take 11 = .ok (.getfield 10, 3) := by decide +kernel
theorem dX7_take_14 : decode cX7_take 14 = .ok (.getfield 83, 3) := by decide +kernel
theorem dX7_take_17 : decode cX7_take 17 = .ok (.getfield 123, 3) := by decide +kernel
theorem dX7_take_20 : decode cX7_take 20 = .ok (.istore_n 2, 1) := by decide +kernel
theorem dX7_take_21 : decode cX7_take 21 = .ok (.iload_n 1, 1) := by decide +kernel
theorem dX7_take_22 : decode cX7_take 22 = .ok (.bipush (-4), 2) := by decide +kernel
theorem dX7_take_24 : decode cX7_take 24 = .ok (.if_icmp .eq 19, 3) := by decide +kernel
theorem dX7_take_27 : decode cX7_take 27 = .ok (.iload_n 1, 1) := by decide +kernel
theorem dX7_take_28 : decode cX7_take 28 = .ok (.iload_n 2, 1) := by decide +kernel
theorem dX7_take_29 : decode cX7_take 29 = .ok (.if_icmp .eq 14, 3) := by decide +kernel
theorem dX7_take_32 : decode cX7_take 32 = .ok (.aload_n 0, 1) := by decide +kernel
theorem dX7_take_33 : decode cX7_take 33 = .ok (.iload_n 1, 1) := by decide +kernel
theorem dX7_take_34 : decode cX7_take 34 = .ok (.invokevirtual 98, 3) := by decide +kernel
theorem dX7_take_37 : decode cX7_take 37 = .ok (.ifCond .eq 6, 3) := by decide +kernel
theorem dX7_take_40 : decode cX7_take 40 = .ok (.bipush (-2), 2) := by decide +kernel
theorem dX7_take_42 : decode cX7_take 42 = .ok (.ireturn, 1) := by decide +kernel
theorem dX7_take_43 : decode cX7_take 43 = .ok (.aload_n 0, 1) := by decide +kernel
theorem dX7_take_44 : decode cX7_take 44 = .ok (.getfield 10, 3) := by decide +kernel
theorem dX7_take_47 : decode cX7_take 47 = .ok (.getfield 83, 3) := by decide +kernel
theorem dX7_take_50 : decode cX7_take 50 = .ok (.iload_n 1, 1) := by decide +kernel
theorem dX7_take_51 : decode cX7_take 51 = .ok (.invokevirtual 126, 3) := by decide +kernel
theorem dX7_take_54 : decode cX7_take 54 = .ok (.iload_n 2, 1) := by decide +kernel
theorem dX7_take_55 : decode cX7_take 55 = .ok (.ireturn, 1) := by decide +kernel
theorem dX7_count_0 : decode cX7_count 0 = .ok (.iload_n 1, 1) := by decide +kernel
theorem dX7_count_1 : decode cX7_count 1 = .ok (.tableswitch 162 0 9 #[55, 66, 77, 88, 99, 110, 121, 132, 143, 154], 55) := by decide +kernel
theorem dX7_count_56 : decode cX7_count 56 = .ok (.aload_n 0, 1) := by decide +kernel
theorem dX7_count_57 : decode cX7_count 57 = .ok (.getfield 10, 3) := by decide +kernel
theorem dX7_count_60 : decode cX7_count 60 = .ok (.getfield 44, 3) := by decide +kernel
theorem dX7_count_63 : decode cX7_count 63 = .ok (.getfield 48, 3) := by decide +kernel
theorem dX7_count_66 : decode cX7_count 66 = .ok (.ireturn, 1) := by decide +kernel
theorem dX7_count_67 : decode cX7_count 67 = .ok (.aload_n 0, 1) := by decide +kernel
theorem dX7_count_68 : decode cX7_count 68 = .ok (.getfield 10, 3) := by decide +kernel
theorem dX7_count_71 : decode cX7_count 71 = .ok (.getfield 44, 3) := by decide +kernel
theorem dX7_count_74 : decode cX7_count 74 = .ok (.getfield 101, 3) := by decide +kernel
theorem dX7_count_77 : decode cX7_count 77 = .ok (.ireturn, 1) := by decide +kernel
theorem dX7_count_78 : decode cX7_count 78 = .ok (.aload_n 0, 1) := by decide +kernel
theorem dX7_count_79 : decode cX7_count 79 = .ok (.getfield 10, 3) := by decide +kernel
theorem dX7_count_82 : decode cX7_count 82 = .ok (.getfield 83, 3) := by decide +kernel
theorem dX7_count_85 : decode cX7_count 85 = .ok (.getfield 130, 3) := by decide +kernel
theorem dX7_count_88 : decode cX7_count 88 = .ok (.ireturn, 1) := by decide +kernel
theorem dX7_count_89 : decode cX7_count 89 = .ok (.aload_n 0, 1) := by decide +kernel
theorem dX7_count_90 : decode cX7_count 90 = .ok (.getfield 10, 3) := by decide +kernel
theorem dX7_count_93 : decode cX7_count 93 = .ok (.getfield 83, 3) := by decide +kernel
theorem dX7_count_96 : decode cX7_count 96 = .ok (.getfield 123, 3) := by decide +kernel
theorem dX7_count_99 : decode cX7_count 99 = .ok (.ireturn, 1) := by decide +kernel
theorem dX7_count_100 : decode cX7_count 100 = .ok (.aload_n 0, 1) := by decide +kernel
theorem dX7_count_101 : decode cX7_count 101 = .ok (.getfield 10, 3) := by decide +kernel
theorem dX7_count_104 : decode cX7_count 104 = .ok (.getfield 83, 3) := by decide +kernel
theorem dX7_count_107 : decode cX7_count 107 = .ok (.getfield 133, 3) := by decide +kernel
theorem dX7_count_110 : decode cX7_count 110 = .ok (.ireturn, 1) := by decide +kernel
theorem dX7_count_111 : decode cX7_count 111 = .ok (.aload_n 0, 1) := by decide +kernel
theorem dX7_count_112 : decode cX7_count 112 = .ok (.getfield 10, 3) := by decide +kernel
theorem dX7_count_115 : decode cX7_count 115 = .ok (.getfield 83, 3) := by decide +kernel
theorem dX7_count_118 : decode cX7_count 118 = .ok (.getfield 136, 3) := by decide +kernel
theorem dX7_count_121 : decode cX7_count 121 = .ok (.ireturn, 1) := by decide +kernel
theorem dX7_count_122 : decode cX7_count 122 = .ok (.aload_n 0, 1) := by decide +kernel
theorem dX7_count_123 : decode cX7_count 123 = .ok (.getfield 10, 3) := by decide +kernel
theorem dX7_count_126 : decode cX7_count 126 = .ok (.getfield 44, 3) := by decide +kernel
theorem dX7_count_129 : decode cX7_count 129 = .ok (.getfield 139, 3) := by decide +kernel
theorem dX7_count_132 : decode cX7_count 132 = .ok (.ireturn, 1) := by decide +kernel
theorem dX7_count_133 : decode cX7_count 133 = .ok (.aload_n 0, 1) := by decide +kernel
theorem dX7_count_134 : decode cX7_count 134 = .ok (.getfield 10, 3) := by decide +kernel
theorem dX7_count_137 : decode cX7_count 137 = .ok (.getfield 44, 3) := by decide +kernel
theorem dX7_count_140 : decode cX7_count 140 = .ok (.getfield 142, 3) := by decide +kernel
theorem dX7_count_143 : decode cX7_count 143 = .ok (.ireturn, 1) := by decide +kernel
theorem dX7_count_144 : decode cX7_count 144 = .ok (.aload_n 0, 1) := by decide +kernel
theorem dX7_count_145 : decode cX7_count 145 = .ok (.getfield 10, 3) := by decide +kernel
theorem dX7_count_148 : decode cX7_count 148 = .ok (.getfield 83, 3) := by decide +kernel
theorem dX7_count_151 : decode cX7_count 151 = .ok (.getfield 145, 3) := by decide +kernel
theorem dX7_count_154 : decode cX7_count 154 = .ok (.ireturn, 1) := by decide +kernel
theorem dX7_count_155 : decode cX7_count 155 = .ok (.aload_n 0, 1) := by decide +kernel
theorem dX7_count_156 : decode cX7_count 156 = .ok (.getfield 10, 3) := by decide +kernel
theorem dX7_count_159 : decode cX7_count 159 = .ok (.getfield 54, 3) := by decide +kernel
theorem dX7_count_162 : decode cX7_count 162 = .ok (.ireturn, 1) := by decide +kernel
theorem dX7_count_163 : decode cX7_count 163 = .ok (.iconst (-1), 1) := by decide +kernel
theorem dX7_count_164 : decode cX7_count 164 = .ok (.ireturn, 1) := by decide +kernel
theorem dX7_heed_0 : decode cX7_heed 0 = .ok (.iload_n 1, 1) := by decide +kernel
theorem dX7_heed_1 : decode cX7_heed 1 = .ok (.bipush 99, 2) := by decide +kernel
theorem dX7_heed_3 : decode cX7_heed 3 = .ok (.invokestatic 40, 3) := by decide +kernel
theorem dX7_heed_6 : decode cX7_heed 6 = .ok (.ifCond .eq 5, 3) := by decide +kernel
theorem dX7_heed_9 : decode cX7_heed 9 = .ok (.iconst (-1), 1) := by decide +kernel
theorem dX7_heed_10 : decode cX7_heed 10 = .ok (.ireturn, 1) := by decide +kernel
theorem dX7_heed_11 : decode cX7_heed 11 = .ok (.aload_n 0, 1) := by decide +kernel
theorem dX7_heed_12 : decode cX7_heed 12 = .ok (.getfield 10, 3) := by decide +kernel
theorem dX7_heed_15 : decode cX7_heed 15 = .ok (.getfield 44, 3) := by decide +kernel
theorem dX7_heed_18 : decode cX7_heed 18 = .ok (.getfield 139, 3) := by decide +kernel
theorem dX7_heed_21 : decode cX7_heed 21 = .ok (.istore_n 2, 1) := by decide +kernel
theorem dX7_heed_22 : decode cX7_heed 22 = .ok (.aload_n 0, 1) := by decide +kernel
theorem dX7_heed_23 : decode cX7_heed 23 = .ok (.getfield 10, 3) := by decide +kernel
theorem dX7_heed_26 : decode cX7_heed 26 = .ok (.getfield 44, 3) := by decide +kernel
theorem dX7_heed_29 : decode cX7_heed 29 = .ok (.iload_n 1, 1) := by decide +kernel
theorem dX7_heed_30 : decode cX7_heed 30 = .ok (.putfield 139, 3) := by decide +kernel
theorem dX7_heed_33 : decode cX7_heed 33 = .ok (.iload_n 2, 1) := by decide +kernel
theorem dX7_heed_34 : decode cX7_heed 34 = .ok (.ireturn, 1) := by decide +kernel
theorem dX7_well_0 : decode cX7_well 0 = .ok (.iload_n 1, 1) := by decide +kernel
theorem dX7_well_1 : decode cX7_well 1 = .ok (.bipush (-4), 2) := by decide +kernel
theorem dX7_well_3 : decode cX7_well 3 = .ok (.if_icmp .eq 14, 3) := by decide +kernel
theorem dX7_well_6 : decode cX7_well 6 = .ok (.iload_n 1, 1) := by decide +kernel
theorem dX7_well_7 : decode cX7_well 7 = .ok (.bipush 11, 2) := by decide +kernel
theorem dX7_well_9 : decode cX7_well 9 = .ok (.invokestatic 40, 3) := by decide +kernel
theorem dX7_well_12 : decode cX7_well 12 = .ok (.ifCond .eq 5, 3) := by decide +kernel
theorem dX7_well_15 : decode cX7_well 15 = .ok (.iconst (-1), 1) := by decide +kernel
theorem dX7_well_16 : decode cX7_well 16 = .ok (.ireturn, 1) := by decide +kernel
theorem dX7_well_17 : decode cX7_well 17 = .ok (.aload_n 0, 1) := by decide +kernel
theorem dX7_well_18 : decode cX7_well 18 = .ok (.getfield 10, 3) := by decide +kernel
theorem dX7_well_21 : decode cX7_well 21 = .ok (.getfield 44, 3) := by decide +kernel
theorem dX7_well_24 : decode cX7_well 24 = .ok (.getfield 142, 3) := by decide +kernel
theorem dX7_well_27 : decode cX7_well 27 = .ok (.istore_n 2, 1) := by decide +kernel
theorem dX7_well_28 : decode cX7_well 28 = .ok (.aload_n 0, 1) := by decide +kernel
theorem dX7_well_29 : decode cX7_well 29 = .ok (.getfield 10, 3) := by decide +kernel
theorem dX7_well_32 : decode cX7_well 32 = .ok (.getfield 44, 3) := by decide +kernel
theorem dX7_well_35 : decode cX7_well 35 = .ok (.iload_n 1, 1) := by decide +kernel
theorem dX7_well_36 : decode cX7_well 36 = .ok (.putfield 142, 3) := by decide +kernel
theorem dX7_well_39 : decode cX7_well 39 = .ok (.iload_n 2, 1) := by decide +kernel
theorem dX7_well_40 : decode cX7_well 40 = .ok (.ireturn, 1) := by decide +kernel
theorem dX7_type_0 : decode cX7_type 0 = .ok (.iload_n 1, 1) := by decide +kernel
theorem dX7_type_1 : decode cX7_type 1 = .ok (.bipush 32, 2) := by decide +kernel
theorem dX7_type_3 : decode cX7_type 3 = .ok (.if_icmp .lt 9, 3) := by decide +kernel
theorem dX7_type_6 : decode cX7_type 6 = .ok (.iload_n 1, 1) := by decide +kernel
theorem dX7_type_7 : decode cX7_type 7 = .ok (.bipush 126, 2) := by decide +kernel
theorem dX7_type_9 : decode cX7_type 9 = .ok (.if_icmp .le 5, 3) := by decide +kernel
theorem dX7_type_12 : decode cX7_type 12 = .ok (.iconst (-1), 1) := by decide +kernel
theorem dX7_type_13 : decode cX7_type 13 = .ok (.ireturn, 1) := by decide +kernel
theorem dX7_type_14 : decode cX7_type 14 = .ok (.aload_n 0, 1) := by decide +kernel
theorem dX7_type_15 : decode cX7_type 15 = .ok (.getfield 22, 3) := by decide +kernel
theorem dX7_type_18 : decode cX7_type 18 = .ok (.getfield 148, 3) := by decide +kernel
theorem dX7_type_21 : decode cX7_type 21 = .ok (.bipush 120, 2) := by decide +kernel
theorem dX7_type_23 : decode cX7_type 23 = .ok (.if_icmp .lt 6, 3) := by decide +kernel
theorem dX7_type_26 : decode cX7_type 26 = .ok (.bipush (-3), 2) := by decide +kernel
theorem dX7_type_28 : decode cX7_type 28 = .ok (.ireturn, 1) := by decide +kernel
theorem dX7_type_29 : decode cX7_type 29 = .ok (.aload_n 0, 1) := by decide +kernel
theorem dX7_type_30 : decode cX7_type 30 = .ok (.getfield 22, 3) := by decide +kernel
theorem dX7_type_33 : decode cX7_type 33 = .ok (.getfield 151, 3) := by decide +kernel
theorem dX7_type_36 : decode cX7_type 36 = .ok (.aload_n 0, 1) := by decide +kernel
theorem dX7_type_37 : decode cX7_type 37 = .ok (.getfield 22, 3) := by decide +kernel
theorem dX7_type_40 : decode cX7_type 40 = .ok (.getfield 148, 3) := by decide +kernel
theorem dX7_type_43 : decode cX7_type 43 = .ok (.iload_n 1, 1) := by decide +kernel
theorem dX7_type_44 : decode cX7_type 44 = .ok (.i2c, 1) := by decide +kernel
theorem dX7_type_45 : decode cX7_type 45 = .ok (.castore, 1) := by decide +kernel
theorem dX7_type_46 : decode cX7_type 46 = .ok (.aload_n 0, 1) := by decide +kernel
theorem dX7_type_47 : decode cX7_type 47 = .ok (.getfield 22, 3) := by decide +kernel
theorem dX7_type_50 : decode cX7_type 50 = .ok (.dup, 1) := by decide +kernel
theorem dX7_type_51 : decode cX7_type 51 = .ok (.getfield 148, 3) := by decide +kernel
theorem dX7_type_54 : decode cX7_type 54 = .ok (.iconst 1, 1) := by decide +kernel
theorem dX7_type_55 : decode cX7_type 55 = .ok (.iadd, 1) := by decide +kernel
theorem dX7_type_56 : decode cX7_type 56 = .ok (.putfield 148, 3) := by decide +kernel
theorem dX7_type_59 : decode cX7_type 59 = .ok (.aload_n 0, 1) := by decide +kernel
theorem dX7_type_60 : decode cX7_type 60 = .ok (.getfield 22, 3) := by decide +kernel
theorem dX7_type_63 : decode cX7_type 63 = .ok (.getfield 148, 3) := by decide +kernel
theorem dX7_type_66 : decode cX7_type 66 = .ok (.ireturn, 1) := by decide +kernel
theorem dX7_road_0 : decode cX7_road 0 = .ok (.aload_n 0, 1) := by decide +kernel
theorem dX7_road_1 : decode cX7_road 1 = .ok (.getfield 22, 3) := by decide +kernel
theorem dX7_road_4 : decode cX7_road 4 = .ok (.aload_n 0, 1) := by decide +kernel
theorem dX7_road_5 : decode cX7_road 5 = .ok (.getfield 10, 3) := by decide +kernel
theorem dX7_road_8 : decode cX7_road 8 = .ok (.invokevirtual 155, 3) := by decide +kernel
theorem dX7_road_11 : decode cX7_road 11 = .ok (.istore_n 1, 1) := by decide +kernel
theorem dX7_road_12 : decode cX7_road 12 = .ok (.aload_n 0, 1) := by decide +kernel
theorem dX7_road_13 : decode cX7_road 13 = .ok (.getfield 22, 3) := by decide +kernel
theorem dX7_road_16 : decode cX7_road 16 = .ok (.iconst 0, 1) := by decide +kernel
theorem dX7_road_17 : decode cX7_road 17 = .ok (.putfield 148, 3) := by decide +kernel
theorem dX7_road_20 : decode cX7_road 20 = .ok (.iload_n 1, 1) := by decide +kernel
theorem dX7_road_21 : decode cX7_road 21 = .ok (.ifCond .ne 14, 3) := by decide +kernel
theorem dX7_road_24 : decode cX7_road 24 = .ok (.bipush (-20), 2) := by decide +kernel
theorem dX7_road_26 : decode cX7_road 26 = .ok (.aload_n 0, 1) := by decide +kernel
theorem dX7_road_27 : decode cX7_road 27 = .ok (.getfield 22, 3) := by decide +kernel
theorem dX7_road_30 : decode cX7_road 30 = .ok (.getfield 159, 3) := by decide +kernel
theorem dX7_road_33 : decode cX7_road 33 = .ok (.isub, 1) := by decide +kernel
theorem dX7_road_34 : decode cX7_road 34 = .ok (.ireturn, 1) := by decide +kernel
theorem dX7_road_35 : decode cX7_road 35 = .ok (.aload_n 0, 1) := by decide +kernel
theorem dX7_road_36 : decode cX7_road 36 = .ok (.getfield 10, 3) := by decide +kernel
theorem dX7_road_39 : decode cX7_road 39 = .ok (.getfield 44, 3) := by decide +kernel
theorem dX7_road_42 : decode cX7_road 42 = .ok (.aload_n 0, 1) := by decide +kernel
theorem dX7_road_43 : decode cX7_road 43 = .ok (.getfield 22, 3) := by decide +kernel
theorem dX7_road_46 : decode cX7_road 46 = .ok (.getfield 162, 3) := by decide +kernel
theorem dX7_road_49 : decode cX7_road 49 = .ok (.invokevirtual 163, 3) := by decide +kernel
theorem dX7_road_52 : decode cX7_road 52 = .ok (.aload_n 0, 1) := by decide +kernel
theorem dX7_road_53 : decode cX7_road 53 = .ok (.getfield 10, 3) := by decide +kernel
theorem dX7_road_56 : decode cX7_road 56 = .ok (.getfield 83, 3) := by decide +kernel
theorem dX7_road_59 : decode cX7_road 59 = .ok (.aload_n 0, 1) := by decide +kernel
theorem dX7_road_60 : decode cX7_road 60 = .ok (.getfield 22, 3) := by decide +kernel
theorem dX7_road_63 : decode cX7_road 63 = .ok (.getfield 167, 3) := by decide +kernel
theorem dX7_road_66 : decode cX7_road 66 = .ok (.invokevirtual 168, 3) := by decide +kernel
theorem dX7_road_69 : decode cX7_road 69 = .ok (.aload_n 0, 1) := by decide +kernel
theorem dX7_road_70 : decode cX7_road 70 = .ok (.getfield 10, 3) := by decide +kernel
theorem dX7_road_73 : decode cX7_road 73 = .ok (.iconst 0, 1) := by decide +kernel
theorem dX7_road_74 : decode cX7_road 74 = .ok (.putfield 54, 3) := by decide +kernel
theorem dX7_road_77 : decode cX7_road 77 = .ok (.aload_n 0, 1) := by decide +kernel
theorem dX7_road_78 : decode cX7_road 78 = .ok (.getfield 10, 3) := by decide +kernel
theorem dX7_road_81 : decode cX7_road 81 = .ok (.getfield 44, 3) := by decide +kernel
theorem dX7_road_84 : decode cX7_road 84 = .ok (.getfield 48, 3) := by decide +kernel
theorem dX7_road_87 : decode cX7_road 87 = .ok (.ireturn, 1) := by decide +kernel
theorem dX7_go_0 : decode cX7_go 0 = .ok (.aload_n 0, 1) := by decide +kernel
theorem dX7_go_1 : decode cX7_go 1 = .ok (.getfield 10, 3) := by decide +kernel
theorem dX7_go_4 : decode cX7_go 4 = .ok (.getfield 83, 3) := by decide +kernel
theorem dX7_go_7 : decode cX7_go 7 = .ok (.getfield 130, 3) := by decide +kernel
theorem dX7_go_10 : decode cX7_go 10 = .ok (.bipush 12, 2) := by decide +kernel
theorem dX7_go_12 : decode cX7_go 12 = .ok (.if_icmp .lt 6, 3) := by decide +kernel
theorem dX7_go_15 : decode cX7_go 15 = .ok (.bipush (-2), 2) := by decide +kernel
theorem dX7_go_17 : decode cX7_go 17 = .ok (.ireturn, 1) := by decide +kernel
theorem dX7_go_18 : decode cX7_go 18 = .ok (.aload_n 0, 1) := by decide +kernel
theorem dX7_go_19 : decode cX7_go 19 = .ok (.getfield 10, 3) := by decide +kernel
theorem dX7_go_22 : decode cX7_go 22 = .ok (.invokevirtual 171, 3) := by decide +kernel
theorem dX7_go_25 : decode cX7_go 25 = .ok (.aload_n 0, 1) := by decide +kernel
theorem dX7_go_26 : decode cX7_go 26 = .ok (.getfield 10, 3) := by decide +kernel
theorem dX7_go_29 : decode cX7_go 29 = .ok (.getfield 44, 3) := by decide +kernel
theorem dX7_go_32 : decode cX7_go 32 = .ok (.aload_n 0, 1) := by decide +kernel
theorem dX7_go_33 : decode cX7_go 33 = .ok (.getfield 10, 3) := by decide +kernel
theorem dX7_go_36 : decode cX7_go 36 = .ok (.getfield 83, 3) := by decide +kernel
theorem dX7_go_39 : decode cX7_go 39 = .ok (.iconst 1, 1) := by decide +kernel
theorem dX7_go_40 : decode cX7_go 40 = .ok (.invokevirtual 174, 3) := by decide +kernel
theorem dX7_go_43 : decode cX7_go 43 = .ok (.ireturn, 1) := by decide +kernel
theorem dX7_undo_0 : decode cX7_undo 0 = .ok (.aload_n 0, 1) := by decide +kernel
theorem dX7_undo_1 : decode cX7_undo 1 = .ok (.getfield 10, 3) := by decide +kernel
theorem dX7_undo_4 : decode cX7_undo 4 = .ok (.getfield 54, 3) := by decide +kernel
theorem dX7_undo_7 : decode cX7_undo 7 = .ok (.ifCond .gt 6, 3) := by decide +kernel
theorem dX7_undo_10 : decode cX7_undo 10 = .ok (.bipush (-4), 2) := by decide +kernel
theorem dX7_undo_12 : decode cX7_undo 12 = .ok (.ireturn, 1) := by decide +kernel
theorem dX7_undo_13 : decode cX7_undo 13 = .ok (.aload_n 0, 1) := by decide +kernel
theorem dX7_undo_14 : decode cX7_undo 14 = .ok (.getfield 10, 3) := by decide +kernel
theorem dX7_undo_17 : decode cX7_undo 17 = .ok (.invokevirtual 178, 3) := by decide +kernel
theorem dX7_undo_20 : decode cX7_undo 20 = .ok (.aload_n 0, 1) := by decide +kernel
theorem dX7_undo_21 : decode cX7_undo 21 = .ok (.getfield 10, 3) := by decide +kernel
theorem dX7_undo_24 : decode cX7_undo 24 = .ok (.getfield 54, 3) := by decide +kernel
theorem dX7_undo_27 : decode cX7_undo 27 = .ok (.ireturn, 1) := by decide +kernel
theorem dX7_again_0 : decode cX7_again 0 = .ok (.aload_n 0, 1) := by decide +kernel
theorem dX7_again_1 : decode cX7_again 1 = .ok (.getfield 10, 3) := by decide +kernel
theorem dX7_again_4 : decode cX7_again 4 = .ok (.getfield 83, 3) := by decide +kernel
theorem dX7_again_7 : decode cX7_again 7 = .ok (.getfield 130, 3) := by decide +kernel
theorem dX7_again_10 : decode cX7_again 10 = .ok (.istore_n 1, 1) := by decide +kernel
theorem dX7_again_11 : decode cX7_again 11 = .ok (.aload_n 0, 1) := by decide +kernel
theorem dX7_again_12 : decode cX7_again 12 = .ok (.getfield 10, 3) := by decide +kernel
theorem dX7_again_15 : decode cX7_again 15 = .ok (.getfield 83, 3) := by decide +kernel
theorem dX7_again_18 : decode cX7_again 18 = .ok (.iconst 0, 1) := by decide +kernel
theorem dX7_again_19 : decode cX7_again 19 = .ok (.putfield 130, 3) := by decide +kernel
theorem dX7_again_22 : decode cX7_again 22 = .ok (.iload_n 1, 1) := by decide +kernel
theorem dX7_again_23 : decode cX7_again 23 = .ok (.ireturn, 1) := by decide +kernel
theorem dX7_glad_0 : decode cX7_glad 0 = .ok (.aload_n 0, 1) := by decide +kernel
theorem dX7_glad_1 : decode cX7_glad 1 = .ok (.getfield 10, 3) := by decide +kernel
theorem dX7_glad_4 : decode cX7_glad 4 = .ok (.getfield 44, 3) := by decide +kernel
theorem dX7_glad_7 : decode cX7_glad 7 = .ok (.iload_n 1, 1) := by decide +kernel
theorem dX7_glad_8 : decode cX7_glad 8 = .ok (.invokevirtual 61, 3) := by decide +kernel
theorem dX7_glad_11 : decode cX7_glad 11 = .ok (.ifCond .ne 5, 3) := by decide +kernel
theorem dX7_glad_14 : decode cX7_glad 14 = .ok (.iconst (-1), 1) := by decide +kernel
theorem dX7_glad_15 : decode cX7_glad 15 = .ok (.ireturn, 1) := by decide +kernel
theorem dX7_glad_16 : decode cX7_glad 16 = .ok (.aload_n 0, 1) := by decide +kernel
theorem dX7_glad_17 : decode cX7_glad 17 = .ok (.getfield 10, 3) := by decide +kernel
theorem dX7_glad_20 : decode cX7_glad 20 = .ok (.getfield 83, 3) := by decide +kernel
theorem dX7_glad_23 : decode cX7_glad 23 = .ok (.getfield 123, 3) := by decide +kernel
theorem dX7_glad_26 : decode cX7_glad 26 = .ok (.bipush (-4), 2) := by decide +kernel
theorem dX7_glad_28 : decode cX7_glad 28 = .ok (.if_icmp .eq 17, 3) := by decide +kernel
theorem dX7_glad_31 : decode cX7_glad 31 = .ok (.aload_n 0, 1) := by decide +kernel
theorem dX7_glad_32 : decode cX7_glad 32 = .ok (.getfield 10, 3) := by decide +kernel
theorem dX7_glad_35 : decode cX7_glad 35 = .ok (.getfield 83, 3) := by decide +kernel
theorem dX7_glad_38 : decode cX7_glad 38 = .ok (.getfield 123, 3) := by decide +kernel
theorem dX7_glad_41 : decode cX7_glad 41 = .ok (.iload_n 1, 1) := by decide +kernel
theorem dX7_glad_42 : decode cX7_glad 42 = .ok (.if_icmp .ne 6, 3) := by decide +kernel
theorem dX7_glad_45 : decode cX7_glad 45 = .ok (.bipush (-2), 2) := by decide +kernel
theorem dX7_glad_47 : decode cX7_glad 47 = .ok (.ireturn, 1) := by decide +kernel
theorem dX7_glad_48 : decode cX7_glad 48 = .ok (.aload_n 0, 1) := by decide +kernel
theorem dX7_glad_49 : decode cX7_glad 49 = .ok (.getfield 10, 3) := by decide +kernel
theorem dX7_glad_52 : decode cX7_glad 52 = .ok (.getfield 44, 3) := by decide +kernel
theorem dX7_glad_55 : decode cX7_glad 55 = .ok (.aload_n 0, 1) := by decide +kernel
theorem dX7_glad_56 : decode cX7_glad 56 = .ok (.getfield 10, 3) := by decide +kernel
theorem dX7_glad_59 : decode cX7_glad 59 = .ok (.getfield 83, 3) := by decide +kernel
theorem dX7_glad_62 : decode cX7_glad 62 = .ok (.iload_n 1, 1) := by decide +kernel
theorem dX7_glad_63 : decode cX7_glad 63 = .ok (.aload_n 0, 1) := by decide +kernel
theorem dX7_glad_64 : decode cX7_glad 64 = .ok (.getfield 10, 3) := by decide +kernel
theorem dX7_glad_67 : decode cX7_glad 67 = .ok (.getfield 44, 3) := by decide +kernel
theorem dX7_glad_70 : decode cX7_glad 70 = .ok (.getfield 139, 3) := by decide +kernel
theorem dX7_glad_73 : decode cX7_glad 73 = .ok (.iconst 1, 1) := by decide +kernel
theorem dX7_glad_74 : decode cX7_glad 74 = .ok (.invokevirtual 181, 3) := by decide +kernel
theorem dX7_glad_77 : decode cX7_glad 77 = .ok (.ifCond .eq 7, 3) := by decide +kernel
theorem dX7_glad_80 : decode cX7_glad 80 = .ok (.iconst 1, 1) := by decide +kernel
theorem dX7_glad_81 : decode cX7_glad 81 = .ok (.goto 4, 3) := by decide +kernel
theorem dX7_glad_84 : decode cX7_glad 84 = .ok (.iconst 0, 1) := by decide +kernel
theorem dX7_glad_85 : decode cX7_glad 85 = .ok (.ireturn, 1) := by decide +kernel
theorem dX7_home_0 : decode cX7_home 0 = .ok (.iload_n 1, 1) := by decide +kernel
theorem dX7_home_1 : decode cX7_home 1 = .ok (.iconst 2, 1) := by decide +kernel
theorem dX7_home_2 : decode cX7_home 2 = .ok (.invokestatic 40, 3) := by decide +kernel
theorem dX7_home_5 : decode cX7_home 5 = .ok (.ifCond .eq 5, 3) := by decide +kernel
theorem dX7_home_8 : decode cX7_home 8 = .ok (.iconst (-1), 1) := by decide +kernel
theorem dX7_home_9 : decode cX7_home 9 = .ok (.ireturn, 1) := by decide +kernel
theorem dX7_home_10 : decode cX7_home 10 = .ok (.aload_n 0, 1) := by decide +kernel
theorem dX7_home_11 : decode cX7_home 11 = .ok (.getfield 29, 3) := by decide +kernel
theorem dX7_home_14 : decode cX7_home 14 = .ok (.aload_n 0, 1) := by decide +kernel
theorem dX7_home_15 : decode cX7_home 15 = .ok (.getfield 10, 3) := by decide +kernel
theorem dX7_home_18 : decode cX7_home 18 = .ok (.invokevirtual 185, 3) := by decide +kernel
theorem dX7_home_21 : decode cX7_home 21 = .ok (.astore_n 2, 1) := by decide +kernel
theorem dX7_home_22 : decode cX7_home 22 = .ok (.iload_n 1, 1) := by decide +kernel
theorem dX7_home_23 : decode cX7_home 23 = .ok (.lookupswitch 46 #[(0, 25), (1, 30)], 25) := by decide +kernel
theorem dX7_home_48 : decode cX7_home 48 = .ok (.aload_n 2, 1) := by decide +kernel
theorem dX7_home_49 : decode cX7_home 49 = .ok (.getfield 123, 3) := by decide +kernel
theorem dX7_home_52 : decode cX7_home 52 = .ok (.ireturn, 1) := by decide +kernel
theorem dX7_home_53 : decode cX7_home 53 = .ok (.aload_n 2, 1) := by decide +kernel
theorem dX7_home_54 : decode cX7_home 54 = .ok (.getfield 145, 3) := by decide +kernel
theorem dX7_home_57 : decode cX7_home 57 = .ok (.aload_n 0, 1) := by decide +kernel
theorem dX7_home_58 : decode cX7_home 58 = .ok (.getfield 10, 3) := by decide +kernel
theorem dX7_home_61 : decode cX7_home 61 = .ok (.getfield 83, 3) := by decide +kernel
theorem dX7_home_64 : decode cX7_home 64 = .ok (.getfield 145, 3) := by decide +kernel
theorem dX7_home_67 : decode cX7_home 67 = .ok (.isub, 1) := by decide +kernel
theorem dX7_home_68 : decode cX7_home 68 = .ok (.ireturn, 1) := by decide +kernel
theorem dX7_home_69 : decode cX7_home 69 = .ok (.aload_n 2, 1) := by decide +kernel
theorem dX7_home_70 : decode cX7_home 70 = .ok (.getfield 189, 3) := by decide +kernel
theorem dX7_home_73 : decode cX7_home 73 = .ok (.ireturn, 1) := by decide +kernel
theorem dX7_lost_0 : decode cX7_lost 0 = .ok (.aload_n 0, 1) := by decide +kernel
theorem dX7_lost_1 : decode cX7_lost 1 = .ok (.getfield 10, 3) := by decide +kernel
theorem dX7_lost_4 : decode cX7_lost 4 = .ok (.getfield 44, 3) := by decide +kernel
theorem dX7_lost_7 : decode cX7_lost 7 = .ok (.aload_n 0, 1) := by decide +kernel
theorem dX7_lost_8 : decode cX7_lost 8 = .ok (.getfield 10, 3) := by decide +kernel
theorem dX7_lost_11 : decode cX7_lost 11 = .ok (.getfield 83, 3) := by decide +kernel
theorem dX7_lost_14 : decode cX7_lost 14 = .ok (.getfield 123, 3) := by decide +kernel
theorem dX7_lost_17 : decode cX7_lost 17 = .ok (.invokevirtual 192, 3) := by decide +kernel
theorem dX7_lost_20 : decode cX7_lost 20 = .ok (.aload_n 0, 1) := by decide +kernel
theorem dX7_lost_21 : decode cX7_lost 21 = .ok (.getfield 10, 3) := by decide +kernel
theorem dX7_lost_24 : decode cX7_lost 24 = .ok (.getfield 44, 3) := by decide +kernel
theorem dX7_lost_27 : decode cX7_lost 27 = .ok (.aload_n 0, 1) := by decide +kernel
theorem dX7_lost_28 : decode cX7_lost 28 = .ok (.getfield 29, 3) := by decide +kernel
theorem dX7_lost_31 : decode cX7_lost 31 = .ok (.aload_n 0, 1) := by decide +kernel
theorem dX7_lost_32 : decode cX7_lost 32 = .ok (.getfield 10, 3) := by decide +kernel
theorem dX7_lost_35 : decode cX7_lost 35 = .ok (.invokevirtual 185, 3) := by decide +kernel
theorem dX7_lost_38 : decode cX7_lost 38 = .ok (.getfield 123, 3) := by decide +kernel
theorem dX7_lost_41 : decode cX7_lost 41 = .ok (.invokevirtual 192, 3) := by decide +kernel
theorem dX7_lost_44 : decode cX7_lost 44 = .ok (.isub, 1) := by decide +kernel
theorem dX7_lost_45 : decode cX7_lost 45 = .ok (.ireturn, 1) := by decide +kernel
theorem dX7_lurk_0 : decode cX7_lurk 0 = .ok (.aload_n 0, 1) := by decide +kernel
theorem dX7_lurk_1 : decode cX7_lurk 1 = .ok (.getfield 10, 3) := by decide +kernel
theorem dX7_lurk_4 : decode cX7_lurk 4 = .ok (.getfield 44, 3) := by decide +kernel
theorem dX7_lurk_7 : decode cX7_lurk 7 = .ok (.iload_n 1, 1) := by decide +kernel
theorem dX7_lurk_8 : decode cX7_lurk 8 = .ok (.invokevirtual 61, 3) := by decide +kernel
theorem dX7_lurk_11 : decode cX7_lurk 11 = .ok (.ifCond .eq 11, 3) := by decide +kernel
theorem dX7_lurk_14 : decode cX7_lurk 14 = .ok (.iload_n 2, 1) := by decide +kernel
theorem dX7_lurk_15 : decode cX7_lurk 15 = .ok (.iconst 1, 1) := by decide +kernel
theorem dX7_lurk_16 : decode cX7_lurk 16 = .ok (.invokestatic 40, 3) := by decide +kernel
theorem dX7_lurk_19 : decode cX7_lurk 19 = .ok (.ifCond .eq 5, 3) := by decide +kernel
theorem dX7_lurk_22 : decode cX7_lurk 22 = .ok (.iconst (-1), 1) := by decide +kernel
theorem dX7_lurk_23 : decode cX7_lurk 23 = .ok (.ireturn, 1) := by decide +kernel
theorem dX7_lurk_24 : decode cX7_lurk 24 = .ok (.aload_n 0, 1) := by decide +kernel
theorem dX7_lurk_25 : decode cX7_lurk 25 = .ok (.iload_n 1, 1) := by decide +kernel
theorem dX7_lurk_26 : decode cX7_lurk 26 = .ok (.invokevirtual 98, 3) := by decide +kernel
theorem dX7_lurk_29 : decode cX7_lurk 29 = .ok (.ifCond .ne 6, 3) := by decide +kernel
theorem dX7_lurk_32 : decode cX7_lurk 32 = .ok (.bipush (-2), 2) := by decide +kernel
theorem dX7_lurk_34 : decode cX7_lurk 34 = .ok (.ireturn, 1) := by decide +kernel
theorem dX7_lurk_35 : decode cX7_lurk 35 = .ok (.aload_n 0, 1) := by decide +kernel
theorem dX7_lurk_36 : decode cX7_lurk 36 = .ok (.getfield 29, 3) := by decide +kernel
theorem dX7_lurk_39 : decode cX7_lurk 39 = .ok (.iload_n 1, 1) := by decide +kernel
theorem dX7_lurk_40 : decode cX7_lurk 40 = .ok (.aload_n 0, 1) := by decide +kernel
theorem dX7_lurk_41 : decode cX7_lurk 41 = .ok (.getfield 10, 3) := by decide +kernel
theorem dX7_lurk_44 : decode cX7_lurk 44 = .ok (.invokevirtual 196, 3) := by decide +kernel
theorem dX7_lurk_47 : decode cX7_lurk 47 = .ok (.istore_n 3, 1) := by decide +kernel
theorem dX7_lurk_48 : decode cX7_lurk 48 = .ok (.iload_n 3, 1) := by decide +kernel
theorem dX7_lurk_49 : decode cX7_lurk 49 = .ok (.bipush (-4), 2) := by decide +kernel
theorem dX7_lurk_51 : decode cX7_lurk 51 = .ok (.if_icmp .ne 6, 3) := by decide +kernel
theorem dX7_lurk_54 : decode cX7_lurk 54 = .ok (.bipush (-4), 2) := by decide +kernel
theorem dX7_lurk_56 : decode cX7_lurk 56 = .ok (.ireturn, 1) := by decide +kernel
theorem dX7_lurk_57 : decode cX7_lurk 57 = .ok (.iload_n 2, 1) := by decide +kernel
theorem dX7_lurk_58 : decode cX7_lurk 58 = .ok (.ifCond .ne 7, 3) := by decide +kernel
theorem dX7_lurk_61 : decode cX7_lurk 61 = .ok (.iload_n 3, 1) := by decide +kernel
theorem dX7_lurk_62 : decode cX7_lurk 62 = .ok (.goto 10, 3) := by decide +kernel
theorem dX7_lurk_65 : decode cX7_lurk 65 = .ok (.aload_n 0, 1) := by decide +kernel
theorem dX7_lurk_66 : decode cX7_lurk 66 = .ok (.getfield 29, 3) := by decide +kernel
theorem dX7_lurk_69 : decode cX7_lurk 69 = .ok (.getfield 200, 3) := by decide +kernel
theorem dX7_lurk_72 : decode cX7_lurk 72 = .ok (.ireturn, 1) := by decide +kernel
theorem dX7_stand_0 : decode cX7_stand 0 = .ok (.aload_n 0, 1) := by decide +kernel
theorem dX7_stand_1 : decode cX7_stand 1 = .ok (.getfield 10, 3) := by decide +kernel
theorem dX7_stand_4 : decode cX7_stand 4 = .ok (.getfield 44, 3) := by decide +kernel
theorem dX7_stand_7 : decode cX7_stand 7 = .ok (.iload_n 1, 1) := by decide +kernel
theorem dX7_stand_8 : decode cX7_stand 8 = .ok (.invokevirtual 108, 3) := by decide +kernel
theorem dX7_stand_11 : decode cX7_stand 11 = .ok (.ifCond .eq 11, 3) := by decide +kernel
theorem dX7_stand_14 : decode cX7_stand 14 = .ok (.iload_n 2, 1) := by decide +kernel
theorem dX7_stand_15 : decode cX7_stand 15 = .ok (.iconst 1, 1) := by decide +kernel
theorem dX7_stand_16 : decode cX7_stand 16 = .ok (.invokestatic 40, 3) := by decide +kernel
theorem dX7_stand_19 : decode cX7_stand 19 = .ok (.ifCond .eq 5, 3) := by decide +kernel
theorem dX7_stand_22 : decode cX7_stand 22 = .ok (.iconst (-1), 1) := by decide +kernel
theorem dX7_stand_23 : decode cX7_stand 23 = .ok (.ireturn, 1) := by decide +kernel
theorem dX7_stand_24 : decode cX7_stand 24 = .ok (.aload_n 0, 1) := by decide +kernel
theorem dX7_stand_25 : decode cX7_stand 25 = .ok (.getfield 10, 3) := by decide +kernel
theorem dX7_stand_28 : decode cX7_stand 28 = .ok (.getfield 83, 3) := by decide +kernel
theorem dX7_stand_31 : decode cX7_stand 31 = .ok (.getfield 130, 3) := by decide +kernel
theorem dX7_stand_34 : decode cX7_stand 34 = .ok (.bipush 12, 2) := by decide +kernel
theorem dX7_stand_36 : decode cX7_stand 36 = .ok (.if_icmp .lt 6, 3) := by decide +kernel
theorem dX7_stand_39 : decode cX7_stand 39 = .ok (.bipush (-2), 2) := by decide +kernel
theorem dX7_stand_41 : decode cX7_stand 41 = .ok (.ireturn, 1) := by decide +kernel
theorem dX7_stand_42 : decode cX7_stand 42 = .ok (.aload_n 0, 1) := by decide +kernel
theorem dX7_stand_43 : decode cX7_stand 43 = .ok (.getfield 29, 3) := by decide +kernel
theorem dX7_stand_46 : decode cX7_stand 46 = .ok (.iload_n 1, 1) := by decide +kernel
theorem dX7_stand_47 : decode cX7_stand 47 = .ok (.aload_n 0, 1) := by decide +kernel
theorem dX7_stand_48 : decode cX7_stand 48 = .ok (.getfield 10, 3) := by decide +kernel
theorem dX7_stand_51 : decode cX7_stand 51 = .ok (.invokevirtual 203, 3) := by decide +kernel
theorem dX7_stand_54 : decode cX7_stand 54 = .ok (.istore_n 3, 1) := by decide +kernel
theorem dX7_stand_55 : decode cX7_stand 55 = .ok (.iload_n 2, 1) := by decide +kernel
theorem dX7_stand_56 : decode cX7_stand 56 = .ok (.ifCond .ne 13, 3) := by decide +kernel
theorem dX7_stand_59 : decode cX7_stand 59 = .ok (.aload_n 0, 1) := by decide +kernel
theorem dX7_stand_60 : decode cX7_stand 60 = .ok (.getfield 29, 3) := by decide +kernel
theorem dX7_stand_63 : decode cX7_stand 63 = .ok (.getfield 200, 3) := by decide +kernel
theorem dX7_stand_66 : decode cX7_stand 66 = .ok (.goto 4, 3) := by decide +kernel
theorem dX7_stand_69 : decode cX7_stand 69 = .ok (.iload_n 3, 1) := by decide +kernel
theorem dX7_stand_70 : decode cX7_stand 70 = .ok (.ireturn, 1) := by decide +kernel
theorem dX7_sister_0 : decode cX7_sister 0 = .ok (.aload_n 0, 1) := by decide +kernel
theorem dX7_sister_1 : decode cX7_sister 1 = .ok (.getfield 10, 3) := by decide +kernel
theorem dX7_sister_4 : decode cX7_sister 4 = .ok (.getfield 44, 3) := by decide +kernel
theorem dX7_sister_7 : decode cX7_sister 7 = .ok (.iload_n 1, 1) := by decide +kernel
theorem dX7_sister_8 : decode cX7_sister 8 = .ok (.invokevirtual 61, 3) := by decide +kernel
theorem dX7_sister_11 : decode cX7_sister 11 = .ok (.ifCond .eq 11, 3) := by decide +kernel
theorem dX7_sister_14 : decode cX7_sister 14 = .ok (.iload_n 2, 1) := by decide +kernel
theorem dX7_sister_15 : decode cX7_sister 15 = .ok (.iconst 1, 1) := by decide +kernel
theorem dX7_sister_16 : decode cX7_sister 16 = .ok (.invokestatic 40, 3) := by decide +kernel
theorem dX7_sister_19 : decode cX7_sister 19 = .ok (.ifCond .eq 5, 3) := by decide +kernel
theorem dX7_sister_22 : decode cX7_sister 22 = .ok (.iconst (-1), 1) := by decide +kernel
theorem dX7_sister_23 : decode cX7_sister 23 = .ok (.ireturn, 1) := by decide +kernel
theorem dX7_sister_24 : decode cX7_sister 24 = .ok (.aload_n 0, 1) := by decide +kernel
theorem dX7_sister_25 : decode cX7_sister 25 = .ok (.getfield 10, 3) := by decide +kernel
theorem dX7_sister_28 : decode cX7_sister 28 = .ok (.getfield 44, 3) := by decide +kernel
theorem dX7_sister_31 : decode cX7_sister 31 = .ok (.iload_n 1, 1) := by decide +kernel
theorem dX7_sister_32 : decode cX7_sister 32 = .ok (.aload_n 0, 1) := by decide +kernel
theorem dX7_sister_33 : decode cX7_sister 33 = .ok (.getfield 29, 3) := by decide +kernel
theorem dX7_sister_36 : decode cX7_sister 36 = .ok (.aload_n 0, 1) := by decide +kernel
theorem dX7_sister_37 : decode cX7_sister 37 = .ok (.getfield 10, 3) := by decide +kernel
theorem dX7_sister_40 : decode cX7_sister 40 = .ok (.invokevirtual 185, 3) := by decide +kernel
theorem dX7_sister_43 : decode cX7_sister 43 = .ok (.invokevirtual 87, 3) := by decide +kernel
theorem dX7_sister_46 : decode cX7_sister 46 = .ok (.bipush (-4), 2) := by decide +kernel
theorem dX7_sister_48 : decode cX7_sister 48 = .ok (.if_icmp .eq 6, 3) := by decide +kernel
theorem dX7_sister_51 : decode cX7_sister 51 = .ok (.bipush (-2), 2) := by decide +kernel
theorem dX7_sister_53 : decode cX7_sister 53 = .ok (.ireturn, 1) := by decide +kernel
theorem dX7_sister_54 : decode cX7_sister 54 = .ok (.iload_n 2, 1) := by decide +kernel
theorem dX7_sister_55 : decode cX7_sister 55 = .ok (.ifCond .ne 17, 3) := by decide +kernel
theorem dX7_sister_58 : decode cX7_sister 58 = .ok (.aload_n 0, 1) := by decide +kernel
theorem dX7_sister_59 : decode cX7_sister 59 = .ok (.getfield 10, 3) := by decide +kernel
theorem dX7_sister_62 : decode cX7_sister 62 = .ok (.getfield 44, 3) := by decide +kernel
theorem dX7_sister_65 : decode cX7_sister 65 = .ok (.iload_n 1, 1) := by decide +kernel
theorem dX7_sister_66 : decode cX7_sister 66 = .ok (.invokevirtual 192, 3) := by decide +kernel
theorem dX7_sister_69 : decode cX7_sister 69 = .ok (.goto 4, 3) := by decide +kernel
theorem dX7_sister_72 : decode cX7_sister 72 = .ok (.iconst 0, 1) := by decide +kernel
theorem dX7_sister_73 : decode cX7_sister 73 = .ok (.ireturn, 1) := by decide +kernel
theorem dX7_meet_0 : decode cX7_meet 0 = .ok (.aload_n 0, 1) := by decide +kernel
theorem dX7_meet_1 : decode cX7_meet 1 = .ok (.getfield 10, 3) := by decide +kernel
theorem dX7_meet_4 : decode cX7_meet 4 = .ok (.getfield 44, 3) := by decide +kernel
theorem dX7_meet_7 : decode cX7_meet 7 = .ok (.iload_n 1, 1) := by decide +kernel
theorem dX7_meet_8 : decode cX7_meet 8 = .ok (.invokevirtual 61, 3) := by decide +kernel
theorem dX7_meet_11 : decode cX7_meet 11 = .ok (.ifCond .eq 11, 3) := by decide +kernel
theorem dX7_meet_14 : decode cX7_meet 14 = .ok (.iload_n 2, 1) := by decide +kernel
theorem dX7_meet_15 : decode cX7_meet 15 = .ok (.iconst 2, 1) := by decide +kernel
theorem dX7_meet_16 : decode cX7_meet 16 = .ok (.invokestatic 40, 3) := by decide +kernel
theorem dX7_meet_19 : decode cX7_meet 19 = .ok (.ifCond .eq 5, 3) := by decide +kernel
theorem dX7_meet_22 : decode cX7_meet 22 = .ok (.iconst (-1), 1) := by decide +kernel
theorem dX7_meet_23 : decode cX7_meet 23 = .ok (.ireturn, 1) := by decide +kernel
theorem dX7_meet_24 : decode cX7_meet 24 = .ok (.aload_n 0, 1) := by decide +kernel
theorem dX7_meet_25 : decode cX7_meet 25 = .ok (.iload_n 1, 1) := by decide +kernel
theorem dX7_meet_26 : decode cX7_meet 26 = .ok (.invokevirtual 98, 3) := by decide +kernel
theorem dX7_meet_29 : decode cX7_meet 29 = .ok (.ifCond .ne 18, 3) := by decide +kernel
theorem dX7_meet_32 : decode cX7_meet 32 = .ok (.aload_n 0, 1) := by decide +kernel
theorem dX7_meet_33 : decode cX7_meet 33 = .ok (.getfield 10, 3) := by decide +kernel
theorem dX7_meet_36 : decode cX7_meet 36 = .ok (.getfield 83, 3) := by decide +kernel
theorem dX7_meet_39 : decode cX7_meet 39 = .ok (.getfield 123, 3) := by decide +kernel
theorem dX7_meet_42 : decode cX7_meet 42 = .ok (.bipush (-4), 2) := by decide +kernel
theorem dX7_meet_44 : decode cX7_meet 44 = .ok (.if_icmp .ne 6, 3) := by decide +kernel
theorem dX7_meet_47 : decode cX7_meet 47 = .ok (.bipush (-2), 2) := by decide +kernel
theorem dX7_meet_49 : decode cX7_meet 49 = .ok (.ireturn, 1) := by decide +kernel
theorem dX7_meet_50 : decode cX7_meet 50 = .ok (.aload_n 0, 1) := by decide +kernel
theorem dX7_meet_51 : decode cX7_meet 51 = .ok (.getfield 29, 3) := by decide +kernel
theorem dX7_meet_54 : decode cX7_meet 54 = .ok (.iload_n 1, 1) := by decide +kernel
theorem dX7_meet_55 : decode cX7_meet 55 = .ok (.aload_n 0, 1) := by decide +kernel
theorem dX7_meet_56 : decode cX7_meet 56 = .ok (.getfield 10, 3) := by decide +kernel
theorem dX7_meet_59 : decode cX7_meet 59 = .ok (.invokevirtual 206, 3) := by decide +kernel
theorem dX7_meet_62 : decode cX7_meet 62 = .ok (.istore_n 3, 1) := by decide +kernel
theorem dX7_meet_63 : decode cX7_meet 63 = .ok (.iload_n 3, 1) := by decide +kernel
theorem dX7_meet_64 : decode cX7_meet 64 = .ok (.bipush (-4), 2) := by decide +kernel
theorem dX7_meet_66 : decode cX7_meet 66 = .ok (.if_icmp .eq 7, 3) := by decide +kernel
theorem dX7_meet_69 : decode cX7_meet 69 = .ok (.iload_n 2, 1) := by decide +kernel
theorem dX7_meet_70 : decode cX7_meet 70 = .ok (.ifCond .ne 5, 3) := by decide +kernel
theorem dX7_meet_73 : decode cX7_meet 73 = .ok (.iload_n 3, 1) := by decide +kernel
theorem dX7_meet_74 : decode cX7_meet 74 = .ok (.ireturn, 1) := by decide +kernel
theorem dX7_meet_75 : decode cX7_meet 75 = .ok (.iload_n 2, 1) := by decide +kernel
theorem dX7_meet_76 : decode cX7_meet 76 = .ok (.iconst 1, 1) := by decide +kernel
theorem dX7_meet_77 : decode cX7_meet 77 = .ok (.if_icmp .ne 16, 3) := by decide +kernel
theorem dX7_meet_80 : decode cX7_meet 80 = .ok (.aload_n 0, 1) := by decide +kernel
theorem dX7_meet_81 : decode cX7_meet 81 = .ok (.getfield 29, 3) := by decide +kernel
theorem dX7_meet_84 : decode cX7_meet 84 = .ok (.getfield 209, 3) := by decide +kernel
theorem dX7_meet_87 : decode cX7_meet 87 = .ok (.getfield 123, 3) := by decide +kernel
theorem dX7_meet_90 : decode cX7_meet 90 = .ok (.goto 13, 3) := by decide +kernel
theorem dX7_meet_93 : decode cX7_meet 93 = .ok (.aload_n 0, 1) := by decide +kernel
theorem dX7_meet_94 : decode cX7_meet 94 = .ok (.getfield 29, 3) := by decide +kernel
theorem dX7_meet_97 : decode cX7_meet 97 = .ok (.getfield 210, 3) := by decide +kernel
theorem dX7_meet_100 : decode cX7_meet 100 = .ok (.getfield 123, 3) := by decide +kernel
theorem dX7_meet_103 : decode cX7_meet 103 = .ok (.ireturn, 1) := by decide +kernel
theorem dX7_first_0 : decode cX7_first 0 = .ok (.aload_n 0, 1) := by decide +kernel
theorem dX7_first_1 : decode cX7_first 1 = .ok (.getfield 10, 3) := by decide +kernel
theorem dX7_first_4 : decode cX7_first 4 = .ok (.getfield 44, 3) := by decide +kernel
theorem dX7_first_7 : decode cX7_first 7 = .ok (.iload_n 1, 1) := by decide +kernel
theorem dX7_first_8 : decode cX7_first 8 = .ok (.invokevirtual 61, 3) := by decide +kernel
theorem dX7_first_11 : decode cX7_first 11 = .ok (.ifCond .eq 18, 3) := by decide +kernel
theorem dX7_first_14 : decode cX7_first 14 = .ok (.aload_n 0, 1) := by decide +kernel
theorem dX7_first_15 : decode cX7_first 15 = .ok (.getfield 29, 3) := by decide +kernel
theorem dX7_first_18 : decode cX7_first 18 = .ok (.iload_n 1, 1) := by decide +kernel
theorem dX7_first_19 : decode cX7_first 19 = .ok (.aload_n 0, 1) := by decide +kernel
theorem dX7_first_20 : decode cX7_first 20 = .ok (.getfield 10, 3) := by decide +kernel
theorem dX7_first_23 : decode cX7_first 23 = .ok (.invokevirtual 213, 3) := by decide +kernel
theorem dX7_first_26 : decode cX7_first 26 = .ok (.goto 4, 3) := by decide +kernel
theorem dX7_first_29 : decode cX7_first 29 = .ok (.iconst (-1), 1) := by decide +kernel
theorem dX7_first_30 : decode cX7_first 30 = .ok (.ireturn, 1) := by decide +kernel
theorem dX7_cheated_0 : decode cX7_cheated 0 = .ok (.iload_n 1, 1) := by decide +kernel
theorem dX7_cheated_1 : decode cX7_cheated 1 = .ok (.bipush (-99), 2) := by decide +kernel
theorem dX7_cheated_3 : decode cX7_cheated 3 = .ok (.if_icmp .lt 9, 3) := by decide +kernel
theorem dX7_cheated_6 : decode cX7_cheated 6 = .ok (.iload_n 1, 1) := by decide +kernel
theorem dX7_cheated_7 : decode cX7_cheated 7 = .ok (.bipush 99, 2) := by decide +kernel
theorem dX7_cheated_9 : decode cX7_cheated 9 = .ok (.if_icmp .le 5, 3) := by decide +kernel
theorem dX7_cheated_12 : decode cX7_cheated 12 = .ok (.iconst (-1), 1) := by decide +kernel
theorem dX7_cheated_13 : decode cX7_cheated 13 = .ok (.ireturn, 1) := by decide +kernel
theorem dX7_cheated_14 : decode cX7_cheated 14 = .ok (.aload_n 0, 1) := by decide +kernel
theorem dX7_cheated_15 : decode cX7_cheated 15 = .ok (.getfield 29, 3) := by decide +kernel
theorem dX7_cheated_18 : decode cX7_cheated 18 = .ok (.iload_n 1, 1) := by decide +kernel
theorem dX7_cheated_19 : decode cX7_cheated 19 = .ok (.aload_n 0, 1) := by decide +kernel
theorem dX7_cheated_20 : decode cX7_cheated 20 = .ok (.getfield 10, 3) := by decide +kernel
theorem dX7_cheated_23 : decode cX7_cheated 23 = .ok (.invokevirtual 216, 3) := by decide +kernel
theorem dX7_cheated_26 : decode cX7_cheated 26 = .ok (.ireturn, 1) := by decide +kernel
theorem dX7_chance_0 : decode cX7_chance 0 = .ok (.aload_n 0, 1) := by decide +kernel
theorem dX7_chance_1 : decode cX7_chance 1 = .ok (.iload_n 1, 1) := by decide +kernel
theorem dX7_chance_2 : decode cX7_chance 2 = .ok (.invokevirtual 95, 3) := by decide +kernel
theorem dX7_chance_5 : decode cX7_chance 5 = .ok (.ifCond .ne 11, 3) := by decide +kernel
theorem dX7_chance_8 : decode cX7_chance 8 = .ok (.iload_n 2, 1) := by decide +kernel
theorem dX7_chance_9 : decode cX7_chance 9 = .ok (.iconst 1, 1) := by decide +kernel
theorem dX7_chance_10 : decode cX7_chance 10 = .ok (.invokestatic 40, 3) := by decide +kernel
theorem dX7_chance_13 : decode cX7_chance 13 = .ok (.ifCond .eq 5, 3) := by decide +kernel
theorem dX7_chance_16 : decode cX7_chance 16 = .ok (.iconst (-1), 1) := by decide +kernel
theorem dX7_chance_17 : decode cX7_chance 17 = .ok (.ireturn, 1) := by decide +kernel
theorem dX7_chance_18 : decode cX7_chance 18 = .ok (.bipush 12, 2) := by decide +kernel
theorem dX7_chance_20 : decode cX7_chance 20 = .ok (.aload_n 0, 1) := by decide +kernel
theorem dX7_chance_21 : decode cX7_chance 21 = .ok (.getfield 10, 3) := by decide +kernel
theorem dX7_chance_24 : decode cX7_chance 24 = .ok (.getfield 83, 3) := by decide +kernel
theorem dX7_chance_27 : decode cX7_chance 27 = .ok (.getfield 130, 3) := by decide +kernel
theorem dX7_chance_30 : decode cX7_chance 30 = .ok (.isub, 1) := by decide +kernel
theorem dX7_chance_31 : decode cX7_chance 31 = .ok (.istore_n 3, 1) := by decide +kernel
theorem dX7_chance_32 : decode cX7_chance 32 = .ok (.iload_n 3, 1) := by decide +kernel
theorem dX7_chance_33 : decode cX7_chance 33 = .ok (.bipush 10, 2) := by decide +kernel
theorem dX7_chance_35 : decode cX7_chance 35 = .ok (.if_icmp .le 6, 3) := by decide +kernel
theorem dX7_chance_38 : decode cX7_chance 38 = .ok (.bipush (-3), 2) := by decide +kernel
theorem dX7_chance_40 : decode cX7_chance 40 = .ok (.ireturn, 1) := by decide +kernel
theorem dX7_chance_41 : decode cX7_chance 41 = .ok (.aload_n 0, 1) := by decide +kernel
theorem dX7_chance_42 : decode cX7_chance 42 = .ok (.getfield 29, 3) := by decide +kernel
theorem dX7_chance_45 : decode cX7_chance 45 = .ok (.iload_n 1, 1) := by decide +kernel
theorem dX7_chance_46 : decode cX7_chance 46 = .ok (.aload_n 0, 1) := by decide +kernel
theorem dX7_chance_47 : decode cX7_chance 47 = .ok (.getfield 10, 3) := by decide +kernel
theorem dX7_chance_50 : decode cX7_chance 50 = .ok (.invokevirtual 219, 3) := by decide +kernel
theorem dX7_chance_53 : decode cX7_chance 53 = .ok (.istore 4, 2) := by decide +kernel
theorem dX7_chance_55 : decode cX7_chance 55 = .ok (.iconst 1, 1) := by decide +kernel
theorem dX7_chance_56 : decode cX7_chance 56 = .ok (.iload_n 3, 1) := by decide +kernel
theorem dX7_chance_57 : decode cX7_chance 57 = .ok (.ishl, 1) := by decide +kernel
theorem dX7_chance_58 : decode cX7_chance 58 = .ok (.istore 5, 2) := by decide +kernel
theorem dX7_chance_60 : decode cX7_chance 60 = .ok (.iload 5, 2) := by decide +kernel
theorem dX7_chance_62 : decode cX7_chance 62 = .ok (.iconst 1, 1) := by decide +kernel
theorem dX7_chance_63 : decode cX7_chance 63 = .ok (.if_icmp .le 25, 3) := by decide +kernel
theorem dX7_chance_66 : decode cX7_chance 66 = .ok (.iload 4, 2) := by decide +kernel
theorem dX7_chance_68 : decode cX7_chance 68 = .ok (.iconst 2, 1) := by decide +kernel
theorem dX7_chance_69 : decode cX7_chance 69 = .ok (.irem, 1) := by decide +kernel
theorem dX7_chance_70 : decode cX7_chance 70 = .ok (.ifCond .ne 18, 3) := by decide +kernel
theorem dX7_chance_73 : decode cX7_chance 73 = .ok (.iload 4, 2) := by decide +kernel
theorem dX7_chance_75 : decode cX7_chance 75 = .ok (.iconst 2, 1) := by decide +kernel
theorem dX7_chance_76 : decode cX7_chance 76 = .ok (.idiv, 1) := by decide +kernel
theorem dX7_chance_77 : decode cX7_chance 77 = .ok (.istore 4, 2) := by decide +kernel
theorem dX7_chance_79 : decode cX7_chance 79 = .ok (.iload 5, 2) := by decide +kernel
theorem dX7_chance_81 : decode cX7_chance 81 = .ok (.iconst 2, 1) := by decide +kernel
theorem dX7_chance_82 : decode cX7_chance 82 = .ok (.idiv, 1) := by decide +kernel
theorem dX7_chance_83 : decode cX7_chance 83 = .ok (.istore 5, 2) := by decide +kernel
theorem dX7_chance_85 : decode cX7_chance 85 = .ok (.goto (-25), 3) := by decide +kernel
theorem dX7_chance_88 : decode cX7_chance 88 = .ok (.iload_n 2, 1) := by decide +kernel
theorem dX7_chance_89 : decode cX7_chance 89 = .ok (.ifCond .ne 8, 3) := by decide +kernel
theorem dX7_chance_92 : decode cX7_chance 92 = .ok (.iload 4, 2) := by decide +kernel
theorem dX7_chance_94 : decode cX7_chance 94 = .ok (.goto 5, 3) := by decide +kernel
theorem dX7_chance_97 : decode cX7_chance 97 = .ok (.iload 5, 2) := by decide +kernel
theorem dX7_chance_99 : decode cX7_chance 99 = .ok (.ireturn, 1) := by decide +kernel
theorem dX7_image_0 : decode cX7_image 0 = .ok (.aload_n 0, 1) := by decide +kernel
theorem dX7_image_1 : decode cX7_image 1 = .ok (.getfield 16, 3) := by decide +kernel
theorem dX7_image_4 : decode cX7_image 4 = .ok (.aload_n 0, 1) := by decide +kernel
theorem dX7_image_5 : decode cX7_image 5 = .ok (.getfield 10, 3) := by decide +kernel
theorem dX7_image_8 : decode cX7_image 8 = .ok (.invokevirtual 222, 3) := by decide +kernel
theorem dX7_image_11 : decode cX7_image 11 = .ok (.aload_n 0, 1) := by decide +kernel
theorem dX7_image_12 : decode cX7_image 12 = .ok (.iconst 1, 1) := by decide +kernel
theorem dX7_image_13 : decode cX7_image 13 = .ok (.putfield 225, 3) := by decide +kernel
theorem dX7_image_16 : decode cX7_image 16 = .ok (.iconst 1, 1) := by decide +kernel
theorem dX7_image_17 : decode cX7_image 17 = .ok (.ireturn, 1) := by decide +kernel
theorem dX7_restore_0 : decode cX7_restore 0 = .ok (.aload_n 0, 1) := by decide +kernel
theorem dX7_restore_1 : decode cX7_restore 1 = .ok (.getfield 225, 3) := by decide +kernel
theorem dX7_restore_4 : decode cX7_restore 4 = .ok (.ifCond .ne 6, 3) := by decide +kernel
theorem dX7_restore_7 : decode cX7_restore 7 = .ok (.bipush (-4), 2) := by decide +kernel
theorem dX7_restore_9 : decode cX7_restore 9 = .ok (.ireturn, 1) := by decide +kernel
theorem dX7_restore_10 : decode cX7_restore 10 = .ok (.aload_n 0, 1) := by decide +kernel
theorem dX7_restore_11 : decode cX7_restore 11 = .ok (.getfield 10, 3) := by decide +kernel
theorem dX7_restore_14 : decode cX7_restore 14 = .ok (.aload_n 0, 1) := by decide +kernel
theorem dX7_restore_15 : decode cX7_restore 15 = .ok (.getfield 16, 3) := by decide +kernel
theorem dX7_restore_18 : decode cX7_restore 18 = .ok (.invokevirtual 222, 3) := by decide +kernel
theorem dX7_restore_21 : decode cX7_restore 21 = .ok (.iconst 1, 1) := by decide +kernel
theorem dX7_restore_22 : decode cX7_restore 22 = .ok (.ireturn, 1) := by decide +kernel
theorem dX7_seen_0 : decode cX7_seen 0 = .ok (.iload 4, 2) := by decide +kernel
theorem dX7_seen_2 : decode cX7_seen 2 = .ok (.iconst 1, 1) := by decide +kernel
theorem dX7_seen_3 : decode cX7_seen 3 = .ok (.if_icmp .lt 10, 3) := by decide +kernel
theorem dX7_seen_6 : decode cX7_seen 6 = .ok (.iload 4, 2) := by decide +kernel
theorem dX7_seen_8 : decode cX7_seen 8 = .ok (.bipush 8, 2) := by decide +kernel
theorem dX7_seen_10 : decode cX7_seen 10 = .ok (.if_icmp .le 5, 3) := by decide +kernel
theorem dX7_seen_13 : decode cX7_seen 13 = .ok (.iconst (-1), 1) := by decide +kernel
theorem dX7_seen_14 : decode cX7_seen 14 = .ok (.ireturn, 1) := by decide +kernel
theorem dX7_seen_15 : decode cX7_seen 15 = .ok (.aload_n 0, 1) := by decide +kernel
theorem dX7_seen_16 : decode cX7_seen 16 = .ok (.iload_n 1, 1) := by decide +kernel
theorem dX7_seen_17 : decode cX7_seen 17 = .ok (.iload_n 2, 1) := by decide +kernel
theorem dX7_seen_18 : decode cX7_seen 18 = .ok (.iload_n 3, 1) := by decide +kernel
theorem dX7_seen_19 : decode cX7_seen 19 = .ok (.iconst 2, 1) := by decide +kernel
theorem dX7_seen_20 : decode cX7_seen 20 = .ok (.iload 4, 2) := by decide +kernel
theorem dX7_seen_22 : decode cX7_seen 22 = .ok (.imul, 1) := by decide +kernel
theorem dX7_seen_23 : decode cX7_seen 23 = .ok (.invokevirtual 229, 3) := by decide +kernel
theorem dX7_seen_26 : decode cX7_seen 26 = .ok (.istore 5, 2) := by decide +kernel
theorem dX7_seen_28 : decode cX7_seen 28 = .ok (.iload 5, 2) := by decide +kernel
theorem dX7_seen_30 : decode cX7_seen 30 = .ok (.ifCond .ge 6, 3) := by decide +kernel
theorem dX7_seen_33 : decode cX7_seen 33 = .ok (.iload 5, 2) := by decide +kernel
theorem dX7_seen_35 : decode cX7_seen 35 = .ok (.ireturn, 1) := by decide +kernel
theorem dX7_seen_36 : decode cX7_seen 36 = .ok (.aload_n 0, 1) := by decide +kernel
theorem dX7_seen_37 : decode cX7_seen 37 = .ok (.getfield 35, 3) := by decide +kernel
theorem dX7_seen_40 : decode cX7_seen 40 = .ok (.iload_n 1, 1) := by decide +kernel
theorem dX7_seen_41 : decode cX7_seen 41 = .ok (.aaload, 1) := by decide +kernel
theorem dX7_seen_42 : decode cX7_seen 42 = .ok (.getfield 232, 3) := by decide +kernel
theorem dX7_seen_45 : decode cX7_seen 45 = .ok (.astore 6, 2) := by decide +kernel
theorem dX7_seen_47 : decode cX7_seen 47 = .ok (.iload_n 3, 1) := by decide +kernel
theorem dX7_seen_48 : decode cX7_seen 48 = .ok (.istore 7, 2) := by decide +kernel
theorem dX7_seen_50 : decode cX7_seen 50 = .ok (.iload 7, 2) := by decide +kernel
theorem dX7_seen_52 : decode cX7_seen 52 = .ok (.iload_n 3, 1) := by decide +kernel
theorem dX7_seen_53 : decode cX7_seen 53 = .ok (.iconst 2, 1) := by decide +kernel
theorem dX7_seen_54 : decode cX7_seen 54 = .ok (.iload 4, 2) := by decide +kernel
theorem dX7_seen_56 : decode cX7_seen 56 = .ok (.imul, 1) := by decide +kernel
theorem dX7_seen_57 : decode cX7_seen 57 = .ok (.iadd, 1) := by decide +kernel
theorem dX7_seen_58 : decode cX7_seen 58 = .ok (.if_icmp .ge 42, 3) := by decide +kernel
theorem dX7_seen_61 : decode cX7_seen 61 = .ok (.aload 6, 2) := by decide +kernel
theorem dX7_seen_63 : decode cX7_seen 63 = .ok (.iload 7, 2) := by decide +kernel
theorem dX7_seen_65 : decode cX7_seen 65 = .ok (.laload, 1) := by decide +kernel
theorem dX7_seen_66 : decode cX7_seen 66 = .ok (.lconst 0, 1) := by decide +kernel
theorem dX7_seen_67 : decode cX7_seen 67 = .ok (.lcmp, 1) := by decide +kernel
theorem dX7_seen_68 : decode cX7_seen 68 = .ok (.ifCond .lt 23, 3) := by decide +kernel
theorem dX7_seen_71 : decode cX7_seen 71 = .ok (.aload 6, 2) := by decide +kernel
theorem dX7_seen_73 : decode cX7_seen 73 = .ok (.iload 7, 2) := by decide +kernel
theorem dX7_seen_75 : decode cX7_seen 75 = .ok (.laload, 1) := by decide +kernel
theorem dX7_seen_76 : decode cX7_seen 76 = .ok (.aload_n 0, 1) := by decide +kernel
theorem dX7_seen_77 : decode cX7_seen 77 = .ok (.getfield 10, 3) := by decide +kernel
theorem dX7_seen_80 : decode cX7_seen 80 = .ok (.getfield 44, 3) := by decide +kernel
theorem dX7_seen_83 : decode cX7_seen 83 = .ok (.getfield 48, 3) := by decide +kernel
theorem dX7_seen_86 : decode cX7_seen 86 = .ok (.i2l, 1) := by decide +kernel
theorem dX7_seen_87 : decode cX7_seen 87 = .ok (.lcmp, 1) := by decide +kernel
theorem dX7_seen_88 : decode cX7_seen 88 = .ok (.ifCond .lt 6, 3) := by decide +kernel
theorem dX7_seen_91 : decode cX7_seen 91 = .ok (.bipush (-2), 2) := by decide +kernel
theorem dX7_seen_93 : decode cX7_seen 93 = .ok (.ireturn, 1) := by decide +kernel
theorem dX7_seen_94 : decode cX7_seen 94 = .ok (.iinc 7 1, 3) := by decide +kernel
theorem dX7_seen_97 : decode cX7_seen 97 = .ok (.goto (-47), 3) := by decide +kernel
theorem dX7_seen_100 : decode cX7_seen 100 = .ok (.iconst 3, 1) := by decide +kernel
theorem dX7_seen_101 : decode cX7_seen 101 = .ok (.istore 7, 2) := by decide +kernel
theorem dX7_seen_103 : decode cX7_seen 103 = .ok (.iload_n 3, 1) := by decide +kernel
theorem dX7_seen_104 : decode cX7_seen 104 = .ok (.istore 8, 2) := by decide +kernel
theorem dX7_seen_106 : decode cX7_seen 106 = .ok (.iload 8, 2) := by decide +kernel
theorem dX7_seen_108 : decode cX7_seen 108 = .ok (.iload_n 3, 1) := by decide +kernel
theorem dX7_seen_109 : decode cX7_seen 109 = .ok (.iconst 2, 1) := by decide +kernel
theorem dX7_seen_110 : decode cX7_seen 110 = .ok (.iload 4, 2) := by decide +kernel
theorem dX7_seen_112 : decode cX7_seen 112 = .ok (.imul, 1) := by decide +kernel
theorem dX7_seen_113 : decode cX7_seen 113 = .ok (.iadd, 1) := by decide +kernel
theorem dX7_seen_114 : decode cX7_seen 114 = .ok (.if_icmp .ge 38, 3) := by decide +kernel
theorem dX7_seen_117 : decode cX7_seen 117 = .ok (.iload 7, 2) := by decide +kernel
theorem dX7_seen_119 : decode cX7_seen 119 = .ok (.aload_n 0, 1) := by decide +kernel
theorem dX7_seen_120 : decode cX7_seen 120 = .ok (.getfield 10, 3) := by decide +kernel
theorem dX7_seen_123 : decode cX7_seen 123 = .ok (.getfield 44, 3) := by decide +kernel
theorem dX7_seen_126 : decode cX7_seen 126 = .ok (.aload 6, 2) := by decide +kernel
theorem dX7_seen_128 : decode cX7_seen 128 = .ok (.iload 8, 2) := by decide +kernel
theorem dX7_seen_130 : decode cX7_seen 130 = .ok (.laload, 1) := by decide +kernel
theorem dX7_seen_131 : decode cX7_seen 131 = .ok (.l2i, 1) := by decide +kernel
theorem dX7_seen_132 : decode cX7_seen 132 = .ok (.aload 6, 2) := by decide +kernel
theorem dX7_seen_134 : decode cX7_seen 134 = .ok (.iload 8, 2) := by decide +kernel
theorem dX7_seen_136 : decode cX7_seen 136 = .ok (.iconst 1, 1) := by decide +kernel
theorem dX7_seen_137 : decode cX7_seen 137 = .ok (.iadd, 1) := by decide +kernel
theorem dX7_seen_138 : decode cX7_seen 138 = .ok (.laload, 1) := by decide +kernel
theorem dX7_seen_139 : decode cX7_seen 139 = .ok (.l2i, 1) := by decide +kernel
theorem dX7_seen_140 : decode cX7_seen 140 = .ok (.invokevirtual 236, 3) := by decide +kernel
theorem dX7_seen_143 : decode cX7_seen 143 = .ok (.iand, 1) := by decide +kernel
theorem dX7_seen_144 : decode cX7_seen 144 = .ok (.istore 7, 2) := by decide +kernel
theorem dX7_seen_146 : decode cX7_seen 146 = .ok (.iinc 8 2, 3) := by decide +kernel
theorem dX7_seen_149 : decode cX7_seen 149 = .ok (.goto (-43), 3) := by decide +kernel
theorem dX7_seen_152 : decode cX7_seen 152 = .ok (.iload 7, 2) := by decide +kernel
theorem dX7_seen_154 : decode cX7_seen 154 = .ok (.ireturn, 1) := by decide +kernel
theorem dX7_film_0 : decode cX7_film 0 = .ok (.bipush 12, 2) := by decide +kernel
theorem dX7_film_2 : decode cX7_film 2 = .ok (.aload_n 0, 1) := by decide +kernel
theorem dX7_film_3 : decode cX7_film 3 = .ok (.getfield 10, 3) := by decide +kernel
theorem dX7_film_6 : decode cX7_film 6 = .ok (.getfield 83, 3) := by decide +kernel
theorem dX7_film_9 : decode cX7_film 9 = .ok (.getfield 130, 3) := by decide +kernel
theorem dX7_film_12 : decode cX7_film 12 = .ok (.isub, 1) := by decide +kernel
theorem dX7_film_13 : decode cX7_film 13 = .ok (.istore 4, 2) := by decide +kernel
theorem dX7_film_15 : decode cX7_film 15 = .ok (.aload_n 0, 1) := by decide +kernel
theorem dX7_film_16 : decode cX7_film 16 = .ok (.iload_n 1, 1) := by decide +kernel
theorem dX7_film_17 : decode cX7_film 17 = .ok (.iload_n 2, 1) := by decide +kernel
theorem dX7_film_18 : decode cX7_film 18 = .ok (.iload_n 3, 1) := by decide +kernel
theorem dX7_film_19 : decode cX7_film 19 = .ok (.iload 4, 2) := by decide +kernel
theorem dX7_film_21 : decode cX7_film 21 = .ok (.invokevirtual 229, 3) := by decide +kernel
theorem dX7_film_24 : decode cX7_film 24 = .ok (.istore 5, 2) := by decide +kernel
theorem dX7_film_26 : decode cX7_film 26 = .ok (.iload 5, 2) := by decide +kernel
theorem dX7_film_28 : decode cX7_film 28 = .ok (.ifCond .ge 6, 3) := by decide +kernel
theorem dX7_film_31 : decode cX7_film 31 = .ok (.iload 5, 2) := by decide +kernel
theorem dX7_film_33 : decode cX7_film 33 = .ok (.ireturn, 1) := by decide +kernel
theorem dX7_film_34 : decode cX7_film 34 = .ok (.aload_n 0, 1) := by decide +kernel
theorem dX7_film_35 : decode cX7_film 35 = .ok (.getfield 29, 3) := by decide +kernel
theorem dX7_film_38 : decode cX7_film 38 = .ok (.aload_n 0, 1) := by decide +kernel
theorem dX7_film_39 : decode cX7_film 39 = .ok (.getfield 10, 3) := by decide +kernel
theorem dX7_film_42 : decode cX7_film 42 = .ok (.invokevirtual 239, 3) := by decide +kernel
theorem dX7_film_45 : decode cX7_film 45 = .ok (.iload_n 3, 1) := by decide +kernel
theorem dX7_film_46 : decode cX7_film 46 = .ok (.istore 6, 2) := by decide +kernel
theorem dX7_film_48 : decode cX7_film 48 = .ok (.iload 6, 2) := by decide +kernel
theorem dX7_film_50 : decode cX7_film 50 = .ok (.iload_n 3, 1) := by decide +kernel
theorem dX7_film_51 : decode cX7_film 51 = .ok (.iload 4, 2) := by decide +kernel
theorem dX7_film_53 : decode cX7_film 53 = .ok (.iadd, 1) := by decide +kernel
theorem dX7_film_54 : decode cX7_film 54 = .ok (.if_icmp .ge 50, 3) := by decide +kernel
theorem dX7_film_57 : decode cX7_film 57 = .ok (.aload_n 0, 1) := by decide +kernel
theorem dX7_film_58 : decode cX7_film 58 = .ok (.getfield 29, 3) := by decide +kernel
theorem dX7_film_61 : decode cX7_film 61 = .ok (.getfield 242, 3) := by decide +kernel
theorem dX7_film_64 : decode cX7_film 64 = .ok (.aload_n 0, 1) := by decide +kernel
theorem dX7_film_65 : decode cX7_film 65 = .ok (.getfield 29, 3) := by decide +kernel
theorem dX7_film_68 : decode cX7_film 68 = .ok (.getfield 209, 3) := by decide +kernel
theorem dX7_film_71 : decode cX7_film 71 = .ok (.iconst 1, 1) := by decide +kernel
theorem dX7_film_72 : decode cX7_film 72 = .ok (.invokevirtual 174, 3) := by decide +kernel
theorem dX7_film_75 : decode cX7_film 75 = .ok (.pop, 1) := by decide +kernel
theorem dX7_film_76 : decode cX7_film 76 = .ok (.aload_n 0, 1) := by decide +kernel
theorem dX7_film_77 : decode cX7_film 77 = .ok (.getfield 35, 3) := by decide +kernel
theorem dX7_film_80 : decode cX7_film 80 = .ok (.iload_n 1, 1) := by decide +kernel
theorem dX7_film_81 : decode cX7_film 81 = .ok (.aaload, 1) := by decide +kernel
theorem dX7_film_82 : decode cX7_film 82 = .ok (.iload 6, 2) := by decide +kernel
theorem dX7_film_84 : decode cX7_film 84 = .ok (.aload_n 0, 1) := by decide +kernel
theorem dX7_film_85 : decode cX7_film 85 = .ok (.getfield 29, 3) := by decide +kernel
theorem dX7_film_88 : decode cX7_film 88 = .ok (.getfield 209, 3) := by decide +kernel
theorem dX7_film_91 : decode cX7_film 91 = .ok (.getfield 123, 3) := by decide +kernel
theorem dX7_film_94 : decode cX7_film 94 = .ok (.i2l, 1) := by decide +kernel
theorem dX7_film_95 : decode cX7_film 95 = .ok (.invokevirtual 243, 3) := by decide +kernel
theorem dX7_film_98 : decode cX7_film 98 = .ok (.iinc 6 1, 3) := by decide +kernel
theorem dX7_film_101 : decode cX7_film 101 = .ok (.goto (-53), 3) := by decide +kernel
theorem dX7_film_104 : decode cX7_film 104 = .ok (.iload 4, 2) := by decide +kernel
theorem dX7_film_106 : decode cX7_film 106 = .ok (.ireturn, 1) := by decide +kernel
theorem dX7_deal_0 : decode cX7_deal 0 = .ok (.aload_n 0, 1) := by decide +kernel
theorem dX7_deal_1 : decode cX7_deal 1 = .ok (.getfield 10, 3) := by decide +kernel
theorem dX7_deal_4 : decode cX7_deal 4 = .ok (.getfield 44, 3) := by decide +kernel
theorem dX7_deal_7 : decode cX7_deal 7 = .ok (.getfield 101, 3) := by decide +kernel
theorem dX7_deal_10 : decode cX7_deal 10 = .ok (.istore 4, 2) := by decide +kernel
theorem dX7_deal_12 : decode cX7_deal 12 = .ok (.aload_n 0, 1) := by decide +kernel
theorem dX7_deal_13 : decode cX7_deal 13 = .ok (.iload_n 1, 1) := by decide +kernel
theorem dX7_deal_14 : decode cX7_deal 14 = .ok (.iload_n 2, 1) := by decide +kernel
theorem dX7_deal_15 : decode cX7_deal 15 = .ok (.iload_n 3, 1) := by decide +kernel
theorem dX7_deal_16 : decode cX7_deal 16 = .ok (.iload 4, 2) := by decide +kernel
theorem dX7_deal_18 : decode cX7_deal 18 = .ok (.invokevirtual 229, 3) := by decide +kernel
theorem dX7_deal_21 : decode cX7_deal 21 = .ok (.istore 5, 2) := by decide +kernel
theorem dX7_deal_23 : decode cX7_deal 23 = .ok (.iload 5, 2) := by decide +kernel
theorem dX7_deal_25 : decode cX7_deal 25 = .ok (.ifCond .ge 6, 3) := by decide +kernel
theorem dX7_deal_28 : decode cX7_deal 28 = .ok (.iload 5, 2) := by decide +kernel
theorem dX7_deal_30 : decode cX7_deal 30 = .ok (.ireturn, 1) := by decide +kernel
theorem dX7_deal_31 : decode cX7_deal 31 = .ok (.aload_n 0, 1) := by decide +kernel
theorem dX7_deal_32 : decode cX7_deal 32 = .ok (.getfield 35, 3) := by decide +kernel
theorem dX7_deal_35 : decode cX7_deal 35 = .ok (.iload_n 1, 1) := by decide +kernel
theorem dX7_deal_36 : decode cX7_deal 36 = .ok (.aaload, 1) := by decide +kernel
theorem dX7_deal_37 : decode cX7_deal 37 = .ok (.getfield 232, 3) := by decide +kernel
theorem dX7_deal_40 : decode cX7_deal 40 = .ok (.astore 6, 2) := by decide +kernel
theorem dX7_deal_42 : decode cX7_deal 42 = .ok (.aload_n 0, 1) := by decide +kernel
theorem dX7_deal_43 : decode cX7_deal 43 = .ok (.aload 6, 2) := by decide +kernel
theorem dX7_deal_45 : decode cX7_deal 45 = .ok (.iload_n 3, 1) := by decide +kernel
theorem dX7_deal_46 : decode cX7_deal 46 = .ok (.iload 4, 2) := by decide +kernel
theorem dX7_deal_48 : decode cX7_deal 48 = .ok (.invokevirtual 247, 3) := by decide +kernel
theorem dX7_deal_51 : decode cX7_deal 51 = .ok (.ifCond .ne 6, 3) := by decide +kernel
theorem dX7_deal_54 : decode cX7_deal 54 = .ok (.bipush (-2), 2) := by decide +kernel
theorem dX7_deal_56 : decode cX7_deal 56 = .ok (.ireturn, 1) := by decide +kernel
theorem dX7_deal_57 : decode cX7_deal 57 = .ok (.iconst 0, 1) := by decide +kernel
theorem dX7_deal_58 : decode cX7_deal 58 = .ok (.istore 7, 2) := by decide +kernel
theorem dX7_deal_60 : decode cX7_deal 60 = .ok (.iload 7, 2) := by decide +kernel
theorem dX7_deal_62 : decode cX7_deal 62 = .ok (.iload 4, 2) := by decide +kernel
theorem dX7_deal_64 : decode cX7_deal 64 = .ok (.if_icmp .ge 46, 3) := by decide +kernel
theorem dX7_deal_67 : decode cX7_deal 67 = .ok (.aload 6, 2) := by decide +kernel
theorem dX7_deal_69 : decode cX7_deal 69 = .ok (.iload_n 3, 1) := by decide +kernel
theorem dX7_deal_70 : decode cX7_deal 70 = .ok (.iload 7, 2) := by decide +kernel
theorem dX7_deal_72 : decode cX7_deal 72 = .ok (.iadd, 1) := by decide +kernel
theorem dX7_deal_73 : decode cX7_deal 73 = .ok (.laload, 1) := by decide +kernel
theorem dX7_deal_74 : decode cX7_deal 74 = .ok (.lstore 8, 2) := by decide +kernel
theorem dX7_deal_76 : decode cX7_deal 76 = .ok (.aload_n 0, 1) := by decide +kernel
theorem dX7_deal_77 : decode cX7_deal 77 = .ok (.getfield 10, 3) := by decide +kernel
theorem dX7_deal_80 : decode cX7_deal 80 = .ok (.getfield 83, 3) := by decide +kernel
theorem dX7_deal_83 : decode cX7_deal 83 = .ok (.getfield 115, 3) := by decide +kernel
theorem dX7_deal_86 : decode cX7_deal 86 = .ok (.iload 7, 2) := by decide +kernel
theorem dX7_deal_88 : decode cX7_deal 88 = .ok (.lload 8, 2) := by decide +kernel
theorem dX7_deal_90 : decode cX7_deal 90 = .ok (.lconst 0, 1) := by decide +kernel
theorem dX7_deal_91 : decode cX7_deal 91 = .ok (.lcmp, 1) := by decide +kernel
theorem dX7_deal_92 : decode cX7_deal 92 = .ok (.ifCond .ge 8, 3) := by decide +kernel
theorem dX7_deal_95 : decode cX7_deal 95 = .ok (.bipush (-4), 2) := by decide +kernel
theorem dX7_deal_97 : decode cX7_deal 97 = .ok (.goto 6, 3) := by decide +kernel
theorem dX7_deal_100 : decode cX7_deal 100 = .ok (.lload 8, 2) := by decide +kernel
theorem dX7_deal_102 : decode cX7_deal 102 = .ok (.l2i, 1) := by decide +kernel
theorem dX7_deal_103 : decode cX7_deal 103 = .ok (.iastore, 1) := by decide +kernel
theorem dX7_deal_104 : decode cX7_deal 104 = .ok (.iinc 7 1, 3) := by decide +kernel
theorem dX7_deal_107 : decode cX7_deal 107 = .ok (.goto (-47), 3) := by decide +kernel
theorem dX7_deal_110 : decode cX7_deal 110 = .ok (.iload 4, 2) := by decide +kernel
theorem dX7_deal_112 : decode cX7_deal 112 = .ok (.ireturn, 1) := by decide +kernel
theorem dX7_sheet_0 : decode cX7_sheet 0 = .ok (.iload_n 1, 1) := by decide +kernel
theorem dX7_sheet_1 : decode cX7_sheet 1 = .ok (.iconst 3, 1) := by decide +kernel
theorem dX7_sheet_2 : decode cX7_sheet 2 = .ok (.invokestatic 40, 3) := by decide +kernel
theorem dX7_sheet_5 : decode cX7_sheet 5 = .ok (.ifCond .ne 17, 3) := by decide +kernel
theorem dX7_sheet_8 : decode cX7_sheet 8 = .ok (.iload_n 2, 1) := by decide +kernel
theorem dX7_sheet_9 : decode cX7_sheet 9 = .ok (.iconst 3, 1) := by decide +kernel
theorem dX7_sheet_10 : decode cX7_sheet 10 = .ok (.invokestatic 40, 3) := by decide +kernel
theorem dX7_sheet_13 : decode cX7_sheet 13 = .ok (.ifCond .ne 9, 3) := by decide +kernel
theorem dX7_sheet_16 : decode cX7_sheet 16 = .ok (.iload_n 3, 1) := by decide +kernel
theorem dX7_sheet_17 : decode cX7_sheet 17 = .ok (.bipush 16, 2) := by decide +kernel
theorem dX7_sheet_19 : decode cX7_sheet 19 = .ok (.if_icmp .le 5, 3) := by decide +kernel
theorem dX7_sheet_22 : decode cX7_sheet 22 = .ok (.iconst (-1), 1) := by decide +kernel
theorem dX7_sheet_23 : decode cX7_sheet 23 = .ok (.ireturn, 1) := by decide +kernel
theorem dX7_sheet_24 : decode cX7_sheet 24 = .ok (.iload_n 3, 1) := by decide +kernel
theorem dX7_sheet_25 : decode cX7_sheet 25 = .ok (.ifCond .ge 6, 3) := by decide +kernel
theorem dX7_sheet_28 : decode cX7_sheet 28 = .ok (.bipush (-14), 2) := by decide +kernel
theorem dX7_sheet_30 : decode cX7_sheet 30 = .ok (.ireturn, 1) := by decide +kernel
theorem dX7_sheet_31 : decode cX7_sheet 31 = .ok (.aload_n 0, 1) := by decide +kernel
theorem dX7_sheet_32 : decode cX7_sheet 32 = .ok (.getfield 35, 3) := by decide +kernel
theorem dX7_sheet_35 : decode cX7_sheet 35 = .ok (.iload_n 1, 1) := by decide +kernel
theorem dX7_sheet_36 : decode cX7_sheet 36 = .ok (.aaload, 1) := by decide +kernel
theorem dX7_sheet_37 : decode cX7_sheet 37 = .ok (.iload_n 2, 1) := by decide +kernel
theorem dX7_sheet_38 : decode cX7_sheet 38 = .ok (.iload_n 3, 1) := by decide +kernel
theorem dX7_sheet_39 : decode cX7_sheet 39 = .ok (.invokevirtual 251, 3) := by decide +kernel
theorem dX7_sheet_42 : decode cX7_sheet 42 = .ok (.iload_n 3, 1) := by decide +kernel
theorem dX7_sheet_43 : decode cX7_sheet 43 = .ok (.ireturn, 1) := by decide +kernel
theorem dX7_drop_0 : decode cX7_drop 0 = .ok (.iload_n 1, 1) := by decide +kernel
theorem dX7_drop_1 : decode cX7_drop 1 = .ok (.iconst 3, 1) := by decide +kernel
theorem dX7_drop_2 : decode cX7_drop 2 = .ok (.invokestatic 40, 3) := by decide +kernel
theorem dX7_drop_5 : decode cX7_drop 5 = .ok (.ifCond .eq 5, 3) := by decide +kernel
theorem dX7_drop_8 : decode cX7_drop 8 = .ok (.iconst (-1), 1) := by decide +kernel
theorem dX7_drop_9 : decode cX7_drop 9 = .ok (.ireturn, 1) := by decide +kernel
theorem dX7_drop_10 : decode cX7_drop 10 = .ok (.aload_n 0, 1) := by decide +kernel
theorem dX7_drop_11 : decode cX7_drop 11 = .ok (.getfield 35, 3) := by decide +kernel
theorem dX7_drop_14 : decode cX7_drop 14 = .ok (.iload_n 1, 1) := by decide +kernel
theorem dX7_drop_15 : decode cX7_drop 15 = .ok (.aaload, 1) := by decide +kernel
theorem dX7_drop_16 : decode cX7_drop 16 = .ok (.getfield 255, 3) := by decide +kernel
theorem dX7_drop_19 : decode cX7_drop 19 = .ok (.ifCond .ne 6, 3) := by decide +kernel
theorem dX7_drop_22 : decode cX7_drop 22 = .ok (.bipush (-11), 2) := by decide +kernel
theorem dX7_drop_24 : decode cX7_drop 24 = .ok (.ireturn, 1) := by decide +kernel
theorem dX7_drop_25 : decode cX7_drop 25 = .ok (.aload_n 0, 1) := by decide +kernel
theorem dX7_drop_26 : decode cX7_drop 26 = .ok (.getfield 35, 3) := by decide +kernel
theorem dX7_drop_29 : decode cX7_drop 29 = .ok (.iload_n 1, 1) := by decide +kernel
theorem dX7_drop_30 : decode cX7_drop 30 = .ok (.aaload, 1) := by decide +kernel
theorem dX7_drop_31 : decode cX7_drop 31 = .ok (.iconst 0, 1) := by decide +kernel
theorem dX7_drop_32 : decode cX7_drop 32 = .ok (.putfield 255, 3) := by decide +kernel
theorem dX7_drop_35 : decode cX7_drop 35 = .ok (.aload_n 0, 1) := by decide +kernel
theorem dX7_drop_36 : decode cX7_drop 36 = .ok (.getfield 35, 3) := by decide +kernel
theorem dX7_drop_39 : decode cX7_drop 39 = .ok (.iload_n 1, 1) := by decide +kernel
theorem dX7_drop_40 : decode cX7_drop 40 = .ok (.aaload, 1) := by decide +kernel
theorem dX7_drop_41 : decode cX7_drop 41 = .ok (.getfield 258, 3) := by decide +kernel
theorem dX7_drop_44 : decode cX7_drop 44 = .ok (.ireturn, 1) := by decide +kernel
theorem dX7_item_0 : decode cX7_item 0 = .ok (.aload_n 0, 1) := by decide +kernel
theorem dX7_item_1 : decode cX7_item 1 = .ok (.iload_n 1, 1) := by decide +kernel
theorem dX7_item_2 : decode cX7_item 2 = .ok (.iload_n 2, 1) := by decide +kernel
theorem dX7_item_3 : decode cX7_item 3 = .ok (.iload_n 3, 1) := by decide +kernel
theorem dX7_item_4 : decode cX7_item 4 = .ok (.iconst 1, 1) := by decide +kernel
theorem dX7_item_5 : decode cX7_item 5 = .ok (.invokevirtual 229, 3) := by decide +kernel
theorem dX7_item_8 : decode cX7_item 8 = .ok (.istore 6, 2) := by decide +kernel
theorem dX7_item_10 : decode cX7_item 10 = .ok (.iload 6, 2) := by decide +kernel
theorem dX7_item_12 : decode cX7_item 12 = .ok (.ifCond .ge 6, 3) := by decide +kernel
theorem dX7_item_15 : decode cX7_item 15 = .ok (.iload 6, 2) := by decide +kernel
theorem dX7_item_17 : decode cX7_item 17 = .ok (.ireturn, 1) := by decide +kernel
theorem dX7_item_18 : decode cX7_item 18 = .ok (.aload_n 0, 1) := by decide +kernel
theorem dX7_item_19 : decode cX7_item 19 = .ok (.getfield 35, 3) := by decide +kernel
theorem dX7_item_22 : decode cX7_item 22 = .ok (.iload_n 1, 1) := by decide +kernel
theorem dX7_item_23 : decode cX7_item 23 = .ok (.aaload, 1) := by decide +kernel
theorem dX7_item_24 : decode cX7_item 24 = .ok (.iload_n 3, 1) := by decide +kernel
theorem dX7_item_25 : decode cX7_item 25 = .ok (.lload 4, 2) := by decide +kernel
theorem dX7_item_27 : decode cX7_item 27 = .ok (.invokevirtual 243, 3) := by decide +kernel
theorem dX7_item_30 : decode cX7_item 30 = .ok (.iconst 1, 1) := by decide +kernel
theorem dX7_item_31 : decode cX7_item 31 = .ok (.ireturn, 1) := by decide +kernel
theorem dX7_copy_0 : decode cX7_copy 0 = .ok (.iload_n 1, 1) := by decide +kernel
theorem dX7_copy_1 : decode cX7_copy 1 = .ok (.iconst 3, 1) := by decide +kernel
theorem dX7_copy_2 : decode cX7_copy 2 = .ok (.invokestatic 40, 3) := by decide +kernel
theorem dX7_copy_5 : decode cX7_copy 5 = .ok (.ifCond .ne 11, 3) := by decide +kernel
theorem dX7_copy_8 : decode cX7_copy 8 = .ok (.iload_n 3, 1) := by decide +kernel
theorem dX7_copy_9 : decode cX7_copy 9 = .ok (.iconst 3, 1) := by decide +kernel
theorem dX7_copy_10 : decode cX7_copy 10 = .ok (.invokestatic 40, 3) := by decide +kernel
theorem dX7_copy_13 : decode cX7_copy 13 = .ok (.ifCond .eq 5, 3) := by decide +kernel
theorem dX7_copy_16 : decode cX7_copy 16 = .ok (.iconst (-1), 1) := by decide +kernel
theorem dX7_copy_17 : decode cX7_copy 17 = .ok (.ireturn, 1) := by decide +kernel
theorem dX7_copy_18 : decode cX7_copy 18 = .ok (.aload_n 0, 1) := by decide +kernel
theorem dX7_copy_19 : decode cX7_copy 19 = .ok (.getfield 35, 3) := by decide +kernel
theorem dX7_copy_22 : decode cX7_copy 22 = .ok (.iload_n 1, 1) := by decide +kernel
theorem dX7_copy_23 : decode cX7_copy 23 = .ok (.aaload, 1) := by decide +kernel
theorem dX7_copy_24 : decode cX7_copy 24 = .ok (.astore 6, 2) := by decide +kernel
theorem dX7_copy_26 : decode cX7_copy 26 = .ok (.aload_n 0, 1) := by decide +kernel
theorem dX7_copy_27 : decode cX7_copy 27 = .ok (.getfield 35, 3) := by decide +kernel
theorem dX7_copy_30 : decode cX7_copy 30 = .ok (.iload_n 3, 1) := by decide +kernel
theorem dX7_copy_31 : decode cX7_copy 31 = .ok (.aaload, 1) := by decide +kernel
theorem dX7_copy_32 : decode cX7_copy 32 = .ok (.astore 7, 2) := by decide +kernel
theorem dX7_copy_34 : decode cX7_copy 34 = .ok (.aload 6, 2) := by decide +kernel
theorem dX7_copy_36 : decode cX7_copy 36 = .ok (.getfield 255, 3) := by decide +kernel
theorem dX7_copy_39 : decode cX7_copy 39 = .ok (.ifCond .eq 11, 3) := by decide +kernel
theorem dX7_copy_42 : decode cX7_copy 42 = .ok (.aload 7, 2) := by decide +kernel
theorem dX7_copy_44 : decode cX7_copy 44 = .ok (.getfield 255, 3) := by decide +kernel
theorem dX7_copy_47 : decode cX7_copy 47 = .ok (.ifCond .ne 6, 3) := by decide +kernel
theorem dX7_copy_50 : decode cX7_copy 50 = .ok (.bipush (-11), 2) := by decide +kernel
theorem dX7_copy_52 : decode cX7_copy 52 = .ok (.ireturn, 1) := by decide +kernel
theorem dX7_copy_53 : decode cX7_copy 53 = .ok (.aload 6, 2) := by decide +kernel
theorem dX7_copy_55 : decode cX7_copy 55 = .ok (.getfield 259, 3) := by decide +kernel
theorem dX7_copy_58 : decode cX7_copy 58 = .ok (.aload 7, 2) := by decide +kernel
theorem dX7_copy_60 : decode cX7_copy 60 = .ok (.getfield 259, 3) := by decide +kernel
theorem dX7_copy_63 : decode cX7_copy 63 = .ok (.if_icmp .eq 6, 3) := by decide +kernel
theorem dX7_copy_66 : decode cX7_copy 66 = .ok (.bipush (-12), 2) := by decide +kernel
theorem dX7_copy_68 : decode cX7_copy 68 = .ok (.ireturn, 1) := by decide +kernel
theorem dX7_copy_69 : decode cX7_copy 69 = .ok (.aload 6, 2) := by decide +kernel
theorem dX7_copy_71 : decode cX7_copy 71 = .ok (.iload_n 2, 1) := by decide +kernel
theorem dX7_copy_72 : decode cX7_copy 72 = .ok (.iload 5, 2) := by decide +kernel
theorem dX7_copy_74 : decode cX7_copy 74 = .ok (.invokevirtual 262, 3) := by decide +kernel
theorem dX7_copy_77 : decode cX7_copy 77 = .ok (.ifCond .eq 15, 3) := by decide +kernel
theorem dX7_copy_80 : decode cX7_copy 80 = .ok (.aload 7, 2) := by decide +kernel
theorem dX7_copy_82 : decode cX7_copy 82 = .ok (.iload 4, 2) := by decide +kernel
theorem dX7_copy_84 : decode cX7_copy 84 = .ok (.iload 5, 2) := by decide +kernel
theorem dX7_copy_86 : decode cX7_copy 86 = .ok (.invokevirtual 262, 3) := by decide +kernel
theorem dX7_copy_89 : decode cX7_copy 89 = .ok (.ifCond .ne 6, 3) := by decide +kernel
theorem dX7_copy_92 : decode cX7_copy 92 = .ok (.bipush (-13), 2) := by decide +kernel
theorem dX7_copy_94 : decode cX7_copy 94 = .ok (.ireturn, 1) := by decide +kernel
theorem dX7_copy_95 : decode cX7_copy 95 = .ok (.aload 6, 2) := by decide +kernel
theorem dX7_copy_97 : decode cX7_copy 97 = .ok (.getfield 232, 3) := by decide +kernel
theorem dX7_copy_100 : decode cX7_copy 100 = .ok (.iload_n 2, 1) := by decide +kernel
theorem dX7_copy_101 : decode cX7_copy 101 = .ok (.aload 7, 2) := by decide +kernel
theorem dX7_copy_103 : decode cX7_copy 103 = .ok (.getfield 232, 3) := by decide +kernel
theorem dX7_copy_106 : decode cX7_copy 106 = .ok (.iload 4, 2) := by decide +kernel
theorem dX7_copy_108 : decode cX7_copy 108 = .ok (.iload 5, 2) := by decide +kernel
theorem dX7_copy_110 : decode cX7_copy 110 = .ok (.invokestatic 265, 3) := by decide +kernel
theorem dX7_copy_113 : decode cX7_copy 113 = .ok (.iload 5, 2) := by decide +kernel
theorem dX7_copy_115 : decode cX7_copy 115 = .ok (.ireturn, 1) := by decide +kernel
theorem dX7_isNot_0 : decode cX7_isNot 0 = .ok (.iload_n 0, 1) := by decide +kernel
theorem dX7_isNot_1 : decode cX7_isNot 1 = .ok (.ifCond .lt 8, 3) := by decide +kernel
theorem dX7_isNot_4 : decode cX7_isNot 4 = .ok (.iload_n 0, 1) := by decide +kernel
theorem dX7_isNot_5 : decode cX7_isNot 5 = .ok (.iload_n 1, 1) := by decide +kernel
theorem dX7_isNot_6 : decode cX7_isNot 6 = .ok (.if_icmp .le 7, 3) := by decide +kernel
theorem dX7_isNot_9 : decode cX7_isNot 9 = .ok (.iconst 1, 1) := by decide +kernel
theorem dX7_isNot_10 : decode cX7_isNot 10 = .ok (.goto 4, 3) := by decide +kernel
theorem dX7_isNot_13 : decode cX7_isNot 13 = .ok (.iconst 0, 1) := by decide +kernel
theorem dX7_isNot_14 : decode cX7_isNot 14 = .ok (.ireturn, 1) := by decide +kernel
theorem dX7_isNoThingOrNone_0 : decode cX7_isNoThingOrNone 0 = .ok (.iload_n 1, 1) := by decide +kernel
theorem dX7_isNoThingOrNone_1 : decode cX7_isNoThingOrNone 1 = .ok (.bipush (-4), 2) := by decide +kernel
theorem dX7_isNoThingOrNone_3 : decode cX7_isNoThingOrNone 3 = .ok (.if_icmp .eq 21, 3) := by decide +kernel
theorem dX7_isNoThingOrNone_6 : decode cX7_isNoThingOrNone 6 = .ok (.aload_n 0, 1) := by decide +kernel
theorem dX7_isNoThingOrNone_7 : decode cX7_isNoThingOrNone 7 = .ok (.getfield 10, 3) := by decide +kernel
theorem dX7_isNoThingOrNone_10 : decode cX7_isNoThingOrNone 10 = .ok (.getfield 44, 3) := by decide +kernel
theorem dX7_isNoThingOrNone_13 : decode cX7_isNoThingOrNone 13 = .ok (.iload_n 1, 1) := by decide +kernel
theorem dX7_isNoThingOrNone_14 : decode cX7_isNoThingOrNone 14 = .ok (.invokevirtual 61, 3) := by decide +kernel
theorem dX7_isNoThingOrNone_17 : decode cX7_isNoThingOrNone 17 = .ok (.ifCond .ne 7, 3) := by decide +kernel
theorem dX7_isNoThingOrNone_20 : decode cX7_isNoThingOrNone 20 = .ok (.iconst 1, 1) := by decide +kernel
theorem dX7_isNoThingOrNone_21 : decode cX7_isNoThingOrNone 21 = .ok (.goto 4, 3) := by decide +kernel
theorem dX7_isNoThingOrNone_24 : decode cX7_isNoThingOrNone 24 = .ok (.iconst 0, 1) := by decide +kernel
theorem dX7_isNoThingOrNone_25 : decode cX7_isNoThingOrNone 25 = .ok (.ireturn, 1) := by decide +kernel
theorem dX7_isHad_0 : decode cX7_isHad 0 = .ok (.aload_n 0, 1) := by decide +kernel
theorem dX7_isHad_1 : decode cX7_isHad 1 = .ok (.getfield 10, 3) := by decide +kernel
theorem dX7_isHad_4 : decode cX7_isHad 4 = .ok (.getfield 44, 3) := by decide +kernel
theorem dX7_isHad_7 : decode cX7_isHad 7 = .ok (.iload_n 1, 1) := by decide +kernel
theorem dX7_isHad_8 : decode cX7_isHad 8 = .ok (.aload_n 0, 1) := by decide +kernel
theorem dX7_isHad_9 : decode cX7_isHad 9 = .ok (.getfield 10, 3) := by decide +kernel
theorem dX7_isHad_12 : decode cX7_isHad 12 = .ok (.getfield 83, 3) := by decide +kernel
theorem dX7_isHad_15 : decode cX7_isHad 15 = .ok (.invokevirtual 87, 3) := by decide +kernel
theorem dX7_isHad_18 : decode cX7_isHad 18 = .ok (.bipush (-4), 2) := by decide +kernel
theorem dX7_isHad_20 : decode cX7_isHad 20 = .ok (.if_icmp .eq 7, 3) := by decide +kernel
theorem dX7_isHad_23 : decode cX7_isHad 23 = .ok (.iconst 1, 1) := by decide +kernel
theorem dX7_isHad_24 : decode cX7_isHad 24 = .ok (.goto 4, 3) := by decide +kernel
theorem dX7_isHad_27 : decode cX7_isHad 27 = .ok (.iconst 0, 1) := by decide +kernel
theorem dX7_isHad_28 : decode cX7_isHad 28 = .ok (.ireturn, 1) := by decide +kernel
theorem dX7_rowFault_0 : decode cX7_rowFault 0 = .ok (.iload_n 1, 1) := by decide +kernel
theorem dX7_rowFault_1 : decode cX7_rowFault 1 = .ok (.iconst 3, 1) := by decide +kernel
theorem dX7_rowFault_2 : decode cX7_rowFault 2 = .ok (.invokestatic 40, 3) := by decide +kernel
theorem dX7_rowFault_5 : decode cX7_rowFault 5 = .ok (.ifCond .ne 11, 3) := by decide +kernel
theorem dX7_rowFault_8 : decode cX7_rowFault 8 = .ok (.iload_n 2, 1) := by decide +kernel
theorem dX7_rowFault_9 : decode cX7_rowFault 9 = .ok (.iconst 3, 1) := by decide +kernel
theorem dX7_rowFault_10 : decode cX7_rowFault 10 = .ok (.invokestatic 40, 3) := by decide +kernel
theorem dX7_rowFault_13 : decode cX7_rowFault 13 = .ok (.ifCond .eq 5, 3) := by decide +kernel
theorem dX7_rowFault_16 : decode cX7_rowFault 16 = .ok (.iconst (-1), 1) := by decide +kernel
theorem dX7_rowFault_17 : decode cX7_rowFault 17 = .ok (.ireturn, 1) := by decide +kernel
theorem dX7_rowFault_18 : decode cX7_rowFault 18 = .ok (.aload_n 0, 1) := by decide +kernel
theorem dX7_rowFault_19 : decode cX7_rowFault 19 = .ok (.getfield 35, 3) := by decide +kernel
theorem dX7_rowFault_22 : decode cX7_rowFault 22 = .ok (.iload_n 1, 1) := by decide +kernel
theorem dX7_rowFault_23 : decode cX7_rowFault 23 = .ok (.aaload, 1) := by decide +kernel
theorem dX7_rowFault_24 : decode cX7_rowFault 24 = .ok (.astore 5, 2) := by decide +kernel
theorem dX7_rowFault_26 : decode cX7_rowFault 26 = .ok (.aload 5, 2) := by decide +kernel
theorem dX7_rowFault_28 : decode cX7_rowFault 28 = .ok (.getfield 255, 3) := by decide +kernel
theorem dX7_rowFault_31 : decode cX7_rowFault 31 = .ok (.ifCond .ne 6, 3) := by decide +kernel
theorem dX7_rowFault_34 : decode cX7_rowFault 34 = .ok (.bipush (-11), 2) := by decide +kernel
theorem dX7_rowFault_36 : decode cX7_rowFault 36 = .ok (.ireturn, 1) := by decide +kernel
theorem dX7_rowFault_37 : decode cX7_rowFault 37 = .ok (.aload 5, 2) := by decide +kernel
theorem dX7_rowFault_39 : decode cX7_rowFault 39 = .ok (.getfield 259, 3) := by decide +kernel
theorem dX7_rowFault_42 : decode cX7_rowFault 42 = .ok (.iload_n 2, 1) := by decide +kernel
theorem dX7_rowFault_43 : decode cX7_rowFault 43 = .ok (.if_icmp .eq 6, 3) := by decide +kernel
theorem dX7_rowFault_46 : decode cX7_rowFault 46 = .ok (.bipush (-12), 2) := by decide +kernel
theorem dX7_rowFault_48 : decode cX7_rowFault 48 = .ok (.ireturn, 1) := by decide +kernel
theorem dX7_rowFault_49 : decode cX7_rowFault 49 = .ok (.aload 5, 2) := by decide +kernel
theorem dX7_rowFault_51 : decode cX7_rowFault 51 = .ok (.iload_n 3, 1) := by decide +kernel
theorem dX7_rowFault_52 : decode cX7_rowFault 52 = .ok (.iload 4, 2) := by decide +kernel
theorem dX7_rowFault_54 : decode cX7_rowFault 54 = .ok (.invokevirtual 262, 3) := by decide +kernel
theorem dX7_rowFault_57 : decode cX7_rowFault 57 = .ok (.ifCond .eq 7, 3) := by decide +kernel
theorem dX7_rowFault_60 : decode cX7_rowFault 60 = .ok (.iconst 0, 1) := by decide +kernel
theorem dX7_rowFault_61 : decode cX7_rowFault 61 = .ok (.goto 5, 3) := by decide +kernel
theorem dX7_rowFault_64 : decode cX7_rowFault 64 = .ok (.bipush (-13), 2) := by decide +kernel
theorem dX7_rowFault_66 : decode cX7_rowFault 66 = .ok (.ireturn, 1) := by decide +kernel
theorem dX7_canDeal_0 : decode cX7_canDeal 0 = .ok (.aload_n 0, 1) := by decide +kernel
theorem dX7_canDeal_1 : decode cX7_canDeal 1 = .ok (.getfield 10, 3) := by decide +kernel
theorem dX7_canDeal_4 : decode cX7_canDeal 4 = .ok (.getfield 44, 3) := by decide +kernel
theorem dX7_canDeal_7 : decode cX7_canDeal 7 = .ok (.aload_n 0, 1) := by decide +kernel
theorem dX7_canDeal_8 : decode cX7_canDeal 8 = .ok (.getfield 10, 3) := by decide +kernel
theorem dX7_canDeal_11 : decode cX7_canDeal 11 = .ok (.getfield 83, 3) := by decide +kernel
theorem dX7_canDeal_14 : decode cX7_canDeal 14 = .ok (.getfield 123, 3) := by decide +kernel
theorem dX7_canDeal_17 : decode cX7_canDeal 17 = .ok (.invokevirtual 61, 3) := by decide +kernel
theorem dX7_canDeal_20 : decode cX7_canDeal 20 = .ok (.ifCond .eq 18, 3) := by decide +kernel
theorem dX7_canDeal_23 : decode cX7_canDeal 23 = .ok (.iconst 1, 1) := by decide +kernel
theorem dX7_canDeal_24 : decode cX7_canDeal 24 = .ok (.aload_n 0, 1) := by decide +kernel
theorem dX7_canDeal_25 : decode cX7_canDeal 25 = .ok (.getfield 10, 3) := by decide +kernel
theorem dX7_canDeal_28 : decode cX7_canDeal 28 = .ok (.getfield 83, 3) := by decide +kernel
theorem dX7_canDeal_31 : decode cX7_canDeal 31 = .ok (.getfield 123, 3) := by decide +kernel
theorem dX7_canDeal_34 : decode cX7_canDeal 34 = .ok (.ishl, 1) := by decide +kernel
theorem dX7_canDeal_35 : decode cX7_canDeal 35 = .ok (.goto 4, 3) := by decide +kernel
theorem dX7_canDeal_38 : decode cX7_canDeal 38 = .ok (.iconst 0, 1) := by decide +kernel
theorem dX7_canDeal_39 : decode cX7_canDeal 39 = .ok (.istore 4, 2) := by decide +kernel
theorem dX7_canDeal_41 : decode cX7_canDeal 41 = .ok (.iload_n 2, 1) := by decide +kernel
theorem dX7_canDeal_42 : decode cX7_canDeal 42 = .ok (.istore 5, 2) := by decide +kernel
theorem dX7_canDeal_44 : decode cX7_canDeal 44 = .ok (.iload 5, 2) := by decide +kernel
theorem dX7_canDeal_46 : decode cX7_canDeal 46 = .ok (.iload_n 2, 1) := by decide +kernel
theorem dX7_canDeal_47 : decode cX7_canDeal 47 = .ok (.iload_n 3, 1) := by decide +kernel
theorem dX7_canDeal_48 : decode cX7_canDeal 48 = .ok (.iadd, 1) := by decide +kernel
theorem dX7_canDeal_49 : decode cX7_canDeal 49 = .ok (.if_icmp .ge 68, 3) := by decide +kernel
theorem dX7_canDeal_52 : decode cX7_canDeal 52 = .ok (.aload_n 1, 1) := by decide +kernel
theorem dX7_canDeal_53 : decode cX7_canDeal 53 = .ok (.iload 5, 2) := by decide +kernel
theorem dX7_canDeal_55 : decode cX7_canDeal 55 = .ok (.laload, 1) := by decide +kernel
theorem dX7_canDeal_56 : decode cX7_canDeal 56 = .ok (.lconst 0, 1) := by decide +kernel
theorem dX7_canDeal_57 : decode cX7_canDeal 57 = .ok (.lcmp, 1) := by decide +kernel
theorem dX7_canDeal_58 : decode cX7_canDeal 58 = .ok (.ifCond .ge 6, 3) := by decide +kernel
theorem dX7_canDeal_61 : decode cX7_canDeal 61 = .ok (.goto 50, 3) := by decide +kernel
theorem dX7_canDeal_64 : decode cX7_canDeal 64 = .ok (.aload_n 1, 1) := by decide +kernel
theorem dX7_canDeal_65 : decode cX7_canDeal 65 = .ok (.iload 5, 2) := by decide +kernel
theorem dX7_canDeal_67 : decode cX7_canDeal 67 = .ok (.laload, 1) := by decide +kernel
theorem dX7_canDeal_68 : decode cX7_canDeal 68 = .ok (.aload_n 0, 1) := by decide +kernel
theorem dX7_canDeal_69 : decode cX7_canDeal 69 = .ok (.getfield 10, 3) := by decide +kernel
theorem dX7_canDeal_72 : decode cX7_canDeal 72 = .ok (.getfield 44, 3) := by decide +kernel
theorem dX7_canDeal_75 : decode cX7_canDeal 75 = .ok (.getfield 48, 3) := by decide +kernel
theorem dX7_canDeal_78 : decode cX7_canDeal 78 = .ok (.i2l, 1) := by decide +kernel
theorem dX7_canDeal_79 : decode cX7_canDeal 79 = .ok (.lcmp, 1) := by decide +kernel
theorem dX7_canDeal_80 : decode cX7_canDeal 80 = .ok (.ifCond .lt 5, 3) := by decide +kernel
theorem dX7_canDeal_83 : decode cX7_canDeal 83 = .ok (.iconst 0, 1) := by decide +kernel
theorem dX7_canDeal_84 : decode cX7_canDeal 84 = .ok (.ireturn, 1) := by decide +kernel
theorem dX7_canDeal_85 : decode cX7_canDeal 85 = .ok (.iconst 1, 1) := by decide +kernel
theorem dX7_canDeal_86 : decode cX7_canDeal 86 = .ok (.aload_n 1, 1) := by decide +kernel
theorem dX7_canDeal_87 : decode cX7_canDeal 87 = .ok (.iload 5, 2) := by decide +kernel
theorem dX7_canDeal_89 : decode cX7_canDeal 89 = .ok (.laload, 1) := by decide +kernel
theorem dX7_canDeal_90 : decode cX7_canDeal 90 = .ok (.l2i, 1) := by decide +kernel
theorem dX7_canDeal_91 : decode cX7_canDeal 91 = .ok (.ishl, 1) := by decide +kernel
theorem dX7_canDeal_92 : decode cX7_canDeal 92 = .ok (.istore 6, 2) := by decide +kernel
theorem dX7_canDeal_94 : decode cX7_canDeal 94 = .ok (.iload 4, 2) := by decide +kernel
theorem dX7_canDeal_96 : decode cX7_canDeal 96 = .ok (.iload 6, 2) := by decide +kernel
theorem dX7_canDeal_98 : decode cX7_canDeal 98 = .ok (.iand, 1) := by decide +kernel
theorem dX7_canDeal_99 : decode cX7_canDeal 99 = .ok (.ifCond .eq 5, 3) := by decide +kernel
theorem dX7_canDeal_102 : decode cX7_canDeal 102 = .ok (.iconst 0, 1) := by decide +kernel
theorem dX7_canDeal_103 : decode cX7_canDeal 103 = .ok (.ireturn, 1) := by decide +kernel
theorem dX7_canDeal_104 : decode cX7_canDeal 104 = .ok (.iload 4, 2) := by decide +kernel
theorem dX7_canDeal_106 : decode cX7_canDeal 106 = .ok (.iload 6, 2) := by decide +kernel
theorem dX7_canDeal_108 : decode cX7_canDeal 108 = .ok (.ior, 1) := by decide +kernel
theorem dX7_canDeal_109 : decode cX7_canDeal 109 = .ok (.istore 4, 2) := by decide +kernel
theorem dX7_canDeal_111 : decode cX7_canDeal 111 = .ok (.iinc 5 1, 3) := by decide +kernel
theorem dX7_canDeal_114 : decode cX7_canDeal 114 = .ok (.goto (-70), 3) := by decide +kernel
theorem dX7_canDeal_117 : decode cX7_canDeal 117 = .ok (.iconst 1, 1) := by decide +kernel
theorem dX7_canDeal_118 : decode cX7_canDeal 118 = .ok (.ireturn, 1) := by decide +kernel
