theorem dX2_init_0 : decode cX2_init 0 = .ok (.aload_n 0, 1) := by decide +kernel
theorem dX2_init_1 : decode cX2_init 1 = .ok (.invokespecial 3, 3) := by decide +kernel
theorem dX2_init_4 : decode cX2_init 4 = .ok (.aload_n 0, 1) := by decide +kernel
theorem dX2_init_5 : decode cX2_init 5 = .ok (.bipush 16, 2) := by decide +kernel
theorem dX2_init_7 : decode cX2_init 7 = .ok (.newarray .long, 2) := by decide +kernel
theorem dX2_init_9 : decode cX2_init 9 = .ok (.putfield 9, 3) := by decide +kernel
theorem dX2_init_12 : decode cX2_init 12 = .ok (.return_, 1) := by decide +kernel
theorem dX2_renew_0 : decode cX2_renew 0 = .ok (.aload_n 0, 1) := by decide +kernel
theorem dX2_renew_1 : decode cX2_renew 1 = .ok (.iconst 1, 1) := by decide +kernel
theorem dX2_renew_2 : decode cX2_renew 2 = .ok (.putfield 15, 3) := by decide +kernel
theorem dX2_renew_5 : decode cX2_renew 5 = .ok (.aload_n 0, 1) := by decide +kernel
theorem dX2_renew_6 : decode cX2_renew 6 = .ok (.iload_n 1, 1) := by decide +kernel
theorem dX2_renew_7 : decode cX2_renew 7 = .ok (.putfield 19, 3) := by decide +kernel
theorem dX2_renew_10 : decode cX2_renew 10 = .ok (.aload_n 0, 1) := by decide +kernel
theorem dX2_renew_11 : decode cX2_renew 11 = .ok (.iload_n 2, 1) := by decide +kernel
theorem dX2_renew_12 : decode cX2_renew 12 = .ok (.putfield 23, 3) := by decide +kernel
theorem dX2_renew_15 : decode cX2_renew 15 = .ok (.aload_n 0, 1) := by decide +kernel
theorem dX2_renew_16 : decode cX2_renew 16 = .ok (.getfield 9, 3) := by decide +kernel
theorem dX2_renew_19 : decode cX2_renew 19 = .ok (.lconst 0, 1) := by decide +kernel
theorem dX2_renew_20 : decode cX2_renew 20 = .ok (.invokestatic 26, 3) := by decide +kernel
theorem dX2_renew_23 : decode cX2_renew 23 = .ok (.return_, 1) := by decide +kernel
theorem dX2_hasRange_0 : decode cX2_hasRange 0 = .ok (.iload_n 1, 1) := by decide +kernel
theorem dX2_hasRange_1 : decode cX2_hasRange 1 = .ok (.ifCond .lt 29, 3) := by decide +kernel
theorem dX2_hasRange_4 : decode cX2_hasRange 4 = .ok (.iload_n 2, 1) := by decide +kernel
theorem dX2_hasRange_5 : decode cX2_hasRange 5 = .ok (.ifCond .lt 25, 3) := by decide +kernel
theorem dX2_hasRange_8 : decode cX2_hasRange 8 = .ok (.iload_n 2, 1) := by decide +kernel
theorem dX2_hasRange_9 : decode cX2_hasRange 9 = .ok (.aload_n 0, 1) := by decide +kernel
theorem dX2_hasRange_10 : decode cX2_hasRange 10 = .ok (.getfield 23, 3) := by decide +kernel
theorem dX2_hasRange_13 : decode cX2_hasRange 13 = .ok (.if_icmp .gt 17, 3) := by decide +kernel
theorem dX2_hasRange_16 : decode cX2_hasRange 16 = .ok (.iload_n 1, 1) := by decide +kernel
theorem dX2_hasRange_17 : decode cX2_hasRange 17 = .ok (.aload_n 0, 1) := by decide +kernel
theorem dX2_hasRange_18 : decode cX2_hasRange 18 = .ok (.getfield 23, 3) := by decide +kernel
theorem dX2_hasRange_21 : decode cX2_hasRange 21 = .ok (.iload_n 2, 1) := by decide +kernel
theorem dX2_hasRange_22 : decode cX2_hasRange 22 = .ok (.isub, 1) := by decide +kernel
theorem dX2_hasRange_23 : decode cX2_hasRange 23 = .ok (.if_icmp .gt 7, 3) := by decide +kernel
theorem dX2_hasRange_26 : decode cX2_hasRange 26 = .ok (.iconst 1, 1) := by decide +kernel
theorem dX2_hasRange_27 : decode cX2_hasRange 27 = .ok (.goto 4, 3) := by decide +kernel
theorem dX2_hasRange_30 : decode cX2_hasRange 30 = .ok (.iconst 0, 1) := by decide +kernel
theorem dX2_hasRange_31 : decode cX2_hasRange 31 = .ok (.ireturn, 1) := by decide +kernel
theorem dX2_put_0 : decode cX2_put 0 = .ok (.iload_n 1, 1) := by decide +kernel
theorem dX2_put_1 : decode cX2_put 1 = .ok (.ifCond .lt 12, 3) := by decide +kernel
theorem dX2_put_4 : decode cX2_put 4 = .ok (.iload_n 1, 1) := by decide +kernel
theorem dX2_put_5 : decode cX2_put 5 = .ok (.aload_n 0, 1) := by decide +kernel
theorem dX2_put_6 : decode cX2_put 6 = .ok (.getfield 9, 3) := by decide +kernel
theorem dX2_put_9 : decode cX2_put 9 = .ok (.arraylength, 1) := by decide +kernel
theorem dX2_put_10 : decode cX2_put 10 = .ok (.if_icmp .lt 4, 3) := by decide +kernel
theorem dX2_put_13 : decode cX2_put 13 = .ok (.return_, 1) := by decide +kernel
theorem dX2_put_14 : decode cX2_put 14 = .ok (.aload_n 0, 1) := by decide +kernel
theorem dX2_put_15 : decode cX2_put 15 = .ok (.getfield 19, 3) := by decide +kernel
theorem dX2_put_18 : decode cX2_put 18 = .ok (.tableswitch 64 0 2 #[26, 39, 52], 26) := by decide +kernel
theorem dX2_put_44 : decode cX2_put 44 = .ok (.aload_n 0, 1) := by decide +kernel
theorem dX2_put_45 : decode cX2_put 45 = .ok (.getfield 9, 3) := by decide +kernel
theorem dX2_put_48 : decode cX2_put 48 = .ok (.iload_n 1, 1) := by decide +kernel
theorem dX2_put_49 : decode cX2_put 49 = .ok (.lload_n 2, 1) := by decide +kernel
theorem dX2_put_50 : decode cX2_put 50 = .ok (.l2i, 1) := by decide +kernel
theorem dX2_put_51 : decode cX2_put 51 = .ok (.i2b, 1) := by decide +kernel
theorem dX2_put_52 : decode cX2_put 52 = .ok (.i2l, 1) := by decide +kernel
theorem dX2_put_53 : decode cX2_put 53 = .ok (.lastore, 1) := by decide +kernel
theorem dX2_put_54 : decode cX2_put 54 = .ok (.goto 35, 3) := by decide +kernel
theorem dX2_put_57 : decode cX2_put 57 = .ok (.aload_n 0, 1) := by decide +kernel
theorem dX2_put_58 : decode cX2_put 58 = .ok (.getfield 9, 3) := by decide +kernel
theorem dX2_put_61 : decode cX2_put 61 = .ok (.iload_n 1, 1) := by decide +kernel
theorem dX2_put_62 : decode cX2_put 62 = .ok (.lload_n 2, 1) := by decide +kernel
theorem dX2_put_63 : decode cX2_put 63 = .ok (.l2i, 1) := by decide +kernel
theorem dX2_put_64 : decode cX2_put 64 = .ok (.i2s, 1) := by decide +kernel
theorem dX2_put_65 : decode cX2_put 65 = .ok (.i2l, 1) := by decide +kernel
theorem dX2_put_66 : decode cX2_put 66 = .ok (.lastore, 1) := by decide +kernel
theorem dX2_put_67 : decode cX2_put 67 = .ok (.goto 22, 3) := by decide +kernel
theorem dX2_put_70 : decode cX2_put 70 = .ok (.aload_n 0, 1) := by decide +kernel
theorem dX2_put_71 : decode cX2_put 71 = .ok (.getfield 9, 3) := by decide +kernel
theorem dX2_put_74 : decode cX2_put 74 = .ok (.iload_n 1, 1) := by decide +kernel
theorem dX2_put_75 : decode cX2_put 75 = .ok (.lload_n 2, 1) := by decide +kernel
theorem dX2_put_76 : decode cX2_put 76 = .ok (.l2i, 1) := by decide +kernel
theorem dX2_put_77 : decode cX2_put 77 = .ok (.i2l, 1) := by decide +kernel
theorem dX2_put_78 : decode cX2_put 78 = .ok (.lastore, 1) := by decide +kernel
theorem dX2_put_79 : decode cX2_put 79 = .ok (.goto 10, 3) := by decide +kernel
theorem dX2_put_82 : decode cX2_put 82 = .ok (.aload_n 0, 1) := by decide +kernel
theorem dX2_put_83 : decode cX2_put 83 = .ok (.getfield 9, 3) := by decide +kernel
theorem dX2_put_86 : decode cX2_put 86 = .ok (.iload_n 1, 1) := by decide +kernel
theorem dX2_put_87 : decode cX2_put 87 = .ok (.lload_n 2, 1) := by decide +kernel
theorem dX2_put_88 : decode cX2_put 88 = .ok (.lastore, 1) := by decide +kernel
theorem dX2_put_89 : decode cX2_put 89 = .ok (.return_, 1) := by decide +kernel
theorem dX4_init_0 : decode cX4_init 0 = .ok (.aload_n 0, 1) := by decide +kernel
theorem dX4_init_1 : decode cX4_init 1 = .ok (.invokespecial 3, 3) := by decide +kernel
theorem dX4_init_4 : decode cX4_init 4 = .ok (.return_, 1) := by decide +kernel
theorem dX4_set_0 : decode cX4_set 0 = .ok (.aload_n 0, 1) := by decide +kernel
theorem dX4_set_1 : decode cX4_set 1 = .ok (.iload_n 1, 1) := by decide +kernel
theorem dX4_set_2 : decode cX4_set 2 = .ok (.putfield 9, 3) := by decide +kernel
theorem dX4_set_5 : decode cX4_set 5 = .ok (.aload_n 0, 1) := by decide +kernel
theorem dX4_set_6 : decode cX4_set 6 = .ok (.iload_n 2, 1) := by decide +kernel
theorem dX4_set_7 : decode cX4_set 7 = .ok (.putfield 15, 3) := by decide +kernel
theorem dX4_set_10 : decode cX4_set 10 = .ok (.aload_n 0, 1) := by decide +kernel
theorem dX4_set_11 : decode cX4_set 11 = .ok (.iload_n 3, 1) := by decide +kernel
theorem dX4_set_12 : decode cX4_set 12 = .ok (.putfield 18, 3) := by decide +kernel
theorem dX4_set_15 : decode cX4_set 15 = .ok (.aload_n 0, 1) := by decide +kernel
theorem dX4_set_16 : decode cX4_set 16 = .ok (.iload 4, 2) := by decide +kernel
theorem dX4_set_18 : decode cX4_set 18 = .ok (.putfield 21, 3) := by decide +kernel
theorem dX4_set_21 : decode cX4_set 21 = .ok (.return_, 1) := by decide +kernel
theorem dX4_feltBy_0 : decode cX4_feltBy 0 = .ok (.iload_n 1, 1) := by decide +kernel
theorem dX4_feltBy_1 : decode cX4_feltBy 1 = .ok (.ifCond .ne 27, 3) := by decide +kernel
theorem dX4_feltBy_4 : decode cX4_feltBy 4 = .ok (.aload_n 0, 1) := by decide +kernel
theorem dX4_feltBy_5 : decode cX4_feltBy 5 = .ok (.getfield 9, 3) := by decide +kernel
theorem dX4_feltBy_8 : decode cX4_feltBy 8 = .ok (.iconst 2, 1) := by decide +kernel
theorem dX4_feltBy_9 : decode cX4_feltBy 9 = .ok (.if_icmp .ne 14, 3) := by decide +kernel
theorem dX4_feltBy_12 : decode cX4_feltBy 12 = .ok (.aload_n 0, 1) := by decide +kernel
theorem dX4_feltBy_13 : decode cX4_feltBy 13 = .ok (.getfield 18, 3) := by decide +kernel
theorem dX4_feltBy_16 : decode cX4_feltBy 16 = .ok (.iconst 2, 1) := by decide +kernel
theorem dX4_feltBy_17 : decode cX4_feltBy 17 = .ok (.iload_n 2, 1) := by decide +kernel
theorem dX4_feltBy_18 : decode cX4_feltBy 18 = .ok (.imul, 1) := by decide +kernel
theorem dX4_feltBy_19 : decode cX4_feltBy 19 = .ok (.iadd, 1) := by decide +kernel
theorem dX4_feltBy_20 : decode cX4_feltBy 20 = .ok (.goto 7, 3) := by decide +kernel
theorem dX4_feltBy_23 : decode cX4_feltBy 23 = .ok (.aload_n 0, 1) := by decide +kernel
theorem dX4_feltBy_24 : decode cX4_feltBy 24 = .ok (.getfield 18, 3) := by decide +kernel
theorem dX4_feltBy_27 : decode cX4_feltBy 27 = .ok (.ireturn, 1) := by decide +kernel
theorem dX4_feltBy_28 : decode cX4_feltBy 28 = .ok (.aload_n 0, 1) := by decide +kernel
theorem dX4_feltBy_29 : decode cX4_feltBy 29 = .ok (.getfield 9, 3) := by decide +kernel
theorem dX4_feltBy_32 : decode cX4_feltBy 32 = .ok (.iconst 1, 1) := by decide +kernel
theorem dX4_feltBy_33 : decode cX4_feltBy 33 = .ok (.if_icmp .eq 16, 3) := by decide +kernel
theorem dX4_feltBy_36 : decode cX4_feltBy 36 = .ok (.aload_n 0, 1) := by decide +kernel
theorem dX4_feltBy_37 : decode cX4_feltBy 37 = .ok (.getfield 9, 3) := by decide +kernel
theorem dX4_feltBy_40 : decode cX4_feltBy 40 = .ok (.iconst 3, 1) := by decide +kernel
theorem dX4_feltBy_41 : decode cX4_feltBy 41 = .ok (.if_icmp .eq 8, 3) := by decide +kernel
theorem dX4_feltBy_44 : decode cX4_feltBy 44 = .ok (.aload_n 0, 1) := by decide +kernel
theorem dX4_feltBy_45 : decode cX4_feltBy 45 = .ok (.getfield 21, 3) := by decide +kernel
theorem dX4_feltBy_48 : decode cX4_feltBy 48 = .ok (.ireturn, 1) := by decide +kernel
theorem dX4_feltBy_49 : decode cX4_feltBy 49 = .ok (.aload_n 0, 1) := by decide +kernel
theorem dX4_feltBy_50 : decode cX4_feltBy 50 = .ok (.getfield 9, 3) := by decide +kernel
theorem dX4_feltBy_53 : decode cX4_feltBy 53 = .ok (.iconst 3, 1) := by decide +kernel
theorem dX4_feltBy_54 : decode cX4_feltBy 54 = .ok (.if_icmp .ne 19, 3) := by decide +kernel
theorem dX4_feltBy_57 : decode cX4_feltBy 57 = .ok (.iload_n 2, 1) := by decide +kernel
theorem dX4_feltBy_58 : decode cX4_feltBy 58 = .ok (.iconst 3, 1) := by decide +kernel
theorem dX4_feltBy_59 : decode cX4_feltBy 59 = .ok (.if_icmp .lt 14, 3) := by decide +kernel
theorem dX4_feltBy_62 : decode cX4_feltBy 62 = .ok (.aload_n 0, 1) := by decide +kernel
theorem dX4_feltBy_63 : decode cX4_feltBy 63 = .ok (.getfield 21, 3) := by decide +kernel
theorem dX4_feltBy_66 : decode cX4_feltBy 66 = .ok (.iload_n 2, 1) := by decide +kernel
theorem dX4_feltBy_67 : decode cX4_feltBy 67 = .ok (.iadd, 1) := by decide +kernel
theorem dX4_feltBy_68 : decode cX4_feltBy 68 = .ok (.iconst 5, 1) := by decide +kernel
theorem dX4_feltBy_69 : decode cX4_feltBy 69 = .ok (.iadd, 1) := by decide +kernel
theorem dX4_feltBy_70 : decode cX4_feltBy 70 = .ok (.goto 9, 3) := by decide +kernel
theorem dX4_feltBy_73 : decode cX4_feltBy 73 = .ok (.aload_n 0, 1) := by decide +kernel
theorem dX4_feltBy_74 : decode cX4_feltBy 74 = .ok (.getfield 21, 3) := by decide +kernel
theorem dX4_feltBy_77 : decode cX4_feltBy 77 = .ok (.iload_n 2, 1) := by decide +kernel
theorem dX4_feltBy_78 : decode cX4_feltBy 78 = .ok (.iadd, 1) := by decide +kernel
theorem dX4_feltBy_79 : decode cX4_feltBy 79 = .ok (.ireturn, 1) := by decide +kernel
theorem dX5_init_0 : decode cX5_init 0 = .ok (.aload_n 0, 1) := by decide +kernel
theorem dX5_init_1 : decode cX5_init 1 = .ok (.invokespecial 3, 3) := by decide +kernel
theorem dX5_init_4 : decode cX5_init 4 = .ok (.aload_n 0, 1) := by decide +kernel
theorem dX5_init_5 : decode cX5_init 5 = .ok (.bipush (-4), 2) := by decide +kernel
theorem dX5_init_7 : decode cX5_init 7 = .ok (.putfield 9, 3) := by decide +kernel
theorem dX5_init_10 : decode cX5_init 10 = .ok (.aload_n 0, 1) := by decide +kernel
theorem dX5_init_11 : decode cX5_init 11 = .ok (.bipush (-4), 2) := by decide +kernel
theorem dX5_init_13 : decode cX5_init 13 = .ok (.putfield 15, 3) := by decide +kernel
theorem dX5_init_16 : decode cX5_init 16 = .ok (.aload_n 0, 1) := by decide +kernel
theorem dX5_init_17 : decode cX5_init 17 = .ok (.bipush 9, 2) := by decide +kernel
theorem dX5_init_19 : decode cX5_init 19 = .ok (.newarray .int, 2) := by decide +kernel
theorem dX5_init_21 : decode cX5_init 21 = .ok (.putfield 18, 3) := by decide +kernel
theorem dX5_init_24 : decode cX5_init 24 = .ok (.return_, 1) := by decide +kernel
theorem dX5_setFrom_0 : decode cX5_setFrom 0 = .ok (.aload_n 0, 1) := by decide +kernel
theorem dX5_setFrom_1 : decode cX5_setFrom 1 = .ok (.aload_n 1, 1) := by decide +kernel
theorem dX5_setFrom_2 : decode cX5_setFrom 2 = .ok (.getfield 9, 3) := by decide +kernel
theorem dX5_setFrom_5 : decode cX5_setFrom 5 = .ok (.putfield 9, 3) := by decide +kernel
theorem dX5_setFrom_8 : decode cX5_setFrom 8 = .ok (.aload_n 0, 1) := by decide +kernel
theorem dX5_setFrom_9 : decode cX5_setFrom 9 = .ok (.aload_n 1, 1) := by decide +kernel
theorem dX5_setFrom_10 : decode cX5_setFrom 10 = .ok (.getfield 22, 3) := by decide +kernel
theorem dX5_setFrom_13 : decode cX5_setFrom 13 = .ok (.putfield 22, 3) := by decide +kernel
theorem dX5_setFrom_16 : decode cX5_setFrom 16 = .ok (.aload_n 0, 1) := by decide +kernel
theorem dX5_setFrom_17 : decode cX5_setFrom 17 = .ok (.aload_n 1, 1) := by decide +kernel
theorem dX5_setFrom_18 : decode cX5_setFrom 18 = .ok (.getfield 25, 3) := by decide +kernel
theorem dX5_setFrom_21 : decode cX5_setFrom 21 = .ok (.putfield 25, 3) := by decide +kernel
theorem dX5_setFrom_24 : decode cX5_setFrom 24 = .ok (.aload_n 0, 1) := by decide +kernel
theorem dX5_setFrom_25 : decode cX5_setFrom 25 = .ok (.aload_n 1, 1) := by decide +kernel
theorem dX5_setFrom_26 : decode cX5_setFrom 26 = .ok (.getfield 28, 3) := by decide +kernel
theorem dX5_setFrom_29 : decode cX5_setFrom 29 = .ok (.putfield 28, 3) := by decide +kernel
theorem dX5_setFrom_32 : decode cX5_setFrom 32 = .ok (.aload_n 0, 1) := by decide +kernel
theorem dX5_setFrom_33 : decode cX5_setFrom 33 = .ok (.aload_n 1, 1) := by decide +kernel
theorem dX5_setFrom_34 : decode cX5_setFrom 34 = .ok (.getfield 31, 3) := by decide +kernel
theorem dX5_setFrom_37 : decode cX5_setFrom 37 = .ok (.putfield 31, 3) := by decide +kernel
theorem dX5_setFrom_40 : decode cX5_setFrom 40 = .ok (.aload_n 1, 1) := by decide +kernel
theorem dX5_setFrom_41 : decode cX5_setFrom 41 = .ok (.getfield 18, 3) := by decide +kernel
theorem dX5_setFrom_44 : decode cX5_setFrom 44 = .ok (.iconst 0, 1) := by decide +kernel
theorem dX5_setFrom_45 : decode cX5_setFrom 45 = .ok (.aload_n 0, 1) := by decide +kernel
theorem dX5_setFrom_46 : decode cX5_setFrom 46 = .ok (.getfield 18, 3) := by decide +kernel
theorem dX5_setFrom_49 : decode cX5_setFrom 49 = .ok (.iconst 0, 1) := by decide +kernel
theorem dX5_setFrom_50 : decode cX5_setFrom 50 = .ok (.aload_n 0, 1) := by decide +kernel
theorem dX5_setFrom_51 : decode cX5_setFrom 51 = .ok (.getfield 18, 3) := by decide +kernel
theorem dX5_setFrom_54 : decode cX5_setFrom 54 = .ok (.arraylength, 1) := by decide +kernel
theorem dX5_setFrom_55 : decode cX5_setFrom 55 = .ok (.invokestatic 34, 3) := by decide +kernel
theorem dX5_setFrom_58 : decode cX5_setFrom 58 = .ok (.return_, 1) := by decide +kernel
theorem dX5_hasNew_0 : decode cX5_hasNew 0 = .ok (.aload_n 0, 1) := by decide +kernel
theorem dX5_hasNew_1 : decode cX5_hasNew 1 = .ok (.iload_n 1, 1) := by decide +kernel
theorem dX5_hasNew_2 : decode cX5_hasNew 2 = .ok (.putfield 9, 3) := by decide +kernel
theorem dX5_hasNew_5 : decode cX5_hasNew 5 = .ok (.aload_n 0, 1) := by decide +kernel
theorem dX5_hasNew_6 : decode cX5_hasNew 6 = .ok (.iconst 0, 1) := by decide +kernel
theorem dX5_hasNew_7 : decode cX5_hasNew 7 = .ok (.putfield 22, 3) := by decide +kernel
theorem dX5_hasNew_10 : decode cX5_hasNew 10 = .ok (.return_, 1) := by decide +kernel
theorem dX5_setOut_0 : decode cX5_setOut 0 = .ok (.aload_n 0, 1) := by decide +kernel
theorem dX5_setOut_1 : decode cX5_setOut 1 = .ok (.bipush (-4), 2) := by decide +kernel
theorem dX5_setOut_3 : decode cX5_setOut 3 = .ok (.invokevirtual 40, 3) := by decide +kernel
theorem dX5_setOut_6 : decode cX5_setOut 6 = .ok (.aload_n 0, 1) := by decide +kernel
theorem dX5_setOut_7 : decode cX5_setOut 7 = .ok (.iconst 0, 1) := by decide +kernel
theorem dX5_setOut_8 : decode cX5_setOut 8 = .ok (.putfield 25, 3) := by decide +kernel
theorem dX5_setOut_11 : decode cX5_setOut 11 = .ok (.aload_n 0, 1) := by decide +kernel
theorem dX5_setOut_12 : decode cX5_setOut 12 = .ok (.iconst 0, 1) := by decide +kernel
theorem dX5_setOut_13 : decode cX5_setOut 13 = .ok (.putfield 28, 3) := by decide +kernel
theorem dX5_setOut_16 : decode cX5_setOut 16 = .ok (.return_, 1) := by decide +kernel
theorem dX6_init_0 : decode cX6_init 0 = .ok (.aload_n 0, 1) := by decide +kernel
theorem dX6_init_1 : decode cX6_init 1 = .ok (.invokespecial 3, 3) := by decide +kernel
theorem dX6_init_4 : decode cX6_init 4 = .ok (.aload_n 0, 1) := by decide +kernel
theorem dX6_init_5 : decode cX6_init 5 = .ok (.new 9, 3) := by decide +kernel
theorem dX6_init_8 : decode cX6_init 8 = .ok (.dup, 1) := by decide +kernel
theorem dX6_init_9 : decode cX6_init 9 = .ok (.invokespecial 11, 3) := by decide +kernel
theorem dX6_init_12 : decode cX6_init 12 = .ok (.putfield 12, 3) := by decide +kernel
theorem dX6_init_15 : decode cX6_init 15 = .ok (.aload_n 0, 1) := by decide +kernel
theorem dX6_init_16 : decode cX6_init 16 = .ok (.new 18, 3) := by decide +kernel
theorem dX6_init_19 : decode cX6_init 19 = .ok (.dup, 1) := by decide +kernel
theorem dX6_init_20 : decode cX6_init 20 = .ok (.invokespecial 20, 3) := by decide +kernel
theorem dX6_init_23 : decode cX6_init 23 = .ok (.putfield 21, 3) := by decide +kernel
theorem dX6_init_26 : decode cX6_init 26 = .ok (.aload_n 0, 1) := by decide +kernel
theorem dX6_init_27 : decode cX6_init 27 = .ok (.bipush 8, 2) := by decide +kernel
theorem dX6_init_29 : decode cX6_init 29 = .ok (.anewarray 18, 3) := by decide +kernel
theorem dX6_init_32 : decode cX6_init 32 = .ok (.putfield 25, 3) := by decide +kernel
theorem dX6_init_35 : decode cX6_init 35 = .ok (.iconst 0, 1) := by decide +kernel
theorem dX6_init_36 : decode cX6_init 36 = .ok (.istore_n 1, 1) := by decide +kernel
theorem dX6_init_37 : decode cX6_init 37 = .ok (.iload_n 1, 1) := by decide +kernel
theorem dX6_init_38 : decode cX6_init 38 = .ok (.aload_n 0, 1) := by decide +kernel
theorem dX6_init_39 : decode cX6_init 39 = .ok (.getfield 25, 3) := by decide +kernel
theorem dX6_init_42 : decode cX6_init 42 = .ok (.arraylength, 1) := by decide +kernel
theorem dX6_init_43 : decode cX6_init 43 = .ok (.if_icmp .ge 22, 3) := by decide +kernel
theorem dX6_init_46 : decode cX6_init 46 = .ok (.aload_n 0, 1) := by decide +kernel
theorem dX6_init_47 : decode cX6_init 47 = .ok (.getfield 25, 3) := by decide +kernel
theorem dX6_init_50 : decode cX6_init 50 = .ok (.iload_n 1, 1) := by decide +kernel
theorem dX6_init_51 : decode cX6_init 51 = .ok (.new 18, 3) := by decide +kernel
theorem dX6_init_54 : decode cX6_init 54 = .ok (.dup, 1) := by decide +kernel
theorem dX6_init_55 : decode cX6_init 55 = .ok (.invokespecial 20, 3) := by decide +kernel
theorem dX6_init_58 : decode cX6_init 58 = .ok (.aastore, 1) := by decide +kernel
theorem dX6_init_59 : decode cX6_init 59 = .ok (.iinc 1 1, 3) := by decide +kernel
theorem dX6_init_62 : decode cX6_init 62 = .ok (.goto (-25), 3) := by decide +kernel
theorem dX6_init_65 : decode cX6_init 65 = .ok (.return_, 1) := by decide +kernel
theorem dX6_setFrom_0 : decode cX6_setFrom 0 = .ok (.aload_n 0, 1) := by decide +kernel
theorem dX6_setFrom_1 : decode cX6_setFrom 1 = .ok (.getfield 12, 3) := by decide +kernel
theorem dX6_setFrom_4 : decode cX6_setFrom 4 = .ok (.aload_n 1, 1) := by decide +kernel
theorem dX6_setFrom_5 : decode cX6_setFrom 5 = .ok (.getfield 12, 3) := by decide +kernel
theorem dX6_setFrom_8 : decode cX6_setFrom 8 = .ok (.invokevirtual 29, 3) := by decide +kernel
theorem dX6_setFrom_11 : decode cX6_setFrom 11 = .ok (.aload_n 0, 1) := by decide +kernel
theorem dX6_setFrom_12 : decode cX6_setFrom 12 = .ok (.getfield 21, 3) := by decide +kernel
theorem dX6_setFrom_15 : decode cX6_setFrom 15 = .ok (.aload_n 1, 1) := by decide +kernel
theorem dX6_setFrom_16 : decode cX6_setFrom 16 = .ok (.getfield 21, 3) := by decide +kernel
theorem dX6_setFrom_19 : decode cX6_setFrom 19 = .ok (.invokevirtual 33, 3) := by decide +kernel
theorem dX6_setFrom_22 : decode cX6_setFrom 22 = .ok (.aload_n 0, 1) := by decide +kernel
theorem dX6_setFrom_23 : decode cX6_setFrom 23 = .ok (.aload_n 1, 1) := by decide +kernel
theorem dX6_setFrom_24 : decode cX6_setFrom 24 = .ok (.getfield 36, 3) := by decide +kernel
theorem dX6_setFrom_27 : decode cX6_setFrom 27 = .ok (.putfield 36, 3) := by decide +kernel
theorem dX6_setFrom_30 : decode cX6_setFrom 30 = .ok (.iconst 0, 1) := by decide +kernel
theorem dX6_setFrom_31 : decode cX6_setFrom 31 = .ok (.istore_n 2, 1) := by decide +kernel
theorem dX6_setFrom_32 : decode cX6_setFrom 32 = .ok (.iload_n 2, 1) := by decide +kernel
theorem dX6_setFrom_33 : decode cX6_setFrom 33 = .ok (.aload_n 0, 1) := by decide +kernel
theorem dX6_setFrom_34 : decode cX6_setFrom 34 = .ok (.getfield 36, 3) := by decide +kernel
theorem dX6_setFrom_37 : decode cX6_setFrom 37 = .ok (.if_icmp .ge 24, 3) := by decide +kernel
theorem dX6_setFrom_40 : decode cX6_setFrom 40 = .ok (.aload_n 0, 1) := by decide +kernel
theorem dX6_setFrom_41 : decode cX6_setFrom 41 = .ok (.getfield 25, 3) := by decide +kernel
theorem dX6_setFrom_44 : decode cX6_setFrom 44 = .ok (.iload_n 2, 1) := by decide +kernel
theorem dX6_setFrom_45 : decode cX6_setFrom 45 = .ok (.aaload, 1) := by decide +kernel
theorem dX6_setFrom_46 : decode cX6_setFrom 46 = .ok (.aload_n 1, 1) := by decide +kernel
theorem dX6_setFrom_47 : decode cX6_setFrom 47 = .ok (.getfield 25, 3) := by decide +kernel
theorem dX6_setFrom_50 : decode cX6_setFrom 50 = .ok (.iload_n 2, 1) := by decide +kernel
theorem dX6_setFrom_51 : decode cX6_setFrom 51 = .ok (.aaload, 1) := by decide +kernel
theorem dX6_setFrom_52 : decode cX6_setFrom 52 = .ok (.invokevirtual 33, 3) := by decide +kernel
theorem dX6_setFrom_55 : decode cX6_setFrom 55 = .ok (.iinc 2 1, 3) := by decide +kernel
theorem dX6_setFrom_58 : decode cX6_setFrom 58 = .ok (.goto (-26), 3) := by decide +kernel
theorem dX6_setFrom_61 : decode cX6_setFrom 61 = .ok (.return_, 1) := by decide +kernel
theorem dX6_remember_0 : decode cX6_remember 0 = .ok (.aload_n 0, 1) := by decide +kernel
theorem dX6_remember_1 : decode cX6_remember 1 = .ok (.getfield 36, 3) := by decide +kernel
theorem dX6_remember_4 : decode cX6_remember 4 = .ok (.aload_n 0, 1) := by decide +kernel
theorem dX6_remember_5 : decode cX6_remember 5 = .ok (.getfield 25, 3) := by decide +kernel
theorem dX6_remember_8 : decode cX6_remember 8 = .ok (.arraylength, 1) := by decide +kernel
theorem dX6_remember_9 : decode cX6_remember 9 = .ok (.if_icmp .lt 7, 3) := by decide +kernel
theorem dX6_remember_12 : decode cX6_remember 12 = .ok (.aload_n 0, 1) := by decide +kernel
theorem dX6_remember_13 : decode cX6_remember 13 = .ok (.invokevirtual 40, 3) := by decide +kernel
theorem dX6_remember_16 : decode cX6_remember 16 = .ok (.aload_n 0, 1) := by decide +kernel
theorem dX6_remember_17 : decode cX6_remember 17 = .ok (.getfield 25, 3) := by decide +kernel
theorem dX6_remember_20 : decode cX6_remember 20 = .ok (.aload_n 0, 1) := by decide +kernel
theorem dX6_remember_21 : decode cX6_remember 21 = .ok (.getfield 36, 3) := by decide +kernel
theorem dX6_remember_24 : decode cX6_remember 24 = .ok (.aaload, 1) := by decide +kernel
theorem dX6_remember_25 : decode cX6_remember 25 = .ok (.aload_n 0, 1) := by decide +kernel
theorem dX6_remember_26 : decode cX6_remember 26 = .ok (.getfield 21, 3) := by decide +kernel
theorem dX6_remember_29 : decode cX6_remember 29 = .ok (.invokevirtual 33, 3) := by decide +kernel
theorem dX6_remember_32 : decode cX6_remember 32 = .ok (.aload_n 0, 1) := by decide +kernel
theorem dX6_remember_33 : decode cX6_remember 33 = .ok (.dup, 1) := by decide +kernel
theorem dX6_remember_34 : decode cX6_remember 34 = .ok (.getfield 36, 3) := by decide +kernel
theorem dX6_remember_37 : decode cX6_remember 37 = .ok (.iconst 1, 1) := by decide +kernel
theorem dX6_remember_38 : decode cX6_remember 38 = .ok (.iadd, 1) := by decide +kernel
theorem dX6_remember_39 : decode cX6_remember 39 = .ok (.putfield 36, 3) := by decide +kernel
theorem dX6_remember_42 : decode cX6_remember 42 = .ok (.return_, 1) := by decide +kernel
theorem dX6_loseOldest_0 : decode cX6_loseOldest 0 = .ok (.aload_n 0, 1) := by decide +kernel
theorem dX6_loseOldest_1 : decode cX6_loseOldest 1 = .ok (.getfield 25, 3) := by decide +kernel
theorem dX6_loseOldest_4 : decode cX6_loseOldest 4 = .ok (.iconst 0, 1) := by decide +kernel
theorem dX6_loseOldest_5 : decode cX6_loseOldest 5 = .ok (.aaload, 1) := by decide +kernel
theorem dX6_loseOldest_6 : decode cX6_loseOldest 6 = .ok (.astore_n 1, 1) := by decide +kernel
theorem dX6_loseOldest_7 : decode cX6_loseOldest 7 = .ok (.iconst 1, 1) := by decide +kernel
theorem dX6_loseOldest_8 : decode cX6_loseOldest 8 = .ok (.istore_n 2, 1) := by decide +kernel
theorem dX6_loseOldest_9 : decode cX6_loseOldest 9 = .ok (.iload_n 2, 1) := by decide +kernel
theorem dX6_loseOldest_10 : decode cX6_loseOldest 10 = .ok (.aload_n 0, 1) := by decide +kernel
theorem dX6_loseOldest_11 : decode cX6_loseOldest 11 = .ok (.getfield 25, 3) := by decide +kernel
theorem dX6_loseOldest_14 : decode cX6_loseOldest 14 = .ok (.arraylength, 1) := by decide +kernel
theorem dX6_loseOldest_15 : decode cX6_loseOldest 15 = .ok (.if_icmp .ge 23, 3) := by decide +kernel
theorem dX6_loseOldest_18 : decode cX6_loseOldest 18 = .ok (.aload_n 0, 1) := by decide +kernel
theorem dX6_loseOldest_19 : decode cX6_loseOldest 19 = .ok (.getfield 25, 3) := by decide +kernel
theorem dX6_loseOldest_22 : decode cX6_loseOldest 22 = .ok (.iload_n 2, 1) := by decide +kernel
theorem dX6_loseOldest_23 : decode cX6_loseOldest 23 = .ok (.iconst 1, 1) := by decide +kernel
theorem dX6_loseOldest_24 : decode cX6_loseOldest 24 = .ok (.isub, 1) := by decide +kernel
theorem dX6_loseOldest_25 : decode cX6_loseOldest 25 = .ok (.aload_n 0, 1) := by decide +kernel
theorem dX6_loseOldest_26 : decode cX6_loseOldest 26 = .ok (.getfield 25, 3) := by decide +kernel
theorem dX6_loseOldest_29 : decode cX6_loseOldest 29 = .ok (.iload_n 2, 1) := by decide +kernel
theorem dX6_loseOldest_30 : decode cX6_loseOldest 30 = .ok (.aaload, 1) := by decide +kernel
theorem dX6_loseOldest_31 : decode cX6_loseOldest 31 = .ok (.aastore, 1) := by decide +kernel
theorem dX6_loseOldest_32 : decode cX6_loseOldest 32 = .ok (.iinc 2 1, 3) := by decide +kernel
theorem dX6_loseOldest_35 : decode cX6_loseOldest 35 = .ok (.goto (-26), 3) := by decide +kernel
theorem dX6_loseOldest_38 : decode cX6_loseOldest 38 = .ok (.aload_n 0, 1) := by decide +kernel
theorem dX6_loseOldest_39 : decode cX6_loseOldest 39 = .ok (.getfield 25, 3) := by decide +kernel
theorem dX6_loseOldest_42 : decode cX6_loseOldest 42 = .ok (.aload_n 0, 1) := by decide +kernel
theorem dX6_loseOldest_43 : decode cX6_loseOldest 43 = .ok (.getfield 25, 3) := by decide +kernel
theorem dX6_loseOldest_46 : decode cX6_loseOldest 46 = .ok (.arraylength, 1) := by decide +kernel
theorem dX6_loseOldest_47 : decode cX6_loseOldest 47 = .ok (.iconst 1, 1) := by decide +kernel
theorem dX6_loseOldest_48 : decode cX6_loseOldest 48 = .ok (.isub, 1) := by decide +kernel
theorem dX6_loseOldest_49 : decode cX6_loseOldest 49 = .ok (.aload_n 1, 1) := by decide +kernel
theorem dX6_loseOldest_50 : decode cX6_loseOldest 50 = .ok (.aastore, 1) := by decide +kernel
theorem dX6_loseOldest_51 : decode cX6_loseOldest 51 = .ok (.aload_n 0, 1) := by decide +kernel
theorem dX6_loseOldest_52 : decode cX6_loseOldest 52 = .ok (.aload_n 0, 1) := by decide +kernel
theorem dX6_loseOldest_53 : decode cX6_loseOldest 53 = .ok (.getfield 25, 3) := by decide +kernel
theorem dX6_loseOldest_56 : decode cX6_loseOldest 56 = .ok (.arraylength, 1) := by decide +kernel
theorem dX6_loseOldest_57 : decode cX6_loseOldest 57 = .ok (.iconst 1, 1) := by decide +kernel
theorem dX6_loseOldest_58 : decode cX6_loseOldest 58 = .ok (.isub, 1) := by decide +kernel
theorem dX6_loseOldest_59 : decode cX6_loseOldest 59 = .ok (.putfield 36, 3) := by decide +kernel
theorem dX6_loseOldest_62 : decode cX6_loseOldest 62 = .ok (.return_, 1) := by decide +kernel
theorem dX6_stepBack_0 : decode cX6_stepBack 0 = .ok (.aload_n 0, 1) := by decide +kernel
theorem dX6_stepBack_1 : decode cX6_stepBack 1 = .ok (.getfield 36, 3) := by decide +kernel
theorem dX6_stepBack_4 : decode cX6_stepBack 4 = .ok (.ifCond .le 29, 3) := by decide +kernel
theorem dX6_stepBack_7 : decode cX6_stepBack 7 = .ok (.aload_n 0, 1) := by decide +kernel
theorem dX6_stepBack_8 : decode cX6_stepBack 8 = .ok (.dup, 1) := by decide +kernel
theorem dX6_stepBack_9 : decode cX6_stepBack 9 = .ok (.getfield 36, 3) := by decide +kernel
theorem dX6_stepBack_12 : decode cX6_stepBack 12 = .ok (.iconst 1, 1) := by decide +kernel
theorem dX6_stepBack_13 : decode cX6_stepBack 13 = .ok (.isub, 1) := by decide +kernel
theorem dX6_stepBack_14 : decode cX6_stepBack 14 = .ok (.putfield 36, 3) := by decide +kernel
theorem dX6_stepBack_17 : decode cX6_stepBack 17 = .ok (.aload_n 0, 1) := by decide +kernel
theorem dX6_stepBack_18 : decode cX6_stepBack 18 = .ok (.getfield 21, 3) := by decide +kernel
theorem dX6_stepBack_21 : decode cX6_stepBack 21 = .ok (.aload_n 0, 1) := by decide +kernel
theorem dX6_stepBack_22 : decode cX6_stepBack 22 = .ok (.getfield 25, 3) := by decide +kernel
theorem dX6_stepBack_25 : decode cX6_stepBack 25 = .ok (.aload_n 0, 1) := by decide +kernel
theorem dX6_stepBack_26 : decode cX6_stepBack 26 = .ok (.getfield 36, 3) := by decide +kernel
theorem dX6_stepBack_29 : decode cX6_stepBack 29 = .ok (.aaload, 1) := by decide +kernel
theorem dX6_stepBack_30 : decode cX6_stepBack 30 = .ok (.invokevirtual 33, 3) := by decide +kernel
theorem dX6_stepBack_33 : decode cX6_stepBack 33 = .ok (.return_, 1) := by decide +kernel
theorem dX1_init_0 : decode cX1_init 0 = .ok (.aload_n 0, 1) := by decide +kernel
theorem dX1_init_1 : decode cX1_init 1 = .ok (.invokespecial 3, 3) := by decide +kernel
theorem dX1_init_4 : decode cX1_init 4 = .ok (.aload_n 0, 1) := by decide +kernel
theorem dX1_init_5 : decode cX1_init 5 = .ok (.bipush 10, 2) := by decide +kernel
theorem dX1_init_7 : decode cX1_init 7 = .ok (.anewarray 9, 3) := by decide +kernel
theorem dX1_init_10 : decode cX1_init 10 = .ok (.putfield 11, 3) := by decide +kernel
theorem dX1_init_13 : decode cX1_init 13 = .ok (.aload_n 0, 1) := by decide +kernel
theorem dX1_init_14 : decode cX1_init 14 = .ok (.bipush 9, 2) := by decide +kernel
theorem dX1_init_16 : decode cX1_init 16 = .ok (.newarray .int, 2) := by decide +kernel
theorem dX1_init_18 : decode cX1_init 18 = .ok (.putfield 17, 3) := by decide +kernel
theorem dX1_init_21 : decode cX1_init 21 = .ok (.aload_n 0, 1) := by decide +kernel
theorem dX1_init_22 : decode cX1_init 22 = .ok (.bipush 9, 2) := by decide +kernel
theorem dX1_init_24 : decode cX1_init 24 = .ok (.newarray .int, 2) := by decide +kernel
theorem dX1_init_26 : decode cX1_init 26 = .ok (.putfield 21, 3) := by decide +kernel
theorem dX1_init_29 : decode cX1_init 29 = .ok (.aload_n 0, 1) := by decide +kernel
theorem dX1_init_30 : decode cX1_init 30 = .ok (.bipush 99, 2) := by decide +kernel
theorem dX1_init_32 : decode cX1_init 32 = .ok (.putfield 24, 3) := by decide +kernel
theorem dX1_init_35 : decode cX1_init 35 = .ok (.aload_n 0, 1) := by decide +kernel
theorem dX1_init_36 : decode cX1_init 36 = .ok (.bipush (-4), 2) := by decide +kernel
theorem dX1_init_38 : decode cX1_init 38 = .ok (.putfield 28, 3) := by decide +kernel
theorem dX1_init_41 : decode cX1_init 41 = .ok (.iconst 0, 1) := by decide +kernel
theorem dX1_init_42 : decode cX1_init 42 = .ok (.istore_n 1, 1) := by decide +kernel
theorem dX1_init_43 : decode cX1_init 43 = .ok (.iload_n 1, 1) := by decide +kernel
theorem dX1_init_44 : decode cX1_init 44 = .ok (.aload_n 0, 1) := by decide +kernel
theorem dX1_init_45 : decode cX1_init 45 = .ok (.getfield 11, 3) := by decide +kernel
theorem dX1_init_48 : decode cX1_init 48 = .ok (.arraylength, 1) := by decide +kernel
theorem dX1_init_49 : decode cX1_init 49 = .ok (.if_icmp .ge 22, 3) := by decide +kernel
theorem dX1_init_52 : decode cX1_init 52 = .ok (.aload_n 0, 1) := by decide +kernel
theorem dX1_init_53 : decode cX1_init 53 = .ok (.getfield 11, 3) := by decide +kernel
theorem dX1_init_56 : decode cX1_init 56 = .ok (.iload_n 1, 1) := by decide +kernel
theorem dX1_init_57 : decode cX1_init 57 = .ok (.new 9, 3) := by decide +kernel
theorem dX1_init_60 : decode cX1_init 60 = .ok (.dup, 1) := by decide +kernel
theorem dX1_init_61 : decode cX1_init 61 = .ok (.invokespecial 31, 3) := by decide +kernel
theorem dX1_init_64 : decode cX1_init 64 = .ok (.aastore, 1) := by decide +kernel
theorem dX1_init_65 : decode cX1_init 65 = .ok (.iinc 1 1, 3) := by decide +kernel
theorem dX1_init_68 : decode cX1_init 68 = .ok (.goto (-25), 3) := by decide +kernel
theorem dX1_init_71 : decode cX1_init 71 = .ok (.return_, 1) := by decide +kernel
theorem dX1_setFrom_0 : decode cX1_setFrom 0 = .ok (.iconst 0, 1) := by decide +kernel
theorem dX1_setFrom_1 : decode cX1_setFrom 1 = .ok (.istore_n 2, 1) := by decide +kernel
theorem dX1_setFrom_2 : decode cX1_setFrom 2 = .ok (.iload_n 2, 1) := by decide +kernel
theorem dX1_setFrom_3 : decode cX1_setFrom 3 = .ok (.aload_n 0, 1) := by decide +kernel
theorem dX1_setFrom_4 : decode cX1_setFrom 4 = .ok (.getfield 11, 3) := by decide +kernel
theorem dX1_setFrom_7 : decode cX1_setFrom 7 = .ok (.arraylength, 1) := by decide +kernel
theorem dX1_setFrom_8 : decode cX1_setFrom 8 = .ok (.if_icmp .ge 41, 3) := by decide +kernel
theorem dX1_setFrom_11 : decode cX1_setFrom 11 = .ok (.aload_n 1, 1) := by decide +kernel
theorem dX1_setFrom_12 : decode cX1_setFrom 12 = .ok (.getfield 11, 3) := by decide +kernel
theorem dX1_setFrom_15 : decode cX1_setFrom 15 = .ok (.iload_n 2, 1) := by decide +kernel
theorem dX1_setFrom_16 : decode cX1_setFrom 16 = .ok (.aaload, 1) := by decide +kernel
theorem dX1_setFrom_17 : decode cX1_setFrom 17 = .ok (.astore_n 3, 1) := by decide +kernel
theorem dX1_setFrom_18 : decode cX1_setFrom 18 = .ok (.aload_n 0, 1) := by decide +kernel
theorem dX1_setFrom_19 : decode cX1_setFrom 19 = .ok (.getfield 11, 3) := by decide +kernel
theorem dX1_setFrom_22 : decode cX1_setFrom 22 = .ok (.iload_n 2, 1) := by decide +kernel
theorem dX1_setFrom_23 : decode cX1_setFrom 23 = .ok (.aaload, 1) := by decide +kernel
theorem dX1_setFrom_24 : decode cX1_setFrom 24 = .ok (.aload_n 3, 1) := by decide +kernel
theorem dX1_setFrom_25 : decode cX1_setFrom 25 = .ok (.getfield 32, 3) := by decide +kernel
theorem dX1_setFrom_28 : decode cX1_setFrom 28 = .ok (.aload_n 3, 1) := by decide +kernel
theorem dX1_setFrom_29 : decode cX1_setFrom 29 = .ok (.getfield 35, 3) := by decide +kernel
theorem dX1_setFrom_32 : decode cX1_setFrom 32 = .ok (.aload_n 3, 1) := by decide +kernel
theorem dX1_setFrom_33 : decode cX1_setFrom 33 = .ok (.getfield 38, 3) := by decide +kernel
theorem dX1_setFrom_36 : decode cX1_setFrom 36 = .ok (.aload_n 3, 1) := by decide +kernel
theorem dX1_setFrom_37 : decode cX1_setFrom 37 = .ok (.getfield 41, 3) := by decide +kernel
theorem dX1_setFrom_40 : decode cX1_setFrom 40 = .ok (.invokevirtual 44, 3) := by decide +kernel
theorem dX1_setFrom_43 : decode cX1_setFrom 43 = .ok (.iinc 2 1, 3) := by decide +kernel
theorem dX1_setFrom_46 : decode cX1_setFrom 46 = .ok (.goto (-44), 3) := by decide +kernel
theorem dX1_setFrom_49 : decode cX1_setFrom 49 = .ok (.aload_n 0, 1) := by decide +kernel
theorem dX1_setFrom_50 : decode cX1_setFrom 50 = .ok (.aload_n 1, 1) := by decide +kernel
theorem dX1_setFrom_51 : decode cX1_setFrom 51 = .ok (.getfield 48, 3) := by decide +kernel
theorem dX1_setFrom_54 : decode cX1_setFrom 54 = .ok (.putfield 48, 3) := by decide +kernel
theorem dX1_setFrom_57 : decode cX1_setFrom 57 = .ok (.aload_n 1, 1) := by decide +kernel
theorem dX1_setFrom_58 : decode cX1_setFrom 58 = .ok (.getfield 17, 3) := by decide +kernel
theorem dX1_setFrom_61 : decode cX1_setFrom 61 = .ok (.iconst 0, 1) := by decide +kernel
theorem dX1_setFrom_62 : decode cX1_setFrom 62 = .ok (.aload_n 0, 1) := by decide +kernel
theorem dX1_setFrom_63 : decode cX1_setFrom 63 = .ok (.getfield 17, 3) := by decide +kernel
theorem dX1_setFrom_66 : decode cX1_setFrom 66 = .ok (.iconst 0, 1) := by decide +kernel
theorem dX1_setFrom_67 : decode cX1_setFrom 67 = .ok (.aload_n 0, 1) := by decide +kernel
theorem dX1_setFrom_68 : decode cX1_setFrom 68 = .ok (.getfield 17, 3) := by decide +kernel
theorem dX1_setFrom_71 : decode cX1_setFrom 71 = .ok (.arraylength, 1) := by decide +kernel
theorem dX1_setFrom_72 : decode cX1_setFrom 72 = .ok (.invokestatic 51, 3) := by decide +kernel
theorem dX1_setFrom_75 : decode cX1_setFrom 75 = .ok (.aload_n 1, 1) := by decide +kernel
theorem dX1_setFrom_76 : decode cX1_setFrom 76 = .ok (.getfield 21, 3) := by decide +kernel
theorem dX1_setFrom_79 : decode cX1_setFrom 79 = .ok (.iconst 0, 1) := by decide +kernel
theorem dX1_setFrom_80 : decode cX1_setFrom 80 = .ok (.aload_n 0, 1) := by decide +kernel
theorem dX1_setFrom_81 : decode cX1_setFrom 81 = .ok (.getfield 21, 3) := by decide +kernel
theorem dX1_setFrom_84 : decode cX1_setFrom 84 = .ok (.iconst 0, 1) := by decide +kernel
theorem dX1_setFrom_85 : decode cX1_setFrom 85 = .ok (.aload_n 0, 1) := by decide +kernel
theorem dX1_setFrom_86 : decode cX1_setFrom 86 = .ok (.getfield 21, 3) := by decide +kernel
theorem dX1_setFrom_89 : decode cX1_setFrom 89 = .ok (.arraylength, 1) := by decide +kernel
theorem dX1_setFrom_90 : decode cX1_setFrom 90 = .ok (.invokestatic 51, 3) := by decide +kernel
theorem dX1_setFrom_93 : decode cX1_setFrom 93 = .ok (.aload_n 0, 1) := by decide +kernel
theorem dX1_setFrom_94 : decode cX1_setFrom 94 = .ok (.aload_n 1, 1) := by decide +kernel
theorem dX1_setFrom_95 : decode cX1_setFrom 95 = .ok (.getfield 57, 3) := by decide +kernel
theorem dX1_setFrom_98 : decode cX1_setFrom 98 = .ok (.putfield 57, 3) := by decide +kernel
theorem dX1_setFrom_101 : decode cX1_setFrom 101 = .ok (.aload_n 0, 1) := by decide +kernel
theorem dX1_setFrom_102 : decode cX1_setFrom 102 = .ok (.aload_n 1, 1) := by decide +kernel
theorem dX1_setFrom_103 : decode cX1_setFrom 103 = .ok (.getfield 24, 3) := by decide +kernel
theorem dX1_setFrom_106 : decode cX1_setFrom 106 = .ok (.putfield 24, 3) := by decide +kernel
theorem dX1_setFrom_109 : decode cX1_setFrom 109 = .ok (.aload_n 0, 1) := by decide +kernel
theorem dX1_setFrom_110 : decode cX1_setFrom 110 = .ok (.aload_n 1, 1) := by decide +kernel
theorem dX1_setFrom_111 : decode cX1_setFrom 111 = .ok (.getfield 28, 3) := by decide +kernel
theorem dX1_setFrom_114 : decode cX1_setFrom 114 = .ok (.putfield 28, 3) := by decide +kernel
theorem dX1_setFrom_117 : decode cX1_setFrom 117 = .ok (.return_, 1) := by decide +kernel
theorem dX1_isThing_0 : decode cX1_isThing 0 = .ok (.iload_n 1, 1) := by decide +kernel
theorem dX1_isThing_1 : decode cX1_isThing 1 = .ok (.ifCond .lt 15, 3) := by decide +kernel
theorem dX1_isThing_4 : decode cX1_isThing 4 = .ok (.iload_n 1, 1) := by decide +kernel
theorem dX1_isThing_5 : decode cX1_isThing 5 = .ok (.aload_n 0, 1) := by decide +kernel
theorem dX1_isThing_6 : decode cX1_isThing 6 = .ok (.getfield 48, 3) := by decide +kernel
theorem dX1_isThing_9 : decode cX1_isThing 9 = .ok (.if_icmp .ge 7, 3) := by decide +kernel
theorem dX1_isThing_12 : decode cX1_isThing 12 = .ok (.iconst 1, 1) := by decide +kernel
theorem dX1_isThing_13 : decode cX1_isThing 13 = .ok (.goto 4, 3) := by decide +kernel
theorem dX1_isThing_16 : decode cX1_isThing 16 = .ok (.iconst 0, 1) := by decide +kernel
theorem dX1_isThing_17 : decode cX1_isThing 17 = .ok (.ireturn, 1) := by decide +kernel
theorem dX1_isPerson_0 : decode cX1_isPerson 0 = .ok (.iload_n 1, 1) := by decide +kernel
theorem dX1_isPerson_1 : decode cX1_isPerson 1 = .ok (.ifCond .lt 15, 3) := by decide +kernel
theorem dX1_isPerson_4 : decode cX1_isPerson 4 = .ok (.iload_n 1, 1) := by decide +kernel
theorem dX1_isPerson_5 : decode cX1_isPerson 5 = .ok (.aload_n 0, 1) := by decide +kernel
theorem dX1_isPerson_6 : decode cX1_isPerson 6 = .ok (.getfield 57, 3) := by decide +kernel
theorem dX1_isPerson_9 : decode cX1_isPerson 9 = .ok (.if_icmp .ge 7, 3) := by decide +kernel
theorem dX1_isPerson_12 : decode cX1_isPerson 12 = .ok (.iconst 1, 1) := by decide +kernel
theorem dX1_isPerson_13 : decode cX1_isPerson 13 = .ok (.goto 4, 3) := by decide +kernel
theorem dX1_isPerson_16 : decode cX1_isPerson 16 = .ok (.iconst 0, 1) := by decide +kernel
theorem dX1_isPerson_17 : decode cX1_isPerson 17 = .ok (.ireturn, 1) := by decide +kernel
theorem dX1_addThing_0 : decode cX1_addThing 0 = .ok (.aload_n 0, 1) := by decide +kernel
theorem dX1_addThing_1 : decode cX1_addThing 1 = .ok (.getfield 48, 3) := by decide +kernel
theorem dX1_addThing_4 : decode cX1_addThing 4 = .ok (.aload_n 0, 1) := by decide +kernel
theorem dX1_addThing_5 : decode cX1_addThing 5 = .ok (.getfield 11, 3) := by decide +kernel
theorem dX1_addThing_8 : decode cX1_addThing 8 = .ok (.arraylength, 1) := by decide +kernel
theorem dX1_addThing_9 : decode cX1_addThing 9 = .ok (.if_icmp .lt 6, 3) := by decide +kernel
theorem dX1_addThing_12 : decode cX1_addThing 12 = .ok (.bipush (-3), 2) := by decide +kernel
theorem dX1_addThing_14 : decode cX1_addThing 14 = .ok (.ireturn, 1) := by decide +kernel
theorem dX1_addThing_15 : decode cX1_addThing 15 = .ok (.aload_n 0, 1) := by decide +kernel
theorem dX1_addThing_16 : decode cX1_addThing 16 = .ok (.getfield 11, 3) := by decide +kernel
theorem dX1_addThing_19 : decode cX1_addThing 19 = .ok (.aload_n 0, 1) := by decide +kernel
theorem dX1_addThing_20 : decode cX1_addThing 20 = .ok (.getfield 48, 3) := by decide +kernel
theorem dX1_addThing_23 : decode cX1_addThing 23 = .ok (.aaload, 1) := by decide +kernel
theorem dX1_addThing_24 : decode cX1_addThing 24 = .ok (.iload_n 1, 1) := by decide +kernel
theorem dX1_addThing_25 : decode cX1_addThing 25 = .ok (.iload_n 2, 1) := by decide +kernel
theorem dX1_addThing_26 : decode cX1_addThing 26 = .ok (.iload_n 3, 1) := by decide +kernel
theorem dX1_addThing_27 : decode cX1_addThing 27 = .ok (.iload 4, 2) := by decide +kernel
theorem dX1_addThing_29 : decode cX1_addThing 29 = .ok (.invokevirtual 44, 3) := by decide +kernel
theorem dX1_addThing_32 : decode cX1_addThing 32 = .ok (.aload_n 0, 1) := by decide +kernel
theorem dX1_addThing_33 : decode cX1_addThing 33 = .ok (.dup, 1) := by decide +kernel
theorem dX1_addThing_34 : decode cX1_addThing 34 = .ok (.getfield 48, 3) := by decide +kernel
theorem dX1_addThing_37 : decode cX1_addThing 37 = .ok (.iconst 1, 1) := by decide +kernel
theorem dX1_addThing_38 : decode cX1_addThing 38 = .ok (.iadd, 1) := by decide +kernel
theorem dX1_addThing_39 : decode cX1_addThing 39 = .ok (.putfield 48, 3) := by decide +kernel
theorem dX1_addThing_42 : decode cX1_addThing 42 = .ok (.aload_n 0, 1) := by decide +kernel
theorem dX1_addThing_43 : decode cX1_addThing 43 = .ok (.getfield 48, 3) := by decide +kernel
theorem dX1_addThing_46 : decode cX1_addThing 46 = .ok (.iconst 1, 1) := by decide +kernel
theorem dX1_addThing_47 : decode cX1_addThing 47 = .ok (.isub, 1) := by decide +kernel
theorem dX1_addThing_48 : decode cX1_addThing 48 = .ok (.ireturn, 1) := by decide +kernel
theorem dX1_addPerson_0 : decode cX1_addPerson 0 = .ok (.aload_n 0, 1) := by decide +kernel
theorem dX1_addPerson_1 : decode cX1_addPerson 1 = .ok (.getfield 57, 3) := by decide +kernel
theorem dX1_addPerson_4 : decode cX1_addPerson 4 = .ok (.aload_n 0, 1) := by decide +kernel
theorem dX1_addPerson_5 : decode cX1_addPerson 5 = .ok (.getfield 17, 3) := by decide +kernel
theorem dX1_addPerson_8 : decode cX1_addPerson 8 = .ok (.arraylength, 1) := by decide +kernel
theorem dX1_addPerson_9 : decode cX1_addPerson 9 = .ok (.if_icmp .lt 6, 3) := by decide +kernel
theorem dX1_addPerson_12 : decode cX1_addPerson 12 = .ok (.bipush (-3), 2) := by decide +kernel
theorem dX1_addPerson_14 : decode cX1_addPerson 14 = .ok (.ireturn, 1) := by decide +kernel
theorem dX1_addPerson_15 : decode cX1_addPerson 15 = .ok (.aload_n 0, 1) := by decide +kernel
theorem dX1_addPerson_16 : decode cX1_addPerson 16 = .ok (.getfield 17, 3) := by decide +kernel
theorem dX1_addPerson_19 : decode cX1_addPerson 19 = .ok (.aload_n 0, 1) := by decide +kernel
theorem dX1_addPerson_20 : decode cX1_addPerson 20 = .ok (.getfield 57, 3) := by decide +kernel
theorem dX1_addPerson_23 : decode cX1_addPerson 23 = .ok (.iload_n 1, 1) := by decide +kernel
theorem dX1_addPerson_24 : decode cX1_addPerson 24 = .ok (.iastore, 1) := by decide +kernel
theorem dX1_addPerson_25 : decode cX1_addPerson 25 = .ok (.aload_n 0, 1) := by decide +kernel
theorem dX1_addPerson_26 : decode cX1_addPerson 26 = .ok (.getfield 21, 3) := by decide +kernel
theorem dX1_addPerson_29 : decode cX1_addPerson 29 = .ok (.aload_n 0, 1) := by decide +kernel
theorem dX1_addPerson_30 : decode cX1_addPerson 30 = .ok (.getfield 57, 3) := by decide +kernel
theorem dX1_addPerson_33 : decode cX1_addPerson 33 = .ok (.iload_n 2, 1) := by decide +kernel
theorem dX1_addPerson_34 : decode cX1_addPerson 34 = .ok (.iastore, 1) := by decide +kernel
theorem dX1_addPerson_35 : decode cX1_addPerson 35 = .ok (.aload 4, 2) := by decide +kernel
theorem dX1_addPerson_37 : decode cX1_addPerson 37 = .ok (.getfield 60, 3) := by decide +kernel
theorem dX1_addPerson_40 : decode cX1_addPerson 40 = .ok (.aload_n 0, 1) := by decide +kernel
theorem dX1_addPerson_41 : decode cX1_addPerson 41 = .ok (.getfield 57, 3) := by decide +kernel
theorem dX1_addPerson_44 : decode cX1_addPerson 44 = .ok (.iload_n 3, 1) := by decide +kernel
theorem dX1_addPerson_45 : decode cX1_addPerson 45 = .ok (.iastore, 1) := by decide +kernel
theorem dX1_addPerson_46 : decode cX1_addPerson 46 = .ok (.aload_n 0, 1) := by decide +kernel
theorem dX1_addPerson_47 : decode cX1_addPerson 47 = .ok (.dup, 1) := by decide +kernel
theorem dX1_addPerson_48 : decode cX1_addPerson 48 = .ok (.getfield 57, 3) := by decide +kernel
theorem dX1_addPerson_51 : decode cX1_addPerson 51 = .ok (.iconst 1, 1) := by decide +kernel
theorem dX1_addPerson_52 : decode cX1_addPerson 52 = .ok (.iadd, 1) := by decide +kernel
theorem dX1_addPerson_53 : decode cX1_addPerson 53 = .ok (.putfield 57, 3) := by decide +kernel
theorem dX1_addPerson_56 : decode cX1_addPerson 56 = .ok (.aload_n 0, 1) := by decide +kernel
theorem dX1_addPerson_57 : decode cX1_addPerson 57 = .ok (.getfield 57, 3) := by decide +kernel
theorem dX1_addPerson_60 : decode cX1_addPerson 60 = .ok (.iconst 1, 1) := by decide +kernel
theorem dX1_addPerson_61 : decode cX1_addPerson 61 = .ok (.isub, 1) := by decide +kernel
theorem dX1_addPerson_62 : decode cX1_addPerson 62 = .ok (.ireturn, 1) := by decide +kernel
theorem dX1_worthOf_0 : decode cX1_worthOf 0 = .ok (.aload_n 0, 1) := by decide +kernel
theorem dX1_worthOf_1 : decode cX1_worthOf 1 = .ok (.iload_n 1, 1) := by decide +kernel
theorem dX1_worthOf_2 : decode cX1_worthOf 2 = .ok (.invokevirtual 65, 3) := by decide +kernel
theorem dX1_worthOf_5 : decode cX1_worthOf 5 = .ok (.ifCond .eq 15, 3) := by decide +kernel
theorem dX1_worthOf_8 : decode cX1_worthOf 8 = .ok (.aload_n 0, 1) := by decide +kernel
theorem dX1_worthOf_9 : decode cX1_worthOf 9 = .ok (.getfield 11, 3) := by decide +kernel
theorem dX1_worthOf_12 : decode cX1_worthOf 12 = .ok (.iload_n 1, 1) := by decide +kernel
theorem dX1_worthOf_13 : decode cX1_worthOf 13 = .ok (.aaload, 1) := by decide +kernel
theorem dX1_worthOf_14 : decode cX1_worthOf 14 = .ok (.getfield 35, 3) := by decide +kernel
theorem dX1_worthOf_17 : decode cX1_worthOf 17 = .ok (.goto 4, 3) := by decide +kernel
theorem dX1_worthOf_20 : decode cX1_worthOf 20 = .ok (.iconst 0, 1) := by decide +kernel
theorem dX1_worthOf_21 : decode cX1_worthOf 21 = .ok (.ireturn, 1) := by decide +kernel
theorem dX1_whoHas_0 : decode cX1_whoHas 0 = .ok (.aload_n 2, 1) := by decide +kernel
theorem dX1_whoHas_1 : decode cX1_whoHas 1 = .ok (.getfield 69, 3) := by decide +kernel
theorem dX1_whoHas_4 : decode cX1_whoHas 4 = .ok (.iload_n 1, 1) := by decide +kernel
theorem dX1_whoHas_5 : decode cX1_whoHas 5 = .ok (.if_icmp .ne 6, 3) := by decide +kernel
theorem dX1_whoHas_8 : decode cX1_whoHas 8 = .ok (.bipush 8, 2) := by decide +kernel
theorem dX1_whoHas_10 : decode cX1_whoHas 10 = .ok (.ireturn, 1) := by decide +kernel
theorem dX1_whoHas_11 : decode cX1_whoHas 11 = .ok (.iconst 0, 1) := by decide +kernel
theorem dX1_whoHas_12 : decode cX1_whoHas 12 = .ok (.istore_n 3, 1) := by decide +kernel
theorem dX1_whoHas_13 : decode cX1_whoHas 13 = .ok (.iload_n 3, 1) := by decide +kernel
theorem dX1_whoHas_14 : decode cX1_whoHas 14 = .ok (.aload_n 0, 1) := by decide +kernel
theorem dX1_whoHas_15 : decode cX1_whoHas 15 = .ok (.getfield 57, 3) := by decide +kernel
theorem dX1_whoHas_18 : decode cX1_whoHas 18 = .ok (.if_icmp .ge 21, 3) := by decide +kernel
theorem dX1_whoHas_21 : decode cX1_whoHas 21 = .ok (.aload_n 2, 1) := by decide +kernel
theorem dX1_whoHas_22 : decode cX1_whoHas 22 = .ok (.getfield 60, 3) := by decide +kernel
theorem dX1_whoHas_25 : decode cX1_whoHas 25 = .ok (.iload_n 3, 1) := by decide +kernel
theorem dX1_whoHas_26 : decode cX1_whoHas 26 = .ok (.iaload, 1) := by decide +kernel
theorem dX1_whoHas_27 : decode cX1_whoHas 27 = .ok (.iload_n 1, 1) := by decide +kernel
theorem dX1_whoHas_28 : decode cX1_whoHas 28 = .ok (.if_icmp .ne 5, 3) := by decide +kernel
theorem dX1_whoHas_31 : decode cX1_whoHas 31 = .ok (.iload_n 3, 1) := by decide +kernel
theorem dX1_whoHas_32 : decode cX1_whoHas 32 = .ok (.ireturn, 1) := by decide +kernel
theorem dX1_whoHas_33 : decode cX1_whoHas 33 = .ok (.iinc 3 1, 3) := by decide +kernel
theorem dX1_whoHas_36 : decode cX1_whoHas 36 = .ok (.goto (-23), 3) := by decide +kernel
theorem dX1_whoHas_39 : decode cX1_whoHas 39 = .ok (.bipush (-4), 2) := by decide +kernel
theorem dX1_whoHas_41 : decode cX1_whoHas 41 = .ok (.ireturn, 1) := by decide +kernel
theorem dX1_isPeopled_0 : decode cX1_isPeopled 0 = .ok (.iconst 0, 1) := by decide +kernel
theorem dX1_isPeopled_1 : decode cX1_isPeopled 1 = .ok (.istore_n 2, 1) := by decide +kernel
theorem dX1_isPeopled_2 : decode cX1_isPeopled 2 = .ok (.iload_n 2, 1) := by decide +kernel
theorem dX1_isPeopled_3 : decode cX1_isPeopled 3 = .ok (.aload_n 0, 1) := by decide +kernel
theorem dX1_isPeopled_4 : decode cX1_isPeopled 4 = .ok (.getfield 57, 3) := by decide +kernel
theorem dX1_isPeopled_7 : decode cX1_isPeopled 7 = .ok (.if_icmp .ge 21, 3) := by decide +kernel
theorem dX1_isPeopled_10 : decode cX1_isPeopled 10 = .ok (.aload_n 0, 1) := by decide +kernel
theorem dX1_isPeopled_11 : decode cX1_isPeopled 11 = .ok (.getfield 17, 3) := by decide +kernel
theorem dX1_isPeopled_14 : decode cX1_isPeopled 14 = .ok (.iload_n 2, 1) := by decide +kernel
theorem dX1_isPeopled_15 : decode cX1_isPeopled 15 = .ok (.iaload, 1) := by decide +kernel
theorem dX1_isPeopled_16 : decode cX1_isPeopled 16 = .ok (.iload_n 1, 1) := by decide +kernel
theorem dX1_isPeopled_17 : decode cX1_isPeopled 17 = .ok (.if_icmp .ne 5, 3) := by decide +kernel
theorem dX1_isPeopled_20 : decode cX1_isPeopled 20 = .ok (.iconst 1, 1) := by decide +kernel
theorem dX1_isPeopled_21 : decode cX1_isPeopled 21 = .ok (.ireturn, 1) := by decide +kernel
theorem dX1_isPeopled_22 : decode cX1_isPeopled 22 = .ok (.iinc 2 1, 3) := by decide +kernel
theorem dX1_isPeopled_25 : decode cX1_isPeopled 25 = .ok (.goto (-23), 3) := by decide +kernel
theorem dX1_isPeopled_28 : decode cX1_isPeopled 28 = .ok (.iconst 0, 1) := by decide +kernel
theorem dX1_isPeopled_29 : decode cX1_isPeopled 29 = .ok (.ireturn, 1) := by decide +kernel
theorem dX1_pass_0 : decode cX1_pass 0 = .ok (.aload_n 1, 1) := by decide +kernel
theorem dX1_pass_1 : decode cX1_pass 1 = .ok (.getfield 72, 3) := by decide +kernel
theorem dX1_pass_4 : decode cX1_pass 4 = .ok (.istore_n 3, 1) := by decide +kernel
theorem dX1_pass_5 : decode cX1_pass 5 = .ok (.aload_n 0, 1) := by decide +kernel
theorem dX1_pass_6 : decode cX1_pass 6 = .ok (.aload_n 1, 1) := by decide +kernel
theorem dX1_pass_7 : decode cX1_pass 7 = .ok (.getfield 69, 3) := by decide +kernel
theorem dX1_pass_10 : decode cX1_pass 10 = .ok (.invokevirtual 65, 3) := by decide +kernel
theorem dX1_pass_13 : decode cX1_pass 13 = .ok (.ifCond .eq 9, 3) := by decide +kernel
theorem dX1_pass_16 : decode cX1_pass 16 = .ok (.aload_n 0, 1) := by decide +kernel
theorem dX1_pass_17 : decode cX1_pass 17 = .ok (.aload_n 1, 1) := by decide +kernel
theorem dX1_pass_18 : decode cX1_pass 18 = .ok (.iload_n 2, 1) := by decide +kernel
theorem dX1_pass_19 : decode cX1_pass 19 = .ok (.invokevirtual 75, 3) := by decide +kernel
theorem dX1_pass_22 : decode cX1_pass 22 = .ok (.iconst 0, 1) := by decide +kernel
theorem dX1_pass_23 : decode cX1_pass 23 = .ok (.istore 4, 2) := by decide +kernel
theorem dX1_pass_25 : decode cX1_pass 25 = .ok (.iload 4, 2) := by decide +kernel
theorem dX1_pass_27 : decode cX1_pass 27 = .ok (.aload_n 0, 1) := by decide +kernel
theorem dX1_pass_28 : decode cX1_pass 28 = .ok (.getfield 57, 3) := by decide +kernel
theorem dX1_pass_31 : decode cX1_pass 31 = .ok (.if_icmp .ge 56, 3) := by decide +kernel
theorem dX1_pass_34 : decode cX1_pass 34 = .ok (.aload_n 0, 1) := by decide +kernel
theorem dX1_pass_35 : decode cX1_pass 35 = .ok (.getfield 17, 3) := by decide +kernel
theorem dX1_pass_38 : decode cX1_pass 38 = .ok (.iload 4, 2) := by decide +kernel
theorem dX1_pass_40 : decode cX1_pass 40 = .ok (.iaload, 1) := by decide +kernel
theorem dX1_pass_41 : decode cX1_pass 41 = .ok (.aload_n 1, 1) := by decide +kernel
theorem dX1_pass_42 : decode cX1_pass 42 = .ok (.getfield 79, 3) := by decide +kernel
theorem dX1_pass_45 : decode cX1_pass 45 = .ok (.if_icmp .ne 36, 3) := by decide +kernel
theorem dX1_pass_48 : decode cX1_pass 48 = .ok (.aload_n 0, 1) := by decide +kernel
theorem dX1_pass_49 : decode cX1_pass 49 = .ok (.aload_n 1, 1) := by decide +kernel
theorem dX1_pass_50 : decode cX1_pass 50 = .ok (.getfield 69, 3) := by decide +kernel
theorem dX1_pass_53 : decode cX1_pass 53 = .ok (.invokevirtual 65, 3) := by decide +kernel
theorem dX1_pass_56 : decode cX1_pass 56 = .ok (.ifCond .eq 25, 3) := by decide +kernel
theorem dX1_pass_59 : decode cX1_pass 59 = .ok (.aload_n 0, 1) := by decide +kernel
theorem dX1_pass_60 : decode cX1_pass 60 = .ok (.aload_n 1, 1) := by decide +kernel
theorem dX1_pass_61 : decode cX1_pass 61 = .ok (.getfield 60, 3) := by decide +kernel
theorem dX1_pass_64 : decode cX1_pass 64 = .ok (.iload 4, 2) := by decide +kernel
theorem dX1_pass_66 : decode cX1_pass 66 = .ok (.iaload, 1) := by decide +kernel
theorem dX1_pass_67 : decode cX1_pass 67 = .ok (.invokevirtual 65, 3) := by decide +kernel
theorem dX1_pass_70 : decode cX1_pass 70 = .ok (.ifCond .eq 11, 3) := by decide +kernel
theorem dX1_pass_73 : decode cX1_pass 73 = .ok (.aload_n 0, 1) := by decide +kernel
theorem dX1_pass_74 : decode cX1_pass 74 = .ok (.aload_n 1, 1) := by decide +kernel
theorem dX1_pass_75 : decode cX1_pass 75 = .ok (.iload 4, 2) := by decide +kernel
theorem dX1_pass_77 : decode cX1_pass 77 = .ok (.iload_n 2, 1) := by decide +kernel
theorem dX1_pass_78 : decode cX1_pass 78 = .ok (.invokevirtual 82, 3) := by decide +kernel
theorem dX1_pass_81 : decode cX1_pass 81 = .ok (.iinc 4 1, 3) := by decide +kernel
theorem dX1_pass_84 : decode cX1_pass 84 = .ok (.goto (-59), 3) := by decide +kernel
theorem dX1_pass_87 : decode cX1_pass 87 = .ok (.aload_n 0, 1) := by decide +kernel
theorem dX1_pass_88 : decode cX1_pass 88 = .ok (.getfield 28, 3) := by decide +kernel
theorem dX1_pass_91 : decode cX1_pass 91 = .ok (.aload_n 1, 1) := by decide +kernel
theorem dX1_pass_92 : decode cX1_pass 92 = .ok (.getfield 79, 3) := by decide +kernel
theorem dX1_pass_95 : decode cX1_pass 95 = .ok (.if_icmp .ne 42, 3) := by decide +kernel
theorem dX1_pass_98 : decode cX1_pass 98 = .ok (.aload_n 0, 1) := by decide +kernel
theorem dX1_pass_99 : decode cX1_pass 99 = .ok (.aload_n 1, 1) := by decide +kernel
theorem dX1_pass_100 : decode cX1_pass 100 = .ok (.getfield 69, 3) := by decide +kernel
theorem dX1_pass_103 : decode cX1_pass 103 = .ok (.invokevirtual 65, 3) := by decide +kernel
theorem dX1_pass_106 : decode cX1_pass 106 = .ok (.ifCond .eq 31, 3) := by decide +kernel
theorem dX1_pass_109 : decode cX1_pass 109 = .ok (.aload_n 0, 1) := by decide +kernel
theorem dX1_pass_110 : decode cX1_pass 110 = .ok (.getfield 11, 3) := by decide +kernel
theorem dX1_pass_113 : decode cX1_pass 113 = .ok (.aload_n 1, 1) := by decide +kernel
theorem dX1_pass_114 : decode cX1_pass 114 = .ok (.getfield 69, 3) := by decide +kernel
theorem dX1_pass_117 : decode cX1_pass 117 = .ok (.aaload, 1) := by decide +kernel
theorem dX1_pass_118 : decode cX1_pass 118 = .ok (.iconst 0, 1) := by decide +kernel
theorem dX1_pass_119 : decode cX1_pass 119 = .ok (.aload_n 1, 1) := by decide +kernel
theorem dX1_pass_120 : decode cX1_pass 120 = .ok (.getfield 86, 3) := by decide +kernel
theorem dX1_pass_123 : decode cX1_pass 123 = .ok (.invokevirtual 89, 3) := by decide +kernel
theorem dX1_pass_126 : decode cX1_pass 126 = .ok (.bipush 10, 2) := by decide +kernel
theorem dX1_pass_128 : decode cX1_pass 128 = .ok (.if_icmp .lt 9, 3) := by decide +kernel
theorem dX1_pass_131 : decode cX1_pass 131 = .ok (.aload_n 1, 1) := by decide +kernel
theorem dX1_pass_132 : decode cX1_pass 132 = .ok (.bipush (-4), 2) := by decide +kernel
theorem dX1_pass_134 : decode cX1_pass 134 = .ok (.invokevirtual 93, 3) := by decide +kernel
theorem dX1_pass_137 : decode cX1_pass 137 = .ok (.aload_n 1, 1) := by decide +kernel
theorem dX1_pass_138 : decode cX1_pass 138 = .ok (.dup, 1) := by decide +kernel
theorem dX1_pass_139 : decode cX1_pass 139 = .ok (.getfield 79, 3) := by decide +kernel
theorem dX1_pass_142 : decode cX1_pass 142 = .ok (.iconst 1, 1) := by decide +kernel
theorem dX1_pass_143 : decode cX1_pass 143 = .ok (.iadd, 1) := by decide +kernel
theorem dX1_pass_144 : decode cX1_pass 144 = .ok (.putfield 79, 3) := by decide +kernel
theorem dX1_pass_147 : decode cX1_pass 147 = .ok (.aload_n 1, 1) := by decide +kernel
theorem dX1_pass_148 : decode cX1_pass 148 = .ok (.getfield 72, 3) := by decide +kernel
theorem dX1_pass_151 : decode cX1_pass 151 = .ok (.iload_n 3, 1) := by decide +kernel
theorem dX1_pass_152 : decode cX1_pass 152 = .ok (.isub, 1) := by decide +kernel
theorem dX1_pass_153 : decode cX1_pass 153 = .ok (.ireturn, 1) := by decide +kernel
theorem dX1_feelOneMore_0 : decode cX1_feelOneMore 0 = .ok (.aload_n 1, 1) := by decide +kernel
theorem dX1_feelOneMore_1 : decode cX1_feelOneMore 1 = .ok (.dup, 1) := by decide +kernel
theorem dX1_feelOneMore_2 : decode cX1_feelOneMore 2 = .ok (.getfield 86, 3) := by decide +kernel
theorem dX1_feelOneMore_5 : decode cX1_feelOneMore 5 = .ok (.iconst 1, 1) := by decide +kernel
theorem dX1_feelOneMore_6 : decode cX1_feelOneMore 6 = .ok (.iadd, 1) := by decide +kernel
theorem dX1_feelOneMore_7 : decode cX1_feelOneMore 7 = .ok (.putfield 86, 3) := by decide +kernel
theorem dX1_feelOneMore_10 : decode cX1_feelOneMore 10 = .ok (.aload_n 0, 1) := by decide +kernel
theorem dX1_feelOneMore_11 : decode cX1_feelOneMore 11 = .ok (.getfield 11, 3) := by decide +kernel
theorem dX1_feelOneMore_14 : decode cX1_feelOneMore 14 = .ok (.aload_n 1, 1) := by decide +kernel
theorem dX1_feelOneMore_15 : decode cX1_feelOneMore 15 = .ok (.getfield 69, 3) := by decide +kernel
theorem dX1_feelOneMore_18 : decode cX1_feelOneMore 18 = .ok (.aaload, 1) := by decide +kernel
theorem dX1_feelOneMore_19 : decode cX1_feelOneMore 19 = .ok (.astore_n 3, 1) := by decide +kernel
theorem dX1_feelOneMore_20 : decode cX1_feelOneMore 20 = .ok (.aload_n 3, 1) := by decide +kernel
theorem dX1_feelOneMore_21 : decode cX1_feelOneMore 21 = .ok (.iconst 0, 1) := by decide +kernel
theorem dX1_feelOneMore_22 : decode cX1_feelOneMore 22 = .ok (.aload_n 1, 1) := by decide +kernel
theorem dX1_feelOneMore_23 : decode cX1_feelOneMore 23 = .ok (.getfield 86, 3) := by decide +kernel
theorem dX1_feelOneMore_26 : decode cX1_feelOneMore 26 = .ok (.invokevirtual 89, 3) := by decide +kernel
theorem dX1_feelOneMore_29 : decode cX1_feelOneMore 29 = .ok (.aload_n 3, 1) := by decide +kernel
theorem dX1_feelOneMore_30 : decode cX1_feelOneMore 30 = .ok (.iconst 1, 1) := by decide +kernel
theorem dX1_feelOneMore_31 : decode cX1_feelOneMore 31 = .ok (.aload_n 1, 1) := by decide +kernel
theorem dX1_feelOneMore_32 : decode cX1_feelOneMore 32 = .ok (.getfield 86, 3) := by decide +kernel
theorem dX1_feelOneMore_35 : decode cX1_feelOneMore 35 = .ok (.invokevirtual 89, 3) := by decide +kernel
theorem dX1_feelOneMore_38 : decode cX1_feelOneMore 38 = .ok (.iload_n 2, 1) := by decide +kernel
theorem dX1_feelOneMore_39 : decode cX1_feelOneMore 39 = .ok (.imul, 1) := by decide +kernel
theorem dX1_feelOneMore_40 : decode cX1_feelOneMore 40 = .ok (.if_icmp .lt 7, 3) := by decide +kernel
theorem dX1_feelOneMore_43 : decode cX1_feelOneMore 43 = .ok (.iconst 1, 1) := by decide +kernel
theorem dX1_feelOneMore_44 : decode cX1_feelOneMore 44 = .ok (.goto 4, 3) := by decide +kernel
theorem dX1_feelOneMore_47 : decode cX1_feelOneMore 47 = .ok (.iconst 0, 1) := by decide +kernel
theorem dX1_feelOneMore_48 : decode cX1_feelOneMore 48 = .ok (.istore 4, 2) := by decide +kernel
theorem dX1_feelOneMore_50 : decode cX1_feelOneMore 50 = .ok (.aload_n 1, 1) := by decide +kernel
theorem dX1_feelOneMore_51 : decode cX1_feelOneMore 51 = .ok (.iload 4, 2) := by decide +kernel
theorem dX1_feelOneMore_53 : decode cX1_feelOneMore 53 = .ok (.ifCond .eq 7, 3) := by decide +kernel
theorem dX1_feelOneMore_56 : decode cX1_feelOneMore 56 = .ok (.iconst 0, 1) := by decide +kernel
theorem dX1_feelOneMore_57 : decode cX1_feelOneMore 57 = .ok (.goto 4, 3) := by decide +kernel
theorem dX1_feelOneMore_60 : decode cX1_feelOneMore 60 = .ok (.iconst 1, 1) := by decide +kernel
theorem dX1_feelOneMore_61 : decode cX1_feelOneMore 61 = .ok (.putfield 97, 3) := by decide +kernel
theorem dX1_feelOneMore_64 : decode cX1_feelOneMore 64 = .ok (.return_, 1) := by decide +kernel
theorem dX1_offer_0 : decode cX1_offer 0 = .ok (.aload_n 1, 1) := by decide +kernel
theorem dX1_offer_1 : decode cX1_offer 1 = .ok (.getfield 60, 3) := by decide +kernel
theorem dX1_offer_4 : decode cX1_offer 4 = .ok (.iload_n 2, 1) := by decide +kernel
theorem dX1_offer_5 : decode cX1_offer 5 = .ok (.iaload, 1) := by decide +kernel
theorem dX1_offer_6 : decode cX1_offer 6 = .ok (.istore 4, 2) := by decide +kernel
theorem dX1_offer_8 : decode cX1_offer 8 = .ok (.aload_n 0, 1) := by decide +kernel
theorem dX1_offer_9 : decode cX1_offer 9 = .ok (.aload_n 1, 1) := by decide +kernel
theorem dX1_offer_10 : decode cX1_offer 10 = .ok (.iload 4, 2) := by decide +kernel
theorem dX1_offer_12 : decode cX1_offer 12 = .ok (.aload_n 0, 1) := by decide +kernel
theorem dX1_offer_13 : decode cX1_offer 13 = .ok (.getfield 24, 3) := by decide +kernel
theorem dX1_offer_16 : decode cX1_offer 16 = .ok (.iload_n 3, 1) := by decide +kernel
theorem dX1_offer_17 : decode cX1_offer 17 = .ok (.invokevirtual 100, 3) := by decide +kernel
theorem dX1_offer_20 : decode cX1_offer 20 = .ok (.ifCond .ne 4, 3) := by decide +kernel
theorem dX1_offer_23 : decode cX1_offer 23 = .ok (.return_, 1) := by decide +kernel
theorem dX1_offer_24 : decode cX1_offer 24 = .ok (.aload_n 0, 1) := by decide +kernel
theorem dX1_offer_25 : decode cX1_offer 25 = .ok (.getfield 11, 3) := by decide +kernel
theorem dX1_offer_28 : decode cX1_offer 28 = .ok (.aload_n 1, 1) := by decide +kernel
theorem dX1_offer_29 : decode cX1_offer 29 = .ok (.getfield 69, 3) := by decide +kernel
theorem dX1_offer_32 : decode cX1_offer 32 = .ok (.aaload, 1) := by decide +kernel
theorem dX1_offer_33 : decode cX1_offer 33 = .ok (.getfield 35, 3) := by decide +kernel
theorem dX1_offer_36 : decode cX1_offer 36 = .ok (.aload_n 0, 1) := by decide +kernel
theorem dX1_offer_37 : decode cX1_offer 37 = .ok (.getfield 11, 3) := by decide +kernel
theorem dX1_offer_40 : decode cX1_offer 40 = .ok (.iload 4, 2) := by decide +kernel
theorem dX1_offer_42 : decode cX1_offer 42 = .ok (.aaload, 1) := by decide +kernel
theorem dX1_offer_43 : decode cX1_offer 43 = .ok (.getfield 35, 3) := by decide +kernel
theorem dX1_offer_46 : decode cX1_offer 46 = .ok (.aload_n 0, 1) := by decide +kernel
theorem dX1_offer_47 : decode cX1_offer 47 = .ok (.getfield 21, 3) := by decide +kernel
theorem dX1_offer_50 : decode cX1_offer 50 = .ok (.iload_n 2, 1) := by decide +kernel
theorem dX1_offer_51 : decode cX1_offer 51 = .ok (.iaload, 1) := by decide +kernel
theorem dX1_offer_52 : decode cX1_offer 52 = .ok (.iadd, 1) := by decide +kernel
theorem dX1_offer_53 : decode cX1_offer 53 = .ok (.if_icmp .lt 7, 3) := by decide +kernel
theorem dX1_offer_56 : decode cX1_offer 56 = .ok (.iconst 1, 1) := by decide +kernel
theorem dX1_offer_57 : decode cX1_offer 57 = .ok (.goto 4, 3) := by decide +kernel
theorem dX1_offer_60 : decode cX1_offer 60 = .ok (.iconst 0, 1) := by decide +kernel
theorem dX1_offer_61 : decode cX1_offer 61 = .ok (.istore 5, 2) := by decide +kernel
theorem dX1_offer_63 : decode cX1_offer 63 = .ok (.iload 5, 2) := by decide +kernel
theorem dX1_offer_65 : decode cX1_offer 65 = .ok (.ifCond .eq 32, 3) := by decide +kernel
theorem dX1_offer_68 : decode cX1_offer 68 = .ok (.aload_n 1, 1) := by decide +kernel
theorem dX1_offer_69 : decode cX1_offer 69 = .ok (.getfield 60, 3) := by decide +kernel
theorem dX1_offer_72 : decode cX1_offer 72 = .ok (.iload_n 2, 1) := by decide +kernel
theorem dX1_offer_73 : decode cX1_offer 73 = .ok (.aload_n 1, 1) := by decide +kernel
theorem dX1_offer_74 : decode cX1_offer 74 = .ok (.getfield 69, 3) := by decide +kernel
theorem dX1_offer_77 : decode cX1_offer 77 = .ok (.iastore, 1) := by decide +kernel
theorem dX1_offer_78 : decode cX1_offer 78 = .ok (.aload_n 1, 1) := by decide +kernel
theorem dX1_offer_79 : decode cX1_offer 79 = .ok (.iload 4, 2) := by decide +kernel
theorem dX1_offer_81 : decode cX1_offer 81 = .ok (.invokevirtual 93, 3) := by decide +kernel
theorem dX1_offer_84 : decode cX1_offer 84 = .ok (.aload_n 1, 1) := by decide +kernel
theorem dX1_offer_85 : decode cX1_offer 85 = .ok (.dup, 1) := by decide +kernel
theorem dX1_offer_86 : decode cX1_offer 86 = .ok (.getfield 72, 3) := by decide +kernel
theorem dX1_offer_89 : decode cX1_offer 89 = .ok (.iconst 1, 1) := by decide +kernel
theorem dX1_offer_90 : decode cX1_offer 90 = .ok (.iadd, 1) := by decide +kernel
theorem dX1_offer_91 : decode cX1_offer 91 = .ok (.putfield 72, 3) := by decide +kernel
theorem dX1_offer_94 : decode cX1_offer 94 = .ok (.goto 20, 3) := by decide +kernel
theorem dX1_offer_97 : decode cX1_offer 97 = .ok (.aload_n 1, 1) := by decide +kernel
theorem dX1_offer_98 : decode cX1_offer 98 = .ok (.getfield 104, 3) := by decide +kernel
theorem dX1_offer_101 : decode cX1_offer 101 = .ok (.bipush (-4), 2) := by decide +kernel
theorem dX1_offer_103 : decode cX1_offer 103 = .ok (.if_icmp .ne 11, 3) := by decide +kernel
theorem dX1_offer_106 : decode cX1_offer 106 = .ok (.aload_n 1, 1) := by decide +kernel
theorem dX1_offer_107 : decode cX1_offer 107 = .ok (.aload_n 1, 1) := by decide +kernel
theorem dX1_offer_108 : decode cX1_offer 108 = .ok (.getfield 79, 3) := by decide +kernel
theorem dX1_offer_111 : decode cX1_offer 111 = .ok (.putfield 104, 3) := by decide +kernel
theorem dX1_offer_114 : decode cX1_offer 114 = .ok (.return_, 1) := by decide +kernel
theorem dX1_isGlad_0 : decode cX1_isGlad 0 = .ok (.aload_n 0, 1) := by decide +kernel
theorem dX1_isGlad_1 : decode cX1_isGlad 1 = .ok (.getfield 11, 3) := by decide +kernel
theorem dX1_isGlad_4 : decode cX1_isGlad 4 = .ok (.aload_n 1, 1) := by decide +kernel
theorem dX1_isGlad_5 : decode cX1_isGlad 5 = .ok (.getfield 69, 3) := by decide +kernel
theorem dX1_isGlad_8 : decode cX1_isGlad 8 = .ok (.aaload, 1) := by decide +kernel
theorem dX1_isGlad_9 : decode cX1_isGlad 9 = .ok (.astore 5, 2) := by decide +kernel
theorem dX1_isGlad_11 : decode cX1_isGlad 11 = .ok (.aload_n 0, 1) := by decide +kernel
theorem dX1_isGlad_12 : decode cX1_isGlad 12 = .ok (.getfield 11, 3) := by decide +kernel
theorem dX1_isGlad_15 : decode cX1_isGlad 15 = .ok (.iload_n 2, 1) := by decide +kernel
theorem dX1_isGlad_16 : decode cX1_isGlad 16 = .ok (.aaload, 1) := by decide +kernel
theorem dX1_isGlad_17 : decode cX1_isGlad 17 = .ok (.astore 6, 2) := by decide +kernel
theorem dX1_isGlad_19 : decode cX1_isGlad 19 = .ok (.aload_n 1, 1) := by decide +kernel
theorem dX1_isGlad_20 : decode cX1_isGlad 20 = .ok (.getfield 97, 3) := by decide +kernel
theorem dX1_isGlad_23 : decode cX1_isGlad 23 = .ok (.iconst 1, 1) := by decide +kernel
theorem dX1_isGlad_24 : decode cX1_isGlad 24 = .ok (.if_icmp .ne 8, 3) := by decide +kernel
theorem dX1_isGlad_27 : decode cX1_isGlad 27 = .ok (.iload 4, 2) := by decide +kernel
theorem dX1_isGlad_29 : decode cX1_isGlad 29 = .ok (.goto 4, 3) := by decide +kernel
theorem dX1_isGlad_32 : decode cX1_isGlad 32 = .ok (.iconst 1, 1) := by decide +kernel
theorem dX1_isGlad_33 : decode cX1_isGlad 33 = .ok (.istore 7, 2) := by decide +kernel
theorem dX1_isGlad_35 : decode cX1_isGlad 35 = .ok (.aload 5, 2) := by decide +kernel
theorem dX1_isGlad_37 : decode cX1_isGlad 37 = .ok (.aload_n 1, 1) := by decide +kernel
theorem dX1_isGlad_38 : decode cX1_isGlad 38 = .ok (.getfield 97, 3) := by decide +kernel
theorem dX1_isGlad_41 : decode cX1_isGlad 41 = .ok (.aload_n 1, 1) := by decide +kernel
theorem dX1_isGlad_42 : decode cX1_isGlad 42 = .ok (.getfield 86, 3) := by decide +kernel
theorem dX1_isGlad_45 : decode cX1_isGlad 45 = .ok (.invokevirtual 89, 3) := by decide +kernel
theorem dX1_isGlad_48 : decode cX1_isGlad 48 = .ok (.iload 7, 2) := by decide +kernel
theorem dX1_isGlad_50 : decode cX1_isGlad 50 = .ok (.imul, 1) := by decide +kernel
theorem dX1_isGlad_51 : decode cX1_isGlad 51 = .ok (.aload 6, 2) := by decide +kernel
theorem dX1_isGlad_53 : decode cX1_isGlad 53 = .ok (.aload_n 1, 1) := by decide +kernel
theorem dX1_isGlad_54 : decode cX1_isGlad 54 = .ok (.getfield 97, 3) := by decide +kernel
theorem dX1_isGlad_57 : decode cX1_isGlad 57 = .ok (.iconst 0, 1) := by decide +kernel
theorem dX1_isGlad_58 : decode cX1_isGlad 58 = .ok (.invokevirtual 89, 3) := by decide +kernel
theorem dX1_isGlad_61 : decode cX1_isGlad 61 = .ok (.if_icmp .le 22, 3) := by decide +kernel
theorem dX1_isGlad_64 : decode cX1_isGlad 64 = .ok (.aload 5, 2) := by decide +kernel
theorem dX1_isGlad_66 : decode cX1_isGlad 66 = .ok (.getfield 35, 3) := by decide +kernel
theorem dX1_isGlad_69 : decode cX1_isGlad 69 = .ok (.aload 6, 2) := by decide +kernel
theorem dX1_isGlad_71 : decode cX1_isGlad 71 = .ok (.getfield 35, 3) := by decide +kernel
theorem dX1_isGlad_74 : decode cX1_isGlad 74 = .ok (.isub, 1) := by decide +kernel
theorem dX1_isGlad_75 : decode cX1_isGlad 75 = .ok (.iload_n 3, 1) := by decide +kernel
theorem dX1_isGlad_76 : decode cX1_isGlad 76 = .ok (.if_icmp .gt 7, 3) := by decide +kernel
theorem dX1_isGlad_79 : decode cX1_isGlad 79 = .ok (.iconst 1, 1) := by decide +kernel
theorem dX1_isGlad_80 : decode cX1_isGlad 80 = .ok (.goto 4, 3) := by decide +kernel
theorem dX1_isGlad_83 : decode cX1_isGlad 83 = .ok (.iconst 0, 1) := by decide +kernel
theorem dX1_isGlad_84 : decode cX1_isGlad 84 = .ok (.ireturn, 1) := by decide +kernel
theorem dX1_mindsOf_0 : decode cX1_mindsOf 0 = .ok (.iconst 0, 1) := by decide +kernel
theorem dX1_mindsOf_1 : decode cX1_mindsOf 1 = .ok (.istore_n 3, 1) := by decide +kernel
theorem dX1_mindsOf_2 : decode cX1_mindsOf 2 = .ok (.iconst 0, 1) := by decide +kernel
theorem dX1_mindsOf_3 : decode cX1_mindsOf 3 = .ok (.istore 4, 2) := by decide +kernel
theorem dX1_mindsOf_5 : decode cX1_mindsOf 5 = .ok (.iload 4, 2) := by decide +kernel
theorem dX1_mindsOf_7 : decode cX1_mindsOf 7 = .ok (.iconst 1, 1) := by decide +kernel
theorem dX1_mindsOf_8 : decode cX1_mindsOf 8 = .ok (.if_icmp .gt 43, 3) := by decide +kernel
theorem dX1_mindsOf_11 : decode cX1_mindsOf 11 = .ok (.aload_n 0, 1) := by decide +kernel
theorem dX1_mindsOf_12 : decode cX1_mindsOf 12 = .ok (.getfield 11, 3) := by decide +kernel
theorem dX1_mindsOf_15 : decode cX1_mindsOf 15 = .ok (.iload_n 1, 1) := by decide +kernel
theorem dX1_mindsOf_16 : decode cX1_mindsOf 16 = .ok (.aaload, 1) := by decide +kernel
theorem dX1_mindsOf_17 : decode cX1_mindsOf 17 = .ok (.iload 4, 2) := by decide +kernel
theorem dX1_mindsOf_19 : decode cX1_mindsOf 19 = .ok (.iconst 0, 1) := by decide +kernel
theorem dX1_mindsOf_20 : decode cX1_mindsOf 20 = .ok (.invokevirtual 89, 3) := by decide +kernel
theorem dX1_mindsOf_23 : decode cX1_mindsOf 23 = .ok (.aload_n 0, 1) := by decide +kernel
theorem dX1_mindsOf_24 : decode cX1_mindsOf 24 = .ok (.getfield 11, 3) := by decide +kernel
theorem dX1_mindsOf_27 : decode cX1_mindsOf 27 = .ok (.iload_n 2, 1) := by decide +kernel
theorem dX1_mindsOf_28 : decode cX1_mindsOf 28 = .ok (.aaload, 1) := by decide +kernel
theorem dX1_mindsOf_29 : decode cX1_mindsOf 29 = .ok (.iload 4, 2) := by decide +kernel
theorem dX1_mindsOf_31 : decode cX1_mindsOf 31 = .ok (.iconst 0, 1) := by decide +kernel
theorem dX1_mindsOf_32 : decode cX1_mindsOf 32 = .ok (.invokevirtual 89, 3) := by decide +kernel
theorem dX1_mindsOf_35 : decode cX1_mindsOf 35 = .ok (.if_icmp .le 10, 3) := by decide +kernel
theorem dX1_mindsOf_38 : decode cX1_mindsOf 38 = .ok (.iload_n 3, 1) := by decide +kernel
theorem dX1_mindsOf_39 : decode cX1_mindsOf 39 = .ok (.iconst 1, 1) := by decide +kernel
theorem dX1_mindsOf_40 : decode cX1_mindsOf 40 = .ok (.iload 4, 2) := by decide +kernel
theorem dX1_mindsOf_42 : decode cX1_mindsOf 42 = .ok (.ishl, 1) := by decide +kernel
theorem dX1_mindsOf_43 : decode cX1_mindsOf 43 = .ok (.ior, 1) := by decide +kernel
theorem dX1_mindsOf_44 : decode cX1_mindsOf 44 = .ok (.istore_n 3, 1) := by decide +kernel
theorem dX1_mindsOf_45 : decode cX1_mindsOf 45 = .ok (.iinc 4 1, 3) := by decide +kernel
theorem dX1_mindsOf_48 : decode cX1_mindsOf 48 = .ok (.goto (-43), 3) := by decide +kernel
theorem dX1_mindsOf_51 : decode cX1_mindsOf 51 = .ok (.iload_n 3, 1) := by decide +kernel
theorem dX1_mindsOf_52 : decode cX1_mindsOf 52 = .ok (.ireturn, 1) := by decide +kernel
theorem dX0_init_0 : decode cX0_init 0 = .ok (.aload_n 0, 1) := by decide +kernel
theorem dX0_init_1 : decode cX0_init 1 = .ok (.invokespecial 3, 3) := by decide +kernel
theorem dX0_init_4 : decode cX0_init 4 = .ok (.aload_n 0, 1) := by decide +kernel
theorem dX0_init_5 : decode cX0_init 5 = .ok (.new 9, 3) := by decide +kernel
theorem dX0_init_8 : decode cX0_init 8 = .ok (.dup, 1) := by decide +kernel
theorem dX0_init_9 : decode cX0_init 9 = .ok (.invokespecial 11, 3) := by decide +kernel
theorem dX0_init_12 : decode cX0_init 12 = .ok (.putfield 12, 3) := by decide +kernel
theorem dX0_init_15 : decode cX0_init 15 = .ok (.aload_n 0, 1) := by decide +kernel
theorem dX0_init_16 : decode cX0_init 16 = .ok (.new 18, 3) := by decide +kernel
theorem dX0_init_19 : decode cX0_init 19 = .ok (.dup, 1) := by decide +kernel
theorem dX0_init_20 : decode cX0_init 20 = .ok (.invokespecial 20, 3) := by decide +kernel
theorem dX0_init_23 : decode cX0_init 23 = .ok (.putfield 21, 3) := by decide +kernel
theorem dX0_init_26 : decode cX0_init 26 = .ok (.aload_n 0, 1) := by decide +kernel
theorem dX0_init_27 : decode cX0_init 27 = .ok (.new 18, 3) := by decide +kernel
theorem dX0_init_30 : decode cX0_init 30 = .ok (.dup, 1) := by decide +kernel
theorem dX0_init_31 : decode cX0_init 31 = .ok (.invokespecial 20, 3) := by decide +kernel
theorem dX0_init_34 : decode cX0_init 34 = .ok (.putfield 25, 3) := by decide +kernel
theorem dX0_init_37 : decode cX0_init 37 = .ok (.aload_n 0, 1) := by decide +kernel
theorem dX0_init_38 : decode cX0_init 38 = .ok (.bipush 11, 2) := by decide +kernel
theorem dX0_init_40 : decode cX0_init 40 = .ok (.anewarray 18, 3) := by decide +kernel
theorem dX0_init_43 : decode cX0_init 43 = .ok (.putfield 28, 3) := by decide +kernel
theorem dX0_init_46 : decode cX0_init 46 = .ok (.iconst 0, 1) := by decide +kernel
theorem dX0_init_47 : decode cX0_init 47 = .ok (.istore_n 1, 1) := by decide +kernel
theorem dX0_init_48 : decode cX0_init 48 = .ok (.iload_n 1, 1) := by decide +kernel
theorem dX0_init_49 : decode cX0_init 49 = .ok (.aload_n 0, 1) := by decide +kernel
theorem dX0_init_50 : decode cX0_init 50 = .ok (.getfield 28, 3) := by decide +kernel
theorem dX0_init_53 : decode cX0_init 53 = .ok (.arraylength, 1) := by decide +kernel
theorem dX0_init_54 : decode cX0_init 54 = .ok (.if_icmp .ge 22, 3) := by decide +kernel
theorem dX0_init_57 : decode cX0_init 57 = .ok (.aload_n 0, 1) := by decide +kernel
theorem dX0_init_58 : decode cX0_init 58 = .ok (.getfield 28, 3) := by decide +kernel
theorem dX0_init_61 : decode cX0_init 61 = .ok (.iload_n 1, 1) := by decide +kernel
theorem dX0_init_62 : decode cX0_init 62 = .ok (.new 18, 3) := by decide +kernel
theorem dX0_init_65 : decode cX0_init 65 = .ok (.dup, 1) := by decide +kernel
theorem dX0_init_66 : decode cX0_init 66 = .ok (.invokespecial 20, 3) := by decide +kernel
theorem dX0_init_69 : decode cX0_init 69 = .ok (.aastore, 1) := by decide +kernel
theorem dX0_init_70 : decode cX0_init 70 = .ok (.iinc 1 1, 3) := by decide +kernel
theorem dX0_init_73 : decode cX0_init 73 = .ok (.goto (-25), 3) := by decide +kernel
theorem dX0_init_76 : decode cX0_init 76 = .ok (.return_, 1) := by decide +kernel
theorem dX0_begin_0 : decode cX0_begin 0 = .ok (.aload_n 0, 1) := by decide +kernel
theorem dX0_begin_1 : decode cX0_begin 1 = .ok (.getfield 12, 3) := by decide +kernel
theorem dX0_begin_4 : decode cX0_begin 4 = .ok (.aload_n 1, 1) := by decide +kernel
theorem dX0_begin_5 : decode cX0_begin 5 = .ok (.getfield 32, 3) := by decide +kernel
theorem dX0_begin_8 : decode cX0_begin 8 = .ok (.invokevirtual 35, 3) := by decide +kernel
theorem dX0_begin_11 : decode cX0_begin 11 = .ok (.aload_n 0, 1) := by decide +kernel
theorem dX0_begin_12 : decode cX0_begin 12 = .ok (.getfield 21, 3) := by decide +kernel
theorem dX0_begin_15 : decode cX0_begin 15 = .ok (.aload_n 1, 1) := by decide +kernel
theorem dX0_begin_16 : decode cX0_begin 16 = .ok (.getfield 39, 3) := by decide +kernel
theorem dX0_begin_19 : decode cX0_begin 19 = .ok (.invokevirtual 40, 3) := by decide +kernel
theorem dX0_begin_22 : decode cX0_begin 22 = .ok (.aload_n 0, 1) := by decide +kernel
theorem dX0_begin_23 : decode cX0_begin 23 = .ok (.getfield 21, 3) := by decide +kernel
theorem dX0_begin_26 : decode cX0_begin 26 = .ok (.bipush (-4), 2) := by decide +kernel
theorem dX0_begin_28 : decode cX0_begin 28 = .ok (.putfield 43, 3) := by decide +kernel
theorem dX0_begin_31 : decode cX0_begin 31 = .ok (.return_, 1) := by decide +kernel
theorem dX0_walkHome_0 : decode cX0_walkHome 0 = .ok (.aload_n 0, 1) := by decide +kernel
theorem dX0_walkHome_1 : decode cX0_walkHome 1 = .ok (.getfield 21, 3) := by decide +kernel
theorem dX0_walkHome_4 : decode cX0_walkHome 4 = .ok (.getfield 47, 3) := by decide +kernel
theorem dX0_walkHome_7 : decode cX0_walkHome 7 = .ok (.istore_n 1, 1) := by decide +kernel
theorem dX0_walkHome_8 : decode cX0_walkHome 8 = .ok (.iload_n 1, 1) := by decide +kernel
theorem dX0_walkHome_9 : decode cX0_walkHome 9 = .ok (.bipush 12, 2) := by decide +kernel
theorem dX0_walkHome_11 : decode cX0_walkHome 11 = .ok (.if_icmp .ge 22, 3) := by decide +kernel
theorem dX0_walkHome_14 : decode cX0_walkHome 14 = .ok (.aload_n 0, 1) := by decide +kernel
theorem dX0_walkHome_15 : decode cX0_walkHome 15 = .ok (.getfield 12, 3) := by decide +kernel
theorem dX0_walkHome_18 : decode cX0_walkHome 18 = .ok (.aload_n 0, 1) := by decide +kernel
theorem dX0_walkHome_19 : decode cX0_walkHome 19 = .ok (.getfield 21, 3) := by decide +kernel
theorem dX0_walkHome_22 : decode cX0_walkHome 22 = .ok (.iconst 1, 1) := by decide +kernel
theorem dX0_walkHome_23 : decode cX0_walkHome 23 = .ok (.invokevirtual 50, 3) := by decide +kernel
theorem dX0_walkHome_26 : decode cX0_walkHome 26 = .ok (.pop, 1) := by decide +kernel
theorem dX0_walkHome_27 : decode cX0_walkHome 27 = .ok (.iinc 1 1, 3) := by decide +kernel
theorem dX0_walkHome_30 : decode cX0_walkHome 30 = .ok (.goto (-22), 3) := by decide +kernel
theorem dX0_walkHome_33 : decode cX0_walkHome 33 = .ok (.return_, 1) := by decide +kernel
theorem dX0_endOf_0 : decode cX0_endOf 0 = .ok (.aload_n 0, 1) := by decide +kernel
theorem dX0_endOf_1 : decode cX0_endOf 1 = .ok (.aload_n 1, 1) := by decide +kernel
theorem dX0_endOf_2 : decode cX0_endOf 2 = .ok (.invokevirtual 54, 3) := by decide +kernel
theorem dX0_endOf_5 : decode cX0_endOf 5 = .ok (.aload_n 0, 1) := by decide +kernel
theorem dX0_endOf_6 : decode cX0_endOf 6 = .ok (.invokevirtual 58, 3) := by decide +kernel
theorem dX0_endOf_9 : decode cX0_endOf 9 = .ok (.aload_n 0, 1) := by decide +kernel
theorem dX0_endOf_10 : decode cX0_endOf 10 = .ok (.getfield 21, 3) := by decide +kernel
theorem dX0_endOf_13 : decode cX0_endOf 13 = .ok (.areturn, 1) := by decide +kernel
theorem dX0_waitFor_0 : decode cX0_waitFor 0 = .ok (.bipush (-4), 2) := by decide +kernel
theorem dX0_waitFor_2 : decode cX0_waitFor 2 = .ok (.istore_n 3, 1) := by decide +kernel
theorem dX0_waitFor_3 : decode cX0_waitFor 3 = .ok (.iconst 0, 1) := by decide +kernel
theorem dX0_waitFor_4 : decode cX0_waitFor 4 = .ok (.istore 4, 2) := by decide +kernel
theorem dX0_waitFor_6 : decode cX0_waitFor 6 = .ok (.iload 4, 2) := by decide +kernel
theorem dX0_waitFor_8 : decode cX0_waitFor 8 = .ok (.aload_n 2, 1) := by decide +kernel
theorem dX0_waitFor_9 : decode cX0_waitFor 9 = .ok (.getfield 32, 3) := by decide +kernel
theorem dX0_waitFor_12 : decode cX0_waitFor 12 = .ok (.getfield 61, 3) := by decide +kernel
theorem dX0_waitFor_15 : decode cX0_waitFor 15 = .ok (.if_icmp .ge 148, 3) := by decide +kernel
theorem dX0_waitFor_18 : decode cX0_waitFor 18 = .ok (.iload_n 3, 1) := by decide +kernel
theorem dX0_waitFor_19 : decode cX0_waitFor 19 = .ok (.bipush (-4), 2) := by decide +kernel
theorem dX0_waitFor_21 : decode cX0_waitFor 21 = .ok (.if_icmp .eq 23, 3) := by decide +kernel
theorem dX0_waitFor_24 : decode cX0_waitFor 24 = .ok (.aload_n 2, 1) := by decide +kernel
theorem dX0_waitFor_25 : decode cX0_waitFor 25 = .ok (.getfield 32, 3) := by decide +kernel
theorem dX0_waitFor_28 : decode cX0_waitFor 28 = .ok (.iload 4, 2) := by decide +kernel
theorem dX0_waitFor_30 : decode cX0_waitFor 30 = .ok (.invokevirtual 64, 3) := by decide +kernel
theorem dX0_waitFor_33 : decode cX0_waitFor 33 = .ok (.aload_n 2, 1) := by decide +kernel
theorem dX0_waitFor_34 : decode cX0_waitFor 34 = .ok (.getfield 32, 3) := by decide +kernel
theorem dX0_waitFor_37 : decode cX0_waitFor 37 = .ok (.iload_n 3, 1) := by decide +kernel
theorem dX0_waitFor_38 : decode cX0_waitFor 38 = .ok (.invokevirtual 64, 3) := by decide +kernel
theorem dX0_waitFor_41 : decode cX0_waitFor 41 = .ok (.if_icmp .ge 7, 3) := by decide +kernel
theorem dX0_waitFor_44 : decode cX0_waitFor 44 = .ok (.iconst 1, 1) := by decide +kernel
theorem dX0_waitFor_45 : decode cX0_waitFor 45 = .ok (.goto 4, 3) := by decide +kernel
theorem dX0_waitFor_48 : decode cX0_waitFor 48 = .ok (.iconst 0, 1) := by decide +kernel
theorem dX0_waitFor_49 : decode cX0_waitFor 49 = .ok (.istore 5, 2) := by decide +kernel
theorem dX0_waitFor_51 : decode cX0_waitFor 51 = .ok (.iload 5, 2) := by decide +kernel
theorem dX0_waitFor_53 : decode cX0_waitFor 53 = .ok (.ifCond .eq 104, 3) := by decide +kernel
theorem dX0_waitFor_56 : decode cX0_waitFor 56 = .ok (.aload_n 2, 1) := by decide +kernel
theorem dX0_waitFor_57 : decode cX0_waitFor 57 = .ok (.getfield 32, 3) := by decide +kernel
theorem dX0_waitFor_60 : decode cX0_waitFor 60 = .ok (.iload 4, 2) := by decide +kernel
theorem dX0_waitFor_62 : decode cX0_waitFor 62 = .ok (.aload_n 2, 1) := by decide +kernel
theorem dX0_waitFor_63 : decode cX0_waitFor 63 = .ok (.getfield 39, 3) := by decide +kernel
theorem dX0_waitFor_66 : decode cX0_waitFor 66 = .ok (.invokevirtual 68, 3) := by decide +kernel
theorem dX0_waitFor_69 : decode cX0_waitFor 69 = .ok (.bipush (-4), 2) := by decide +kernel
theorem dX0_waitFor_71 : decode cX0_waitFor 71 = .ok (.if_icmp .eq 6, 3) := by decide +kernel
theorem dX0_waitFor_74 : decode cX0_waitFor 74 = .ok (.goto 83, 3) := by decide +kernel
theorem dX0_waitFor_77 : decode cX0_waitFor 77 = .ok (.aload_n 2, 1) := by decide +kernel
theorem dX0_waitFor_78 : decode cX0_waitFor 78 = .ok (.getfield 39, 3) := by decide +kernel
theorem dX0_waitFor_81 : decode cX0_waitFor 81 = .ok (.getfield 47, 3) := by decide +kernel
theorem dX0_waitFor_84 : decode cX0_waitFor 84 = .ok (.istore 6, 2) := by decide +kernel
theorem dX0_waitFor_86 : decode cX0_waitFor 86 = .ok (.iload 6, 2) := by decide +kernel
theorem dX0_waitFor_88 : decode cX0_waitFor 88 = .ok (.bipush 12, 2) := by decide +kernel
theorem dX0_waitFor_90 : decode cX0_waitFor 90 = .ok (.if_icmp .ge 67, 3) := by decide +kernel
theorem dX0_waitFor_93 : decode cX0_waitFor 93 = .ok (.aload_n 0, 1) := by decide +kernel
theorem dX0_waitFor_94 : decode cX0_waitFor 94 = .ok (.aload_n 2, 1) := by decide +kernel
theorem dX0_waitFor_95 : decode cX0_waitFor 95 = .ok (.invokevirtual 54, 3) := by decide +kernel
theorem dX0_waitFor_98 : decode cX0_waitFor 98 = .ok (.aload_n 0, 1) := by decide +kernel
theorem dX0_waitFor_99 : decode cX0_waitFor 99 = .ok (.getfield 12, 3) := by decide +kernel
theorem dX0_waitFor_102 : decode cX0_waitFor 102 = .ok (.iload 6, 2) := by decide +kernel
theorem dX0_waitFor_104 : decode cX0_waitFor 104 = .ok (.iconst 0, 1) := by decide +kernel
theorem dX0_waitFor_105 : decode cX0_waitFor 105 = .ok (.iload 4, 2) := by decide +kernel
theorem dX0_waitFor_107 : decode cX0_waitFor 107 = .ok (.aload_n 0, 1) := by decide +kernel
theorem dX0_waitFor_108 : decode cX0_waitFor 108 = .ok (.getfield 21, 3) := by decide +kernel
theorem dX0_waitFor_111 : decode cX0_waitFor 111 = .ok (.invokevirtual 72, 3) := by decide +kernel
theorem dX0_waitFor_114 : decode cX0_waitFor 114 = .ok (.istore 7, 2) := by decide +kernel
theorem dX0_waitFor_116 : decode cX0_waitFor 116 = .ok (.aload_n 0, 1) := by decide +kernel
theorem dX0_waitFor_117 : decode cX0_waitFor 117 = .ok (.invokevirtual 58, 3) := by decide +kernel
theorem dX0_waitFor_120 : decode cX0_waitFor 120 = .ok (.iload 7, 2) := by decide +kernel
theorem dX0_waitFor_122 : decode cX0_waitFor 122 = .ok (.ifCond .lt 29, 3) := by decide +kernel
theorem dX0_waitFor_125 : decode cX0_waitFor 125 = .ok (.aload_n 0, 1) := by decide +kernel
theorem dX0_waitFor_126 : decode cX0_waitFor 126 = .ok (.getfield 21, 3) := by decide +kernel
theorem dX0_waitFor_129 : decode cX0_waitFor 129 = .ok (.getfield 76, 3) := by decide +kernel
theorem dX0_waitFor_132 : decode cX0_waitFor 132 = .ok (.iload 7, 2) := by decide +kernel
theorem dX0_waitFor_134 : decode cX0_waitFor 134 = .ok (.iaload, 1) := by decide +kernel
theorem dX0_waitFor_135 : decode cX0_waitFor 135 = .ok (.iload_n 1, 1) := by decide +kernel
theorem dX0_waitFor_136 : decode cX0_waitFor 136 = .ok (.if_icmp .ne 15, 3) := by decide +kernel
theorem dX0_waitFor_139 : decode cX0_waitFor 139 = .ok (.iload 4, 2) := by decide +kernel
theorem dX0_waitFor_141 : decode cX0_waitFor 141 = .ok (.istore_n 3, 1) := by decide +kernel
theorem dX0_waitFor_142 : decode cX0_waitFor 142 = .ok (.aload_n 0, 1) := by decide +kernel
theorem dX0_waitFor_143 : decode cX0_waitFor 143 = .ok (.iload 6, 2) := by decide +kernel
theorem dX0_waitFor_145 : decode cX0_waitFor 145 = .ok (.putfield 80, 3) := by decide +kernel
theorem dX0_waitFor_148 : decode cX0_waitFor 148 = .ok (.goto 9, 3) := by decide +kernel
theorem dX0_waitFor_151 : decode cX0_waitFor 151 = .ok (.iinc 6 1, 3) := by decide +kernel
theorem dX0_waitFor_154 : decode cX0_waitFor 154 = .ok (.goto (-68), 3) := by decide +kernel
theorem dX0_waitFor_157 : decode cX0_waitFor 157 = .ok (.iinc 4 1, 3) := by decide +kernel
theorem dX0_waitFor_160 : decode cX0_waitFor 160 = .ok (.goto (-154), 3) := by decide +kernel
theorem dX0_waitFor_163 : decode cX0_waitFor 163 = .ok (.iload_n 3, 1) := by decide +kernel
theorem dX0_waitFor_164 : decode cX0_waitFor 164 = .ok (.ireturn, 1) := by decide +kernel
theorem dX0_mostWorthOf_0 : decode cX0_mostWorthOf 0 = .ok (.iconst (-1), 1) := by decide +kernel
theorem dX0_mostWorthOf_1 : decode cX0_mostWorthOf 1 = .ok (.istore_n 3, 1) := by decide +kernel
theorem dX0_mostWorthOf_2 : decode cX0_mostWorthOf 2 = .ok (.aload_n 2, 1) := by decide +kernel
theorem dX0_mostWorthOf_3 : decode cX0_mostWorthOf 3 = .ok (.getfield 39, 3) := by decide +kernel
theorem dX0_mostWorthOf_6 : decode cX0_mostWorthOf 6 = .ok (.getfield 47, 3) := by decide +kernel
theorem dX0_mostWorthOf_9 : decode cX0_mostWorthOf 9 = .ok (.istore 4, 2) := by decide +kernel
theorem dX0_mostWorthOf_11 : decode cX0_mostWorthOf 11 = .ok (.iload 4, 2) := by decide +kernel
theorem dX0_mostWorthOf_13 : decode cX0_mostWorthOf 13 = .ok (.bipush 12, 2) := by decide +kernel
theorem dX0_mostWorthOf_15 : decode cX0_mostWorthOf 15 = .ok (.if_icmp .ge 62, 3) := by decide +kernel
theorem dX0_mostWorthOf_18 : decode cX0_mostWorthOf 18 = .ok (.aload_n 0, 1) := by decide +kernel
theorem dX0_mostWorthOf_19 : decode cX0_mostWorthOf 19 = .ok (.aload_n 2, 1) := by decide +kernel
theorem dX0_mostWorthOf_20 : decode cX0_mostWorthOf 20 = .ok (.invokevirtual 54, 3) := by decide +kernel
theorem dX0_mostWorthOf_23 : decode cX0_mostWorthOf 23 = .ok (.aload_n 0, 1) := by decide +kernel
theorem dX0_mostWorthOf_24 : decode cX0_mostWorthOf 24 = .ok (.getfield 12, 3) := by decide +kernel
theorem dX0_mostWorthOf_27 : decode cX0_mostWorthOf 27 = .ok (.getfield 83, 3) := by decide +kernel
theorem dX0_mostWorthOf_30 : decode cX0_mostWorthOf 30 = .ok (.iload_n 1, 1) := by decide +kernel
theorem dX0_mostWorthOf_31 : decode cX0_mostWorthOf 31 = .ok (.iload 4, 2) := by decide +kernel
theorem dX0_mostWorthOf_33 : decode cX0_mostWorthOf 33 = .ok (.iastore, 1) := by decide +kernel
theorem dX0_mostWorthOf_34 : decode cX0_mostWorthOf 34 = .ok (.aload_n 0, 1) := by decide +kernel
theorem dX0_mostWorthOf_35 : decode cX0_mostWorthOf 35 = .ok (.invokevirtual 58, 3) := by decide +kernel
theorem dX0_mostWorthOf_38 : decode cX0_mostWorthOf 38 = .ok (.aload_n 0, 1) := by decide +kernel
theorem dX0_mostWorthOf_39 : decode cX0_mostWorthOf 39 = .ok (.getfield 12, 3) := by decide +kernel
theorem dX0_mostWorthOf_42 : decode cX0_mostWorthOf 42 = .ok (.aload_n 0, 1) := by decide +kernel
theorem dX0_mostWorthOf_43 : decode cX0_mostWorthOf 43 = .ok (.getfield 21, 3) := by decide +kernel
theorem dX0_mostWorthOf_46 : decode cX0_mostWorthOf 46 = .ok (.getfield 76, 3) := by decide +kernel
theorem dX0_mostWorthOf_49 : decode cX0_mostWorthOf 49 = .ok (.iload_n 1, 1) := by decide +kernel
theorem dX0_mostWorthOf_50 : decode cX0_mostWorthOf 50 = .ok (.iaload, 1) := by decide +kernel
theorem dX0_mostWorthOf_51 : decode cX0_mostWorthOf 51 = .ok (.invokevirtual 64, 3) := by decide +kernel
theorem dX0_mostWorthOf_54 : decode cX0_mostWorthOf 54 = .ok (.istore 5, 2) := by decide +kernel
theorem dX0_mostWorthOf_56 : decode cX0_mostWorthOf 56 = .ok (.iload 5, 2) := by decide +kernel
theorem dX0_mostWorthOf_58 : decode cX0_mostWorthOf 58 = .ok (.iload_n 3, 1) := by decide +kernel
theorem dX0_mostWorthOf_59 : decode cX0_mostWorthOf 59 = .ok (.if_icmp .le 12, 3) := by decide +kernel
theorem dX0_mostWorthOf_62 : decode cX0_mostWorthOf 62 = .ok (.iload 5, 2) := by decide +kernel
theorem dX0_mostWorthOf_64 : decode cX0_mostWorthOf 64 = .ok (.istore_n 3, 1) := by decide +kernel
theorem dX0_mostWorthOf_65 : decode cX0_mostWorthOf 65 = .ok (.aload_n 0, 1) := by decide +kernel
theorem dX0_mostWorthOf_66 : decode cX0_mostWorthOf 66 = .ok (.iload 4, 2) := by decide +kernel
theorem dX0_mostWorthOf_68 : decode cX0_mostWorthOf 68 = .ok (.putfield 80, 3) := by decide +kernel
theorem dX0_mostWorthOf_71 : decode cX0_mostWorthOf 71 = .ok (.iinc 4 1, 3) := by decide +kernel
theorem dX0_mostWorthOf_74 : decode cX0_mostWorthOf 74 = .ok (.goto (-63), 3) := by decide +kernel
theorem dX0_mostWorthOf_77 : decode cX0_mostWorthOf 77 = .ok (.iload_n 3, 1) := by decide +kernel
theorem dX0_mostWorthOf_78 : decode cX0_mostWorthOf 78 = .ok (.ireturn, 1) := by decide +kernel
theorem dX0_turnsWith_0 : decode cX0_turnsWith 0 = .ok (.aload_n 0, 1) := by decide +kernel
theorem dX0_turnsWith_1 : decode cX0_turnsWith 1 = .ok (.aload_n 2, 1) := by decide +kernel
theorem dX0_turnsWith_2 : decode cX0_turnsWith 2 = .ok (.invokevirtual 54, 3) := by decide +kernel
theorem dX0_turnsWith_5 : decode cX0_turnsWith 5 = .ok (.aload_n 0, 1) := by decide +kernel
theorem dX0_turnsWith_6 : decode cX0_turnsWith 6 = .ok (.getfield 25, 3) := by decide +kernel
theorem dX0_turnsWith_9 : decode cX0_turnsWith 9 = .ok (.invokevirtual 86, 3) := by decide +kernel
theorem dX0_turnsWith_12 : decode cX0_turnsWith 12 = .ok (.aload_n 0, 1) := by decide +kernel
theorem dX0_turnsWith_13 : decode cX0_turnsWith 13 = .ok (.getfield 25, 3) := by decide +kernel
theorem dX0_turnsWith_16 : decode cX0_turnsWith 16 = .ok (.iload_n 1, 1) := by decide +kernel
theorem dX0_turnsWith_17 : decode cX0_turnsWith 17 = .ok (.putfield 89, 3) := by decide +kernel
theorem dX0_turnsWith_20 : decode cX0_turnsWith 20 = .ok (.iconst 0, 1) := by decide +kernel
theorem dX0_turnsWith_21 : decode cX0_turnsWith 21 = .ok (.istore_n 3, 1) := by decide +kernel
theorem dX0_turnsWith_22 : decode cX0_turnsWith 22 = .ok (.iconst 1, 1) := by decide +kernel
theorem dX0_turnsWith_23 : decode cX0_turnsWith 23 = .ok (.istore 4, 2) := by decide +kernel
theorem dX0_turnsWith_25 : decode cX0_turnsWith 25 = .ok (.iload 4, 2) := by decide +kernel
theorem dX0_turnsWith_27 : decode cX0_turnsWith 27 = .ok (.sipush 200, 3) := by decide +kernel
theorem dX0_turnsWith_30 : decode cX0_turnsWith 30 = .ok (.if_icmp .gt 88, 3) := by decide +kernel
theorem dX0_turnsWith_33 : decode cX0_turnsWith 33 = .ok (.iload 4, 2) := by decide +kernel
theorem dX0_turnsWith_35 : decode cX0_turnsWith 35 = .ok (.iconst 2, 1) := by decide +kernel
theorem dX0_turnsWith_36 : decode cX0_turnsWith 36 = .ok (.irem, 1) := by decide +kernel
theorem dX0_turnsWith_37 : decode cX0_turnsWith 37 = .ok (.iconst 1, 1) := by decide +kernel
theorem dX0_turnsWith_38 : decode cX0_turnsWith 38 = .ok (.if_icmp .ne 7, 3) := by decide +kernel
theorem dX0_turnsWith_41 : decode cX0_turnsWith 41 = .ok (.iconst 1, 1) := by decide +kernel
theorem dX0_turnsWith_42 : decode cX0_turnsWith 42 = .ok (.goto 4, 3) := by decide +kernel
theorem dX0_turnsWith_45 : decode cX0_turnsWith 45 = .ok (.iconst 0, 1) := by decide +kernel
theorem dX0_turnsWith_46 : decode cX0_turnsWith 46 = .ok (.istore 5, 2) := by decide +kernel
theorem dX0_turnsWith_48 : decode cX0_turnsWith 48 = .ok (.iload 5, 2) := by decide +kernel
theorem dX0_turnsWith_50 : decode cX0_turnsWith 50 = .ok (.ifCond .eq 25, 3) := by decide +kernel
theorem dX0_turnsWith_53 : decode cX0_turnsWith 53 = .ok (.aload_n 0, 1) := by decide +kernel
theorem dX0_turnsWith_54 : decode cX0_turnsWith 54 = .ok (.aload_n 0, 1) := by decide +kernel
theorem dX0_turnsWith_55 : decode cX0_turnsWith 55 = .ok (.getfield 21, 3) := by decide +kernel
theorem dX0_turnsWith_58 : decode cX0_turnsWith 58 = .ok (.aload_n 0, 1) := by decide +kernel
theorem dX0_turnsWith_59 : decode cX0_turnsWith 59 = .ok (.getfield 25, 3) := by decide +kernel
theorem dX0_turnsWith_62 : decode cX0_turnsWith 62 = .ok (.aload_n 0, 1) := by decide +kernel
theorem dX0_turnsWith_63 : decode cX0_turnsWith 63 = .ok (.getfield 12, 3) := by decide +kernel
theorem dX0_turnsWith_66 : decode cX0_turnsWith 66 = .ok (.getfield 92, 3) := by decide +kernel
theorem dX0_turnsWith_69 : decode cX0_turnsWith 69 = .ok (.invokevirtual 95, 3) := by decide +kernel
theorem dX0_turnsWith_72 : decode cX0_turnsWith 72 = .ok (.goto 17, 3) := by decide +kernel
theorem dX0_turnsWith_75 : decode cX0_turnsWith 75 = .ok (.aload_n 0, 1) := by decide +kernel
theorem dX0_turnsWith_76 : decode cX0_turnsWith 76 = .ok (.aload_n 0, 1) := by decide +kernel
theorem dX0_turnsWith_77 : decode cX0_turnsWith 77 = .ok (.getfield 25, 3) := by decide +kernel
theorem dX0_turnsWith_80 : decode cX0_turnsWith 80 = .ok (.aload_n 0, 1) := by decide +kernel
theorem dX0_turnsWith_81 : decode cX0_turnsWith 81 = .ok (.getfield 21, 3) := by decide +kernel
theorem dX0_turnsWith_84 : decode cX0_turnsWith 84 = .ok (.bipush 99, 2) := by decide +kernel
theorem dX0_turnsWith_86 : decode cX0_turnsWith 86 = .ok (.invokevirtual 95, 3) := by decide +kernel
theorem dX0_turnsWith_89 : decode cX0_turnsWith 89 = .ok (.istore 6, 2) := by decide +kernel
theorem dX0_turnsWith_91 : decode cX0_turnsWith 91 = .ok (.iload 6, 2) := by decide +kernel
theorem dX0_turnsWith_93 : decode cX0_turnsWith 93 = .ok (.ifCond .eq 7, 3) := by decide +kernel
theorem dX0_turnsWith_96 : decode cX0_turnsWith 96 = .ok (.iconst 0, 1) := by decide +kernel
theorem dX0_turnsWith_97 : decode cX0_turnsWith 97 = .ok (.goto 6, 3) := by decide +kernel
theorem dX0_turnsWith_100 : decode cX0_turnsWith 100 = .ok (.iload_n 3, 1) := by decide +kernel
theorem dX0_turnsWith_101 : decode cX0_turnsWith 101 = .ok (.iconst 1, 1) := by decide +kernel
theorem dX0_turnsWith_102 : decode cX0_turnsWith 102 = .ok (.iadd, 1) := by decide +kernel
theorem dX0_turnsWith_103 : decode cX0_turnsWith 103 = .ok (.istore_n 3, 1) := by decide +kernel
theorem dX0_turnsWith_104 : decode cX0_turnsWith 104 = .ok (.iload_n 3, 1) := by decide +kernel
theorem dX0_turnsWith_105 : decode cX0_turnsWith 105 = .ok (.iconst 2, 1) := by decide +kernel
theorem dX0_turnsWith_106 : decode cX0_turnsWith 106 = .ok (.if_icmp .ne 6, 3) := by decide +kernel
theorem dX0_turnsWith_109 : decode cX0_turnsWith 109 = .ok (.iload 4, 2) := by decide +kernel
theorem dX0_turnsWith_111 : decode cX0_turnsWith 111 = .ok (.ireturn, 1) := by decide +kernel
theorem dX0_turnsWith_112 : decode cX0_turnsWith 112 = .ok (.iinc 4 1, 3) := by decide +kernel
theorem dX0_turnsWith_115 : decode cX0_turnsWith 115 = .ok (.goto (-90), 3) := by decide +kernel
theorem dX0_turnsWith_118 : decode cX0_turnsWith 118 = .ok (.bipush (-4), 2) := by decide +kernel
theorem dX0_turnsWith_120 : decode cX0_turnsWith 120 = .ok (.ireturn, 1) := by decide +kernel
theorem dX0_takesTurn_0 : decode cX0_takesTurn 0 = .ok (.aload_n 0, 1) := by decide +kernel
theorem dX0_takesTurn_1 : decode cX0_takesTurn 1 = .ok (.getfield 12, 3) := by decide +kernel
theorem dX0_takesTurn_4 : decode cX0_takesTurn 4 = .ok (.aload_n 1, 1) := by decide +kernel
theorem dX0_takesTurn_5 : decode cX0_takesTurn 5 = .ok (.iconst 1, 1) := by decide +kernel
theorem dX0_takesTurn_6 : decode cX0_takesTurn 6 = .ok (.invokevirtual 99, 3) := by decide +kernel
theorem dX0_takesTurn_9 : decode cX0_takesTurn 9 = .ok (.aload_n 0, 1) := by decide +kernel
theorem dX0_takesTurn_10 : decode cX0_takesTurn 10 = .ok (.getfield 12, 3) := by decide +kernel
theorem dX0_takesTurn_13 : decode cX0_takesTurn 13 = .ok (.aload_n 1, 1) := by decide +kernel
theorem dX0_takesTurn_14 : decode cX0_takesTurn 14 = .ok (.aload_n 2, 1) := by decide +kernel
theorem dX0_takesTurn_15 : decode cX0_takesTurn 15 = .ok (.getfield 89, 3) := by decide +kernel
theorem dX0_takesTurn_18 : decode cX0_takesTurn 18 = .ok (.iload_n 3, 1) := by decide +kernel
theorem dX0_takesTurn_19 : decode cX0_takesTurn 19 = .ok (.iconst 1, 1) := by decide +kernel
theorem dX0_takesTurn_20 : decode cX0_takesTurn 20 = .ok (.invokevirtual 103, 3) := by decide +kernel
theorem dX0_takesTurn_23 : decode cX0_takesTurn 23 = .ok (.ifCond .ne 5, 3) := by decide +kernel
theorem dX0_takesTurn_26 : decode cX0_takesTurn 26 = .ok (.iconst 0, 1) := by decide +kernel
theorem dX0_takesTurn_27 : decode cX0_takesTurn 27 = .ok (.ireturn, 1) := by decide +kernel
theorem dX0_takesTurn_28 : decode cX0_takesTurn 28 = .ok (.aload_n 1, 1) := by decide +kernel
theorem dX0_takesTurn_29 : decode cX0_takesTurn 29 = .ok (.getfield 89, 3) := by decide +kernel
theorem dX0_takesTurn_32 : decode cX0_takesTurn 32 = .ok (.istore 4, 2) := by decide +kernel
theorem dX0_takesTurn_34 : decode cX0_takesTurn 34 = .ok (.aload_n 1, 1) := by decide +kernel
theorem dX0_takesTurn_35 : decode cX0_takesTurn 35 = .ok (.aload_n 2, 1) := by decide +kernel
theorem dX0_takesTurn_36 : decode cX0_takesTurn 36 = .ok (.getfield 89, 3) := by decide +kernel
theorem dX0_takesTurn_39 : decode cX0_takesTurn 39 = .ok (.invokevirtual 107, 3) := by decide +kernel
theorem dX0_takesTurn_42 : decode cX0_takesTurn 42 = .ok (.aload_n 2, 1) := by decide +kernel
theorem dX0_takesTurn_43 : decode cX0_takesTurn 43 = .ok (.iload 4, 2) := by decide +kernel
theorem dX0_takesTurn_45 : decode cX0_takesTurn 45 = .ok (.invokevirtual 107, 3) := by decide +kernel
theorem dX0_takesTurn_48 : decode cX0_takesTurn 48 = .ok (.iconst 1, 1) := by decide +kernel
theorem dX0_takesTurn_49 : decode cX0_takesTurn 49 = .ok (.ireturn, 1) := by decide +kernel
theorem dX0_firstsFor_0 : decode cX0_firstsFor 0 = .ok (.iconst 0, 1) := by decide +kernel
theorem dX0_firstsFor_1 : decode cX0_firstsFor 1 = .ok (.istore_n 3, 1) := by decide +kernel
theorem dX0_firstsFor_2 : decode cX0_firstsFor 2 = .ok (.iconst 0, 1) := by decide +kernel
theorem dX0_firstsFor_3 : decode cX0_firstsFor 3 = .ok (.istore 4, 2) := by decide +kernel
theorem dX0_firstsFor_5 : decode cX0_firstsFor 5 = .ok (.iload 4, 2) := by decide +kernel
theorem dX0_firstsFor_7 : decode cX0_firstsFor 7 = .ok (.aload_n 2, 1) := by decide +kernel
theorem dX0_firstsFor_8 : decode cX0_firstsFor 8 = .ok (.getfield 32, 3) := by decide +kernel
theorem dX0_firstsFor_11 : decode cX0_firstsFor 11 = .ok (.getfield 61, 3) := by decide +kernel
theorem dX0_firstsFor_14 : decode cX0_firstsFor 14 = .ok (.if_icmp .ge 66, 3) := by decide +kernel
theorem dX0_firstsFor_17 : decode cX0_firstsFor 17 = .ok (.aload_n 2, 1) := by decide +kernel
theorem dX0_firstsFor_18 : decode cX0_firstsFor 18 = .ok (.getfield 32, 3) := by decide +kernel
theorem dX0_firstsFor_21 : decode cX0_firstsFor 21 = .ok (.iload 4, 2) := by decide +kernel
theorem dX0_firstsFor_23 : decode cX0_firstsFor 23 = .ok (.aload_n 2, 1) := by decide +kernel
theorem dX0_firstsFor_24 : decode cX0_firstsFor 24 = .ok (.getfield 39, 3) := by decide +kernel
theorem dX0_firstsFor_27 : decode cX0_firstsFor 27 = .ok (.invokevirtual 68, 3) := by decide +kernel
theorem dX0_firstsFor_30 : decode cX0_firstsFor 30 = .ok (.bipush (-4), 2) := by decide +kernel
theorem dX0_firstsFor_32 : decode cX0_firstsFor 32 = .ok (.if_icmp .eq 6, 3) := by decide +kernel
theorem dX0_firstsFor_35 : decode cX0_firstsFor 35 = .ok (.goto 39, 3) := by decide +kernel
theorem dX0_firstsFor_38 : decode cX0_firstsFor 38 = .ok (.aload_n 0, 1) := by decide +kernel
theorem dX0_firstsFor_39 : decode cX0_firstsFor 39 = .ok (.aload_n 2, 1) := by decide +kernel
theorem dX0_firstsFor_40 : decode cX0_firstsFor 40 = .ok (.invokevirtual 54, 3) := by decide +kernel
theorem dX0_firstsFor_43 : decode cX0_firstsFor 43 = .ok (.aload_n 0, 1) := by decide +kernel
theorem dX0_firstsFor_44 : decode cX0_firstsFor 44 = .ok (.getfield 21, 3) := by decide +kernel
theorem dX0_firstsFor_47 : decode cX0_firstsFor 47 = .ok (.iload 4, 2) := by decide +kernel
theorem dX0_firstsFor_49 : decode cX0_firstsFor 49 = .ok (.putfield 89, 3) := by decide +kernel
theorem dX0_firstsFor_52 : decode cX0_firstsFor 52 = .ok (.aload_n 0, 1) := by decide +kernel
theorem dX0_firstsFor_53 : decode cX0_firstsFor 53 = .ok (.invokevirtual 58, 3) := by decide +kernel
theorem dX0_firstsFor_56 : decode cX0_firstsFor 56 = .ok (.aload_n 0, 1) := by decide +kernel
theorem dX0_firstsFor_57 : decode cX0_firstsFor 57 = .ok (.getfield 21, 3) := by decide +kernel
theorem dX0_firstsFor_60 : decode cX0_firstsFor 60 = .ok (.getfield 89, 3) := by decide +kernel
theorem dX0_firstsFor_63 : decode cX0_firstsFor 63 = .ok (.iload_n 1, 1) := by decide +kernel
theorem dX0_firstsFor_64 : decode cX0_firstsFor 64 = .ok (.if_icmp .ne 10, 3) := by decide +kernel
theorem dX0_firstsFor_67 : decode cX0_firstsFor 67 = .ok (.iload_n 3, 1) := by decide +kernel
theorem dX0_firstsFor_68 : decode cX0_firstsFor 68 = .ok (.iconst 1, 1) := by decide +kernel
theorem dX0_firstsFor_69 : decode cX0_firstsFor 69 = .ok (.iload 4, 2) := by decide +kernel
theorem dX0_firstsFor_71 : decode cX0_firstsFor 71 = .ok (.ishl, 1) := by decide +kernel
theorem dX0_firstsFor_72 : decode cX0_firstsFor 72 = .ok (.ior, 1) := by decide +kernel
theorem dX0_firstsFor_73 : decode cX0_firstsFor 73 = .ok (.istore_n 3, 1) := by decide +kernel
theorem dX0_firstsFor_74 : decode cX0_firstsFor 74 = .ok (.iinc 4 1, 3) := by decide +kernel
theorem dX0_firstsFor_77 : decode cX0_firstsFor 77 = .ok (.goto (-72), 3) := by decide +kernel
theorem dX0_firstsFor_80 : decode cX0_firstsFor 80 = .ok (.iload_n 3, 1) := by decide +kernel
theorem dX0_firstsFor_81 : decode cX0_firstsFor 81 = .ok (.ireturn, 1) := by decide +kernel
theorem dX0_heedFor_0 : decode cX0_heedFor 0 = .ok (.bipush (-4), 2) := by decide +kernel
theorem dX0_heedFor_2 : decode cX0_heedFor 2 = .ok (.istore_n 3, 1) := by decide +kernel
theorem dX0_heedFor_3 : decode cX0_heedFor 3 = .ok (.iconst 0, 1) := by decide +kernel
theorem dX0_heedFor_4 : decode cX0_heedFor 4 = .ok (.istore 4, 2) := by decide +kernel
theorem dX0_heedFor_6 : decode cX0_heedFor 6 = .ok (.iconst 0, 1) := by decide +kernel
theorem dX0_heedFor_7 : decode cX0_heedFor 7 = .ok (.istore 5, 2) := by decide +kernel
theorem dX0_heedFor_9 : decode cX0_heedFor 9 = .ok (.iload 5, 2) := by decide +kernel
theorem dX0_heedFor_11 : decode cX0_heedFor 11 = .ok (.bipush 99, 2) := by decide +kernel
theorem dX0_heedFor_13 : decode cX0_heedFor 13 = .ok (.if_icmp .gt 84, 3) := by decide +kernel
theorem dX0_heedFor_16 : decode cX0_heedFor 16 = .ok (.aload_n 0, 1) := by decide +kernel
theorem dX0_heedFor_17 : decode cX0_heedFor 17 = .ok (.aload_n 2, 1) := by decide +kernel
theorem dX0_heedFor_18 : decode cX0_heedFor 18 = .ok (.invokevirtual 54, 3) := by decide +kernel
theorem dX0_heedFor_21 : decode cX0_heedFor 21 = .ok (.aload_n 0, 1) := by decide +kernel
theorem dX0_heedFor_22 : decode cX0_heedFor 22 = .ok (.getfield 12, 3) := by decide +kernel
theorem dX0_heedFor_25 : decode cX0_heedFor 25 = .ok (.iload 5, 2) := by decide +kernel
theorem dX0_heedFor_27 : decode cX0_heedFor 27 = .ok (.putfield 92, 3) := by decide +kernel
theorem dX0_heedFor_30 : decode cX0_heedFor 30 = .ok (.aload_n 0, 1) := by decide +kernel
theorem dX0_heedFor_31 : decode cX0_heedFor 31 = .ok (.invokevirtual 58, 3) := by decide +kernel
theorem dX0_heedFor_34 : decode cX0_heedFor 34 = .ok (.aload_n 0, 1) := by decide +kernel
theorem dX0_heedFor_35 : decode cX0_heedFor 35 = .ok (.getfield 12, 3) := by decide +kernel
theorem dX0_heedFor_38 : decode cX0_heedFor 38 = .ok (.aload_n 2, 1) := by decide +kernel
theorem dX0_heedFor_39 : decode cX0_heedFor 39 = .ok (.getfield 39, 3) := by decide +kernel
theorem dX0_heedFor_42 : decode cX0_heedFor 42 = .ok (.getfield 89, 3) := by decide +kernel
theorem dX0_heedFor_45 : decode cX0_heedFor 45 = .ok (.invokevirtual 64, 3) := by decide +kernel
theorem dX0_heedFor_48 : decode cX0_heedFor 48 = .ok (.aload_n 0, 1) := by decide +kernel
theorem dX0_heedFor_49 : decode cX0_heedFor 49 = .ok (.getfield 12, 3) := by decide +kernel
theorem dX0_heedFor_52 : decode cX0_heedFor 52 = .ok (.aload_n 0, 1) := by decide +kernel
theorem dX0_heedFor_53 : decode cX0_heedFor 53 = .ok (.getfield 21, 3) := by decide +kernel
theorem dX0_heedFor_56 : decode cX0_heedFor 56 = .ok (.getfield 89, 3) := by decide +kernel
theorem dX0_heedFor_59 : decode cX0_heedFor 59 = .ok (.invokevirtual 64, 3) := by decide +kernel
theorem dX0_heedFor_62 : decode cX0_heedFor 62 = .ok (.isub, 1) := by decide +kernel
theorem dX0_heedFor_63 : decode cX0_heedFor 63 = .ok (.istore 6, 2) := by decide +kernel
theorem dX0_heedFor_65 : decode cX0_heedFor 65 = .ok (.iload 6, 2) := by decide +kernel
theorem dX0_heedFor_67 : decode cX0_heedFor 67 = .ok (.iload_n 1, 1) := by decide +kernel
theorem dX0_heedFor_68 : decode cX0_heedFor 68 = .ok (.if_icmp .gt 23, 3) := by decide +kernel
theorem dX0_heedFor_71 : decode cX0_heedFor 71 = .ok (.iload_n 3, 1) := by decide +kernel
theorem dX0_heedFor_72 : decode cX0_heedFor 72 = .ok (.bipush (-4), 2) := by decide +kernel
theorem dX0_heedFor_74 : decode cX0_heedFor 74 = .ok (.if_icmp .eq 10, 3) := by decide +kernel
theorem dX0_heedFor_77 : decode cX0_heedFor 77 = .ok (.iload 6, 2) := by decide +kernel
theorem dX0_heedFor_79 : decode cX0_heedFor 79 = .ok (.iload 4, 2) := by decide +kernel
theorem dX0_heedFor_81 : decode cX0_heedFor 81 = .ok (.if_icmp .le 10, 3) := by decide +kernel
theorem dX0_heedFor_84 : decode cX0_heedFor 84 = .ok (.iload 5, 2) := by decide +kernel
theorem dX0_heedFor_86 : decode cX0_heedFor 86 = .ok (.istore_n 3, 1) := by decide +kernel
theorem dX0_heedFor_87 : decode cX0_heedFor 87 = .ok (.iload 6, 2) := by decide +kernel
theorem dX0_heedFor_89 : decode cX0_heedFor 89 = .ok (.istore 4, 2) := by decide +kernel
theorem dX0_heedFor_91 : decode cX0_heedFor 91 = .ok (.iinc 5 1, 3) := by decide +kernel
theorem dX0_heedFor_94 : decode cX0_heedFor 94 = .ok (.goto (-85), 3) := by decide +kernel
theorem dX0_heedFor_97 : decode cX0_heedFor 97 = .ok (.iload_n 3, 1) := by decide +kernel
theorem dX0_heedFor_98 : decode cX0_heedFor 98 = .ok (.ireturn, 1) := by decide +kernel
theorem dX0_waysTo_0 : decode cX0_waysTo 0 = .ok (.aload_n 0, 1) := by decide +kernel
theorem dX0_waysTo_1 : decode cX0_waysTo 1 = .ok (.getfield 12, 3) := by decide +kernel
theorem dX0_waysTo_4 : decode cX0_waysTo 4 = .ok (.aload_n 2, 1) := by decide +kernel
theorem dX0_waysTo_5 : decode cX0_waysTo 5 = .ok (.getfield 32, 3) := by decide +kernel
theorem dX0_waysTo_8 : decode cX0_waysTo 8 = .ok (.invokevirtual 35, 3) := by decide +kernel
theorem dX0_waysTo_11 : decode cX0_waysTo 11 = .ok (.aload_n 0, 1) := by decide +kernel
theorem dX0_waysTo_12 : decode cX0_waysTo 12 = .ok (.getfield 28, 3) := by decide +kernel
theorem dX0_waysTo_15 : decode cX0_waysTo 15 = .ok (.iconst 0, 1) := by decide +kernel
theorem dX0_waysTo_16 : decode cX0_waysTo 16 = .ok (.aaload, 1) := by decide +kernel
theorem dX0_waysTo_17 : decode cX0_waysTo 17 = .ok (.aload_n 2, 1) := by decide +kernel
theorem dX0_waysTo_18 : decode cX0_waysTo 18 = .ok (.getfield 39, 3) := by decide +kernel
theorem dX0_waysTo_21 : decode cX0_waysTo 21 = .ok (.invokevirtual 40, 3) := by decide +kernel
theorem dX0_waysTo_24 : decode cX0_waysTo 24 = .ok (.aload_n 0, 1) := by decide +kernel
theorem dX0_waysTo_25 : decode cX0_waysTo 25 = .ok (.iconst 0, 1) := by decide +kernel
theorem dX0_waysTo_26 : decode cX0_waysTo 26 = .ok (.iload_n 1, 1) := by decide +kernel
theorem dX0_waysTo_27 : decode cX0_waysTo 27 = .ok (.invokevirtual 111, 3) := by decide +kernel
theorem dX0_waysTo_30 : decode cX0_waysTo 30 = .ok (.ireturn, 1) := by decide +kernel
theorem dX0_waysFrom_0 : decode cX0_waysFrom 0 = .ok (.aload_n 0, 1) := by decide +kernel
theorem dX0_waysFrom_1 : decode cX0_waysFrom 1 = .ok (.getfield 28, 3) := by decide +kernel
theorem dX0_waysFrom_4 : decode cX0_waysFrom 4 = .ok (.iload_n 1, 1) := by decide +kernel
theorem dX0_waysFrom_5 : decode cX0_waysFrom 5 = .ok (.aaload, 1) := by decide +kernel
theorem dX0_waysFrom_6 : decode cX0_waysFrom 6 = .ok (.astore_n 3, 1) := by decide +kernel
theorem dX0_waysFrom_7 : decode cX0_waysFrom 7 = .ok (.aload_n 3, 1) := by decide +kernel
theorem dX0_waysFrom_8 : decode cX0_waysFrom 8 = .ok (.getfield 47, 3) := by decide +kernel
theorem dX0_waysFrom_11 : decode cX0_waysFrom 11 = .ok (.bipush 12, 2) := by decide +kernel
theorem dX0_waysFrom_13 : decode cX0_waysFrom 13 = .ok (.if_icmp .ge 14, 3) := by decide +kernel
theorem dX0_waysFrom_16 : decode cX0_waysFrom 16 = .ok (.iload_n 1, 1) := by decide +kernel
theorem dX0_waysFrom_17 : decode cX0_waysFrom 17 = .ok (.iconst 1, 1) := by decide +kernel
theorem dX0_waysFrom_18 : decode cX0_waysFrom 18 = .ok (.iadd, 1) := by decide +kernel
theorem dX0_waysFrom_19 : decode cX0_waysFrom 19 = .ok (.aload_n 0, 1) := by decide +kernel
theorem dX0_waysFrom_20 : decode cX0_waysFrom 20 = .ok (.getfield 28, 3) := by decide +kernel
theorem dX0_waysFrom_23 : decode cX0_waysFrom 23 = .ok (.arraylength, 1) := by decide +kernel
theorem dX0_waysFrom_24 : decode cX0_waysFrom 24 = .ok (.if_icmp .lt 17, 3) := by decide +kernel
theorem dX0_waysFrom_27 : decode cX0_waysFrom 27 = .ok (.aload_n 3, 1) := by decide +kernel
theorem dX0_waysFrom_28 : decode cX0_waysFrom 28 = .ok (.getfield 89, 3) := by decide +kernel
theorem dX0_waysFrom_31 : decode cX0_waysFrom 31 = .ok (.iload_n 2, 1) := by decide +kernel
theorem dX0_waysFrom_32 : decode cX0_waysFrom 32 = .ok (.if_icmp .ne 7, 3) := by decide +kernel
theorem dX0_waysFrom_35 : decode cX0_waysFrom 35 = .ok (.iconst 1, 1) := by decide +kernel
theorem dX0_waysFrom_36 : decode cX0_waysFrom 36 = .ok (.goto 4, 3) := by decide +kernel
theorem dX0_waysFrom_39 : decode cX0_waysFrom 39 = .ok (.iconst 0, 1) := by decide +kernel
theorem dX0_waysFrom_40 : decode cX0_waysFrom 40 = .ok (.ireturn, 1) := by decide +kernel
theorem dX0_waysFrom_41 : decode cX0_waysFrom 41 = .ok (.aload_n 0, 1) := by decide +kernel
theorem dX0_waysFrom_42 : decode cX0_waysFrom 42 = .ok (.iload_n 1, 1) := by decide +kernel
theorem dX0_waysFrom_43 : decode cX0_waysFrom 43 = .ok (.iload_n 2, 1) := by decide +kernel
theorem dX0_waysFrom_44 : decode cX0_waysFrom 44 = .ok (.iconst 1, 1) := by decide +kernel
theorem dX0_waysFrom_45 : decode cX0_waysFrom 45 = .ok (.invokevirtual 115, 3) := by decide +kernel
theorem dX0_waysFrom_48 : decode cX0_waysFrom 48 = .ok (.istore 4, 2) := by decide +kernel
theorem dX0_waysFrom_50 : decode cX0_waysFrom 50 = .ok (.aload_n 0, 1) := by decide +kernel
theorem dX0_waysFrom_51 : decode cX0_waysFrom 51 = .ok (.getfield 12, 3) := by decide +kernel
theorem dX0_waysFrom_54 : decode cX0_waysFrom 54 = .ok (.aload_n 3, 1) := by decide +kernel
theorem dX0_waysFrom_55 : decode cX0_waysFrom 55 = .ok (.getfield 47, 3) := by decide +kernel
theorem dX0_waysFrom_58 : decode cX0_waysFrom 58 = .ok (.invokevirtual 119, 3) := by decide +kernel
theorem dX0_waysFrom_61 : decode cX0_waysFrom 61 = .ok (.ifCond .eq 16, 3) := by decide +kernel
theorem dX0_waysFrom_64 : decode cX0_waysFrom 64 = .ok (.iload 4, 2) := by decide +kernel
theorem dX0_waysFrom_66 : decode cX0_waysFrom 66 = .ok (.aload_n 0, 1) := by decide +kernel
theorem dX0_waysFrom_67 : decode cX0_waysFrom 67 = .ok (.iload_n 1, 1) := by decide +kernel
theorem dX0_waysFrom_68 : decode cX0_waysFrom 68 = .ok (.iload_n 2, 1) := by decide +kernel
theorem dX0_waysFrom_69 : decode cX0_waysFrom 69 = .ok (.iconst 2, 1) := by decide +kernel
theorem dX0_waysFrom_70 : decode cX0_waysFrom 70 = .ok (.invokevirtual 115, 3) := by decide +kernel
theorem dX0_waysFrom_73 : decode cX0_waysFrom 73 = .ok (.iadd, 1) := by decide +kernel
theorem dX0_waysFrom_74 : decode cX0_waysFrom 74 = .ok (.goto 7, 3) := by decide +kernel
theorem dX0_waysFrom_77 : decode cX0_waysFrom 77 = .ok (.iconst 2, 1) := by decide +kernel
theorem dX0_waysFrom_78 : decode cX0_waysFrom 78 = .ok (.iload 4, 2) := by decide +kernel
theorem dX0_waysFrom_80 : decode cX0_waysFrom 80 = .ok (.imul, 1) := by decide +kernel
theorem dX0_waysFrom_81 : decode cX0_waysFrom 81 = .ok (.ireturn, 1) := by decide +kernel
theorem dX0_waysBehind_0 : decode cX0_waysBehind 0 = .ok (.aload_n 0, 1) := by decide +kernel
theorem dX0_waysBehind_1 : decode cX0_waysBehind 1 = .ok (.getfield 28, 3) := by decide +kernel
theorem dX0_waysBehind_4 : decode cX0_waysBehind 4 = .ok (.iload_n 1, 1) := by decide +kernel
theorem dX0_waysBehind_5 : decode cX0_waysBehind 5 = .ok (.iconst 1, 1) := by decide +kernel
theorem dX0_waysBehind_6 : decode cX0_waysBehind 6 = .ok (.iadd, 1) := by decide +kernel
theorem dX0_waysBehind_7 : decode cX0_waysBehind 7 = .ok (.aaload, 1) := by decide +kernel
theorem dX0_waysBehind_8 : decode cX0_waysBehind 8 = .ok (.aload_n 0, 1) := by decide +kernel
theorem dX0_waysBehind_9 : decode cX0_waysBehind 9 = .ok (.getfield 28, 3) := by decide +kernel
theorem dX0_waysBehind_12 : decode cX0_waysBehind 12 = .ok (.iload_n 1, 1) := by decide +kernel
theorem dX0_waysBehind_13 : decode cX0_waysBehind 13 = .ok (.aaload, 1) := by decide +kernel
theorem dX0_waysBehind_14 : decode cX0_waysBehind 14 = .ok (.invokevirtual 40, 3) := by decide +kernel
theorem dX0_waysBehind_17 : decode cX0_waysBehind 17 = .ok (.aload_n 0, 1) := by decide +kernel
theorem dX0_waysBehind_18 : decode cX0_waysBehind 18 = .ok (.getfield 12, 3) := by decide +kernel
theorem dX0_waysBehind_21 : decode cX0_waysBehind 21 = .ok (.aload_n 0, 1) := by decide +kernel
theorem dX0_waysBehind_22 : decode cX0_waysBehind 22 = .ok (.getfield 28, 3) := by decide +kernel
theorem dX0_waysBehind_25 : decode cX0_waysBehind 25 = .ok (.iload_n 1, 1) := by decide +kernel
theorem dX0_waysBehind_26 : decode cX0_waysBehind 26 = .ok (.iconst 1, 1) := by decide +kernel
theorem dX0_waysBehind_27 : decode cX0_waysBehind 27 = .ok (.iadd, 1) := by decide +kernel
theorem dX0_waysBehind_28 : decode cX0_waysBehind 28 = .ok (.aaload, 1) := by decide +kernel
theorem dX0_waysBehind_29 : decode cX0_waysBehind 29 = .ok (.iload_n 3, 1) := by decide +kernel
theorem dX0_waysBehind_30 : decode cX0_waysBehind 30 = .ok (.invokevirtual 50, 3) := by decide +kernel
theorem dX0_waysBehind_33 : decode cX0_waysBehind 33 = .ok (.pop, 1) := by decide +kernel
theorem dX0_waysBehind_34 : decode cX0_waysBehind 34 = .ok (.aload_n 0, 1) := by decide +kernel
theorem dX0_waysBehind_35 : decode cX0_waysBehind 35 = .ok (.iload_n 1, 1) := by decide +kernel
theorem dX0_waysBehind_36 : decode cX0_waysBehind 36 = .ok (.iconst 1, 1) := by decide +kernel
theorem dX0_waysBehind_37 : decode cX0_waysBehind 37 = .ok (.iadd, 1) := by decide +kernel
theorem dX0_waysBehind_38 : decode cX0_waysBehind 38 = .ok (.iload_n 2, 1) := by decide +kernel
theorem dX0_waysBehind_39 : decode cX0_waysBehind 39 = .ok (.invokevirtual 111, 3) := by decide +kernel
theorem dX0_waysBehind_42 : decode cX0_waysBehind 42 = .ok (.ireturn, 1) := by decide +kernel
theorem dX3_init_0 : decode cX3_init 0 = .ok (.aload_n 0, 1) := by decide +kernel
theorem dX3_init_1 : decode cX3_init 1 = .ok (.invokespecial 3, 3) := by decide +kernel
theorem dX3_init_4 : decode cX3_init 4 = .ok (.aload_n 0, 1) := by decide +kernel
theorem dX3_init_5 : decode cX3_init 5 = .ok (.bipush 120, 2) := by decide +kernel
theorem dX3_init_7 : decode cX3_init 7 = .ok (.newarray .char, 2) := by decide +kernel
theorem dX3_init_9 : decode cX3_init 9 = .ok (.putfield 9, 3) := by decide +kernel
theorem dX3_init_12 : decode cX3_init 12 = .ok (.aload_n 0, 1) := by decide +kernel
theorem dX3_init_13 : decode cX3_init 13 = .ok (.new 15, 3) := by decide +kernel
theorem dX3_init_16 : decode cX3_init 16 = .ok (.dup, 1) := by decide +kernel
theorem dX3_init_17 : decode cX3_init 17 = .ok (.invokespecial 17, 3) := by decide +kernel
theorem dX3_init_20 : decode cX3_init 20 = .ok (.putfield 18, 3) := by decide +kernel
theorem dX3_init_23 : decode cX3_init 23 = .ok (.aload_n 0, 1) := by decide +kernel
theorem dX3_init_24 : decode cX3_init 24 = .ok (.new 22, 3) := by decide +kernel
theorem dX3_init_27 : decode cX3_init 27 = .ok (.dup, 1) := by decide +kernel
theorem dX3_init_28 : decode cX3_init 28 = .ok (.invokespecial 24, 3) := by decide +kernel
theorem dX3_init_31 : decode cX3_init 31 = .ok (.putfield 25, 3) := by decide +kernel
theorem dX3_init_34 : decode cX3_init 34 = .ok (.return_, 1) := by decide +kernel
theorem dX3_readRoad_0 : decode cX3_readRoad 0 = .ok (.aload_n 0, 1) := by decide +kernel
theorem dX3_readRoad_1 : decode cX3_readRoad 1 = .ok (.iconst 0, 1) := by decide +kernel
theorem dX3_readRoad_2 : decode cX3_readRoad 2 = .ok (.putfield 29, 3) := by decide +kernel
theorem dX3_readRoad_5 : decode cX3_readRoad 5 = .ok (.aload_n 0, 1) := by decide +kernel
theorem dX3_readRoad_6 : decode cX3_readRoad 6 = .ok (.getfield 18, 3) := by decide +kernel
theorem dX3_readRoad_9 : decode cX3_readRoad 9 = .ok (.aload_n 1, 1) := by decide +kernel
theorem dX3_readRoad_10 : decode cX3_readRoad 10 = .ok (.getfield 33, 3) := by decide +kernel
theorem dX3_readRoad_13 : decode cX3_readRoad 13 = .ok (.invokevirtual 36, 3) := by decide +kernel
theorem dX3_readRoad_16 : decode cX3_readRoad 16 = .ok (.aload_n 0, 1) := by decide +kernel
theorem dX3_readRoad_17 : decode cX3_readRoad 17 = .ok (.getfield 25, 3) := by decide +kernel
theorem dX3_readRoad_20 : decode cX3_readRoad 20 = .ok (.aload_n 1, 1) := by decide +kernel
theorem dX3_readRoad_21 : decode cX3_readRoad 21 = .ok (.getfield 40, 3) := by decide +kernel
theorem dX3_readRoad_24 : decode cX3_readRoad 24 = .ok (.invokevirtual 41, 3) := by decide +kernel
theorem dX3_readRoad_27 : decode cX3_readRoad 27 = .ok (.aload_n 0, 1) := by decide +kernel
theorem dX3_readRoad_28 : decode cX3_readRoad 28 = .ok (.getfield 18, 3) := by decide +kernel
theorem dX3_readRoad_31 : decode cX3_readRoad 31 = .ok (.iconst 0, 1) := by decide +kernel
theorem dX3_readRoad_32 : decode cX3_readRoad 32 = .ok (.putfield 44, 3) := by decide +kernel
theorem dX3_readRoad_35 : decode cX3_readRoad 35 = .ok (.aload_n 0, 1) := by decide +kernel
theorem dX3_readRoad_36 : decode cX3_readRoad 36 = .ok (.getfield 18, 3) := by decide +kernel
theorem dX3_readRoad_39 : decode cX3_readRoad 39 = .ok (.iconst 0, 1) := by decide +kernel
theorem dX3_readRoad_40 : decode cX3_readRoad 40 = .ok (.putfield 47, 3) := by decide +kernel
theorem dX3_readRoad_43 : decode cX3_readRoad 43 = .ok (.aload_n 0, 1) := by decide +kernel
theorem dX3_readRoad_44 : decode cX3_readRoad 44 = .ok (.getfield 25, 3) := by decide +kernel
theorem dX3_readRoad_47 : decode cX3_readRoad 47 = .ok (.invokevirtual 50, 3) := by decide +kernel
theorem dX3_readRoad_50 : decode cX3_readRoad 50 = .ok (.aload_n 0, 1) := by decide +kernel
theorem dX3_readRoad_51 : decode cX3_readRoad 51 = .ok (.invokevirtual 53, 3) := by decide +kernel
theorem dX3_readRoad_54 : decode cX3_readRoad 54 = .ok (.ifCond .ne 5, 3) := by decide +kernel
theorem dX3_readRoad_57 : decode cX3_readRoad 57 = .ok (.iconst 0, 1) := by decide +kernel
theorem dX3_readRoad_58 : decode cX3_readRoad 58 = .ok (.ireturn, 1) := by decide +kernel
theorem dX3_readRoad_59 : decode cX3_readRoad 59 = .ok (.aload_n 0, 1) := by decide +kernel
theorem dX3_readRoad_60 : decode cX3_readRoad 60 = .ok (.bipush 59, 2) := by decide +kernel
theorem dX3_readRoad_62 : decode cX3_readRoad 62 = .ok (.invokevirtual 57, 3) := by decide +kernel
theorem dX3_readRoad_65 : decode cX3_readRoad 65 = .ok (.istore_n 2, 1) := by decide +kernel
theorem dX3_readRoad_66 : decode cX3_readRoad 66 = .ok (.iload_n 2, 1) := by decide +kernel
theorem dX3_readRoad_67 : decode cX3_readRoad 67 = .ok (.ifCond .eq 29, 3) := by decide +kernel
theorem dX3_readRoad_70 : decode cX3_readRoad 70 = .ok (.aload_n 0, 1) := by decide +kernel
theorem dX3_readRoad_71 : decode cX3_readRoad 71 = .ok (.invokevirtual 61, 3) := by decide +kernel
theorem dX3_readRoad_74 : decode cX3_readRoad 74 = .ok (.invokestatic 65, 3) := by decide +kernel
theorem dX3_readRoad_77 : decode cX3_readRoad 77 = .ok (.ifCond .eq 19, 3) := by decide +kernel
theorem dX3_readRoad_80 : decode cX3_readRoad 80 = .ok (.aload_n 0, 1) := by decide +kernel
theorem dX3_readRoad_81 : decode cX3_readRoad 81 = .ok (.invokevirtual 68, 3) := by decide +kernel
theorem dX3_readRoad_84 : decode cX3_readRoad 84 = .ok (.ifCond .ne 5, 3) := by decide +kernel
theorem dX3_readRoad_87 : decode cX3_readRoad 87 = .ok (.iconst 0, 1) := by decide +kernel
theorem dX3_readRoad_88 : decode cX3_readRoad 88 = .ok (.ireturn, 1) := by decide +kernel
theorem dX3_readRoad_89 : decode cX3_readRoad 89 = .ok (.aload_n 0, 1) := by decide +kernel
theorem dX3_readRoad_90 : decode cX3_readRoad 90 = .ok (.bipush 59, 2) := by decide +kernel
theorem dX3_readRoad_92 : decode cX3_readRoad 92 = .ok (.invokevirtual 57, 3) := by decide +kernel
theorem dX3_readRoad_95 : decode cX3_readRoad 95 = .ok (.istore_n 2, 1) := by decide +kernel
theorem dX3_readRoad_96 : decode cX3_readRoad 96 = .ok (.iload_n 2, 1) := by decide +kernel
theorem dX3_readRoad_97 : decode cX3_readRoad 97 = .ok (.ifCond .eq 12, 3) := by decide +kernel
theorem dX3_readRoad_100 : decode cX3_readRoad 100 = .ok (.aload_n 0, 1) := by decide +kernel
theorem dX3_readRoad_101 : decode cX3_readRoad 101 = .ok (.invokevirtual 71, 3) := by decide +kernel
theorem dX3_readRoad_104 : decode cX3_readRoad 104 = .ok (.ifCond .ne 5, 3) := by decide +kernel
theorem dX3_readRoad_107 : decode cX3_readRoad 107 = .ok (.iconst 0, 1) := by decide +kernel
theorem dX3_readRoad_108 : decode cX3_readRoad 108 = .ok (.ireturn, 1) := by decide +kernel
theorem dX3_readRoad_109 : decode cX3_readRoad 109 = .ok (.aload_n 0, 1) := by decide +kernel
theorem dX3_readRoad_110 : decode cX3_readRoad 110 = .ok (.invokevirtual 61, 3) := by decide +kernel
theorem dX3_readRoad_113 : decode cX3_readRoad 113 = .ok (.ifCond .ne 7, 3) := by decide +kernel
theorem dX3_readRoad_116 : decode cX3_readRoad 116 = .ok (.iconst 1, 1) := by decide +kernel
theorem dX3_readRoad_117 : decode cX3_readRoad 117 = .ok (.goto 4, 3) := by decide +kernel
theorem dX3_readRoad_120 : decode cX3_readRoad 120 = .ok (.iconst 0, 1) := by decide +kernel
theorem dX3_readRoad_121 : decode cX3_readRoad 121 = .ok (.ireturn, 1) := by decide +kernel
theorem dX3_readThings_0 : decode cX3_readThings 0 = .ok (.iconst 1, 1) := by decide +kernel
theorem dX3_readThings_1 : decode cX3_readThings 1 = .ok (.istore_n 1, 1) := by decide +kernel
theorem dX3_readThings_2 : decode cX3_readThings 2 = .ok (.iload_n 1, 1) := by decide +kernel
theorem dX3_readThings_3 : decode cX3_readThings 3 = .ok (.bipush 10, 2) := by decide +kernel
theorem dX3_readThings_5 : decode cX3_readThings 5 = .ok (.if_icmp .gt 35, 3) := by decide +kernel
theorem dX3_readThings_8 : decode cX3_readThings 8 = .ok (.aload_n 0, 1) := by decide +kernel
theorem dX3_readThings_9 : decode cX3_readThings 9 = .ok (.invokevirtual 74, 3) := by decide +kernel
theorem dX3_readThings_12 : decode cX3_readThings 12 = .ok (.ifCond .ne 5, 3) := by decide +kernel
theorem dX3_readThings_15 : decode cX3_readThings 15 = .ok (.iconst 0, 1) := by decide +kernel
theorem dX3_readThings_16 : decode cX3_readThings 16 = .ok (.ireturn, 1) := by decide +kernel
theorem dX3_readThings_17 : decode cX3_readThings 17 = .ok (.iload_n 1, 1) := by decide +kernel
theorem dX3_readThings_18 : decode cX3_readThings 18 = .ok (.bipush 10, 2) := by decide +kernel
theorem dX3_readThings_20 : decode cX3_readThings 20 = .ok (.if_icmp .eq 12, 3) := by decide +kernel
theorem dX3_readThings_23 : decode cX3_readThings 23 = .ok (.aload_n 0, 1) := by decide +kernel
theorem dX3_readThings_24 : decode cX3_readThings 24 = .ok (.bipush 44, 2) := by decide +kernel
theorem dX3_readThings_26 : decode cX3_readThings 26 = .ok (.invokevirtual 57, 3) := by decide +kernel
theorem dX3_readThings_29 : decode cX3_readThings 29 = .ok (.ifCond .ne 5, 3) := by decide +kernel
theorem dX3_readThings_32 : decode cX3_readThings 32 = .ok (.iconst 1, 1) := by decide +kernel
theorem dX3_readThings_33 : decode cX3_readThings 33 = .ok (.ireturn, 1) := by decide +kernel
theorem dX3_readThings_34 : decode cX3_readThings 34 = .ok (.iinc 1 1, 3) := by decide +kernel
theorem dX3_readThings_37 : decode cX3_readThings 37 = .ok (.goto (-35), 3) := by decide +kernel
theorem dX3_readThings_40 : decode cX3_readThings 40 = .ok (.iconst 1, 1) := by decide +kernel
theorem dX3_readThings_41 : decode cX3_readThings 41 = .ok (.ireturn, 1) := by decide +kernel
theorem dX3_readThing_0 : decode cX3_readThing 0 = .ok (.ldc 77, 2) := by decide +kernel
theorem dX3_readThing_2 : decode cX3_readThing 2 = .ok (.aload_n 0, 1) := by decide +kernel
theorem dX3_readThing_3 : decode cX3_readThing 3 = .ok (.invokevirtual 61, 3) := by decide +kernel
theorem dX3_readThing_6 : decode cX3_readThing 6 = .ok (.invokevirtual 79, 3) := by decide +kernel
theorem dX3_readThing_9 : decode cX3_readThing 9 = .ok (.istore_n 1, 1) := by decide +kernel
theorem dX3_readThing_10 : decode cX3_readThing 10 = .ok (.iload_n 1, 1) := by decide +kernel
theorem dX3_readThing_11 : decode cX3_readThing 11 = .ok (.ifCond .ge 5, 3) := by decide +kernel
theorem dX3_readThing_14 : decode cX3_readThing 14 = .ok (.iconst 0, 1) := by decide +kernel
theorem dX3_readThing_15 : decode cX3_readThing 15 = .ok (.ireturn, 1) := by decide +kernel
theorem dX3_readThing_16 : decode cX3_readThing 16 = .ok (.aload_n 0, 1) := by decide +kernel
theorem dX3_readThing_17 : decode cX3_readThing 17 = .ok (.dup, 1) := by decide +kernel
theorem dX3_readThing_18 : decode cX3_readThing 18 = .ok (.getfield 29, 3) := by decide +kernel
theorem dX3_readThing_21 : decode cX3_readThing 21 = .ok (.iconst 1, 1) := by decide +kernel
theorem dX3_readThing_22 : decode cX3_readThing 22 = .ok (.iadd, 1) := by decide +kernel
theorem dX3_readThing_23 : decode cX3_readThing 23 = .ok (.putfield 29, 3) := by decide +kernel
theorem dX3_readThing_26 : decode cX3_readThing 26 = .ok (.aload_n 0, 1) := by decide +kernel
theorem dX3_readThing_27 : decode cX3_readThing 27 = .ok (.bipush 99, 2) := by decide +kernel
theorem dX3_readThing_29 : decode cX3_readThing 29 = .ok (.invokevirtual 85, 3) := by decide +kernel
theorem dX3_readThing_32 : decode cX3_readThing 32 = .ok (.istore_n 2, 1) := by decide +kernel
theorem dX3_readThing_33 : decode cX3_readThing 33 = .ok (.iload_n 2, 1) := by decide +kernel
theorem dX3_readThing_34 : decode cX3_readThing 34 = .ok (.ifCond .ge 5, 3) := by decide +kernel
theorem dX3_readThing_37 : decode cX3_readThing 37 = .ok (.iconst 0, 1) := by decide +kernel
theorem dX3_readThing_38 : decode cX3_readThing 38 = .ok (.ireturn, 1) := by decide +kernel
theorem dX3_readThing_39 : decode cX3_readThing 39 = .ok (.aload_n 0, 1) := by decide +kernel
theorem dX3_readThing_40 : decode cX3_readThing 40 = .ok (.bipush 108, 2) := by decide +kernel
theorem dX3_readThing_42 : decode cX3_readThing 42 = .ok (.invokevirtual 57, 3) := by decide +kernel
theorem dX3_readThing_45 : decode cX3_readThing 45 = .ok (.ifCond .eq 12, 3) := by decide +kernel
theorem dX3_readThing_48 : decode cX3_readThing 48 = .ok (.aload_n 0, 1) := by decide +kernel
theorem dX3_readThing_49 : decode cX3_readThing 49 = .ok (.bipush 30, 2) := by decide +kernel
theorem dX3_readThing_51 : decode cX3_readThing 51 = .ok (.invokevirtual 85, 3) := by decide +kernel
theorem dX3_readThing_54 : decode cX3_readThing 54 = .ok (.goto 4, 3) := by decide +kernel
theorem dX3_readThing_57 : decode cX3_readThing 57 = .ok (.iconst 0, 1) := by decide +kernel
theorem dX3_readThing_58 : decode cX3_readThing 58 = .ok (.istore_n 3, 1) := by decide +kernel
theorem dX3_readThing_59 : decode cX3_readThing 59 = .ok (.iload_n 3, 1) := by decide +kernel
theorem dX3_readThing_60 : decode cX3_readThing 60 = .ok (.ifCond .ge 5, 3) := by decide +kernel
theorem dX3_readThing_63 : decode cX3_readThing 63 = .ok (.iconst 0, 1) := by decide +kernel
theorem dX3_readThing_64 : decode cX3_readThing 64 = .ok (.ireturn, 1) := by decide +kernel
theorem dX3_readThing_65 : decode cX3_readThing 65 = .ok (.aload_n 0, 1) := by decide +kernel
theorem dX3_readThing_66 : decode cX3_readThing 66 = .ok (.bipush 99, 2) := by decide +kernel
theorem dX3_readThing_68 : decode cX3_readThing 68 = .ok (.invokevirtual 57, 3) := by decide +kernel
theorem dX3_readThing_71 : decode cX3_readThing 71 = .ok (.ifCond .eq 12, 3) := by decide +kernel
theorem dX3_readThing_74 : decode cX3_readThing 74 = .ok (.aload_n 0, 1) := by decide +kernel
theorem dX3_readThing_75 : decode cX3_readThing 75 = .ok (.bipush 30, 2) := by decide +kernel
theorem dX3_readThing_77 : decode cX3_readThing 77 = .ok (.invokevirtual 85, 3) := by decide +kernel
theorem dX3_readThing_80 : decode cX3_readThing 80 = .ok (.goto 4, 3) := by decide +kernel
theorem dX3_readThing_83 : decode cX3_readThing 83 = .ok (.iconst 0, 1) := by decide +kernel
theorem dX3_readThing_84 : decode cX3_readThing 84 = .ok (.istore 4, 2) := by decide +kernel
theorem dX3_readThing_86 : decode cX3_readThing 86 = .ok (.iload 4, 2) := by decide +kernel
theorem dX3_readThing_88 : decode cX3_readThing 88 = .ok (.ifCond .ge 5, 3) := by decide +kernel
theorem dX3_readThing_91 : decode cX3_readThing 91 = .ok (.iconst 0, 1) := by decide +kernel
theorem dX3_readThing_92 : decode cX3_readThing 92 = .ok (.ireturn, 1) := by decide +kernel
theorem dX3_readThing_93 : decode cX3_readThing 93 = .ok (.aload_n 0, 1) := by decide +kernel
theorem dX3_readThing_94 : decode cX3_readThing 94 = .ok (.getfield 18, 3) := by decide +kernel
theorem dX3_readThing_97 : decode cX3_readThing 97 = .ok (.iload_n 1, 1) := by decide +kernel
theorem dX3_readThing_98 : decode cX3_readThing 98 = .ok (.iload_n 2, 1) := by decide +kernel
theorem dX3_readThing_99 : decode cX3_readThing 99 = .ok (.iload_n 3, 1) := by decide +kernel
theorem dX3_readThing_100 : decode cX3_readThing 100 = .ok (.iload 4, 2) := by decide +kernel
theorem dX3_readThing_102 : decode cX3_readThing 102 = .ok (.invokevirtual 88, 3) := by decide +kernel
theorem dX3_readThing_105 : decode cX3_readThing 105 = .ok (.pop, 1) := by decide +kernel
theorem dX3_readThing_106 : decode cX3_readThing 106 = .ok (.iconst 1, 1) := by decide +kernel
theorem dX3_readThing_107 : decode cX3_readThing 107 = .ok (.ireturn, 1) := by decide +kernel
theorem dX3_readPeople_0 : decode cX3_readPeople 0 = .ok (.iconst 1, 1) := by decide +kernel
theorem dX3_readPeople_1 : decode cX3_readPeople 1 = .ok (.istore_n 1, 1) := by decide +kernel
theorem dX3_readPeople_2 : decode cX3_readPeople 2 = .ok (.iload_n 1, 1) := by decide +kernel
theorem dX3_readPeople_3 : decode cX3_readPeople 3 = .ok (.bipush 8, 2) := by decide +kernel
theorem dX3_readPeople_5 : decode cX3_readPeople 5 = .ok (.if_icmp .gt 35, 3) := by decide +kernel
theorem dX3_readPeople_8 : decode cX3_readPeople 8 = .ok (.aload_n 0, 1) := by decide +kernel
theorem dX3_readPeople_9 : decode cX3_readPeople 9 = .ok (.invokevirtual 92, 3) := by decide +kernel
theorem dX3_readPeople_12 : decode cX3_readPeople 12 = .ok (.ifCond .ne 5, 3) := by decide +kernel
theorem dX3_readPeople_15 : decode cX3_readPeople 15 = .ok (.iconst 0, 1) := by decide +kernel
theorem dX3_readPeople_16 : decode cX3_readPeople 16 = .ok (.ireturn, 1) := by decide +kernel
theorem dX3_readPeople_17 : decode cX3_readPeople 17 = .ok (.iload_n 1, 1) := by decide +kernel
theorem dX3_readPeople_18 : decode cX3_readPeople 18 = .ok (.bipush 8, 2) := by decide +kernel
theorem dX3_readPeople_20 : decode cX3_readPeople 20 = .ok (.if_icmp .eq 12, 3) := by decide +kernel
theorem dX3_readPeople_23 : decode cX3_readPeople 23 = .ok (.aload_n 0, 1) := by decide +kernel
theorem dX3_readPeople_24 : decode cX3_readPeople 24 = .ok (.bipush 44, 2) := by decide +kernel
theorem dX3_readPeople_26 : decode cX3_readPeople 26 = .ok (.invokevirtual 57, 3) := by decide +kernel
theorem dX3_readPeople_29 : decode cX3_readPeople 29 = .ok (.ifCond .ne 5, 3) := by decide +kernel
theorem dX3_readPeople_32 : decode cX3_readPeople 32 = .ok (.iconst 1, 1) := by decide +kernel
theorem dX3_readPeople_33 : decode cX3_readPeople 33 = .ok (.ireturn, 1) := by decide +kernel
theorem dX3_readPeople_34 : decode cX3_readPeople 34 = .ok (.iinc 1 1, 3) := by decide +kernel
theorem dX3_readPeople_37 : decode cX3_readPeople 37 = .ok (.goto (-35), 3) := by decide +kernel
theorem dX3_readPeople_40 : decode cX3_readPeople 40 = .ok (.iconst 1, 1) := by decide +kernel
theorem dX3_readPeople_41 : decode cX3_readPeople 41 = .ok (.ireturn, 1) := by decide +kernel
theorem dX3_readPerson_0 : decode cX3_readPerson 0 = .ok (.aload_n 0, 1) := by decide +kernel
theorem dX3_readPerson_1 : decode cX3_readPerson 1 = .ok (.bipush 11, 2) := by decide +kernel
theorem dX3_readPerson_3 : decode cX3_readPerson 3 = .ok (.invokevirtual 85, 3) := by decide +kernel
theorem dX3_readPerson_6 : decode cX3_readPerson 6 = .ok (.istore_n 1, 1) := by decide +kernel
theorem dX3_readPerson_7 : decode cX3_readPerson 7 = .ok (.iload_n 1, 1) := by decide +kernel
theorem dX3_readPerson_8 : decode cX3_readPerson 8 = .ok (.ifCond .ge 5, 3) := by decide +kernel
theorem dX3_readPerson_11 : decode cX3_readPerson 11 = .ok (.iconst 0, 1) := by decide +kernel
theorem dX3_readPerson_12 : decode cX3_readPerson 12 = .ok (.ireturn, 1) := by decide +kernel
theorem dX3_readPerson_13 : decode cX3_readPerson 13 = .ok (.bipush (-4), 2) := by decide +kernel
theorem dX3_readPerson_15 : decode cX3_readPerson 15 = .ok (.istore_n 2, 1) := by decide +kernel
theorem dX3_readPerson_16 : decode cX3_readPerson 16 = .ok (.aload_n 0, 1) := by decide +kernel
theorem dX3_readPerson_17 : decode cX3_readPerson 17 = .ok (.bipush 61, 2) := by decide +kernel
theorem dX3_readPerson_19 : decode cX3_readPerson 19 = .ok (.invokevirtual 57, 3) := by decide +kernel
theorem dX3_readPerson_22 : decode cX3_readPerson 22 = .ok (.ifCond .eq 14, 3) := by decide +kernel
theorem dX3_readPerson_25 : decode cX3_readPerson 25 = .ok (.aload_n 0, 1) := by decide +kernel
theorem dX3_readPerson_26 : decode cX3_readPerson 26 = .ok (.invokevirtual 95, 3) := by decide +kernel
theorem dX3_readPerson_29 : decode cX3_readPerson 29 = .ok (.istore_n 2, 1) := by decide +kernel
theorem dX3_readPerson_30 : decode cX3_readPerson 30 = .ok (.iload_n 2, 1) := by decide +kernel
theorem dX3_readPerson_31 : decode cX3_readPerson 31 = .ok (.ifCond .ge 5, 3) := by decide +kernel
theorem dX3_readPerson_34 : decode cX3_readPerson 34 = .ok (.iconst 0, 1) := by decide +kernel
theorem dX3_readPerson_35 : decode cX3_readPerson 35 = .ok (.ireturn, 1) := by decide +kernel
theorem dX3_readPerson_36 : decode cX3_readPerson 36 = .ok (.aload_n 0, 1) := by decide +kernel
theorem dX3_readPerson_37 : decode cX3_readPerson 37 = .ok (.bipush 43, 2) := by decide +kernel
theorem dX3_readPerson_39 : decode cX3_readPerson 39 = .ok (.invokevirtual 57, 3) := by decide +kernel
theorem dX3_readPerson_42 : decode cX3_readPerson 42 = .ok (.ifCond .eq 12, 3) := by decide +kernel
theorem dX3_readPerson_45 : decode cX3_readPerson 45 = .ok (.aload_n 0, 1) := by decide +kernel
theorem dX3_readPerson_46 : decode cX3_readPerson 46 = .ok (.bipush 20, 2) := by decide +kernel
theorem dX3_readPerson_48 : decode cX3_readPerson 48 = .ok (.invokevirtual 85, 3) := by decide +kernel
theorem dX3_readPerson_51 : decode cX3_readPerson 51 = .ok (.goto 4, 3) := by decide +kernel
theorem dX3_readPerson_54 : decode cX3_readPerson 54 = .ok (.iconst 0, 1) := by decide +kernel
theorem dX3_readPerson_55 : decode cX3_readPerson 55 = .ok (.istore_n 3, 1) := by decide +kernel
theorem dX3_readPerson_56 : decode cX3_readPerson 56 = .ok (.iload_n 3, 1) := by decide +kernel
theorem dX3_readPerson_57 : decode cX3_readPerson 57 = .ok (.ifCond .ge 5, 3) := by decide +kernel
theorem dX3_readPerson_60 : decode cX3_readPerson 60 = .ok (.iconst 0, 1) := by decide +kernel
theorem dX3_readPerson_61 : decode cX3_readPerson 61 = .ok (.ireturn, 1) := by decide +kernel
theorem dX3_readPerson_62 : decode cX3_readPerson 62 = .ok (.aload_n 0, 1) := by decide +kernel
theorem dX3_readPerson_63 : decode cX3_readPerson 63 = .ok (.getfield 18, 3) := by decide +kernel
theorem dX3_readPerson_66 : decode cX3_readPerson 66 = .ok (.iload_n 1, 1) := by decide +kernel
theorem dX3_readPerson_67 : decode cX3_readPerson 67 = .ok (.iload_n 3, 1) := by decide +kernel
theorem dX3_readPerson_68 : decode cX3_readPerson 68 = .ok (.iload_n 2, 1) := by decide +kernel
theorem dX3_readPerson_69 : decode cX3_readPerson 69 = .ok (.aload_n 0, 1) := by decide +kernel
theorem dX3_readPerson_70 : decode cX3_readPerson 70 = .ok (.getfield 25, 3) := by decide +kernel
theorem dX3_readPerson_73 : decode cX3_readPerson 73 = .ok (.invokevirtual 99, 3) := by decide +kernel
theorem dX3_readPerson_76 : decode cX3_readPerson 76 = .ok (.pop, 1) := by decide +kernel
theorem dX3_readPerson_77 : decode cX3_readPerson 77 = .ok (.iconst 1, 1) := by decide +kernel
theorem dX3_readPerson_78 : decode cX3_readPerson 78 = .ok (.ireturn, 1) := by decide +kernel
theorem dX3_readHis_0 : decode cX3_readHis 0 = .ok (.aload_n 0, 1) := by decide +kernel
theorem dX3_readHis_1 : decode cX3_readHis 1 = .ok (.bipush 61, 2) := by decide +kernel
theorem dX3_readHis_3 : decode cX3_readHis 3 = .ok (.invokevirtual 57, 3) := by decide +kernel
theorem dX3_readHis_6 : decode cX3_readHis 6 = .ok (.ifCond .ne 5, 3) := by decide +kernel
theorem dX3_readHis_9 : decode cX3_readHis 9 = .ok (.iconst 0, 1) := by decide +kernel
theorem dX3_readHis_10 : decode cX3_readHis 10 = .ok (.ireturn, 1) := by decide +kernel
theorem dX3_readHis_11 : decode cX3_readHis 11 = .ok (.aload_n 0, 1) := by decide +kernel
theorem dX3_readHis_12 : decode cX3_readHis 12 = .ok (.invokevirtual 95, 3) := by decide +kernel
theorem dX3_readHis_15 : decode cX3_readHis 15 = .ok (.istore_n 1, 1) := by decide +kernel
theorem dX3_readHis_16 : decode cX3_readHis 16 = .ok (.iload_n 1, 1) := by decide +kernel
theorem dX3_readHis_17 : decode cX3_readHis 17 = .ok (.ifCond .ge 5, 3) := by decide +kernel
theorem dX3_readHis_20 : decode cX3_readHis 20 = .ok (.iconst 0, 1) := by decide +kernel
theorem dX3_readHis_21 : decode cX3_readHis 21 = .ok (.ireturn, 1) := by decide +kernel
theorem dX3_readHis_22 : decode cX3_readHis 22 = .ok (.aload_n 0, 1) := by decide +kernel
theorem dX3_readHis_23 : decode cX3_readHis 23 = .ok (.getfield 25, 3) := by decide +kernel
theorem dX3_readHis_26 : decode cX3_readHis 26 = .ok (.iload_n 1, 1) := by decide +kernel
theorem dX3_readHis_27 : decode cX3_readHis 27 = .ok (.putfield 103, 3) := by decide +kernel
theorem dX3_readHis_30 : decode cX3_readHis 30 = .ok (.iconst 1, 1) := by decide +kernel
theorem dX3_readHis_31 : decode cX3_readHis 31 = .ok (.ireturn, 1) := by decide +kernel
theorem dX3_next_0 : decode cX3_next 0 = .ok (.aload_n 0, 1) := by decide +kernel
theorem dX3_next_1 : decode cX3_next 1 = .ok (.getfield 29, 3) := by decide +kernel
theorem dX3_next_4 : decode cX3_next 4 = .ok (.aload_n 0, 1) := by decide +kernel
theorem dX3_next_5 : decode cX3_next 5 = .ok (.getfield 106, 3) := by decide +kernel
theorem dX3_next_8 : decode cX3_next 8 = .ok (.if_icmp .ge 30, 3) := by decide +kernel
theorem dX3_next_11 : decode cX3_next 11 = .ok (.aload_n 0, 1) := by decide +kernel
theorem dX3_next_12 : decode cX3_next 12 = .ok (.getfield 9, 3) := by decide +kernel
theorem dX3_next_15 : decode cX3_next 15 = .ok (.aload_n 0, 1) := by decide +kernel
theorem dX3_next_16 : decode cX3_next 16 = .ok (.getfield 29, 3) := by decide +kernel
theorem dX3_next_19 : decode cX3_next 19 = .ok (.caload, 1) := by decide +kernel
theorem dX3_next_20 : decode cX3_next 20 = .ok (.bipush 32, 2) := by decide +kernel
theorem dX3_next_22 : decode cX3_next 22 = .ok (.if_icmp .ne 16, 3) := by decide +kernel
theorem dX3_next_25 : decode cX3_next 25 = .ok (.aload_n 0, 1) := by decide +kernel
theorem dX3_next_26 : decode cX3_next 26 = .ok (.dup, 1) := by decide +kernel
theorem dX3_next_27 : decode cX3_next 27 = .ok (.getfield 29, 3) := by decide +kernel
theorem dX3_next_30 : decode cX3_next 30 = .ok (.iconst 1, 1) := by decide +kernel
theorem dX3_next_31 : decode cX3_next 31 = .ok (.iadd, 1) := by decide +kernel
theorem dX3_next_32 : decode cX3_next 32 = .ok (.putfield 29, 3) := by decide +kernel
theorem dX3_next_35 : decode cX3_next 35 = .ok (.goto (-35), 3) := by decide +kernel
theorem dX3_next_38 : decode cX3_next 38 = .ok (.aload_n 0, 1) := by decide +kernel
theorem dX3_next_39 : decode cX3_next 39 = .ok (.getfield 29, 3) := by decide +kernel
theorem dX3_next_42 : decode cX3_next 42 = .ok (.aload_n 0, 1) := by decide +kernel
theorem dX3_next_43 : decode cX3_next 43 = .ok (.getfield 106, 3) := by decide +kernel
theorem dX3_next_46 : decode cX3_next 46 = .ok (.if_icmp .ge 15, 3) := by decide +kernel
theorem dX3_next_49 : decode cX3_next 49 = .ok (.aload_n 0, 1) := by decide +kernel
theorem dX3_next_50 : decode cX3_next 50 = .ok (.getfield 9, 3) := by decide +kernel
theorem dX3_next_53 : decode cX3_next 53 = .ok (.aload_n 0, 1) := by decide +kernel
theorem dX3_next_54 : decode cX3_next 54 = .ok (.getfield 29, 3) := by decide +kernel
theorem dX3_next_57 : decode cX3_next 57 = .ok (.caload, 1) := by decide +kernel
theorem dX3_next_58 : decode cX3_next 58 = .ok (.goto 4, 3) := by decide +kernel
theorem dX3_next_61 : decode cX3_next 61 = .ok (.iconst 0, 1) := by decide +kernel
theorem dX3_next_62 : decode cX3_next 62 = .ok (.ireturn, 1) := by decide +kernel
theorem dX3_reads_0 : decode cX3_reads 0 = .ok (.aload_n 0, 1) := by decide +kernel
theorem dX3_reads_1 : decode cX3_reads 1 = .ok (.invokevirtual 61, 3) := by decide +kernel
theorem dX3_reads_4 : decode cX3_reads 4 = .ok (.iload_n 1, 1) := by decide +kernel
theorem dX3_reads_5 : decode cX3_reads 5 = .ok (.if_icmp .eq 5, 3) := by decide +kernel
theorem dX3_reads_8 : decode cX3_reads 8 = .ok (.iconst 0, 1) := by decide +kernel
theorem dX3_reads_9 : decode cX3_reads 9 = .ok (.ireturn, 1) := by decide +kernel
theorem dX3_reads_10 : decode cX3_reads 10 = .ok (.aload_n 0, 1) := by decide +kernel
theorem dX3_reads_11 : decode cX3_reads 11 = .ok (.dup, 1) := by decide +kernel
theorem dX3_reads_12 : decode cX3_reads 12 = .ok (.getfield 29, 3) := by decide +kernel
theorem dX3_reads_15 : decode cX3_reads 15 = .ok (.iconst 1, 1) := by decide +kernel
theorem dX3_reads_16 : decode cX3_reads 16 = .ok (.iadd, 1) := by decide +kernel
theorem dX3_reads_17 : decode cX3_reads 17 = .ok (.putfield 29, 3) := by decide +kernel
theorem dX3_reads_20 : decode cX3_reads 20 = .ok (.iconst 1, 1) := by decide +kernel
theorem dX3_reads_21 : decode cX3_reads 21 = .ok (.ireturn, 1) := by decide +kernel
theorem dX3_readNumber_0 : decode cX3_readNumber 0 = .ok (.aload_n 0, 1) := by decide +kernel
theorem dX3_readNumber_1 : decode cX3_readNumber 1 = .ok (.invokevirtual 61, 3) := by decide +kernel
theorem dX3_readNumber_4 : decode cX3_readNumber 4 = .ok (.invokestatic 65, 3) := by decide +kernel
theorem dX3_readNumber_7 : decode cX3_readNumber 7 = .ok (.ifCond .ne 5, 3) := by decide +kernel
theorem dX3_readNumber_10 : decode cX3_readNumber 10 = .ok (.iconst (-1), 1) := by decide +kernel
theorem dX3_readNumber_11 : decode cX3_readNumber 11 = .ok (.ireturn, 1) := by decide +kernel
theorem dX3_readNumber_12 : decode cX3_readNumber 12 = .ok (.aload_n 0, 1) := by decide +kernel
theorem dX3_readNumber_13 : decode cX3_readNumber 13 = .ok (.getfield 29, 3) := by decide +kernel
theorem dX3_readNumber_16 : decode cX3_readNumber 16 = .ok (.istore_n 2, 1) := by decide +kernel
theorem dX3_readNumber_17 : decode cX3_readNumber 17 = .ok (.iconst 0, 1) := by decide +kernel
theorem dX3_readNumber_18 : decode cX3_readNumber 18 = .ok (.istore_n 3, 1) := by decide +kernel
theorem dX3_readNumber_19 : decode cX3_readNumber 19 = .ok (.aload_n 0, 1) := by decide +kernel
theorem dX3_readNumber_20 : decode cX3_readNumber 20 = .ok (.getfield 29, 3) := by decide +kernel
theorem dX3_readNumber_23 : decode cX3_readNumber 23 = .ok (.aload_n 0, 1) := by decide +kernel
theorem dX3_readNumber_24 : decode cX3_readNumber 24 = .ok (.getfield 106, 3) := by decide +kernel
theorem dX3_readNumber_27 : decode cX3_readNumber 27 = .ok (.if_icmp .ge 55, 3) := by decide +kernel
theorem dX3_readNumber_30 : decode cX3_readNumber 30 = .ok (.aload_n 0, 1) := by decide +kernel
theorem dX3_readNumber_31 : decode cX3_readNumber 31 = .ok (.getfield 9, 3) := by decide +kernel
theorem dX3_readNumber_34 : decode cX3_readNumber 34 = .ok (.aload_n 0, 1) := by decide +kernel
theorem dX3_readNumber_35 : decode cX3_readNumber 35 = .ok (.getfield 29, 3) := by decide +kernel
theorem dX3_readNumber_38 : decode cX3_readNumber 38 = .ok (.caload, 1) := by decide +kernel
theorem dX3_readNumber_39 : decode cX3_readNumber 39 = .ok (.invokestatic 65, 3) := by decide +kernel
theorem dX3_readNumber_42 : decode cX3_readNumber 42 = .ok (.ifCond .eq 40, 3) := by decide +kernel
theorem dX3_readNumber_45 : decode cX3_readNumber 45 = .ok (.iload_n 3, 1) := by decide +kernel
theorem dX3_readNumber_46 : decode cX3_readNumber 46 = .ok (.bipush 10, 2) := by decide +kernel
theorem dX3_readNumber_48 : decode cX3_readNumber 48 = .ok (.imul, 1) := by decide +kernel
theorem dX3_readNumber_49 : decode cX3_readNumber 49 = .ok (.aload_n 0, 1) := by decide +kernel
theorem dX3_readNumber_50 : decode cX3_readNumber 50 = .ok (.getfield 9, 3) := by decide +kernel
theorem dX3_readNumber_53 : decode cX3_readNumber 53 = .ok (.aload_n 0, 1) := by decide +kernel
theorem dX3_readNumber_54 : decode cX3_readNumber 54 = .ok (.getfield 29, 3) := by decide +kernel
theorem dX3_readNumber_57 : decode cX3_readNumber 57 = .ok (.caload, 1) := by decide +kernel
theorem dX3_readNumber_58 : decode cX3_readNumber 58 = .ok (.iadd, 1) := by decide +kernel
theorem dX3_readNumber_59 : decode cX3_readNumber 59 = .ok (.bipush 48, 2) := by decide +kernel
theorem dX3_readNumber_61 : decode cX3_readNumber 61 = .ok (.isub, 1) := by decide +kernel
theorem dX3_readNumber_62 : decode cX3_readNumber 62 = .ok (.iload_n 1, 1) := by decide +kernel
theorem dX3_readNumber_63 : decode cX3_readNumber 63 = .ok (.iconst 1, 1) := by decide +kernel
theorem dX3_readNumber_64 : decode cX3_readNumber 64 = .ok (.iadd, 1) := by decide +kernel
theorem dX3_readNumber_65 : decode cX3_readNumber 65 = .ok (.invokestatic 109, 3) := by decide +kernel
theorem dX3_readNumber_68 : decode cX3_readNumber 68 = .ok (.istore_n 3, 1) := by decide +kernel
theorem dX3_readNumber_69 : decode cX3_readNumber 69 = .ok (.aload_n 0, 1) := by decide +kernel
theorem dX3_readNumber_70 : decode cX3_readNumber 70 = .ok (.dup, 1) := by decide +kernel
theorem dX3_readNumber_71 : decode cX3_readNumber 71 = .ok (.getfield 29, 3) := by decide +kernel
theorem dX3_readNumber_74 : decode cX3_readNumber 74 = .ok (.iconst 1, 1) := by decide +kernel
theorem dX3_readNumber_75 : decode cX3_readNumber 75 = .ok (.iadd, 1) := by decide +kernel
theorem dX3_readNumber_76 : decode cX3_readNumber 76 = .ok (.putfield 29, 3) := by decide +kernel
theorem dX3_readNumber_79 : decode cX3_readNumber 79 = .ok (.goto (-60), 3) := by decide +kernel
theorem dX3_readNumber_82 : decode cX3_readNumber 82 = .ok (.iload_n 3, 1) := by decide +kernel
theorem dX3_readNumber_83 : decode cX3_readNumber 83 = .ok (.iload_n 1, 1) := by decide +kernel
theorem dX3_readNumber_84 : decode cX3_readNumber 84 = .ok (.if_icmp .le 10, 3) := by decide +kernel
theorem dX3_readNumber_87 : decode cX3_readNumber 87 = .ok (.aload_n 0, 1) := by decide +kernel
theorem dX3_readNumber_88 : decode cX3_readNumber 88 = .ok (.iload_n 2, 1) := by decide +kernel
theorem dX3_readNumber_89 : decode cX3_readNumber 89 = .ok (.putfield 29, 3) := by decide +kernel
theorem dX3_readNumber_92 : decode cX3_readNumber 92 = .ok (.iconst (-1), 1) := by decide +kernel
theorem dX3_readNumber_93 : decode cX3_readNumber 93 = .ok (.ireturn, 1) := by decide +kernel
theorem dX3_readNumber_94 : decode cX3_readNumber 94 = .ok (.iload_n 3, 1) := by decide +kernel
theorem dX3_readNumber_95 : decode cX3_readNumber 95 = .ok (.ireturn, 1) := by decide +kernel
theorem dX3_readFreeThing_0 : decode cX3_readFreeThing 0 = .ok (.aload_n 0, 1) := by decide +kernel
theorem dX3_readFreeThing_1 : decode cX3_readFreeThing 1 = .ok (.invokevirtual 61, 3) := by decide +kernel
theorem dX3_readFreeThing_4 : decode cX3_readFreeThing 4 = .ok (.bipush 48, 2) := by decide +kernel
theorem dX3_readFreeThing_6 : decode cX3_readFreeThing 6 = .ok (.isub, 1) := by decide +kernel
theorem dX3_readFreeThing_7 : decode cX3_readFreeThing 7 = .ok (.istore_n 1, 1) := by decide +kernel
theorem dX3_readFreeThing_8 : decode cX3_readFreeThing 8 = .ok (.aload_n 0, 1) := by decide +kernel
theorem dX3_readFreeThing_9 : decode cX3_readFreeThing 9 = .ok (.getfield 18, 3) := by decide +kernel
theorem dX3_readFreeThing_12 : decode cX3_readFreeThing 12 = .ok (.iload_n 1, 1) := by decide +kernel
theorem dX3_readFreeThing_13 : decode cX3_readFreeThing 13 = .ok (.invokevirtual 115, 3) := by decide +kernel
theorem dX3_readFreeThing_16 : decode cX3_readFreeThing 16 = .ok (.ifCond .eq 20, 3) := by decide +kernel
theorem dX3_readFreeThing_19 : decode cX3_readFreeThing 19 = .ok (.aload_n 0, 1) := by decide +kernel
theorem dX3_readFreeThing_20 : decode cX3_readFreeThing 20 = .ok (.getfield 18, 3) := by decide +kernel
theorem dX3_readFreeThing_23 : decode cX3_readFreeThing 23 = .ok (.iload_n 1, 1) := by decide +kernel
theorem dX3_readFreeThing_24 : decode cX3_readFreeThing 24 = .ok (.aload_n 0, 1) := by decide +kernel
theorem dX3_readFreeThing_25 : decode cX3_readFreeThing 25 = .ok (.getfield 25, 3) := by decide +kernel
theorem dX3_readFreeThing_28 : decode cX3_readFreeThing 28 = .ok (.invokevirtual 119, 3) := by decide +kernel
theorem dX3_readFreeThing_31 : decode cX3_readFreeThing 31 = .ok (.bipush (-4), 2) := by decide +kernel
theorem dX3_readFreeThing_33 : decode cX3_readFreeThing 33 = .ok (.if_icmp .eq 5, 3) := by decide +kernel
theorem dX3_readFreeThing_36 : decode cX3_readFreeThing 36 = .ok (.iconst (-1), 1) := by decide +kernel
theorem dX3_readFreeThing_37 : decode cX3_readFreeThing 37 = .ok (.ireturn, 1) := by decide +kernel
theorem dX3_readFreeThing_38 : decode cX3_readFreeThing 38 = .ok (.aload_n 0, 1) := by decide +kernel
theorem dX3_readFreeThing_39 : decode cX3_readFreeThing 39 = .ok (.dup, 1) := by decide +kernel
theorem dX3_readFreeThing_40 : decode cX3_readFreeThing 40 = .ok (.getfield 29, 3) := by decide +kernel
theorem dX3_readFreeThing_43 : decode cX3_readFreeThing 43 = .ok (.iconst 1, 1) := by decide +kernel
theorem dX3_readFreeThing_44 : decode cX3_readFreeThing 44 = .ok (.iadd, 1) := by decide +kernel
theorem dX3_readFreeThing_45 : decode cX3_readFreeThing 45 = .ok (.putfield 29, 3) := by decide +kernel
theorem dX3_readFreeThing_48 : decode cX3_readFreeThing 48 = .ok (.iload_n 1, 1) := by decide +kernel
theorem dX3_readFreeThing_49 : decode cX3_readFreeThing 49 = .ok (.ireturn, 1) := by decide +kernel
theorem dX3_isDigit_0 : decode cX3_isDigit 0 = .ok (.iload_n 0, 1) := by decide +kernel
theorem dX3_isDigit_1 : decode cX3_isDigit 1 = .ok (.bipush 48, 2) := by decide +kernel
theorem dX3_isDigit_3 : decode cX3_isDigit 3 = .ok (.if_icmp .lt 13, 3) := by decide +kernel
theorem dX3_isDigit_6 : decode cX3_isDigit 6 = .ok (.iload_n 0, 1) := by decide +kernel
theorem dX3_isDigit_7 : decode cX3_isDigit 7 = .ok (.bipush 57, 2) := by decide +kernel
theorem dX3_isDigit_9 : decode cX3_isDigit 9 = .ok (.if_icmp .gt 7, 3) := by decide +kernel
theorem dX3_isDigit_12 : decode cX3_isDigit 12 = .ok (.iconst 1, 1) := by decide +kernel
theorem dX3_isDigit_13 : decode cX3_isDigit 13 = .ok (.goto 4, 3) := by decide +kernel
theorem dX3_isDigit_16 : decode cX3_isDigit 16 = .ok (.iconst 0, 1) := by decide +kernel
theorem dX3_isDigit_17 : decode cX3_isDigit 17 = .ok (.ireturn, 1) := by decide +kernel
