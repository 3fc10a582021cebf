theorem dX8_in_0 : decode cX8_in 0 = .ok (.lload_n 0, 1) := by decide +kernel
theorem dX8_in_1 : decode cX8_in 1 = .ok (.lload_n 2, 1) := by decide +kernel
theorem dX8_in_2 : decode cX8_in 2 = .ok (.lcmp, 1) := by decide +kernel
theorem dX8_in_3 : decode cX8_in 3 = .ok (.ifCond .lt 14, 3) := by decide +kernel
theorem dX8_in_6 : decode cX8_in 6 = .ok (.lload_n 0, 1) := by decide +kernel
theorem dX8_in_7 : decode cX8_in 7 = .ok (.lload 4, 2) := by decide +kernel
theorem dX8_in_9 : decode cX8_in 9 = .ok (.lcmp, 1) := by decide +kernel
theorem dX8_in_10 : decode cX8_in 10 = .ok (.ifCond .gt 7, 3) := by decide +kernel
theorem dX8_in_13 : decode cX8_in 13 = .ok (.iconst 1, 1) := by decide +kernel
theorem dX8_in_14 : decode cX8_in 14 = .ok (.goto 4, 3) := by decide +kernel
theorem dX8_in_17 : decode cX8_in 17 = .ok (.iconst 0, 1) := by decide +kernel
theorem dX8_in_18 : decode cX8_in 18 = .ok (.ireturn, 1) := by decide +kernel
theorem dX8_init_0 : decode cX8_init 0 = .ok (.aload_n 0, 1) := by decide +kernel
theorem dX8_init_1 : decode cX8_init 1 = .ok (.invokespecial 1, 3) := by decide +kernel
theorem dX8_init_4 : decode cX8_init 4 = .ok (.aload_n 0, 1) := by decide +kernel
theorem dX8_init_5 : decode cX8_init 5 = .ok (.bipush 40, 2) := by decide +kernel
theorem dX8_init_7 : decode cX8_init 7 = .ok (.newarray .int, 2) := by decide +kernel
theorem dX8_init_9 : decode cX8_init 9 = .ok (.putfield 7, 3) := by decide +kernel
theorem dX8_init_12 : decode cX8_init 12 = .ok (.aload_n 0, 1) := by decide +kernel
theorem dX8_init_13 : decode cX8_init 13 = .ok (.bipush 16, 2) := by decide +kernel
theorem dX8_init_15 : decode cX8_init 15 = .ok (.newarray .int, 2) := by decide +kernel
theorem dX8_init_17 : decode cX8_init 17 = .ok (.putfield 13, 3) := by decide +kernel
theorem dX8_init_20 : decode cX8_init 20 = .ok (.aload_n 0, 1) := by decide +kernel
theorem dX8_init_21 : decode cX8_init 21 = .ok (.bipush 14, 2) := by decide +kernel
theorem dX8_init_23 : decode cX8_init 23 = .ok (.newarray .int, 2) := by decide +kernel
theorem dX8_init_25 : decode cX8_init 25 = .ok (.putfield 16, 3) := by decide +kernel
theorem dX8_init_28 : decode cX8_init 28 = .ok (.aload_n 0, 1) := by decide +kernel
theorem dX8_init_29 : decode cX8_init 29 = .ok (.bipush 120, 2) := by decide +kernel
theorem dX8_init_31 : decode cX8_init 31 = .ok (.newarray .int, 2) := by decide +kernel
theorem dX8_init_33 : decode cX8_init 33 = .ok (.putfield 19, 3) := by decide +kernel
theorem dX8_init_36 : decode cX8_init 36 = .ok (.aload_n 0, 1) := by decide +kernel
theorem dX8_init_37 : decode cX8_init 37 = .ok (.bipush 40, 2) := by decide +kernel
theorem dX8_init_39 : decode cX8_init 39 = .ok (.newarray .int, 2) := by decide +kernel
theorem dX8_init_41 : decode cX8_init 41 = .ok (.putfield 22, 3) := by decide +kernel
theorem dX8_init_44 : decode cX8_init 44 = .ok (.aload_n 0, 1) := by decide +kernel
theorem dX8_init_45 : decode cX8_init 45 = .ok (.bipush 24, 2) := by decide +kernel
theorem dX8_init_47 : decode cX8_init 47 = .ok (.newarray .int, 2) := by decide +kernel
theorem dX8_init_49 : decode cX8_init 49 = .ok (.putfield 25, 3) := by decide +kernel
theorem dX8_init_52 : decode cX8_init 52 = .ok (.aload_n 0, 1) := by decide +kernel
theorem dX8_init_53 : decode cX8_init 53 = .ok (.bipush 112, 2) := by decide +kernel
theorem dX8_init_55 : decode cX8_init 55 = .ok (.newarray .int, 2) := by decide +kernel
theorem dX8_init_57 : decode cX8_init 57 = .ok (.putfield 28, 3) := by decide +kernel
theorem dX8_init_60 : decode cX8_init 60 = .ok (.aload_n 0, 1) := by decide +kernel
theorem dX8_init_61 : decode cX8_init 61 = .ok (.bipush 14, 2) := by decide +kernel
theorem dX8_init_63 : decode cX8_init 63 = .ok (.newarray .int, 2) := by decide +kernel
theorem dX8_init_65 : decode cX8_init 65 = .ok (.putfield 31, 3) := by decide +kernel
theorem dX8_init_68 : decode cX8_init 68 = .ok (.aload_n 0, 1) := by decide +kernel
theorem dX8_init_69 : decode cX8_init 69 = .ok (.bipush 8, 2) := by decide +kernel
theorem dX8_init_71 : decode cX8_init 71 = .ok (.newarray .int, 2) := by decide +kernel
theorem dX8_init_73 : decode cX8_init 73 = .ok (.putfield 34, 3) := by decide +kernel
theorem dX8_init_76 : decode cX8_init 76 = .ok (.aload_n 0, 1) := by decide +kernel
theorem dX8_init_77 : decode cX8_init 77 = .ok (.bipush 8, 2) := by decide +kernel
theorem dX8_init_79 : decode cX8_init 79 = .ok (.newarray .int, 2) := by decide +kernel
theorem dX8_init_81 : decode cX8_init 81 = .ok (.putfield 37, 3) := by decide +kernel
theorem dX8_init_84 : decode cX8_init 84 = .ok (.aload_n 0, 1) := by decide +kernel
theorem dX8_init_85 : decode cX8_init 85 = .ok (.sipush 187, 3) := by decide +kernel
theorem dX8_init_88 : decode cX8_init 88 = .ok (.newarray .int, 2) := by decide +kernel
theorem dX8_init_90 : decode cX8_init 90 = .ok (.putfield 40, 3) := by decide +kernel
theorem dX8_init_93 : decode cX8_init 93 = .ok (.aload_n 0, 1) := by decide +kernel
theorem dX8_init_94 : decode cX8_init 94 = .ok (.iconst 4, 1) := by decide +kernel
theorem dX8_init_95 : decode cX8_init 95 = .ok (.newarray .int, 2) := by decide +kernel
theorem dX8_init_97 : decode cX8_init 97 = .ok (.putfield 43, 3) := by decide +kernel
theorem dX8_init_100 : decode cX8_init 100 = .ok (.aload_n 0, 1) := by decide +kernel
theorem dX8_init_101 : decode cX8_init 101 = .ok (.iconst 4, 1) := by decide +kernel
theorem dX8_init_102 : decode cX8_init 102 = .ok (.newarray .int, 2) := by decide +kernel
theorem dX8_init_104 : decode cX8_init 104 = .ok (.putfield 46, 3) := by decide +kernel
theorem dX8_init_107 : decode cX8_init 107 = .ok (.aload_n 0, 1) := by decide +kernel
theorem dX8_init_108 : decode cX8_init 108 = .ok (.bipush 64, 2) := by decide +kernel
theorem dX8_init_110 : decode cX8_init 110 = .ok (.newarray .long, 2) := by decide +kernel
theorem dX8_init_112 : decode cX8_init 112 = .ok (.putfield 49, 3) := by decide +kernel
theorem dX8_init_115 : decode cX8_init 115 = .ok (.aload_n 0, 1) := by decide +kernel
theorem dX8_init_116 : decode cX8_init 116 = .ok (.bipush 16, 2) := by decide +kernel
theorem dX8_init_118 : decode cX8_init 118 = .ok (.newarray .long, 2) := by decide +kernel
theorem dX8_init_120 : decode cX8_init 120 = .ok (.putfield 53, 3) := by decide +kernel
theorem dX8_init_123 : decode cX8_init 123 = .ok (.iconst 0, 1) := by decide +kernel
theorem dX8_init_124 : decode cX8_init 124 = .ok (.istore_n 1, 1) := by decide +kernel
theorem dX8_init_125 : decode cX8_init 125 = .ok (.iload_n 1, 1) := by decide +kernel
theorem dX8_init_126 : decode cX8_init 126 = .ok (.iconst 4, 1) := by decide +kernel
theorem dX8_init_127 : decode cX8_init 127 = .ok (.if_icmp .ge 16, 3) := by decide +kernel
theorem dX8_init_130 : decode cX8_init 130 = .ok (.aload_n 0, 1) := by decide +kernel
theorem dX8_init_131 : decode cX8_init 131 = .ok (.getfield 43, 3) := by decide +kernel
theorem dX8_init_134 : decode cX8_init 134 = .ok (.iload_n 1, 1) := by decide +kernel
theorem dX8_init_135 : decode cX8_init 135 = .ok (.iconst (-1), 1) := by decide +kernel
theorem dX8_init_136 : decode cX8_init 136 = .ok (.iastore, 1) := by decide +kernel
theorem dX8_init_137 : decode cX8_init 137 = .ok (.iinc 1 1, 3) := by decide +kernel
theorem dX8_init_140 : decode cX8_init 140 = .ok (.goto (-15), 3) := by decide +kernel
theorem dX8_init_143 : decode cX8_init 143 = .ok (.aload_n 0, 1) := by decide +kernel
theorem dX8_init_144 : decode cX8_init 144 = .ok (.bipush (-4), 2) := by decide +kernel
theorem dX8_init_146 : decode cX8_init 146 = .ok (.putfield 56, 3) := by decide +kernel
theorem dX8_init_149 : decode cX8_init 149 = .ok (.aload_n 0, 1) := by decide +kernel
theorem dX8_init_150 : decode cX8_init 150 = .ok (.bipush 99, 2) := by decide +kernel
theorem dX8_init_152 : decode cX8_init 152 = .ok (.putfield 60, 3) := by decide +kernel
theorem dX8_init_155 : decode cX8_init 155 = .ok (.aload_n 0, 1) := by decide +kernel
theorem dX8_init_156 : decode cX8_init 156 = .ok (.invokevirtual 63, 3) := by decide +kernel
theorem dX8_init_159 : decode cX8_init 159 = .ok (.return_, 1) := by decide +kernel
theorem dX8_starts_0 : decode cX8_starts 0 = .ok (.aload_n 0, 1) := by decide +kernel
theorem dX8_starts_1 : decode cX8_starts 1 = .ok (.getfield 16, 3) := by decide +kernel
theorem dX8_starts_4 : decode cX8_starts 4 = .ok (.iconst 0, 1) := by decide +kernel
theorem dX8_starts_5 : decode cX8_starts 5 = .ok (.bipush (-4), 2) := by decide +kernel
theorem dX8_starts_7 : decode cX8_starts 7 = .ok (.iastore, 1) := by decide +kernel
theorem dX8_starts_8 : decode cX8_starts 8 = .ok (.iconst 1, 1) := by decide +kernel
theorem dX8_starts_9 : decode cX8_starts 9 = .ok (.istore_n 1, 1) := by decide +kernel
theorem dX8_starts_10 : decode cX8_starts 10 = .ok (.iload_n 1, 1) := by decide +kernel
theorem dX8_starts_11 : decode cX8_starts 11 = .ok (.iconst 5, 1) := by decide +kernel
theorem dX8_starts_12 : decode cX8_starts 12 = .ok (.if_icmp .ge 16, 3) := by decide +kernel
theorem dX8_starts_15 : decode cX8_starts 15 = .ok (.aload_n 0, 1) := by decide +kernel
theorem dX8_starts_16 : decode cX8_starts 16 = .ok (.getfield 16, 3) := by decide +kernel
theorem dX8_starts_19 : decode cX8_starts 19 = .ok (.iload_n 1, 1) := by decide +kernel
theorem dX8_starts_20 : decode cX8_starts 20 = .ok (.iconst 0, 1) := by decide +kernel
theorem dX8_starts_21 : decode cX8_starts 21 = .ok (.iastore, 1) := by decide +kernel
theorem dX8_starts_22 : decode cX8_starts 22 = .ok (.iinc 1 1, 3) := by decide +kernel
theorem dX8_starts_25 : decode cX8_starts 25 = .ok (.goto (-15), 3) := by decide +kernel
theorem dX8_starts_28 : decode cX8_starts 28 = .ok (.iconst 5, 1) := by decide +kernel
theorem dX8_starts_29 : decode cX8_starts 29 = .ok (.istore_n 1, 1) := by decide +kernel
theorem dX8_starts_30 : decode cX8_starts 30 = .ok (.iload_n 1, 1) := by decide +kernel
theorem dX8_starts_31 : decode cX8_starts 31 = .ok (.bipush 14, 2) := by decide +kernel
theorem dX8_starts_33 : decode cX8_starts 33 = .ok (.if_icmp .ge 17, 3) := by decide +kernel
theorem dX8_starts_36 : decode cX8_starts 36 = .ok (.aload_n 0, 1) := by decide +kernel
theorem dX8_starts_37 : decode cX8_starts 37 = .ok (.getfield 16, 3) := by decide +kernel
theorem dX8_starts_40 : decode cX8_starts 40 = .ok (.iload_n 1, 1) := by decide +kernel
theorem dX8_starts_41 : decode cX8_starts 41 = .ok (.bipush (-4), 2) := by decide +kernel
theorem dX8_starts_43 : decode cX8_starts 43 = .ok (.iastore, 1) := by decide +kernel
theorem dX8_starts_44 : decode cX8_starts 44 = .ok (.iinc 1 1, 3) := by decide +kernel
theorem dX8_starts_47 : decode cX8_starts 47 = .ok (.goto (-17), 3) := by decide +kernel
theorem dX8_starts_50 : decode cX8_starts 50 = .ok (.aload_n 0, 1) := by decide +kernel
theorem dX8_starts_51 : decode cX8_starts 51 = .ok (.iconst 0, 1) := by decide +kernel
theorem dX8_starts_52 : decode cX8_starts 52 = .ok (.putfield 66, 3) := by decide +kernel
theorem dX8_starts_55 : decode cX8_starts 55 = .ok (.return_, 1) := by decide +kernel
theorem dX8_isThing_0 : decode cX8_isThing 0 = .ok (.lload_n 1, 1) := by decide +kernel
theorem dX8_isThing_1 : decode cX8_isThing 1 = .ok (.lconst 0, 1) := by decide +kernel
theorem dX8_isThing_2 : decode cX8_isThing 2 = .ok (.aload_n 0, 1) := by decide +kernel
theorem dX8_isThing_3 : decode cX8_isThing 3 = .ok (.getfield 69, 3) := by decide +kernel
theorem dX8_isThing_6 : decode cX8_isThing 6 = .ok (.iconst 1, 1) := by decide +kernel
theorem dX8_isThing_7 : decode cX8_isThing 7 = .ok (.isub, 1) := by decide +kernel
theorem dX8_isThing_8 : decode cX8_isThing 8 = .ok (.i2l, 1) := by decide +kernel
theorem dX8_isThing_9 : decode cX8_isThing 9 = .ok (.invokestatic 72, 3) := by decide +kernel
theorem dX8_isThing_12 : decode cX8_isThing 12 = .ok (.ireturn, 1) := by decide +kernel
theorem dX8_isPerson_0 : decode cX8_isPerson 0 = .ok (.iload_n 1, 1) := by decide +kernel
theorem dX8_isPerson_1 : decode cX8_isPerson 1 = .ok (.i2l, 1) := by decide +kernel
theorem dX8_isPerson_2 : decode cX8_isPerson 2 = .ok (.lconst 0, 1) := by decide +kernel
theorem dX8_isPerson_3 : decode cX8_isPerson 3 = .ok (.aload_n 0, 1) := by decide +kernel
theorem dX8_isPerson_4 : decode cX8_isPerson 4 = .ok (.getfield 76, 3) := by decide +kernel
theorem dX8_isPerson_7 : decode cX8_isPerson 7 = .ok (.iconst 1, 1) := by decide +kernel
theorem dX8_isPerson_8 : decode cX8_isPerson 8 = .ok (.isub, 1) := by decide +kernel
theorem dX8_isPerson_9 : decode cX8_isPerson 9 = .ok (.i2l, 1) := by decide +kernel
theorem dX8_isPerson_10 : decode cX8_isPerson 10 = .ok (.invokestatic 72, 3) := by decide +kernel
theorem dX8_isPerson_13 : decode cX8_isPerson 13 = .ok (.ireturn, 1) := by decide +kernel
theorem dX8_thingComes_0 : decode cX8_thingComes 0 = .ok (.aload_n 0, 1) := by decide +kernel
theorem dX8_thingComes_1 : decode cX8_thingComes 1 = .ok (.getfield 7, 3) := by decide +kernel
theorem dX8_thingComes_4 : decode cX8_thingComes 4 = .ok (.iconst 4, 1) := by decide +kernel
theorem dX8_thingComes_5 : decode cX8_thingComes 5 = .ok (.aload_n 0, 1) := by decide +kernel
theorem dX8_thingComes_6 : decode cX8_thingComes 6 = .ok (.getfield 69, 3) := by decide +kernel
theorem dX8_thingComes_9 : decode cX8_thingComes 9 = .ok (.imul, 1) := by decide +kernel
theorem dX8_thingComes_10 : decode cX8_thingComes 10 = .ok (.iload_n 1, 1) := by decide +kernel
theorem dX8_thingComes_11 : decode cX8_thingComes 11 = .ok (.iastore, 1) := by decide +kernel
theorem dX8_thingComes_12 : decode cX8_thingComes 12 = .ok (.aload_n 0, 1) := by decide +kernel
theorem dX8_thingComes_13 : decode cX8_thingComes 13 = .ok (.getfield 7, 3) := by decide +kernel
theorem dX8_thingComes_16 : decode cX8_thingComes 16 = .ok (.iconst 4, 1) := by decide +kernel
theorem dX8_thingComes_17 : decode cX8_thingComes 17 = .ok (.aload_n 0, 1) := by decide +kernel
theorem dX8_thingComes_18 : decode cX8_thingComes 18 = .ok (.getfield 69, 3) := by decide +kernel
theorem dX8_thingComes_21 : decode cX8_thingComes 21 = .ok (.imul, 1) := by decide +kernel
theorem dX8_thingComes_22 : decode cX8_thingComes 22 = .ok (.iconst 1, 1) := by decide +kernel
theorem dX8_thingComes_23 : decode cX8_thingComes 23 = .ok (.iadd, 1) := by decide +kernel
theorem dX8_thingComes_24 : decode cX8_thingComes 24 = .ok (.iload_n 2, 1) := by decide +kernel
theorem dX8_thingComes_25 : decode cX8_thingComes 25 = .ok (.iastore, 1) := by decide +kernel
theorem dX8_thingComes_26 : decode cX8_thingComes 26 = .ok (.aload_n 0, 1) := by decide +kernel
theorem dX8_thingComes_27 : decode cX8_thingComes 27 = .ok (.getfield 7, 3) := by decide +kernel
theorem dX8_thingComes_30 : decode cX8_thingComes 30 = .ok (.iconst 4, 1) := by decide +kernel
theorem dX8_thingComes_31 : decode cX8_thingComes 31 = .ok (.aload_n 0, 1) := by decide +kernel
theorem dX8_thingComes_32 : decode cX8_thingComes 32 = .ok (.getfield 69, 3) := by decide +kernel
theorem dX8_thingComes_35 : decode cX8_thingComes 35 = .ok (.imul, 1) := by decide +kernel
theorem dX8_thingComes_36 : decode cX8_thingComes 36 = .ok (.iconst 2, 1) := by decide +kernel
theorem dX8_thingComes_37 : decode cX8_thingComes 37 = .ok (.iadd, 1) := by decide +kernel
theorem dX8_thingComes_38 : decode cX8_thingComes 38 = .ok (.iload_n 3, 1) := by decide +kernel
theorem dX8_thingComes_39 : decode cX8_thingComes 39 = .ok (.iastore, 1) := by decide +kernel
theorem dX8_thingComes_40 : decode cX8_thingComes 40 = .ok (.aload_n 0, 1) := by decide +kernel
theorem dX8_thingComes_41 : decode cX8_thingComes 41 = .ok (.getfield 7, 3) := by decide +kernel
theorem dX8_thingComes_44 : decode cX8_thingComes 44 = .ok (.iconst 4, 1) := by decide +kernel
theorem dX8_thingComes_45 : decode cX8_thingComes 45 = .ok (.aload_n 0, 1) := by decide +kernel
theorem dX8_thingComes_46 : decode cX8_thingComes 46 = .ok (.getfield 69, 3) := by decide +kernel
theorem dX8_thingComes_49 : decode cX8_thingComes 49 = .ok (.imul, 1) := by decide +kernel
theorem dX8_thingComes_50 : decode cX8_thingComes 50 = .ok (.iconst 3, 1) := by decide +kernel
theorem dX8_thingComes_51 : decode cX8_thingComes 51 = .ok (.iadd, 1) := by decide +kernel
theorem dX8_thingComes_52 : decode cX8_thingComes 52 = .ok (.iload 4, 2) := by decide +kernel
theorem dX8_thingComes_54 : decode cX8_thingComes 54 = .ok (.iastore, 1) := by decide +kernel
theorem dX8_thingComes_55 : decode cX8_thingComes 55 = .ok (.aload_n 0, 1) := by decide +kernel
theorem dX8_thingComes_56 : decode cX8_thingComes 56 = .ok (.dup, 1) := by decide +kernel
theorem dX8_thingComes_57 : decode cX8_thingComes 57 = .ok (.getfield 69, 3) := by decide +kernel
theorem dX8_thingComes_60 : decode cX8_thingComes 60 = .ok (.iconst 1, 1) := by decide +kernel
theorem dX8_thingComes_61 : decode cX8_thingComes 61 = .ok (.iadd, 1) := by decide +kernel
theorem dX8_thingComes_62 : decode cX8_thingComes 62 = .ok (.putfield 69, 3) := by decide +kernel
theorem dX8_thingComes_65 : decode cX8_thingComes 65 = .ok (.return_, 1) := by decide +kernel
theorem dX8_thing_0 : decode cX8_thing 0 = .ok (.iload_n 1, 1) := by decide +kernel
theorem dX8_thing_1 : decode cX8_thing 1 = .ok (.i2l, 1) := by decide +kernel
theorem dX8_thing_2 : decode cX8_thing 2 = .ok (.lconst 0, 1) := by decide +kernel
theorem dX8_thing_3 : decode cX8_thing 3 = .ok (.ldc2_w 79, 3) := by decide +kernel
theorem dX8_thing_6 : decode cX8_thing 6 = .ok (.invokestatic 72, 3) := by decide +kernel
theorem dX8_thing_9 : decode cX8_thing 9 = .ok (.ifCond .eq 40, 3) := by decide +kernel
theorem dX8_thing_12 : decode cX8_thing 12 = .ok (.iload_n 2, 1) := by decide +kernel
theorem dX8_thing_13 : decode cX8_thing 13 = .ok (.i2l, 1) := by decide +kernel
theorem dX8_thing_14 : decode cX8_thing 14 = .ok (.lconst 0, 1) := by decide +kernel
theorem dX8_thing_15 : decode cX8_thing 15 = .ok (.ldc2_w 81, 3) := by decide +kernel
theorem dX8_thing_18 : decode cX8_thing 18 = .ok (.invokestatic 72, 3) := by decide +kernel
theorem dX8_thing_21 : decode cX8_thing 21 = .ok (.ifCond .eq 28, 3) := by decide +kernel
theorem dX8_thing_24 : decode cX8_thing 24 = .ok (.iload_n 3, 1) := by decide +kernel
theorem dX8_thing_25 : decode cX8_thing 25 = .ok (.i2l, 1) := by decide +kernel
theorem dX8_thing_26 : decode cX8_thing 26 = .ok (.lconst 0, 1) := by decide +kernel
theorem dX8_thing_27 : decode cX8_thing 27 = .ok (.ldc2_w 83, 3) := by decide +kernel
theorem dX8_thing_30 : decode cX8_thing 30 = .ok (.invokestatic 72, 3) := by decide +kernel
theorem dX8_thing_33 : decode cX8_thing 33 = .ok (.ifCond .eq 16, 3) := by decide +kernel
theorem dX8_thing_36 : decode cX8_thing 36 = .ok (.iload 4, 2) := by decide +kernel
theorem dX8_thing_38 : decode cX8_thing 38 = .ok (.i2l, 1) := by decide +kernel
theorem dX8_thing_39 : decode cX8_thing 39 = .ok (.lconst 0, 1) := by decide +kernel
theorem dX8_thing_40 : decode cX8_thing 40 = .ok (.ldc2_w 83, 3) := by decide +kernel
theorem dX8_thing_43 : decode cX8_thing 43 = .ok (.invokestatic 72, 3) := by decide +kernel
theorem dX8_thing_46 : decode cX8_thing 46 = .ok (.ifCond .ne 5, 3) := by decide +kernel
theorem dX8_thing_49 : decode cX8_thing 49 = .ok (.iconst (-1), 1) := by decide +kernel
theorem dX8_thing_50 : decode cX8_thing 50 = .ok (.ireturn, 1) := by decide +kernel
theorem dX8_thing_51 : decode cX8_thing 51 = .ok (.aload_n 0, 1) := by decide +kernel
theorem dX8_thing_52 : decode cX8_thing 52 = .ok (.getfield 69, 3) := by decide +kernel
theorem dX8_thing_55 : decode cX8_thing 55 = .ok (.bipush 10, 2) := by decide +kernel
theorem dX8_thing_57 : decode cX8_thing 57 = .ok (.if_icmp .ne 6, 3) := by decide +kernel
theorem dX8_thing_60 : decode cX8_thing 60 = .ok (.bipush (-3), 2) := by decide +kernel
theorem dX8_thing_62 : decode cX8_thing 62 = .ok (.ireturn, 1) := by decide +kernel
theorem dX8_thing_63 : decode cX8_thing 63 = .ok (.aload_n 0, 1) := by decide +kernel
theorem dX8_thing_64 : decode cX8_thing 64 = .ok (.iload_n 1, 1) := by decide +kernel
theorem dX8_thing_65 : decode cX8_thing 65 = .ok (.iload_n 2, 1) := by decide +kernel
theorem dX8_thing_66 : decode cX8_thing 66 = .ok (.iload_n 3, 1) := by decide +kernel
theorem dX8_thing_67 : decode cX8_thing 67 = .ok (.iload 4, 2) := by decide +kernel
theorem dX8_thing_69 : decode cX8_thing 69 = .ok (.invokevirtual 85, 3) := by decide +kernel
theorem dX8_thing_72 : decode cX8_thing 72 = .ok (.aload_n 0, 1) := by decide +kernel
theorem dX8_thing_73 : decode cX8_thing 73 = .ok (.iconst 0, 1) := by decide +kernel
theorem dX8_thing_74 : decode cX8_thing 74 = .ok (.putfield 66, 3) := by decide +kernel
theorem dX8_thing_77 : decode cX8_thing 77 = .ok (.aload_n 0, 1) := by decide +kernel
theorem dX8_thing_78 : decode cX8_thing 78 = .ok (.getfield 69, 3) := by decide +kernel
theorem dX8_thing_81 : decode cX8_thing 81 = .ok (.iconst 1, 1) := by decide +kernel
theorem dX8_thing_82 : decode cX8_thing 82 = .ok (.isub, 1) := by decide +kernel
theorem dX8_thing_83 : decode cX8_thing 83 = .ok (.ireturn, 1) := by decide +kernel
theorem dX8_who_0 : decode cX8_who 0 = .ok (.aload_n 0, 1) := by decide +kernel
theorem dX8_who_1 : decode cX8_who 1 = .ok (.getfield 16, 3) := by decide +kernel
theorem dX8_who_4 : decode cX8_who 4 = .ok (.iconst 0, 1) := by decide +kernel
theorem dX8_who_5 : decode cX8_who 5 = .ok (.iaload, 1) := by decide +kernel
theorem dX8_who_6 : decode cX8_who 6 = .ok (.iload_n 1, 1) := by decide +kernel
theorem dX8_who_7 : decode cX8_who 7 = .ok (.if_icmp .ne 8, 3) := by decide +kernel
theorem dX8_who_10 : decode cX8_who 10 = .ok (.bipush 8, 2) := by decide +kernel
theorem dX8_who_12 : decode cX8_who 12 = .ok (.goto 5, 3) := by decide +kernel
theorem dX8_who_15 : decode cX8_who 15 = .ok (.bipush (-4), 2) := by decide +kernel
theorem dX8_who_17 : decode cX8_who 17 = .ok (.istore_n 2, 1) := by decide +kernel
theorem dX8_who_18 : decode cX8_who 18 = .ok (.iconst 0, 1) := by decide +kernel
theorem dX8_who_19 : decode cX8_who 19 = .ok (.istore_n 3, 1) := by decide +kernel
theorem dX8_who_20 : decode cX8_who 20 = .ok (.iload_n 3, 1) := by decide +kernel
theorem dX8_who_21 : decode cX8_who 21 = .ok (.aload_n 0, 1) := by decide +kernel
theorem dX8_who_22 : decode cX8_who 22 = .ok (.getfield 76, 3) := by decide +kernel
theorem dX8_who_25 : decode cX8_who 25 = .ok (.if_icmp .ge 27, 3) := by decide +kernel
theorem dX8_who_28 : decode cX8_who 28 = .ok (.aload_n 0, 1) := by decide +kernel
theorem dX8_who_29 : decode cX8_who 29 = .ok (.getfield 16, 3) := by decide +kernel
theorem dX8_who_32 : decode cX8_who 32 = .ok (.iconst 5, 1) := by decide +kernel
theorem dX8_who_33 : decode cX8_who 33 = .ok (.iload_n 3, 1) := by decide +kernel
theorem dX8_who_34 : decode cX8_who 34 = .ok (.iadd, 1) := by decide +kernel
theorem dX8_who_35 : decode cX8_who 35 = .ok (.iaload, 1) := by decide +kernel
theorem dX8_who_36 : decode cX8_who 36 = .ok (.iload_n 1, 1) := by decide +kernel
theorem dX8_who_37 : decode cX8_who 37 = .ok (.if_icmp .ne 7, 3) := by decide +kernel
theorem dX8_who_40 : decode cX8_who 40 = .ok (.iload_n 3, 1) := by decide +kernel
theorem dX8_who_41 : decode cX8_who 41 = .ok (.goto 4, 3) := by decide +kernel
theorem dX8_who_44 : decode cX8_who 44 = .ok (.iload_n 2, 1) := by decide +kernel
theorem dX8_who_45 : decode cX8_who 45 = .ok (.istore_n 2, 1) := by decide +kernel
theorem dX8_who_46 : decode cX8_who 46 = .ok (.iinc 3 1, 3) := by decide +kernel
theorem dX8_who_49 : decode cX8_who 49 = .ok (.goto (-29), 3) := by decide +kernel
theorem dX8_who_52 : decode cX8_who 52 = .ok (.iload_n 2, 1) := by decide +kernel
theorem dX8_who_53 : decode cX8_who 53 = .ok (.ireturn, 1) := by decide +kernel
theorem dX8_of_0 : decode cX8_of 0 = .ok (.aload_n 0, 1) := by decide +kernel
theorem dX8_of_1 : decode cX8_of 1 = .ok (.iload_n 1, 1) := by decide +kernel
theorem dX8_of_2 : decode cX8_of 2 = .ok (.i2l, 1) := by decide +kernel
theorem dX8_of_3 : decode cX8_of 3 = .ok (.invokevirtual 89, 3) := by decide +kernel
theorem dX8_of_6 : decode cX8_of 6 = .ok (.ifCond .eq 15, 3) := by decide +kernel
theorem dX8_of_9 : decode cX8_of 9 = .ok (.iload_n 2, 1) := by decide +kernel
theorem dX8_of_10 : decode cX8_of 10 = .ok (.i2l, 1) := by decide +kernel
theorem dX8_of_11 : decode cX8_of 11 = .ok (.lconst 0, 1) := by decide +kernel
theorem dX8_of_12 : decode cX8_of 12 = .ok (.ldc2_w 93, 3) := by decide +kernel
theorem dX8_of_15 : decode cX8_of 15 = .ok (.invokestatic 72, 3) := by decide +kernel
theorem dX8_of_18 : decode cX8_of 18 = .ok (.ifCond .ne 5, 3) := by decide +kernel
theorem dX8_of_21 : decode cX8_of 21 = .ok (.iconst (-1), 1) := by decide +kernel
theorem dX8_of_22 : decode cX8_of 22 = .ok (.ireturn, 1) := by decide +kernel
theorem dX8_of_23 : decode cX8_of 23 = .ok (.iload_n 2, 1) := by decide +kernel
theorem dX8_of_24 : decode cX8_of 24 = .ok (.iconst 4, 1) := by decide +kernel
theorem dX8_of_25 : decode cX8_of 25 = .ok (.if_icmp .ne 11, 3) := by decide +kernel
theorem dX8_of_28 : decode cX8_of 28 = .ok (.aload_n 0, 1) := by decide +kernel
theorem dX8_of_29 : decode cX8_of 29 = .ok (.iload_n 1, 1) := by decide +kernel
theorem dX8_of_30 : decode cX8_of 30 = .ok (.invokevirtual 95, 3) := by decide +kernel
theorem dX8_of_33 : decode cX8_of 33 = .ok (.goto 13, 3) := by decide +kernel
theorem dX8_of_36 : decode cX8_of 36 = .ok (.aload_n 0, 1) := by decide +kernel
theorem dX8_of_37 : decode cX8_of 37 = .ok (.getfield 7, 3) := by decide +kernel
theorem dX8_of_40 : decode cX8_of 40 = .ok (.iconst 4, 1) := by decide +kernel
theorem dX8_of_41 : decode cX8_of 41 = .ok (.iload_n 1, 1) := by decide +kernel
theorem dX8_of_42 : decode cX8_of 42 = .ok (.imul, 1) := by decide +kernel
theorem dX8_of_43 : decode cX8_of 43 = .ok (.iload_n 2, 1) := by decide +kernel
theorem dX8_of_44 : decode cX8_of 44 = .ok (.iadd, 1) := by decide +kernel
theorem dX8_of_45 : decode cX8_of 45 = .ok (.iaload, 1) := by decide +kernel
theorem dX8_of_46 : decode cX8_of 46 = .ok (.ireturn, 1) := by decide +kernel
theorem dX8_worth_0 : decode cX8_worth 0 = .ok (.iload_n 1, 1) := by decide +kernel
theorem dX8_worth_1 : decode cX8_worth 1 = .ok (.ifCond .ge 7, 3) := by decide +kernel
theorem dX8_worth_4 : decode cX8_worth 4 = .ok (.iconst 0, 1) := by decide +kernel
theorem dX8_worth_5 : decode cX8_worth 5 = .ok (.goto 13, 3) := by decide +kernel
theorem dX8_worth_8 : decode cX8_worth 8 = .ok (.aload_n 0, 1) := by decide +kernel
theorem dX8_worth_9 : decode cX8_worth 9 = .ok (.getfield 7, 3) := by decide +kernel
theorem dX8_worth_12 : decode cX8_worth 12 = .ok (.iconst 4, 1) := by decide +kernel
theorem dX8_worth_13 : decode cX8_worth 13 = .ok (.iload_n 1, 1) := by decide +kernel
theorem dX8_worth_14 : decode cX8_worth 14 = .ok (.imul, 1) := by decide +kernel
theorem dX8_worth_15 : decode cX8_worth 15 = .ok (.iconst 1, 1) := by decide +kernel
theorem dX8_worth_16 : decode cX8_worth 16 = .ok (.iadd, 1) := by decide +kernel
theorem dX8_worth_17 : decode cX8_worth 17 = .ok (.iaload, 1) := by decide +kernel
theorem dX8_worth_18 : decode cX8_worth 18 = .ok (.ireturn, 1) := by decide +kernel
theorem dX8_feels_0 : decode cX8_feels 0 = .ok (.aload_n 0, 1) := by decide +kernel
theorem dX8_feels_1 : decode cX8_feels 1 = .ok (.getfield 7, 3) := by decide +kernel
theorem dX8_feels_4 : decode cX8_feels 4 = .ok (.iconst 4, 1) := by decide +kernel
theorem dX8_feels_5 : decode cX8_feels 5 = .ok (.iload_n 1, 1) := by decide +kernel
theorem dX8_feels_6 : decode cX8_feels 6 = .ok (.imul, 1) := by decide +kernel
theorem dX8_feels_7 : decode cX8_feels 7 = .ok (.iaload, 1) := by decide +kernel
theorem dX8_feels_8 : decode cX8_feels 8 = .ok (.istore 4, 2) := by decide +kernel
theorem dX8_feels_10 : decode cX8_feels 10 = .ok (.iload_n 3, 1) := by decide +kernel
theorem dX8_feels_11 : decode cX8_feels 11 = .ok (.ifCond .ne 28, 3) := by decide +kernel
theorem dX8_feels_14 : decode cX8_feels 14 = .ok (.aload_n 0, 1) := by decide +kernel
theorem dX8_feels_15 : decode cX8_feels 15 = .ok (.getfield 7, 3) := by decide +kernel
theorem dX8_feels_18 : decode cX8_feels 18 = .ok (.iconst 4, 1) := by decide +kernel
theorem dX8_feels_19 : decode cX8_feels 19 = .ok (.iload_n 1, 1) := by decide +kernel
theorem dX8_feels_20 : decode cX8_feels 20 = .ok (.imul, 1) := by decide +kernel
theorem dX8_feels_21 : decode cX8_feels 21 = .ok (.iconst 2, 1) := by decide +kernel
theorem dX8_feels_22 : decode cX8_feels 22 = .ok (.iadd, 1) := by decide +kernel
theorem dX8_feels_23 : decode cX8_feels 23 = .ok (.iaload, 1) := by decide +kernel
theorem dX8_feels_24 : decode cX8_feels 24 = .ok (.iload 4, 2) := by decide +kernel
theorem dX8_feels_26 : decode cX8_feels 26 = .ok (.iconst 2, 1) := by decide +kernel
theorem dX8_feels_27 : decode cX8_feels 27 = .ok (.if_icmp .ne 9, 3) := by decide +kernel
theorem dX8_feels_30 : decode cX8_feels 30 = .ok (.iconst 2, 1) := by decide +kernel
theorem dX8_feels_31 : decode cX8_feels 31 = .ok (.iload_n 2, 1) := by decide +kernel
theorem dX8_feels_32 : decode cX8_feels 32 = .ok (.imul, 1) := by decide +kernel
theorem dX8_feels_33 : decode cX8_feels 33 = .ok (.goto 4, 3) := by decide +kernel
theorem dX8_feels_36 : decode cX8_feels 36 = .ok (.iconst 0, 1) := by decide +kernel
theorem dX8_feels_37 : decode cX8_feels 37 = .ok (.iadd, 1) := by decide +kernel
theorem dX8_feels_38 : decode cX8_feels 38 = .ok (.ireturn, 1) := by decide +kernel
theorem dX8_feels_39 : decode cX8_feels 39 = .ok (.aload_n 0, 1) := by decide +kernel
theorem dX8_feels_40 : decode cX8_feels 40 = .ok (.getfield 7, 3) := by decide +kernel
theorem dX8_feels_43 : decode cX8_feels 43 = .ok (.iconst 4, 1) := by decide +kernel
theorem dX8_feels_44 : decode cX8_feels 44 = .ok (.iload_n 1, 1) := by decide +kernel
theorem dX8_feels_45 : decode cX8_feels 45 = .ok (.imul, 1) := by decide +kernel
theorem dX8_feels_46 : decode cX8_feels 46 = .ok (.iconst 3, 1) := by decide +kernel
theorem dX8_feels_47 : decode cX8_feels 47 = .ok (.iadd, 1) := by decide +kernel
theorem dX8_feels_48 : decode cX8_feels 48 = .ok (.iaload, 1) := by decide +kernel
theorem dX8_feels_49 : decode cX8_feels 49 = .ok (.iload 4, 2) := by decide +kernel
theorem dX8_feels_51 : decode cX8_feels 51 = .ok (.iconst 2, 1) := by decide +kernel
theorem dX8_feels_52 : decode cX8_feels 52 = .ok (.irem, 1) := by decide +kernel
theorem dX8_feels_53 : decode cX8_feels 53 = .ok (.iconst 1, 1) := by decide +kernel
theorem dX8_feels_54 : decode cX8_feels 54 = .ok (.if_icmp .ne 7, 3) := by decide +kernel
theorem dX8_feels_57 : decode cX8_feels 57 = .ok (.iload_n 2, 1) := by decide +kernel
theorem dX8_feels_58 : decode cX8_feels 58 = .ok (.goto 4, 3) := by decide +kernel
theorem dX8_feels_61 : decode cX8_feels 61 = .ok (.iconst 0, 1) := by decide +kernel
theorem dX8_feels_62 : decode cX8_feels 62 = .ok (.iadd, 1) := by decide +kernel
theorem dX8_feels_63 : decode cX8_feels 63 = .ok (.iload 4, 2) := by decide +kernel
theorem dX8_feels_65 : decode cX8_feels 65 = .ok (.iconst 3, 1) := by decide +kernel
theorem dX8_feels_66 : decode cX8_feels 66 = .ok (.if_icmp .ne 12, 3) := by decide +kernel
theorem dX8_feels_69 : decode cX8_feels 69 = .ok (.iload_n 2, 1) := by decide +kernel
theorem dX8_feels_70 : decode cX8_feels 70 = .ok (.iconst 2, 1) := by decide +kernel
theorem dX8_feels_71 : decode cX8_feels 71 = .ok (.if_icmp .le 7, 3) := by decide +kernel
theorem dX8_feels_74 : decode cX8_feels 74 = .ok (.iconst 5, 1) := by decide +kernel
theorem dX8_feels_75 : decode cX8_feels 75 = .ok (.goto 4, 3) := by decide +kernel
theorem dX8_feels_78 : decode cX8_feels 78 = .ok (.iconst 0, 1) := by decide +kernel
theorem dX8_feels_79 : decode cX8_feels 79 = .ok (.iadd, 1) := by decide +kernel
theorem dX8_feels_80 : decode cX8_feels 80 = .ok (.ireturn, 1) := by decide +kernel
theorem dX8_felt_0 : decode cX8_felt 0 = .ok (.aload_n 0, 1) := by decide +kernel
theorem dX8_felt_1 : decode cX8_felt 1 = .ok (.iload_n 1, 1) := by decide +kernel
theorem dX8_felt_2 : decode cX8_felt 2 = .ok (.i2l, 1) := by decide +kernel
theorem dX8_felt_3 : decode cX8_felt 3 = .ok (.invokevirtual 89, 3) := by decide +kernel
theorem dX8_felt_6 : decode cX8_felt 6 = .ok (.ifCond .eq 35, 3) := by decide +kernel
theorem dX8_felt_9 : decode cX8_felt 9 = .ok (.iload_n 2, 1) := by decide +kernel
theorem dX8_felt_10 : decode cX8_felt 10 = .ok (.i2l, 1) := by decide +kernel
theorem dX8_felt_11 : decode cX8_felt 11 = .ok (.lconst 0, 1) := by decide +kernel
theorem dX8_felt_12 : decode cX8_felt 12 = .ok (.ldc2_w 81, 3) := by decide +kernel
theorem dX8_felt_15 : decode cX8_felt 15 = .ok (.invokestatic 72, 3) := by decide +kernel
theorem dX8_felt_18 : decode cX8_felt 18 = .ok (.ifCond .eq 23, 3) := by decide +kernel
theorem dX8_felt_21 : decode cX8_felt 21 = .ok (.iload_n 3, 1) := by decide +kernel
theorem dX8_felt_22 : decode cX8_felt 22 = .ok (.i2l, 1) := by decide +kernel
theorem dX8_felt_23 : decode cX8_felt 23 = .ok (.lconst 0, 1) := by decide +kernel
theorem dX8_felt_24 : decode cX8_felt 24 = .ok (.lconst 1, 1) := by decide +kernel
theorem dX8_felt_25 : decode cX8_felt 25 = .ok (.invokestatic 72, 3) := by decide +kernel
theorem dX8_felt_28 : decode cX8_felt 28 = .ok (.ifCond .eq 13, 3) := by decide +kernel
theorem dX8_felt_31 : decode cX8_felt 31 = .ok (.aload_n 0, 1) := by decide +kernel
theorem dX8_felt_32 : decode cX8_felt 32 = .ok (.iload_n 1, 1) := by decide +kernel
theorem dX8_felt_33 : decode cX8_felt 33 = .ok (.iload_n 2, 1) := by decide +kernel
theorem dX8_felt_34 : decode cX8_felt 34 = .ok (.iload_n 3, 1) := by decide +kernel
theorem dX8_felt_35 : decode cX8_felt 35 = .ok (.invokevirtual 99, 3) := by decide +kernel
theorem dX8_felt_38 : decode cX8_felt 38 = .ok (.goto 4, 3) := by decide +kernel
theorem dX8_felt_41 : decode cX8_felt 41 = .ok (.iconst (-1), 1) := by decide +kernel
theorem dX8_felt_42 : decode cX8_felt 42 = .ok (.ireturn, 1) := by decide +kernel
theorem dX8_personComes_0 : decode cX8_personComes 0 = .ok (.aload_n 0, 1) := by decide +kernel
theorem dX8_personComes_1 : decode cX8_personComes 1 = .ok (.getfield 13, 3) := by decide +kernel
theorem dX8_personComes_4 : decode cX8_personComes 4 = .ok (.iconst 2, 1) := by decide +kernel
theorem dX8_personComes_5 : decode cX8_personComes 5 = .ok (.aload_n 0, 1) := by decide +kernel
theorem dX8_personComes_6 : decode cX8_personComes 6 = .ok (.getfield 76, 3) := by decide +kernel
theorem dX8_personComes_9 : decode cX8_personComes 9 = .ok (.imul, 1) := by decide +kernel
theorem dX8_personComes_10 : decode cX8_personComes 10 = .ok (.iload_n 1, 1) := by decide +kernel
theorem dX8_personComes_11 : decode cX8_personComes 11 = .ok (.iastore, 1) := by decide +kernel
theorem dX8_personComes_12 : decode cX8_personComes 12 = .ok (.aload_n 0, 1) := by decide +kernel
theorem dX8_personComes_13 : decode cX8_personComes 13 = .ok (.getfield 13, 3) := by decide +kernel
theorem dX8_personComes_16 : decode cX8_personComes 16 = .ok (.iconst 2, 1) := by decide +kernel
theorem dX8_personComes_17 : decode cX8_personComes 17 = .ok (.aload_n 0, 1) := by decide +kernel
theorem dX8_personComes_18 : decode cX8_personComes 18 = .ok (.getfield 76, 3) := by decide +kernel
theorem dX8_personComes_21 : decode cX8_personComes 21 = .ok (.imul, 1) := by decide +kernel
theorem dX8_personComes_22 : decode cX8_personComes 22 = .ok (.iconst 1, 1) := by decide +kernel
theorem dX8_personComes_23 : decode cX8_personComes 23 = .ok (.iadd, 1) := by decide +kernel
theorem dX8_personComes_24 : decode cX8_personComes 24 = .ok (.iload_n 3, 1) := by decide +kernel
theorem dX8_personComes_25 : decode cX8_personComes 25 = .ok (.iastore, 1) := by decide +kernel
theorem dX8_personComes_26 : decode cX8_personComes 26 = .ok (.aload_n 0, 1) := by decide +kernel
theorem dX8_personComes_27 : decode cX8_personComes 27 = .ok (.getfield 16, 3) := by decide +kernel
theorem dX8_personComes_30 : decode cX8_personComes 30 = .ok (.iconst 5, 1) := by decide +kernel
theorem dX8_personComes_31 : decode cX8_personComes 31 = .ok (.aload_n 0, 1) := by decide +kernel
theorem dX8_personComes_32 : decode cX8_personComes 32 = .ok (.getfield 76, 3) := by decide +kernel
theorem dX8_personComes_35 : decode cX8_personComes 35 = .ok (.iadd, 1) := by decide +kernel
theorem dX8_personComes_36 : decode cX8_personComes 36 = .ok (.iload_n 2, 1) := by decide +kernel
theorem dX8_personComes_37 : decode cX8_personComes 37 = .ok (.iastore, 1) := by decide +kernel
theorem dX8_personComes_38 : decode cX8_personComes 38 = .ok (.aload_n 0, 1) := by decide +kernel
theorem dX8_personComes_39 : decode cX8_personComes 39 = .ok (.dup, 1) := by decide +kernel
theorem dX8_personComes_40 : decode cX8_personComes 40 = .ok (.getfield 76, 3) := by decide +kernel
theorem dX8_personComes_43 : decode cX8_personComes 43 = .ok (.iconst 1, 1) := by decide +kernel
theorem dX8_personComes_44 : decode cX8_personComes 44 = .ok (.iadd, 1) := by decide +kernel
theorem dX8_personComes_45 : decode cX8_personComes 45 = .ok (.putfield 76, 3) := by decide +kernel
theorem dX8_personComes_48 : decode cX8_personComes 48 = .ok (.return_, 1) := by decide +kernel
theorem dX8_person_0 : decode cX8_person 0 = .ok (.iload_n 1, 1) := by decide +kernel
theorem dX8_person_1 : decode cX8_person 1 = .ok (.i2l, 1) := by decide +kernel
theorem dX8_person_2 : decode cX8_person 2 = .ok (.lconst 0, 1) := by decide +kernel
theorem dX8_person_3 : decode cX8_person 3 = .ok (.ldc2_w 103, 3) := by decide +kernel
theorem dX8_person_6 : decode cX8_person 6 = .ok (.invokestatic 72, 3) := by decide +kernel
theorem dX8_person_9 : decode cX8_person 9 = .ok (.ifCond .eq 30, 3) := by decide +kernel
theorem dX8_person_12 : decode cX8_person 12 = .ok (.iload_n 2, 1) := by decide +kernel
theorem dX8_person_13 : decode cX8_person 13 = .ok (.bipush (-4), 2) := by decide +kernel
theorem dX8_person_15 : decode cX8_person 15 = .ok (.if_icmp .eq 12, 3) := by decide +kernel
theorem dX8_person_18 : decode cX8_person 18 = .ok (.aload_n 0, 1) := by decide +kernel
theorem dX8_person_19 : decode cX8_person 19 = .ok (.iload_n 2, 1) := by decide +kernel
theorem dX8_person_20 : decode cX8_person 20 = .ok (.i2l, 1) := by decide +kernel
theorem dX8_person_21 : decode cX8_person 21 = .ok (.invokevirtual 89, 3) := by decide +kernel
theorem dX8_person_24 : decode cX8_person 24 = .ok (.ifCond .eq 15, 3) := by decide +kernel
theorem dX8_person_27 : decode cX8_person 27 = .ok (.iload_n 3, 1) := by decide +kernel
theorem dX8_person_28 : decode cX8_person 28 = .ok (.i2l, 1) := by decide +kernel
theorem dX8_person_29 : decode cX8_person 29 = .ok (.lconst 0, 1) := by decide +kernel
theorem dX8_person_30 : decode cX8_person 30 = .ok (.ldc2_w 105, 3) := by decide +kernel
theorem dX8_person_33 : decode cX8_person 33 = .ok (.invokestatic 72, 3) := by decide +kernel
theorem dX8_person_36 : decode cX8_person 36 = .ok (.ifCond .ne 5, 3) := by decide +kernel
theorem dX8_person_39 : decode cX8_person 39 = .ok (.iconst (-1), 1) := by decide +kernel
theorem dX8_person_40 : decode cX8_person 40 = .ok (.ireturn, 1) := by decide +kernel
theorem dX8_person_41 : decode cX8_person 41 = .ok (.iload_n 2, 1) := by decide +kernel
theorem dX8_person_42 : decode cX8_person 42 = .ok (.bipush (-4), 2) := by decide +kernel
theorem dX8_person_44 : decode cX8_person 44 = .ok (.if_icmp .eq 16, 3) := by decide +kernel
theorem dX8_person_47 : decode cX8_person 47 = .ok (.aload_n 0, 1) := by decide +kernel
theorem dX8_person_48 : decode cX8_person 48 = .ok (.iload_n 2, 1) := by decide +kernel
theorem dX8_person_49 : decode cX8_person 49 = .ok (.invokevirtual 95, 3) := by decide +kernel
theorem dX8_person_52 : decode cX8_person 52 = .ok (.bipush (-4), 2) := by decide +kernel
theorem dX8_person_54 : decode cX8_person 54 = .ok (.if_icmp .eq 6, 3) := by decide +kernel
theorem dX8_person_57 : decode cX8_person 57 = .ok (.bipush (-2), 2) := by decide +kernel
theorem dX8_person_59 : decode cX8_person 59 = .ok (.ireturn, 1) := by decide +kernel
theorem dX8_person_60 : decode cX8_person 60 = .ok (.aload_n 0, 1) := by decide +kernel
theorem dX8_person_61 : decode cX8_person 61 = .ok (.getfield 76, 3) := by decide +kernel
theorem dX8_person_64 : decode cX8_person 64 = .ok (.bipush 8, 2) := by decide +kernel
theorem dX8_person_66 : decode cX8_person 66 = .ok (.if_icmp .ne 6, 3) := by decide +kernel
theorem dX8_person_69 : decode cX8_person 69 = .ok (.bipush (-3), 2) := by decide +kernel
theorem dX8_person_71 : decode cX8_person 71 = .ok (.ireturn, 1) := by decide +kernel
theorem dX8_person_72 : decode cX8_person 72 = .ok (.aload_n 0, 1) := by decide +kernel
theorem dX8_person_73 : decode cX8_person 73 = .ok (.iload_n 1, 1) := by decide +kernel
theorem dX8_person_74 : decode cX8_person 74 = .ok (.iload_n 2, 1) := by decide +kernel
theorem dX8_person_75 : decode cX8_person 75 = .ok (.iload_n 3, 1) := by decide +kernel
theorem dX8_person_76 : decode cX8_person 76 = .ok (.invokevirtual 107, 3) := by decide +kernel
theorem dX8_person_79 : decode cX8_person 79 = .ok (.aload_n 0, 1) := by decide +kernel
theorem dX8_person_80 : decode cX8_person 80 = .ok (.iconst 0, 1) := by decide +kernel
theorem dX8_person_81 : decode cX8_person 81 = .ok (.putfield 66, 3) := by decide +kernel
theorem dX8_person_84 : decode cX8_person 84 = .ok (.aload_n 0, 1) := by decide +kernel
theorem dX8_person_85 : decode cX8_person 85 = .ok (.getfield 76, 3) := by decide +kernel
theorem dX8_person_88 : decode cX8_person 88 = .ok (.iconst 1, 1) := by decide +kernel
theorem dX8_person_89 : decode cX8_person 89 = .ok (.isub, 1) := by decide +kernel
theorem dX8_person_90 : decode cX8_person 90 = .ok (.ireturn, 1) := by decide +kernel
theorem dX8_told_0 : decode cX8_told 0 = .ok (.aload_n 0, 1) := by decide +kernel
theorem dX8_told_1 : decode cX8_told 1 = .ok (.iload_n 1, 1) := by decide +kernel
theorem dX8_told_2 : decode cX8_told 2 = .ok (.invokevirtual 111, 3) := by decide +kernel
theorem dX8_told_5 : decode cX8_told 5 = .ok (.ifCond .eq 15, 3) := by decide +kernel
theorem dX8_told_8 : decode cX8_told 8 = .ok (.iload_n 2, 1) := by decide +kernel
theorem dX8_told_9 : decode cX8_told 9 = .ok (.i2l, 1) := by decide +kernel
theorem dX8_told_10 : decode cX8_told 10 = .ok (.lconst 0, 1) := by decide +kernel
theorem dX8_told_11 : decode cX8_told 11 = .ok (.ldc2_w 115, 3) := by decide +kernel
theorem dX8_told_14 : decode cX8_told 14 = .ok (.invokestatic 72, 3) := by decide +kernel
theorem dX8_told_17 : decode cX8_told 17 = .ok (.ifCond .ne 5, 3) := by decide +kernel
theorem dX8_told_20 : decode cX8_told 20 = .ok (.iconst (-1), 1) := by decide +kernel
theorem dX8_told_21 : decode cX8_told 21 = .ok (.ireturn, 1) := by decide +kernel
theorem dX8_told_22 : decode cX8_told 22 = .ok (.iload_n 2, 1) := by decide +kernel
theorem dX8_told_23 : decode cX8_told 23 = .ok (.ifCond .ne 14, 3) := by decide +kernel
theorem dX8_told_26 : decode cX8_told 26 = .ok (.aload_n 0, 1) := by decide +kernel
theorem dX8_told_27 : decode cX8_told 27 = .ok (.getfield 13, 3) := by decide +kernel
theorem dX8_told_30 : decode cX8_told 30 = .ok (.iconst 2, 1) := by decide +kernel
theorem dX8_told_31 : decode cX8_told 31 = .ok (.iload_n 1, 1) := by decide +kernel
theorem dX8_told_32 : decode cX8_told 32 = .ok (.imul, 1) := by decide +kernel
theorem dX8_told_33 : decode cX8_told 33 = .ok (.iaload, 1) := by decide +kernel
theorem dX8_told_34 : decode cX8_told 34 = .ok (.goto 29, 3) := by decide +kernel
theorem dX8_told_37 : decode cX8_told 37 = .ok (.iload_n 2, 1) := by decide +kernel
theorem dX8_told_38 : decode cX8_told 38 = .ok (.iconst 1, 1) := by decide +kernel
theorem dX8_told_39 : decode cX8_told 39 = .ok (.if_icmp .ne 14, 3) := by decide +kernel
theorem dX8_told_42 : decode cX8_told 42 = .ok (.aload_n 0, 1) := by decide +kernel
theorem dX8_told_43 : decode cX8_told 43 = .ok (.getfield 16, 3) := by decide +kernel
theorem dX8_told_46 : decode cX8_told 46 = .ok (.iconst 5, 1) := by decide +kernel
theorem dX8_told_47 : decode cX8_told 47 = .ok (.iload_n 1, 1) := by decide +kernel
theorem dX8_told_48 : decode cX8_told 48 = .ok (.iadd, 1) := by decide +kernel
theorem dX8_told_49 : decode cX8_told 49 = .ok (.iaload, 1) := by decide +kernel
theorem dX8_told_50 : decode cX8_told 50 = .ok (.goto 13, 3) := by decide +kernel
theorem dX8_told_53 : decode cX8_told 53 = .ok (.aload_n 0, 1) := by decide +kernel
theorem dX8_told_54 : decode cX8_told 54 = .ok (.getfield 13, 3) := by decide +kernel
theorem dX8_told_57 : decode cX8_told 57 = .ok (.iconst 2, 1) := by decide +kernel
theorem dX8_told_58 : decode cX8_told 58 = .ok (.iload_n 1, 1) := by decide +kernel
theorem dX8_told_59 : decode cX8_told 59 = .ok (.imul, 1) := by decide +kernel
theorem dX8_told_60 : decode cX8_told 60 = .ok (.iconst 1, 1) := by decide +kernel
theorem dX8_told_61 : decode cX8_told 61 = .ok (.iadd, 1) := by decide +kernel
theorem dX8_told_62 : decode cX8_told 62 = .ok (.iaload, 1) := by decide +kernel
theorem dX8_told_63 : decode cX8_told 63 = .ok (.ireturn, 1) := by decide +kernel
theorem dX8_move_0 : decode cX8_move 0 = .ok (.aload_n 0, 1) := by decide +kernel
theorem dX8_move_1 : decode cX8_move 1 = .ok (.iload_n 1, 1) := by decide +kernel
theorem dX8_move_2 : decode cX8_move 2 = .ok (.invokevirtual 111, 3) := by decide +kernel
theorem dX8_move_5 : decode cX8_move 5 = .ok (.ifCond .eq 15, 3) := by decide +kernel
theorem dX8_move_8 : decode cX8_move 8 = .ok (.iload_n 2, 1) := by decide +kernel
theorem dX8_move_9 : decode cX8_move 9 = .ok (.i2l, 1) := by decide +kernel
theorem dX8_move_10 : decode cX8_move 10 = .ok (.lconst 0, 1) := by decide +kernel
theorem dX8_move_11 : decode cX8_move 11 = .ok (.ldc2_w 103, 3) := by decide +kernel
theorem dX8_move_14 : decode cX8_move 14 = .ok (.invokestatic 72, 3) := by decide +kernel
theorem dX8_move_17 : decode cX8_move 17 = .ok (.ifCond .ne 5, 3) := by decide +kernel
theorem dX8_move_20 : decode cX8_move 20 = .ok (.iconst (-1), 1) := by decide +kernel
theorem dX8_move_21 : decode cX8_move 21 = .ok (.ireturn, 1) := by decide +kernel
theorem dX8_move_22 : decode cX8_move 22 = .ok (.aload_n 0, 1) := by decide +kernel
theorem dX8_move_23 : decode cX8_move 23 = .ok (.getfield 13, 3) := by decide +kernel
theorem dX8_move_26 : decode cX8_move 26 = .ok (.iconst 2, 1) := by decide +kernel
theorem dX8_move_27 : decode cX8_move 27 = .ok (.iload_n 1, 1) := by decide +kernel
theorem dX8_move_28 : decode cX8_move 28 = .ok (.imul, 1) := by decide +kernel
theorem dX8_move_29 : decode cX8_move 29 = .ok (.iaload, 1) := by decide +kernel
theorem dX8_move_30 : decode cX8_move 30 = .ok (.istore_n 3, 1) := by decide +kernel
theorem dX8_move_31 : decode cX8_move 31 = .ok (.aload_n 0, 1) := by decide +kernel
theorem dX8_move_32 : decode cX8_move 32 = .ok (.getfield 13, 3) := by decide +kernel
theorem dX8_move_35 : decode cX8_move 35 = .ok (.iconst 2, 1) := by decide +kernel
theorem dX8_move_36 : decode cX8_move 36 = .ok (.iload_n 1, 1) := by decide +kernel
theorem dX8_move_37 : decode cX8_move 37 = .ok (.imul, 1) := by decide +kernel
theorem dX8_move_38 : decode cX8_move 38 = .ok (.iload_n 2, 1) := by decide +kernel
theorem dX8_move_39 : decode cX8_move 39 = .ok (.iastore, 1) := by decide +kernel
theorem dX8_move_40 : decode cX8_move 40 = .ok (.iload_n 3, 1) := by decide +kernel
theorem dX8_move_41 : decode cX8_move 41 = .ok (.ireturn, 1) := by decide +kernel
theorem dX8_take_0 : decode cX8_take 0 = .ok (.iload_n 1, 1) := by decide +kernel
theorem dX8_take_1 : decode cX8_take 1 = .ok (.bipush (-4), 2) := by decide +kernel
theorem dX8_take_3 : decode cX8_take 3 = .ok (.if_icmp .eq 14, 3) := by decide +kernel
theorem dX8_take_6 : decode cX8_take 6 = .ok (.aload_n 0, 1) := by decide +kernel
theorem dX8_take_7 : decode cX8_take 7 = .ok (.iload_n 1, 1) := by decide +kernel
theorem dX8_take_8 : decode cX8_take 8 = .ok (.i2l, 1) := by decide +kernel
theorem dX8_take_9 : decode cX8_take 9 = .ok (.invokevirtual 89, 3) := by decide +kernel
theorem dX8_take_12 : decode cX8_take 12 = .ok (.ifCond .ne 5, 3) := by decide +kernel
theorem dX8_take_15 : decode cX8_take 15 = .ok (.iconst (-1), 1) := by decide +kernel
theorem dX8_take_16 : decode cX8_take 16 = .ok (.ireturn, 1) := by decide +kernel
theorem dX8_take_17 : decode cX8_take 17 = .ok (.iload_n 1, 1) := by decide +kernel
theorem dX8_take_18 : decode cX8_take 18 = .ok (.bipush (-4), 2) := by decide +kernel
theorem dX8_take_20 : decode cX8_take 20 = .ok (.if_icmp .eq 24, 3) := by decide +kernel
theorem dX8_take_23 : decode cX8_take 23 = .ok (.aload_n 0, 1) := by decide +kernel
theorem dX8_take_24 : decode cX8_take 24 = .ok (.iload_n 1, 1) := by decide +kernel
theorem dX8_take_25 : decode cX8_take 25 = .ok (.invokevirtual 95, 3) := by decide +kernel
theorem dX8_take_28 : decode cX8_take 28 = .ok (.ifCond .lt 16, 3) := by decide +kernel
theorem dX8_take_31 : decode cX8_take 31 = .ok (.aload_n 0, 1) := by decide +kernel
theorem dX8_take_32 : decode cX8_take 32 = .ok (.iload_n 1, 1) := by decide +kernel
theorem dX8_take_33 : decode cX8_take 33 = .ok (.invokevirtual 95, 3) := by decide +kernel
theorem dX8_take_36 : decode cX8_take 36 = .ok (.bipush 8, 2) := by decide +kernel
theorem dX8_take_38 : decode cX8_take 38 = .ok (.if_icmp .ge 6, 3) := by decide +kernel
theorem dX8_take_41 : decode cX8_take 41 = .ok (.bipush (-2), 2) := by decide +kernel
theorem dX8_take_43 : decode cX8_take 43 = .ok (.ireturn, 1) := by decide +kernel
theorem dX8_take_44 : decode cX8_take 44 = .ok (.aload_n 0, 1) := by decide +kernel
theorem dX8_take_45 : decode cX8_take 45 = .ok (.getfield 16, 3) := by decide +kernel
theorem dX8_take_48 : decode cX8_take 48 = .ok (.iconst 0, 1) := by decide +kernel
theorem dX8_take_49 : decode cX8_take 49 = .ok (.iaload, 1) := by decide +kernel
theorem dX8_take_50 : decode cX8_take 50 = .ok (.istore_n 2, 1) := by decide +kernel
theorem dX8_take_51 : decode cX8_take 51 = .ok (.aload_n 0, 1) := by decide +kernel
theorem dX8_take_52 : decode cX8_take 52 = .ok (.getfield 16, 3) := by decide +kernel
theorem dX8_take_55 : decode cX8_take 55 = .ok (.iconst 0, 1) := by decide +kernel
theorem dX8_take_56 : decode cX8_take 56 = .ok (.iload_n 1, 1) := by decide +kernel
theorem dX8_take_57 : decode cX8_take 57 = .ok (.iastore, 1) := by decide +kernel
theorem dX8_take_58 : decode cX8_take 58 = .ok (.aload_n 0, 1) := by decide +kernel
theorem dX8_take_59 : decode cX8_take 59 = .ok (.getfield 16, 3) := by decide +kernel
theorem dX8_take_62 : decode cX8_take 62 = .ok (.iconst 1, 1) := by decide +kernel
theorem dX8_take_63 : decode cX8_take 63 = .ok (.iconst 0, 1) := by decide +kernel
theorem dX8_take_64 : decode cX8_take 64 = .ok (.iastore, 1) := by decide +kernel
theorem dX8_take_65 : decode cX8_take 65 = .ok (.iload_n 2, 1) := by decide +kernel
theorem dX8_take_66 : decode cX8_take 66 = .ok (.ireturn, 1) := by decide +kernel
theorem dX8_count_0 : decode cX8_count 0 = .ok (.iload_n 1, 1) := by decide +kernel
theorem dX8_count_1 : decode cX8_count 1 = .ok (.tableswitch 115 0 9 #[55, 60, 65, 72, 79, 86, 93, 98, 103, 110], 55) := by decide +kernel
theorem dX8_count_56 : decode cX8_count 56 = .ok (.aload_n 0, 1) := by decide +kernel
theorem dX8_count_57 : decode cX8_count 57 = .ok (.getfield 69, 3) := by decide +kernel
theorem dX8_count_60 : decode cX8_count 60 = .ok (.ireturn, 1) := by decide +kernel
theorem dX8_count_61 : decode cX8_count 61 = .ok (.aload_n 0, 1) := by decide +kernel
theorem dX8_count_62 : decode cX8_count 62 = .ok (.getfield 76, 3) := by decide +kernel
theorem dX8_count_65 : decode cX8_count 65 = .ok (.ireturn, 1) := by decide +kernel
theorem dX8_count_66 : decode cX8_count 66 = .ok (.aload_n 0, 1) := by decide +kernel
theorem dX8_count_67 : decode cX8_count 67 = .ok (.getfield 16, 3) := by decide +kernel
theorem dX8_count_70 : decode cX8_count 70 = .ok (.iconst 3, 1) := by decide +kernel
theorem dX8_count_71 : decode cX8_count 71 = .ok (.iaload, 1) := by decide +kernel
theorem dX8_count_72 : decode cX8_count 72 = .ok (.ireturn, 1) := by decide +kernel
theorem dX8_count_73 : decode cX8_count 73 = .ok (.aload_n 0, 1) := by decide +kernel
theorem dX8_count_74 : decode cX8_count 74 = .ok (.getfield 16, 3) := by decide +kernel
theorem dX8_count_77 : decode cX8_count 77 = .ok (.iconst 0, 1) := by decide +kernel
theorem dX8_count_78 : decode cX8_count 78 = .ok (.iaload, 1) := by decide +kernel
theorem dX8_count_79 : decode cX8_count 79 = .ok (.ireturn, 1) := by decide +kernel
theorem dX8_count_80 : decode cX8_count 80 = .ok (.aload_n 0, 1) := by decide +kernel
theorem dX8_count_81 : decode cX8_count 81 = .ok (.getfield 16, 3) := by decide +kernel
theorem dX8_count_84 : decode cX8_count 84 = .ok (.iconst 1, 1) := by decide +kernel
theorem dX8_count_85 : decode cX8_count 85 = .ok (.iaload, 1) := by decide +kernel
theorem dX8_count_86 : decode cX8_count 86 = .ok (.ireturn, 1) := by decide +kernel
theorem dX8_count_87 : decode cX8_count 87 = .ok (.aload_n 0, 1) := by decide +kernel
theorem dX8_count_88 : decode cX8_count 88 = .ok (.getfield 16, 3) := by decide +kernel
theorem dX8_count_91 : decode cX8_count 91 = .ok (.iconst 2, 1) := by decide +kernel
theorem dX8_count_92 : decode cX8_count 92 = .ok (.iaload, 1) := by decide +kernel
theorem dX8_count_93 : decode cX8_count 93 = .ok (.ireturn, 1) := by decide +kernel
theorem dX8_count_94 : decode cX8_count 94 = .ok (.aload_n 0, 1) := by decide +kernel
theorem dX8_count_95 : decode cX8_count 95 = .ok (.getfield 60, 3) := by decide +kernel
theorem dX8_count_98 : decode cX8_count 98 = .ok (.ireturn, 1) := by decide +kernel
theorem dX8_count_99 : decode cX8_count 99 = .ok (.aload_n 0, 1) := by decide +kernel
theorem dX8_count_100 : decode cX8_count 100 = .ok (.getfield 56, 3) := by decide +kernel
theorem dX8_count_103 : decode cX8_count 103 = .ok (.ireturn, 1) := by decide +kernel
theorem dX8_count_104 : decode cX8_count 104 = .ok (.aload_n 0, 1) := by decide +kernel
theorem dX8_count_105 : decode cX8_count 105 = .ok (.getfield 16, 3) := by decide +kernel
theorem dX8_count_108 : decode cX8_count 108 = .ok (.iconst 4, 1) := by decide +kernel
theorem dX8_count_109 : decode cX8_count 109 = .ok (.iaload, 1) := by decide +kernel
theorem dX8_count_110 : decode cX8_count 110 = .ok (.ireturn, 1) := by decide +kernel
theorem dX8_count_111 : decode cX8_count 111 = .ok (.aload_n 0, 1) := by decide +kernel
theorem dX8_count_112 : decode cX8_count 112 = .ok (.getfield 66, 3) := by decide +kernel
theorem dX8_count_115 : decode cX8_count 115 = .ok (.ireturn, 1) := by decide +kernel
theorem dX8_count_116 : decode cX8_count 116 = .ok (.iconst (-1), 1) := by decide +kernel
theorem dX8_count_117 : decode cX8_count 117 = .ok (.ireturn, 1) := by decide +kernel
theorem dX8_heed_0 : decode cX8_heed 0 = .ok (.iload_n 1, 1) := by decide +kernel
theorem dX8_heed_1 : decode cX8_heed 1 = .ok (.i2l, 1) := by decide +kernel
theorem dX8_heed_2 : decode cX8_heed 2 = .ok (.lconst 0, 1) := by decide +kernel
theorem dX8_heed_3 : decode cX8_heed 3 = .ok (.ldc2_w 81, 3) := by decide +kernel
theorem dX8_heed_6 : decode cX8_heed 6 = .ok (.invokestatic 72, 3) := by decide +kernel
theorem dX8_heed_9 : decode cX8_heed 9 = .ok (.ifCond .ne 5, 3) := by decide +kernel
theorem dX8_heed_12 : decode cX8_heed 12 = .ok (.iconst (-1), 1) := by decide +kernel
theorem dX8_heed_13 : decode cX8_heed 13 = .ok (.ireturn, 1) := by decide +kernel
theorem dX8_heed_14 : decode cX8_heed 14 = .ok (.aload_n 0, 1) := by decide +kernel
theorem dX8_heed_15 : decode cX8_heed 15 = .ok (.getfield 60, 3) := by decide +kernel
theorem dX8_heed_18 : decode cX8_heed 18 = .ok (.istore_n 2, 1) := by decide +kernel
theorem dX8_heed_19 : decode cX8_heed 19 = .ok (.aload_n 0, 1) := by decide +kernel
theorem dX8_heed_20 : decode cX8_heed 20 = .ok (.iload_n 1, 1) := by decide +kernel
theorem dX8_heed_21 : decode cX8_heed 21 = .ok (.putfield 60, 3) := by decide +kernel
theorem dX8_heed_24 : decode cX8_heed 24 = .ok (.iload_n 2, 1) := by decide +kernel
theorem dX8_heed_25 : decode cX8_heed 25 = .ok (.ireturn, 1) := by decide +kernel
theorem dX8_well_0 : decode cX8_well 0 = .ok (.iload_n 1, 1) := by decide +kernel
theorem dX8_well_1 : decode cX8_well 1 = .ok (.bipush (-4), 2) := by decide +kernel
theorem dX8_well_3 : decode cX8_well 3 = .ok (.if_icmp .eq 17, 3) := by decide +kernel
theorem dX8_well_6 : decode cX8_well 6 = .ok (.iload_n 1, 1) := by decide +kernel
theorem dX8_well_7 : decode cX8_well 7 = .ok (.i2l, 1) := by decide +kernel
theorem dX8_well_8 : decode cX8_well 8 = .ok (.lconst 0, 1) := by decide +kernel
theorem dX8_well_9 : decode cX8_well 9 = .ok (.ldc2_w 103, 3) := by decide +kernel
theorem dX8_well_12 : decode cX8_well 12 = .ok (.invokestatic 72, 3) := by decide +kernel
theorem dX8_well_15 : decode cX8_well 15 = .ok (.ifCond .ne 5, 3) := by decide +kernel
theorem dX8_well_18 : decode cX8_well 18 = .ok (.iconst (-1), 1) := by decide +kernel
theorem dX8_well_19 : decode cX8_well 19 = .ok (.ireturn, 1) := by decide +kernel
theorem dX8_well_20 : decode cX8_well 20 = .ok (.aload_n 0, 1) := by decide +kernel
theorem dX8_well_21 : decode cX8_well 21 = .ok (.getfield 56, 3) := by decide +kernel
theorem dX8_well_24 : decode cX8_well 24 = .ok (.istore_n 2, 1) := by decide +kernel
theorem dX8_well_25 : decode cX8_well 25 = .ok (.aload_n 0, 1) := by decide +kernel
theorem dX8_well_26 : decode cX8_well 26 = .ok (.iload_n 1, 1) := by decide +kernel
theorem dX8_well_27 : decode cX8_well 27 = .ok (.putfield 56, 3) := by decide +kernel
theorem dX8_well_30 : decode cX8_well 30 = .ok (.iload_n 2, 1) := by decide +kernel
theorem dX8_well_31 : decode cX8_well 31 = .ok (.ireturn, 1) := by decide +kernel
theorem dX8_type_0 : decode cX8_type 0 = .ok (.iload_n 1, 1) := by decide +kernel
theorem dX8_type_1 : decode cX8_type 1 = .ok (.i2l, 1) := by decide +kernel
theorem dX8_type_2 : decode cX8_type 2 = .ok (.ldc2_w 117, 3) := by decide +kernel
theorem dX8_type_5 : decode cX8_type 5 = .ok (.ldc2_w 119, 3) := by decide +kernel
theorem dX8_type_8 : decode cX8_type 8 = .ok (.invokestatic 72, 3) := by decide +kernel
theorem dX8_type_11 : decode cX8_type 11 = .ok (.ifCond .ne 5, 3) := by decide +kernel
theorem dX8_type_14 : decode cX8_type 14 = .ok (.iconst (-1), 1) := by decide +kernel
theorem dX8_type_15 : decode cX8_type 15 = .ok (.ireturn, 1) := by decide +kernel
theorem dX8_type_16 : decode cX8_type 16 = .ok (.aload_n 0, 1) := by decide +kernel
theorem dX8_type_17 : decode cX8_type 17 = .ok (.getfield 121, 3) := by decide +kernel
theorem dX8_type_20 : decode cX8_type 20 = .ok (.bipush 120, 2) := by decide +kernel
theorem dX8_type_22 : decode cX8_type 22 = .ok (.if_icmp .ne 6, 3) := by decide +kernel
theorem dX8_type_25 : decode cX8_type 25 = .ok (.bipush (-3), 2) := by decide +kernel
theorem dX8_type_27 : decode cX8_type 27 = .ok (.ireturn, 1) := by decide +kernel
theorem dX8_type_28 : decode cX8_type 28 = .ok (.aload_n 0, 1) := by decide +kernel
theorem dX8_type_29 : decode cX8_type 29 = .ok (.getfield 19, 3) := by decide +kernel
theorem dX8_type_32 : decode cX8_type 32 = .ok (.aload_n 0, 1) := by decide +kernel
theorem dX8_type_33 : decode cX8_type 33 = .ok (.getfield 121, 3) := by decide +kernel
theorem dX8_type_36 : decode cX8_type 36 = .ok (.iload_n 1, 1) := by decide +kernel
theorem dX8_type_37 : decode cX8_type 37 = .ok (.iastore, 1) := by decide +kernel
theorem dX8_type_38 : decode cX8_type 38 = .ok (.aload_n 0, 1) := by decide +kernel
theorem dX8_type_39 : decode cX8_type 39 = .ok (.dup, 1) := by decide +kernel
theorem dX8_type_40 : decode cX8_type 40 = .ok (.getfield 121, 3) := by decide +kernel
theorem dX8_type_43 : decode cX8_type 43 = .ok (.iconst 1, 1) := by decide +kernel
theorem dX8_type_44 : decode cX8_type 44 = .ok (.iadd, 1) := by decide +kernel
theorem dX8_type_45 : decode cX8_type 45 = .ok (.putfield 121, 3) := by decide +kernel
theorem dX8_type_48 : decode cX8_type 48 = .ok (.aload_n 0, 1) := by decide +kernel
theorem dX8_type_49 : decode cX8_type 49 = .ok (.getfield 121, 3) := by decide +kernel
theorem dX8_type_52 : decode cX8_type 52 = .ok (.ireturn, 1) := by decide +kernel
theorem dX8_here_0 : decode cX8_here 0 = .ok (.aload_n 0, 1) := by decide +kernel
theorem dX8_here_1 : decode cX8_here 1 = .ok (.getfield 124, 3) := by decide +kernel
theorem dX8_here_4 : decode cX8_here 4 = .ok (.aload_n 0, 1) := by decide +kernel
theorem dX8_here_5 : decode cX8_here 5 = .ok (.getfield 121, 3) := by decide +kernel
theorem dX8_here_8 : decode cX8_here 8 = .ok (.if_icmp .ge 30, 3) := by decide +kernel
theorem dX8_here_11 : decode cX8_here 11 = .ok (.aload_n 0, 1) := by decide +kernel
theorem dX8_here_12 : decode cX8_here 12 = .ok (.getfield 19, 3) := by decide +kernel
theorem dX8_here_15 : decode cX8_here 15 = .ok (.aload_n 0, 1) := by decide +kernel
theorem dX8_here_16 : decode cX8_here 16 = .ok (.getfield 124, 3) := by decide +kernel
theorem dX8_here_19 : decode cX8_here 19 = .ok (.iaload, 1) := by decide +kernel
theorem dX8_here_20 : decode cX8_here 20 = .ok (.bipush 32, 2) := by decide +kernel
theorem dX8_here_22 : decode cX8_here 22 = .ok (.if_icmp .ne 16, 3) := by decide +kernel
theorem dX8_here_25 : decode cX8_here 25 = .ok (.aload_n 0, 1) := by decide +kernel
theorem dX8_here_26 : decode cX8_here 26 = .ok (.dup, 1) := by decide +kernel
theorem dX8_here_27 : decode cX8_here 27 = .ok (.getfield 124, 3) := by decide +kernel
theorem dX8_here_30 : decode cX8_here 30 = .ok (.iconst 1, 1) := by decide +kernel
theorem dX8_here_31 : decode cX8_here 31 = .ok (.iadd, 1) := by decide +kernel
theorem dX8_here_32 : decode cX8_here 32 = .ok (.putfield 124, 3) := by decide +kernel
theorem dX8_here_35 : decode cX8_here 35 = .ok (.goto (-35), 3) := by decide +kernel
theorem dX8_here_38 : decode cX8_here 38 = .ok (.aload_n 0, 1) := by decide +kernel
theorem dX8_here_39 : decode cX8_here 39 = .ok (.getfield 124, 3) := by decide +kernel
theorem dX8_here_42 : decode cX8_here 42 = .ok (.aload_n 0, 1) := by decide +kernel
theorem dX8_here_43 : decode cX8_here 43 = .ok (.getfield 121, 3) := by decide +kernel
theorem dX8_here_46 : decode cX8_here 46 = .ok (.if_icmp .ge 15, 3) := by decide +kernel
theorem dX8_here_49 : decode cX8_here 49 = .ok (.aload_n 0, 1) := by decide +kernel
theorem dX8_here_50 : decode cX8_here 50 = .ok (.getfield 19, 3) := by decide +kernel
theorem dX8_here_53 : decode cX8_here 53 = .ok (.aload_n 0, 1) := by decide +kernel
theorem dX8_here_54 : decode cX8_here 54 = .ok (.getfield 124, 3) := by decide +kernel
theorem dX8_here_57 : decode cX8_here 57 = .ok (.iaload, 1) := by decide +kernel
theorem dX8_here_58 : decode cX8_here 58 = .ok (.goto 4, 3) := by decide +kernel
theorem dX8_here_61 : decode cX8_here 61 = .ok (.iconst 0, 1) := by decide +kernel
theorem dX8_here_62 : decode cX8_here 62 = .ok (.ireturn, 1) := by decide +kernel
theorem dX8_has_0 : decode cX8_has 0 = .ok (.aload_n 0, 1) := by decide +kernel
theorem dX8_has_1 : decode cX8_has 1 = .ok (.getfield 127, 3) := by decide +kernel
theorem dX8_has_4 : decode cX8_has 4 = .ok (.ifCond .ne 15, 3) := by decide +kernel
theorem dX8_has_7 : decode cX8_has 7 = .ok (.aload_n 0, 1) := by decide +kernel
theorem dX8_has_8 : decode cX8_has 8 = .ok (.invokevirtual 131, 3) := by decide +kernel
theorem dX8_has_11 : decode cX8_has 11 = .ok (.iload_n 1, 1) := by decide +kernel
theorem dX8_has_12 : decode cX8_has 12 = .ok (.if_icmp .ne 7, 3) := by decide +kernel
theorem dX8_has_15 : decode cX8_has 15 = .ok (.iconst 1, 1) := by decide +kernel
theorem dX8_has_16 : decode cX8_has 16 = .ok (.goto 4, 3) := by decide +kernel
theorem dX8_has_19 : decode cX8_has 19 = .ok (.iconst 0, 1) := by decide +kernel
theorem dX8_has_20 : decode cX8_has 20 = .ok (.istore_n 2, 1) := by decide +kernel
theorem dX8_has_21 : decode cX8_has 21 = .ok (.aload_n 0, 1) := by decide +kernel
theorem dX8_has_22 : decode cX8_has 22 = .ok (.dup, 1) := by decide +kernel
theorem dX8_has_23 : decode cX8_has 23 = .ok (.getfield 124, 3) := by decide +kernel
theorem dX8_has_26 : decode cX8_has 26 = .ok (.iload_n 2, 1) := by decide +kernel
theorem dX8_has_27 : decode cX8_has 27 = .ok (.ifCond .eq 7, 3) := by decide +kernel
theorem dX8_has_30 : decode cX8_has 30 = .ok (.iconst 1, 1) := by decide +kernel
theorem dX8_has_31 : decode cX8_has 31 = .ok (.goto 4, 3) := by decide +kernel
theorem dX8_has_34 : decode cX8_has 34 = .ok (.iconst 0, 1) := by decide +kernel
theorem dX8_has_35 : decode cX8_has 35 = .ok (.iadd, 1) := by decide +kernel
theorem dX8_has_36 : decode cX8_has 36 = .ok (.putfield 124, 3) := by decide +kernel
theorem dX8_has_39 : decode cX8_has 39 = .ok (.iload_n 2, 1) := by decide +kernel
theorem dX8_has_40 : decode cX8_has 40 = .ok (.ireturn, 1) := by decide +kernel
theorem dX8_number_0 : decode cX8_number 0 = .ok (.aload_n 0, 1) := by decide +kernel
theorem dX8_number_1 : decode cX8_number 1 = .ok (.getfield 127, 3) := by decide +kernel
theorem dX8_number_4 : decode cX8_number 4 = .ok (.ifCond .ne 20, 3) := by decide +kernel
theorem dX8_number_7 : decode cX8_number 7 = .ok (.aload_n 0, 1) := by decide +kernel
theorem dX8_number_8 : decode cX8_number 8 = .ok (.invokevirtual 131, 3) := by decide +kernel
theorem dX8_number_11 : decode cX8_number 11 = .ok (.i2l, 1) := by decide +kernel
theorem dX8_number_12 : decode cX8_number 12 = .ok (.ldc2_w 135, 3) := by decide +kernel
theorem dX8_number_15 : decode cX8_number 15 = .ok (.ldc2_w 137, 3) := by decide +kernel
theorem dX8_number_18 : decode cX8_number 18 = .ok (.invokestatic 72, 3) := by decide +kernel
theorem dX8_number_21 : decode cX8_number 21 = .ok (.ifCond .ne 10, 3) := by decide +kernel
theorem dX8_number_24 : decode cX8_number 24 = .ok (.aload_n 0, 1) := by decide +kernel
theorem dX8_number_25 : decode cX8_number 25 = .ok (.iconst 1, 1) := by decide +kernel
theorem dX8_number_26 : decode cX8_number 26 = .ok (.putfield 127, 3) := by decide +kernel
theorem dX8_number_29 : decode cX8_number 29 = .ok (.iconst 0, 1) := by decide +kernel
theorem dX8_number_30 : decode cX8_number 30 = .ok (.ireturn, 1) := by decide +kernel
theorem dX8_number_31 : decode cX8_number 31 = .ok (.aload_n 0, 1) := by decide +kernel
theorem dX8_number_32 : decode cX8_number 32 = .ok (.getfield 124, 3) := by decide +kernel
theorem dX8_number_35 : decode cX8_number 35 = .ok (.istore_n 2, 1) := by decide +kernel
theorem dX8_number_36 : decode cX8_number 36 = .ok (.iconst 0, 1) := by decide +kernel
theorem dX8_number_37 : decode cX8_number 37 = .ok (.istore_n 3, 1) := by decide +kernel
theorem dX8_number_38 : decode cX8_number 38 = .ok (.aload_n 0, 1) := by decide +kernel
theorem dX8_number_39 : decode cX8_number 39 = .ok (.getfield 124, 3) := by decide +kernel
theorem dX8_number_42 : decode cX8_number 42 = .ok (.aload_n 0, 1) := by decide +kernel
theorem dX8_number_43 : decode cX8_number 43 = .ok (.getfield 121, 3) := by decide +kernel
theorem dX8_number_46 : decode cX8_number 46 = .ok (.if_icmp .ge 67, 3) := by decide +kernel
theorem dX8_number_49 : decode cX8_number 49 = .ok (.aload_n 0, 1) := by decide +kernel
theorem dX8_number_50 : decode cX8_number 50 = .ok (.getfield 19, 3) := by decide +kernel
theorem dX8_number_53 : decode cX8_number 53 = .ok (.aload_n 0, 1) := by decide +kernel
theorem dX8_number_54 : decode cX8_number 54 = .ok (.getfield 124, 3) := by decide +kernel
theorem dX8_number_57 : decode cX8_number 57 = .ok (.iaload, 1) := by decide +kernel
theorem dX8_number_58 : decode cX8_number 58 = .ok (.i2l, 1) := by decide +kernel
theorem dX8_number_59 : decode cX8_number 59 = .ok (.ldc2_w 135, 3) := by decide +kernel
theorem dX8_number_62 : decode cX8_number 62 = .ok (.ldc2_w 137, 3) := by decide +kernel
theorem dX8_number_65 : decode cX8_number 65 = .ok (.invokestatic 72, 3) := by decide +kernel
theorem dX8_number_68 : decode cX8_number 68 = .ok (.ifCond .eq 45, 3) := by decide +kernel
theorem dX8_number_71 : decode cX8_number 71 = .ok (.iload_n 3, 1) := by decide +kernel
theorem dX8_number_72 : decode cX8_number 72 = .ok (.sipush 9999, 3) := by decide +kernel
theorem dX8_number_75 : decode cX8_number 75 = .ok (.if_icmp .le 7, 3) := by decide +kernel
theorem dX8_number_78 : decode cX8_number 78 = .ok (.iload_n 3, 1) := by decide +kernel
theorem dX8_number_79 : decode cX8_number 79 = .ok (.goto 20, 3) := by decide +kernel
theorem dX8_number_82 : decode cX8_number 82 = .ok (.bipush 10, 2) := by decide +kernel
theorem dX8_number_84 : decode cX8_number 84 = .ok (.iload_n 3, 1) := by decide +kernel
theorem dX8_number_85 : decode cX8_number 85 = .ok (.imul, 1) := by decide +kernel
theorem dX8_number_86 : decode cX8_number 86 = .ok (.aload_n 0, 1) := by decide +kernel
theorem dX8_number_87 : decode cX8_number 87 = .ok (.getfield 19, 3) := by decide +kernel
theorem dX8_number_90 : decode cX8_number 90 = .ok (.aload_n 0, 1) := by decide +kernel
theorem dX8_number_91 : decode cX8_number 91 = .ok (.getfield 124, 3) := by decide +kernel
theorem dX8_number_94 : decode cX8_number 94 = .ok (.iaload, 1) := by decide +kernel
theorem dX8_number_95 : decode cX8_number 95 = .ok (.iadd, 1) := by decide +kernel
theorem dX8_number_96 : decode cX8_number 96 = .ok (.bipush 48, 2) := by decide +kernel
theorem dX8_number_98 : decode cX8_number 98 = .ok (.isub, 1) := by decide +kernel
theorem dX8_number_99 : decode cX8_number 99 = .ok (.istore_n 3, 1) := by decide +kernel
theorem dX8_number_100 : decode cX8_number 100 = .ok (.aload_n 0, 1) := by decide +kernel
theorem dX8_number_101 : decode cX8_number 101 = .ok (.dup, 1) := by decide +kernel
theorem dX8_number_102 : decode cX8_number 102 = .ok (.getfield 124, 3) := by decide +kernel
theorem dX8_number_105 : decode cX8_number 105 = .ok (.iconst 1, 1) := by decide +kernel
theorem dX8_number_106 : decode cX8_number 106 = .ok (.iadd, 1) := by decide +kernel
theorem dX8_number_107 : decode cX8_number 107 = .ok (.putfield 124, 3) := by decide +kernel
theorem dX8_number_110 : decode cX8_number 110 = .ok (.goto (-72), 3) := by decide +kernel
theorem dX8_number_113 : decode cX8_number 113 = .ok (.aload_n 0, 1) := by decide +kernel
theorem dX8_number_114 : decode cX8_number 114 = .ok (.iload_n 3, 1) := by decide +kernel
theorem dX8_number_115 : decode cX8_number 115 = .ok (.iload_n 1, 1) := by decide +kernel
theorem dX8_number_116 : decode cX8_number 116 = .ok (.if_icmp .le 7, 3) := by decide +kernel
theorem dX8_number_119 : decode cX8_number 119 = .ok (.iconst 1, 1) := by decide +kernel
theorem dX8_number_120 : decode cX8_number 120 = .ok (.goto 4, 3) := by decide +kernel
theorem dX8_number_123 : decode cX8_number 123 = .ok (.iconst 0, 1) := by decide +kernel
theorem dX8_number_124 : decode cX8_number 124 = .ok (.putfield 127, 3) := by decide +kernel
theorem dX8_number_127 : decode cX8_number 127 = .ok (.aload_n 0, 1) := by decide +kernel
theorem dX8_number_128 : decode cX8_number 128 = .ok (.aload_n 0, 1) := by decide +kernel
theorem dX8_number_129 : decode cX8_number 129 = .ok (.getfield 127, 3) := by decide +kernel
theorem dX8_number_132 : decode cX8_number 132 = .ok (.ifCond .eq 7, 3) := by decide +kernel
theorem dX8_number_135 : decode cX8_number 135 = .ok (.iload_n 2, 1) := by decide +kernel
theorem dX8_number_136 : decode cX8_number 136 = .ok (.goto 7, 3) := by decide +kernel
theorem dX8_number_139 : decode cX8_number 139 = .ok (.aload_n 0, 1) := by decide +kernel
theorem dX8_number_140 : decode cX8_number 140 = .ok (.getfield 124, 3) := by decide +kernel
theorem dX8_number_143 : decode cX8_number 143 = .ok (.putfield 124, 3) := by decide +kernel
theorem dX8_number_146 : decode cX8_number 146 = .ok (.iload_n 3, 1) := by decide +kernel
theorem dX8_number_147 : decode cX8_number 147 = .ok (.ireturn, 1) := by decide +kernel
theorem dX8_readThing_0 : decode cX8_readThing 0 = .ok (.iconst 4, 1) := by decide +kernel
theorem dX8_readThing_1 : decode cX8_readThing 1 = .ok (.aload_n 0, 1) := by decide +kernel
theorem dX8_readThing_2 : decode cX8_readThing 2 = .ok (.getfield 139, 3) := by decide +kernel
theorem dX8_readThing_5 : decode cX8_readThing 5 = .ok (.imul, 1) := by decide +kernel
theorem dX8_readThing_6 : decode cX8_readThing 6 = .ok (.istore_n 1, 1) := by decide +kernel
theorem dX8_readThing_7 : decode cX8_readThing 7 = .ok (.aload_n 0, 1) := by decide +kernel
theorem dX8_readThing_8 : decode cX8_readThing 8 = .ok (.getfield 127, 3) := by decide +kernel
theorem dX8_readThing_11 : decode cX8_readThing 11 = .ok (.ifCond .eq 7, 3) := by decide +kernel
theorem dX8_readThing_14 : decode cX8_readThing 14 = .ok (.iconst 0, 1) := by decide +kernel
theorem dX8_readThing_15 : decode cX8_readThing 15 = .ok (.goto 7, 3) := by decide +kernel
theorem dX8_readThing_18 : decode cX8_readThing 18 = .ok (.aload_n 0, 1) := by decide +kernel
theorem dX8_readThing_19 : decode cX8_readThing 19 = .ok (.invokevirtual 131, 3) := by decide +kernel
theorem dX8_readThing_22 : decode cX8_readThing 22 = .ok (.istore_n 2, 1) := by decide +kernel
theorem dX8_readThing_23 : decode cX8_readThing 23 = .ok (.aload_n 0, 1) := by decide +kernel
theorem dX8_readThing_24 : decode cX8_readThing 24 = .ok (.getfield 22, 3) := by decide +kernel
theorem dX8_readThing_27 : decode cX8_readThing 27 = .ok (.iload_n 1, 1) := by decide +kernel
theorem dX8_readThing_28 : decode cX8_readThing 28 = .ok (.iload_n 2, 1) := by decide +kernel
theorem dX8_readThing_29 : decode cX8_readThing 29 = .ok (.bipush 112, 2) := by decide +kernel
theorem dX8_readThing_31 : decode cX8_readThing 31 = .ok (.if_icmp .ne 7, 3) := by decide +kernel
theorem dX8_readThing_34 : decode cX8_readThing 34 = .ok (.iconst 0, 1) := by decide +kernel
theorem dX8_readThing_35 : decode cX8_readThing 35 = .ok (.goto 24, 3) := by decide +kernel
theorem dX8_readThing_38 : decode cX8_readThing 38 = .ok (.iload_n 2, 1) := by decide +kernel
theorem dX8_readThing_39 : decode cX8_readThing 39 = .ok (.bipush 98, 2) := by decide +kernel
theorem dX8_readThing_41 : decode cX8_readThing 41 = .ok (.if_icmp .ne 7, 3) := by decide +kernel
theorem dX8_readThing_44 : decode cX8_readThing 44 = .ok (.iconst 1, 1) := by decide +kernel
theorem dX8_readThing_45 : decode cX8_readThing 45 = .ok (.goto 14, 3) := by decide +kernel
theorem dX8_readThing_48 : decode cX8_readThing 48 = .ok (.iload_n 2, 1) := by decide +kernel
theorem dX8_readThing_49 : decode cX8_readThing 49 = .ok (.bipush 117, 2) := by decide +kernel
theorem dX8_readThing_51 : decode cX8_readThing 51 = .ok (.if_icmp .ne 7, 3) := by decide +kernel
theorem dX8_readThing_54 : decode cX8_readThing 54 = .ok (.iconst 2, 1) := by decide +kernel
theorem dX8_readThing_55 : decode cX8_readThing 55 = .ok (.goto 4, 3) := by decide +kernel
theorem dX8_readThing_58 : decode cX8_readThing 58 = .ok (.iconst 3, 1) := by decide +kernel
theorem dX8_readThing_59 : decode cX8_readThing 59 = .ok (.iastore, 1) := by decide +kernel
theorem dX8_readThing_60 : decode cX8_readThing 60 = .ok (.aload_n 0, 1) := by decide +kernel
theorem dX8_readThing_61 : decode cX8_readThing 61 = .ok (.aload_n 0, 1) := by decide +kernel
theorem dX8_readThing_62 : decode cX8_readThing 62 = .ok (.getfield 127, 3) := by decide +kernel
theorem dX8_readThing_65 : decode cX8_readThing 65 = .ok (.ifCond .ne 27, 3) := by decide +kernel
theorem dX8_readThing_68 : decode cX8_readThing 68 = .ok (.iload_n 2, 1) := by decide +kernel
theorem dX8_readThing_69 : decode cX8_readThing 69 = .ok (.bipush 112, 2) := by decide +kernel
theorem dX8_readThing_71 : decode cX8_readThing 71 = .ok (.if_icmp .eq 25, 3) := by decide +kernel
theorem dX8_readThing_74 : decode cX8_readThing 74 = .ok (.iload_n 2, 1) := by decide +kernel
theorem dX8_readThing_75 : decode cX8_readThing 75 = .ok (.bipush 98, 2) := by decide +kernel
theorem dX8_readThing_77 : decode cX8_readThing 77 = .ok (.if_icmp .eq 19, 3) := by decide +kernel
theorem dX8_readThing_80 : decode cX8_readThing 80 = .ok (.iload_n 2, 1) := by decide +kernel
theorem dX8_readThing_81 : decode cX8_readThing 81 = .ok (.bipush 117, 2) := by decide +kernel
theorem dX8_readThing_83 : decode cX8_readThing 83 = .ok (.if_icmp .eq 13, 3) := by decide +kernel
theorem dX8_readThing_86 : decode cX8_readThing 86 = .ok (.iload_n 2, 1) := by decide +kernel
theorem dX8_readThing_87 : decode cX8_readThing 87 = .ok (.bipush 109, 2) := by decide +kernel
theorem dX8_readThing_89 : decode cX8_readThing 89 = .ok (.if_icmp .eq 7, 3) := by decide +kernel
theorem dX8_readThing_92 : decode cX8_readThing 92 = .ok (.iconst 1, 1) := by decide +kernel
theorem dX8_readThing_93 : decode cX8_readThing 93 = .ok (.goto 4, 3) := by decide +kernel
theorem dX8_readThing_96 : decode cX8_readThing 96 = .ok (.iconst 0, 1) := by decide +kernel
theorem dX8_readThing_97 : decode cX8_readThing 97 = .ok (.putfield 127, 3) := by decide +kernel
theorem dX8_readThing_100 : decode cX8_readThing 100 = .ok (.aload_n 0, 1) := by decide +kernel
theorem dX8_readThing_101 : decode cX8_readThing 101 = .ok (.dup, 1) := by decide +kernel
theorem dX8_readThing_102 : decode cX8_readThing 102 = .ok (.getfield 124, 3) := by decide +kernel
theorem dX8_readThing_105 : decode cX8_readThing 105 = .ok (.aload_n 0, 1) := by decide +kernel
theorem dX8_readThing_106 : decode cX8_readThing 106 = .ok (.getfield 127, 3) := by decide +kernel
theorem dX8_readThing_109 : decode cX8_readThing 109 = .ok (.ifCond .eq 7, 3) := by decide +kernel
theorem dX8_readThing_112 : decode cX8_readThing 112 = .ok (.iconst 0, 1) := by decide +kernel
theorem dX8_readThing_113 : decode cX8_readThing 113 = .ok (.goto 4, 3) := by decide +kernel
theorem dX8_readThing_116 : decode cX8_readThing 116 = .ok (.iconst 1, 1) := by decide +kernel
theorem dX8_readThing_117 : decode cX8_readThing 117 = .ok (.iadd, 1) := by decide +kernel
theorem dX8_readThing_118 : decode cX8_readThing 118 = .ok (.putfield 124, 3) := by decide +kernel
theorem dX8_readThing_121 : decode cX8_readThing 121 = .ok (.aload_n 0, 1) := by decide +kernel
theorem dX8_readThing_122 : decode cX8_readThing 122 = .ok (.getfield 22, 3) := by decide +kernel
theorem dX8_readThing_125 : decode cX8_readThing 125 = .ok (.iload_n 1, 1) := by decide +kernel
theorem dX8_readThing_126 : decode cX8_readThing 126 = .ok (.iconst 1, 1) := by decide +kernel
theorem dX8_readThing_127 : decode cX8_readThing 127 = .ok (.iadd, 1) := by decide +kernel
theorem dX8_readThing_128 : decode cX8_readThing 128 = .ok (.aload_n 0, 1) := by decide +kernel
theorem dX8_readThing_129 : decode cX8_readThing 129 = .ok (.bipush 99, 2) := by decide +kernel
theorem dX8_readThing_131 : decode cX8_readThing 131 = .ok (.invokevirtual 142, 3) := by decide +kernel
theorem dX8_readThing_134 : decode cX8_readThing 134 = .ok (.iastore, 1) := by decide +kernel
theorem dX8_readThing_135 : decode cX8_readThing 135 = .ok (.aload_n 0, 1) := by decide +kernel
theorem dX8_readThing_136 : decode cX8_readThing 136 = .ok (.getfield 22, 3) := by decide +kernel
theorem dX8_readThing_139 : decode cX8_readThing 139 = .ok (.iload_n 1, 1) := by decide +kernel
theorem dX8_readThing_140 : decode cX8_readThing 140 = .ok (.iconst 2, 1) := by decide +kernel
theorem dX8_readThing_141 : decode cX8_readThing 141 = .ok (.iadd, 1) := by decide +kernel
theorem dX8_readThing_142 : decode cX8_readThing 142 = .ok (.aload_n 0, 1) := by decide +kernel
theorem dX8_readThing_143 : decode cX8_readThing 143 = .ok (.bipush 108, 2) := by decide +kernel
theorem dX8_readThing_145 : decode cX8_readThing 145 = .ok (.invokevirtual 145, 3) := by decide +kernel
theorem dX8_readThing_148 : decode cX8_readThing 148 = .ok (.ifCond .eq 12, 3) := by decide +kernel
theorem dX8_readThing_151 : decode cX8_readThing 151 = .ok (.aload_n 0, 1) := by decide +kernel
theorem dX8_readThing_152 : decode cX8_readThing 152 = .ok (.bipush 30, 2) := by decide +kernel
theorem dX8_readThing_154 : decode cX8_readThing 154 = .ok (.invokevirtual 142, 3) := by decide +kernel
theorem dX8_readThing_157 : decode cX8_readThing 157 = .ok (.goto 4, 3) := by decide +kernel
theorem dX8_readThing_160 : decode cX8_readThing 160 = .ok (.iconst 0, 1) := by decide +kernel
theorem dX8_readThing_161 : decode cX8_readThing 161 = .ok (.iastore, 1) := by decide +kernel
theorem dX8_readThing_162 : decode cX8_readThing 162 = .ok (.aload_n 0, 1) := by decide +kernel
theorem dX8_readThing_163 : decode cX8_readThing 163 = .ok (.getfield 22, 3) := by decide +kernel
theorem dX8_readThing_166 : decode cX8_readThing 166 = .ok (.iload_n 1, 1) := by decide +kernel
theorem dX8_readThing_167 : decode cX8_readThing 167 = .ok (.iconst 3, 1) := by decide +kernel
theorem dX8_readThing_168 : decode cX8_readThing 168 = .ok (.iadd, 1) := by decide +kernel
theorem dX8_readThing_169 : decode cX8_readThing 169 = .ok (.aload_n 0, 1) := by decide +kernel
theorem dX8_readThing_170 : decode cX8_readThing 170 = .ok (.bipush 99, 2) := by decide +kernel
theorem dX8_readThing_172 : decode cX8_readThing 172 = .ok (.invokevirtual 145, 3) := by decide +kernel
theorem dX8_readThing_175 : decode cX8_readThing 175 = .ok (.ifCond .eq 12, 3) := by decide +kernel
theorem dX8_readThing_178 : decode cX8_readThing 178 = .ok (.aload_n 0, 1) := by decide +kernel
theorem dX8_readThing_179 : decode cX8_readThing 179 = .ok (.bipush 30, 2) := by decide +kernel
theorem dX8_readThing_181 : decode cX8_readThing 181 = .ok (.invokevirtual 142, 3) := by decide +kernel
theorem dX8_readThing_184 : decode cX8_readThing 184 = .ok (.goto 4, 3) := by decide +kernel
theorem dX8_readThing_187 : decode cX8_readThing 187 = .ok (.iconst 0, 1) := by decide +kernel
theorem dX8_readThing_188 : decode cX8_readThing 188 = .ok (.iastore, 1) := by decide +kernel
theorem dX8_readThing_189 : decode cX8_readThing 189 = .ok (.aload_n 0, 1) := by decide +kernel
theorem dX8_readThing_190 : decode cX8_readThing 190 = .ok (.dup, 1) := by decide +kernel
theorem dX8_readThing_191 : decode cX8_readThing 191 = .ok (.getfield 139, 3) := by decide +kernel
theorem dX8_readThing_194 : decode cX8_readThing 194 = .ok (.iconst 1, 1) := by decide +kernel
theorem dX8_readThing_195 : decode cX8_readThing 195 = .ok (.iadd, 1) := by decide +kernel
theorem dX8_readThing_196 : decode cX8_readThing 196 = .ok (.putfield 139, 3) := by decide +kernel
theorem dX8_readThing_199 : decode cX8_readThing 199 = .ok (.return_, 1) := by decide +kernel
theorem dX8_readHad_0 : decode cX8_readHad 0 = .ok (.aload_n 0, 1) := by decide +kernel
theorem dX8_readHad_1 : decode cX8_readHad 1 = .ok (.getfield 127, 3) := by decide +kernel
theorem dX8_readHad_4 : decode cX8_readHad 4 = .ok (.ifCond .eq 7, 3) := by decide +kernel
theorem dX8_readHad_7 : decode cX8_readHad 7 = .ok (.iconst (-1), 1) := by decide +kernel
theorem dX8_readHad_8 : decode cX8_readHad 8 = .ok (.goto 10, 3) := by decide +kernel
theorem dX8_readHad_11 : decode cX8_readHad 11 = .ok (.aload_n 0, 1) := by decide +kernel
theorem dX8_readHad_12 : decode cX8_readHad 12 = .ok (.invokevirtual 131, 3) := by decide +kernel
theorem dX8_readHad_15 : decode cX8_readHad 15 = .ok (.bipush 48, 2) := by decide +kernel
theorem dX8_readHad_17 : decode cX8_readHad 17 = .ok (.isub, 1) := by decide +kernel
theorem dX8_readHad_18 : decode cX8_readHad 18 = .ok (.istore_n 1, 1) := by decide +kernel
theorem dX8_readHad_19 : decode cX8_readHad 19 = .ok (.aload_n 0, 1) := by decide +kernel
theorem dX8_readHad_20 : decode cX8_readHad 20 = .ok (.aload_n 0, 1) := by decide +kernel
theorem dX8_readHad_21 : decode cX8_readHad 21 = .ok (.getfield 127, 3) := by decide +kernel
theorem dX8_readHad_24 : decode cX8_readHad 24 = .ok (.ifCond .ne 19, 3) := by decide +kernel
theorem dX8_readHad_27 : decode cX8_readHad 27 = .ok (.iload_n 1, 1) := by decide +kernel
theorem dX8_readHad_28 : decode cX8_readHad 28 = .ok (.i2l, 1) := by decide +kernel
theorem dX8_readHad_29 : decode cX8_readHad 29 = .ok (.lconst 0, 1) := by decide +kernel
theorem dX8_readHad_30 : decode cX8_readHad 30 = .ok (.aload_n 0, 1) := by decide +kernel
theorem dX8_readHad_31 : decode cX8_readHad 31 = .ok (.getfield 139, 3) := by decide +kernel
theorem dX8_readHad_34 : decode cX8_readHad 34 = .ok (.iconst 1, 1) := by decide +kernel
theorem dX8_readHad_35 : decode cX8_readHad 35 = .ok (.isub, 1) := by decide +kernel
theorem dX8_readHad_36 : decode cX8_readHad 36 = .ok (.i2l, 1) := by decide +kernel
theorem dX8_readHad_37 : decode cX8_readHad 37 = .ok (.invokestatic 72, 3) := by decide +kernel
theorem dX8_readHad_40 : decode cX8_readHad 40 = .ok (.ifCond .ne 7, 3) := by decide +kernel
theorem dX8_readHad_43 : decode cX8_readHad 43 = .ok (.iconst 1, 1) := by decide +kernel
theorem dX8_readHad_44 : decode cX8_readHad 44 = .ok (.goto 4, 3) := by decide +kernel
theorem dX8_readHad_47 : decode cX8_readHad 47 = .ok (.iconst 0, 1) := by decide +kernel
theorem dX8_readHad_48 : decode cX8_readHad 48 = .ok (.putfield 127, 3) := by decide +kernel
theorem dX8_readHad_51 : decode cX8_readHad 51 = .ok (.iconst 0, 1) := by decide +kernel
theorem dX8_readHad_52 : decode cX8_readHad 52 = .ok (.istore_n 2, 1) := by decide +kernel
theorem dX8_readHad_53 : decode cX8_readHad 53 = .ok (.iload_n 2, 1) := by decide +kernel
theorem dX8_readHad_54 : decode cX8_readHad 54 = .ok (.aload_n 0, 1) := by decide +kernel
theorem dX8_readHad_55 : decode cX8_readHad 55 = .ok (.getfield 148, 3) := by decide +kernel
theorem dX8_readHad_58 : decode cX8_readHad 58 = .ok (.if_icmp .ge 39, 3) := by decide +kernel
theorem dX8_readHad_61 : decode cX8_readHad 61 = .ok (.aload_n 0, 1) := by decide +kernel
theorem dX8_readHad_62 : decode cX8_readHad 62 = .ok (.getfield 127, 3) := by decide +kernel
theorem dX8_readHad_65 : decode cX8_readHad 65 = .ok (.ifCond .ne 32, 3) := by decide +kernel
theorem dX8_readHad_68 : decode cX8_readHad 68 = .ok (.aload_n 0, 1) := by decide +kernel
theorem dX8_readHad_69 : decode cX8_readHad 69 = .ok (.aload_n 0, 1) := by decide +kernel
theorem dX8_readHad_70 : decode cX8_readHad 70 = .ok (.getfield 25, 3) := by decide +kernel
theorem dX8_readHad_73 : decode cX8_readHad 73 = .ok (.iconst 3, 1) := by decide +kernel
theorem dX8_readHad_74 : decode cX8_readHad 74 = .ok (.iload_n 2, 1) := by decide +kernel
theorem dX8_readHad_75 : decode cX8_readHad 75 = .ok (.imul, 1) := by decide +kernel
theorem dX8_readHad_76 : decode cX8_readHad 76 = .ok (.iconst 1, 1) := by decide +kernel
theorem dX8_readHad_77 : decode cX8_readHad 77 = .ok (.iadd, 1) := by decide +kernel
theorem dX8_readHad_78 : decode cX8_readHad 78 = .ok (.iaload, 1) := by decide +kernel
theorem dX8_readHad_79 : decode cX8_readHad 79 = .ok (.iload_n 1, 1) := by decide +kernel
theorem dX8_readHad_80 : decode cX8_readHad 80 = .ok (.if_icmp .ne 7, 3) := by decide +kernel
theorem dX8_readHad_83 : decode cX8_readHad 83 = .ok (.iconst 1, 1) := by decide +kernel
theorem dX8_readHad_84 : decode cX8_readHad 84 = .ok (.goto 4, 3) := by decide +kernel
theorem dX8_readHad_87 : decode cX8_readHad 87 = .ok (.iconst 0, 1) := by decide +kernel
theorem dX8_readHad_88 : decode cX8_readHad 88 = .ok (.putfield 127, 3) := by decide +kernel
theorem dX8_readHad_91 : decode cX8_readHad 91 = .ok (.iinc 2 1, 3) := by decide +kernel
theorem dX8_readHad_94 : decode cX8_readHad 94 = .ok (.goto (-41), 3) := by decide +kernel
theorem dX8_readHad_97 : decode cX8_readHad 97 = .ok (.aload_n 0, 1) := by decide +kernel
theorem dX8_readHad_98 : decode cX8_readHad 98 = .ok (.dup, 1) := by decide +kernel
theorem dX8_readHad_99 : decode cX8_readHad 99 = .ok (.getfield 124, 3) := by decide +kernel
theorem dX8_readHad_102 : decode cX8_readHad 102 = .ok (.aload_n 0, 1) := by decide +kernel
theorem dX8_readHad_103 : decode cX8_readHad 103 = .ok (.getfield 127, 3) := by decide +kernel
theorem dX8_readHad_106 : decode cX8_readHad 106 = .ok (.ifCond .eq 7, 3) := by decide +kernel
theorem dX8_readHad_109 : decode cX8_readHad 109 = .ok (.iconst 0, 1) := by decide +kernel
theorem dX8_readHad_110 : decode cX8_readHad 110 = .ok (.goto 4, 3) := by decide +kernel
theorem dX8_readHad_113 : decode cX8_readHad 113 = .ok (.iconst 1, 1) := by decide +kernel
theorem dX8_readHad_114 : decode cX8_readHad 114 = .ok (.iadd, 1) := by decide +kernel
theorem dX8_readHad_115 : decode cX8_readHad 115 = .ok (.putfield 124, 3) := by decide +kernel
theorem dX8_readHad_118 : decode cX8_readHad 118 = .ok (.iload_n 1, 1) := by decide +kernel
theorem dX8_readHad_119 : decode cX8_readHad 119 = .ok (.ireturn, 1) := by decide +kernel
theorem dX8_readPerson_0 : decode cX8_readPerson 0 = .ok (.iconst 3, 1) := by decide +kernel
theorem dX8_readPerson_1 : decode cX8_readPerson 1 = .ok (.aload_n 0, 1) := by decide +kernel
theorem dX8_readPerson_2 : decode cX8_readPerson 2 = .ok (.getfield 148, 3) := by decide +kernel
theorem dX8_readPerson_5 : decode cX8_readPerson 5 = .ok (.imul, 1) := by decide +kernel
theorem dX8_readPerson_6 : decode cX8_readPerson 6 = .ok (.istore_n 1, 1) := by decide +kernel
theorem dX8_readPerson_7 : decode cX8_readPerson 7 = .ok (.aload_n 0, 1) := by decide +kernel
theorem dX8_readPerson_8 : decode cX8_readPerson 8 = .ok (.getfield 25, 3) := by decide +kernel
theorem dX8_readPerson_11 : decode cX8_readPerson 11 = .ok (.iload_n 1, 1) := by decide +kernel
theorem dX8_readPerson_12 : decode cX8_readPerson 12 = .ok (.aload_n 0, 1) := by decide +kernel
theorem dX8_readPerson_13 : decode cX8_readPerson 13 = .ok (.bipush 11, 2) := by decide +kernel
theorem dX8_readPerson_15 : decode cX8_readPerson 15 = .ok (.invokevirtual 142, 3) := by decide +kernel
theorem dX8_readPerson_18 : decode cX8_readPerson 18 = .ok (.iastore, 1) := by decide +kernel
theorem dX8_readPerson_19 : decode cX8_readPerson 19 = .ok (.aload_n 0, 1) := by decide +kernel
theorem dX8_readPerson_20 : decode cX8_readPerson 20 = .ok (.getfield 25, 3) := by decide +kernel
theorem dX8_readPerson_23 : decode cX8_readPerson 23 = .ok (.iload_n 1, 1) := by decide +kernel
theorem dX8_readPerson_24 : decode cX8_readPerson 24 = .ok (.iconst 1, 1) := by decide +kernel
theorem dX8_readPerson_25 : decode cX8_readPerson 25 = .ok (.iadd, 1) := by decide +kernel
theorem dX8_readPerson_26 : decode cX8_readPerson 26 = .ok (.aload_n 0, 1) := by decide +kernel
theorem dX8_readPerson_27 : decode cX8_readPerson 27 = .ok (.bipush 61, 2) := by decide +kernel
theorem dX8_readPerson_29 : decode cX8_readPerson 29 = .ok (.invokevirtual 145, 3) := by decide +kernel
theorem dX8_readPerson_32 : decode cX8_readPerson 32 = .ok (.ifCond .eq 10, 3) := by decide +kernel
theorem dX8_readPerson_35 : decode cX8_readPerson 35 = .ok (.aload_n 0, 1) := by decide +kernel
theorem dX8_readPerson_36 : decode cX8_readPerson 36 = .ok (.invokevirtual 151, 3) := by decide +kernel
theorem dX8_readPerson_39 : decode cX8_readPerson 39 = .ok (.goto 5, 3) := by decide +kernel
theorem dX8_readPerson_42 : decode cX8_readPerson 42 = .ok (.bipush (-4), 2) := by decide +kernel
theorem dX8_readPerson_44 : decode cX8_readPerson 44 = .ok (.iastore, 1) := by decide +kernel
theorem dX8_readPerson_45 : decode cX8_readPerson 45 = .ok (.aload_n 0, 1) := by decide +kernel
theorem dX8_readPerson_46 : decode cX8_readPerson 46 = .ok (.getfield 25, 3) := by decide +kernel
theorem dX8_readPerson_49 : decode cX8_readPerson 49 = .ok (.iload_n 1, 1) := by decide +kernel
theorem dX8_readPerson_50 : decode cX8_readPerson 50 = .ok (.iconst 2, 1) := by decide +kernel
theorem dX8_readPerson_51 : decode cX8_readPerson 51 = .ok (.iadd, 1) := by decide +kernel
theorem dX8_readPerson_52 : decode cX8_readPerson 52 = .ok (.aload_n 0, 1) := by decide +kernel
theorem dX8_readPerson_53 : decode cX8_readPerson 53 = .ok (.bipush 43, 2) := by decide +kernel
theorem dX8_readPerson_55 : decode cX8_readPerson 55 = .ok (.invokevirtual 145, 3) := by decide +kernel
theorem dX8_readPerson_58 : decode cX8_readPerson 58 = .ok (.ifCond .eq 12, 3) := by decide +kernel
theorem dX8_readPerson_61 : decode cX8_readPerson 61 = .ok (.aload_n 0, 1) := by decide +kernel
theorem dX8_readPerson_62 : decode cX8_readPerson 62 = .ok (.bipush 20, 2) := by decide +kernel
theorem dX8_readPerson_64 : decode cX8_readPerson 64 = .ok (.invokevirtual 142, 3) := by decide +kernel
theorem dX8_readPerson_67 : decode cX8_readPerson 67 = .ok (.goto 4, 3) := by decide +kernel
theorem dX8_readPerson_70 : decode cX8_readPerson 70 = .ok (.iconst 0, 1) := by decide +kernel
theorem dX8_readPerson_71 : decode cX8_readPerson 71 = .ok (.iastore, 1) := by decide +kernel
theorem dX8_readPerson_72 : decode cX8_readPerson 72 = .ok (.aload_n 0, 1) := by decide +kernel
theorem dX8_readPerson_73 : decode cX8_readPerson 73 = .ok (.dup, 1) := by decide +kernel
theorem dX8_readPerson_74 : decode cX8_readPerson 74 = .ok (.getfield 148, 3) := by decide +kernel
theorem dX8_readPerson_77 : decode cX8_readPerson 77 = .ok (.iconst 1, 1) := by decide +kernel
theorem dX8_readPerson_78 : decode cX8_readPerson 78 = .ok (.iadd, 1) := by decide +kernel
theorem dX8_readPerson_79 : decode cX8_readPerson 79 = .ok (.putfield 148, 3) := by decide +kernel
theorem dX8_readPerson_82 : decode cX8_readPerson 82 = .ok (.return_, 1) := by decide +kernel
theorem dX8_road_0 : decode cX8_road 0 = .ok (.aload_n 0, 1) := by decide +kernel
theorem dX8_road_1 : decode cX8_road 1 = .ok (.iconst 0, 1) := by decide +kernel
theorem dX8_road_2 : decode cX8_road 2 = .ok (.putfield 124, 3) := by decide +kernel
theorem dX8_road_5 : decode cX8_road 5 = .ok (.aload_n 0, 1) := by decide +kernel
theorem dX8_road_6 : decode cX8_road 6 = .ok (.iconst 0, 1) := by decide +kernel
theorem dX8_road_7 : decode cX8_road 7 = .ok (.putfield 127, 3) := by decide +kernel
theorem dX8_road_10 : decode cX8_road 10 = .ok (.aload_n 0, 1) := by decide +kernel
theorem dX8_road_11 : decode cX8_road 11 = .ok (.iconst 0, 1) := by decide +kernel
theorem dX8_road_12 : decode cX8_road 12 = .ok (.putfield 139, 3) := by decide +kernel
theorem dX8_road_15 : decode cX8_road 15 = .ok (.aload_n 0, 1) := by decide +kernel
theorem dX8_road_16 : decode cX8_road 16 = .ok (.iconst 0, 1) := by decide +kernel
theorem dX8_road_17 : decode cX8_road 17 = .ok (.putfield 148, 3) := by decide +kernel
theorem dX8_road_20 : decode cX8_road 20 = .ok (.aload_n 0, 1) := by decide +kernel
theorem dX8_road_21 : decode cX8_road 21 = .ok (.bipush (-4), 2) := by decide +kernel
theorem dX8_road_23 : decode cX8_road 23 = .ok (.putfield 154, 3) := by decide +kernel
theorem dX8_road_26 : decode cX8_road 26 = .ok (.iconst 1, 1) := by decide +kernel
theorem dX8_road_27 : decode cX8_road 27 = .ok (.istore_n 1, 1) := by decide +kernel
theorem dX8_road_28 : decode cX8_road 28 = .ok (.iload_n 1, 1) := by decide +kernel
theorem dX8_road_29 : decode cX8_road 29 = .ok (.ifCond .eq 34, 3) := by decide +kernel
theorem dX8_road_32 : decode cX8_road 32 = .ok (.aload_n 0, 1) := by decide +kernel
theorem dX8_road_33 : decode cX8_road 33 = .ok (.invokevirtual 157, 3) := by decide +kernel
theorem dX8_road_36 : decode cX8_road 36 = .ok (.aload_n 0, 1) := by decide +kernel
theorem dX8_road_37 : decode cX8_road 37 = .ok (.getfield 139, 3) := by decide +kernel
theorem dX8_road_40 : decode cX8_road 40 = .ok (.bipush 10, 2) := by decide +kernel
theorem dX8_road_42 : decode cX8_road 42 = .ok (.if_icmp .ge 16, 3) := by decide +kernel
theorem dX8_road_45 : decode cX8_road 45 = .ok (.aload_n 0, 1) := by decide +kernel
theorem dX8_road_46 : decode cX8_road 46 = .ok (.bipush 44, 2) := by decide +kernel
theorem dX8_road_48 : decode cX8_road 48 = .ok (.invokevirtual 145, 3) := by decide +kernel
theorem dX8_road_51 : decode cX8_road 51 = .ok (.ifCond .eq 7, 3) := by decide +kernel
theorem dX8_road_54 : decode cX8_road 54 = .ok (.iconst 1, 1) := by decide +kernel
theorem dX8_road_55 : decode cX8_road 55 = .ok (.goto 4, 3) := by decide +kernel
theorem dX8_road_58 : decode cX8_road 58 = .ok (.iconst 0, 1) := by decide +kernel
theorem dX8_road_59 : decode cX8_road 59 = .ok (.istore_n 1, 1) := by decide +kernel
theorem dX8_road_60 : decode cX8_road 60 = .ok (.goto (-32), 3) := by decide +kernel
theorem dX8_road_63 : decode cX8_road 63 = .ok (.aload_n 0, 1) := by decide +kernel
theorem dX8_road_64 : decode cX8_road 64 = .ok (.bipush 59, 2) := by decide +kernel
theorem dX8_road_66 : decode cX8_road 66 = .ok (.invokevirtual 145, 3) := by decide +kernel
theorem dX8_road_69 : decode cX8_road 69 = .ok (.ifCond .eq 112, 3) := by decide +kernel
theorem dX8_road_72 : decode cX8_road 72 = .ok (.aload_n 0, 1) := by decide +kernel
theorem dX8_road_73 : decode cX8_road 73 = .ok (.bipush 61, 2) := by decide +kernel
theorem dX8_road_75 : decode cX8_road 75 = .ok (.invokevirtual 145, 3) := by decide +kernel
theorem dX8_road_78 : decode cX8_road 78 = .ok (.istore_n 2, 1) := by decide +kernel
theorem dX8_road_79 : decode cX8_road 79 = .ok (.iload_n 2, 1) := by decide +kernel
theorem dX8_road_80 : decode cX8_road 80 = .ok (.ifCond .ne 7, 3) := by decide +kernel
theorem dX8_road_83 : decode cX8_road 83 = .ok (.iconst 1, 1) := by decide +kernel
theorem dX8_road_84 : decode cX8_road 84 = .ok (.goto 4, 3) := by decide +kernel
theorem dX8_road_87 : decode cX8_road 87 = .ok (.iconst 0, 1) := by decide +kernel
theorem dX8_road_88 : decode cX8_road 88 = .ok (.istore_n 1, 1) := by decide +kernel
theorem dX8_road_89 : decode cX8_road 89 = .ok (.iload_n 1, 1) := by decide +kernel
theorem dX8_road_90 : decode cX8_road 90 = .ok (.ifCond .eq 34, 3) := by decide +kernel
theorem dX8_road_93 : decode cX8_road 93 = .ok (.aload_n 0, 1) := by decide +kernel
theorem dX8_road_94 : decode cX8_road 94 = .ok (.invokevirtual 160, 3) := by decide +kernel
theorem dX8_road_97 : decode cX8_road 97 = .ok (.aload_n 0, 1) := by decide +kernel
theorem dX8_road_98 : decode cX8_road 98 = .ok (.getfield 148, 3) := by decide +kernel
theorem dX8_road_101 : decode cX8_road 101 = .ok (.bipush 8, 2) := by decide +kernel
theorem dX8_road_103 : decode cX8_road 103 = .ok (.if_icmp .ge 16, 3) := by decide +kernel
theorem dX8_road_106 : decode cX8_road 106 = .ok (.aload_n 0, 1) := by decide +kernel
theorem dX8_road_107 : decode cX8_road 107 = .ok (.bipush 44, 2) := by decide +kernel
theorem dX8_road_109 : decode cX8_road 109 = .ok (.invokevirtual 145, 3) := by decide +kernel
theorem dX8_road_112 : decode cX8_road 112 = .ok (.ifCond .eq 7, 3) := by decide +kernel
theorem dX8_road_115 : decode cX8_road 115 = .ok (.iconst 1, 1) := by decide +kernel
theorem dX8_road_116 : decode cX8_road 116 = .ok (.goto 4, 3) := by decide +kernel
theorem dX8_road_119 : decode cX8_road 119 = .ok (.iconst 0, 1) := by decide +kernel
theorem dX8_road_120 : decode cX8_road 120 = .ok (.istore_n 1, 1) := by decide +kernel
theorem dX8_road_121 : decode cX8_road 121 = .ok (.goto (-32), 3) := by decide +kernel
theorem dX8_road_124 : decode cX8_road 124 = .ok (.iload_n 2, 1) := by decide +kernel
theorem dX8_road_125 : decode cX8_road 125 = .ok (.ifCond .ne 39, 3) := by decide +kernel
theorem dX8_road_128 : decode cX8_road 128 = .ok (.aload_n 0, 1) := by decide +kernel
theorem dX8_road_129 : decode cX8_road 129 = .ok (.bipush 59, 2) := by decide +kernel
theorem dX8_road_131 : decode cX8_road 131 = .ok (.invokevirtual 145, 3) := by decide +kernel
theorem dX8_road_134 : decode cX8_road 134 = .ok (.ifCond .eq 30, 3) := by decide +kernel
theorem dX8_road_137 : decode cX8_road 137 = .ok (.aload_n 0, 1) := by decide +kernel
theorem dX8_road_138 : decode cX8_road 138 = .ok (.bipush 61, 2) := by decide +kernel
theorem dX8_road_140 : decode cX8_road 140 = .ok (.invokevirtual 145, 3) := by decide +kernel
theorem dX8_road_143 : decode cX8_road 143 = .ok (.istore_n 2, 1) := by decide +kernel
theorem dX8_road_144 : decode cX8_road 144 = .ok (.aload_n 0, 1) := by decide +kernel
theorem dX8_road_145 : decode cX8_road 145 = .ok (.aload_n 0, 1) := by decide +kernel
theorem dX8_road_146 : decode cX8_road 146 = .ok (.getfield 127, 3) := by decide +kernel
theorem dX8_road_149 : decode cX8_road 149 = .ok (.ifCond .ne 7, 3) := by decide +kernel
theorem dX8_road_152 : decode cX8_road 152 = .ok (.iload_n 2, 1) := by decide +kernel
theorem dX8_road_153 : decode cX8_road 153 = .ok (.ifCond .ne 7, 3) := by decide +kernel
theorem dX8_road_156 : decode cX8_road 156 = .ok (.iconst 1, 1) := by decide +kernel
theorem dX8_road_157 : decode cX8_road 157 = .ok (.goto 4, 3) := by decide +kernel
theorem dX8_road_160 : decode cX8_road 160 = .ok (.iconst 0, 1) := by decide +kernel
theorem dX8_road_161 : decode cX8_road 161 = .ok (.putfield 127, 3) := by decide +kernel
theorem dX8_road_164 : decode cX8_road 164 = .ok (.aload_n 0, 1) := by decide +kernel
theorem dX8_road_165 : decode cX8_road 165 = .ok (.iload_n 2, 1) := by decide +kernel
theorem dX8_road_166 : decode cX8_road 166 = .ok (.ifCond .eq 10, 3) := by decide +kernel
theorem dX8_road_169 : decode cX8_road 169 = .ok (.aload_n 0, 1) := by decide +kernel
theorem dX8_road_170 : decode cX8_road 170 = .ok (.invokevirtual 151, 3) := by decide +kernel
theorem dX8_road_173 : decode cX8_road 173 = .ok (.goto 5, 3) := by decide +kernel
theorem dX8_road_176 : decode cX8_road 176 = .ok (.bipush (-4), 2) := by decide +kernel
theorem dX8_road_178 : decode cX8_road 178 = .ok (.putfield 154, 3) := by decide +kernel
theorem dX8_road_181 : decode cX8_road 181 = .ok (.aload_n 0, 1) := by decide +kernel
theorem dX8_road_182 : decode cX8_road 182 = .ok (.aload_n 0, 1) := by decide +kernel
theorem dX8_road_183 : decode cX8_road 183 = .ok (.getfield 127, 3) := by decide +kernel
theorem dX8_road_186 : decode cX8_road 186 = .ok (.ifCond .ne 10, 3) := by decide +kernel
theorem dX8_road_189 : decode cX8_road 189 = .ok (.aload_n 0, 1) := by decide +kernel
theorem dX8_road_190 : decode cX8_road 190 = .ok (.invokevirtual 131, 3) := by decide +kernel
theorem dX8_road_193 : decode cX8_road 193 = .ok (.ifCond .eq 7, 3) := by decide +kernel
theorem dX8_road_196 : decode cX8_road 196 = .ok (.iconst 1, 1) := by decide +kernel
theorem dX8_road_197 : decode cX8_road 197 = .ok (.goto 4, 3) := by decide +kernel
theorem dX8_road_200 : decode cX8_road 200 = .ok (.iconst 0, 1) := by decide +kernel
theorem dX8_road_201 : decode cX8_road 201 = .ok (.putfield 127, 3) := by decide +kernel
theorem dX8_road_204 : decode cX8_road 204 = .ok (.aload_n 0, 1) := by decide +kernel
theorem dX8_road_205 : decode cX8_road 205 = .ok (.iconst 0, 1) := by decide +kernel
theorem dX8_road_206 : decode cX8_road 206 = .ok (.putfield 121, 3) := by decide +kernel
theorem dX8_road_209 : decode cX8_road 209 = .ok (.aload_n 0, 1) := by decide +kernel
theorem dX8_road_210 : decode cX8_road 210 = .ok (.getfield 127, 3) := by decide +kernel
theorem dX8_road_213 : decode cX8_road 213 = .ok (.ifCond .eq 11, 3) := by decide +kernel
theorem dX8_road_216 : decode cX8_road 216 = .ok (.bipush (-20), 2) := by decide +kernel
theorem dX8_road_218 : decode cX8_road 218 = .ok (.aload_n 0, 1) := by decide +kernel
theorem dX8_road_219 : decode cX8_road 219 = .ok (.getfield 124, 3) := by decide +kernel
theorem dX8_road_222 : decode cX8_road 222 = .ok (.isub, 1) := by decide +kernel
theorem dX8_road_223 : decode cX8_road 223 = .ok (.ireturn, 1) := by decide +kernel
theorem dX8_road_224 : decode cX8_road 224 = .ok (.aload_n 0, 1) := by decide +kernel
theorem dX8_road_225 : decode cX8_road 225 = .ok (.iconst 0, 1) := by decide +kernel
theorem dX8_road_226 : decode cX8_road 226 = .ok (.putfield 69, 3) := by decide +kernel
theorem dX8_road_229 : decode cX8_road 229 = .ok (.aload_n 0, 1) := by decide +kernel
theorem dX8_road_230 : decode cX8_road 230 = .ok (.iconst 0, 1) := by decide +kernel
theorem dX8_road_231 : decode cX8_road 231 = .ok (.putfield 76, 3) := by decide +kernel
theorem dX8_road_234 : decode cX8_road 234 = .ok (.aload_n 0, 1) := by decide +kernel
theorem dX8_road_235 : decode cX8_road 235 = .ok (.invokevirtual 63, 3) := by decide +kernel
theorem dX8_road_238 : decode cX8_road 238 = .ok (.iconst 0, 1) := by decide +kernel
theorem dX8_road_239 : decode cX8_road 239 = .ok (.istore_n 2, 1) := by decide +kernel
theorem dX8_road_240 : decode cX8_road 240 = .ok (.iload_n 2, 1) := by decide +kernel
theorem dX8_road_241 : decode cX8_road 241 = .ok (.aload_n 0, 1) := by decide +kernel
theorem dX8_road_242 : decode cX8_road 242 = .ok (.getfield 139, 3) := by decide +kernel
theorem dX8_road_245 : decode cX8_road 245 = .ok (.if_icmp .ge 51, 3) := by decide +kernel
theorem dX8_road_248 : decode cX8_road 248 = .ok (.aload_n 0, 1) := by decide +kernel
theorem dX8_road_249 : decode cX8_road 249 = .ok (.aload_n 0, 1) := by decide +kernel
theorem dX8_road_250 : decode cX8_road 250 = .ok (.getfield 22, 3) := by decide +kernel
theorem dX8_road_253 : decode cX8_road 253 = .ok (.iconst 4, 1) := by decide +kernel
theorem dX8_road_254 : decode cX8_road 254 = .ok (.iload_n 2, 1) := by decide +kernel
theorem dX8_road_255 : decode cX8_road 255 = .ok (.imul, 1) := by decide +kernel
theorem dX8_road_256 : decode cX8_road 256 = .ok (.iaload, 1) := by decide +kernel
theorem dX8_road_257 : decode cX8_road 257 = .ok (.aload_n 0, 1) := by decide +kernel
theorem dX8_road_258 : decode cX8_road 258 = .ok (.getfield 22, 3) := by decide +kernel
theorem dX8_road_261 : decode cX8_road 261 = .ok (.iconst 4, 1) := by decide +kernel
theorem dX8_road_262 : decode cX8_road 262 = .ok (.iload_n 2, 1) := by decide +kernel
theorem dX8_road_263 : decode cX8_road 263 = .ok (.imul, 1) := by decide +kernel
theorem dX8_road_264 : decode cX8_road 264 = .ok (.iconst 1, 1) := by decide +kernel
theorem dX8_road_265 : decode cX8_road 265 = .ok (.iadd, 1) := by decide +kernel
theorem dX8_road_266 : decode cX8_road 266 = .ok (.iaload, 1) := by decide +kernel
theorem dX8_road_267 : decode cX8_road 267 = .ok (.aload_n 0, 1) := by decide +kernel
theorem dX8_road_268 : decode cX8_road 268 = .ok (.getfield 22, 3) := by decide +kernel
theorem dX8_road_271 : decode cX8_road 271 = .ok (.iconst 4, 1) := by decide +kernel
theorem dX8_road_272 : decode cX8_road 272 = .ok (.iload_n 2, 1) := by decide +kernel
theorem dX8_road_273 : decode cX8_road 273 = .ok (.imul, 1) := by decide +kernel
theorem dX8_road_274 : decode cX8_road 274 = .ok (.iconst 2, 1) := by decide +kernel
theorem dX8_road_275 : decode cX8_road 275 = .ok (.iadd, 1) := by decide +kernel
theorem dX8_road_276 : decode cX8_road 276 = .ok (.iaload, 1) := by decide +kernel
theorem dX8_road_277 : decode cX8_road 277 = .ok (.aload_n 0, 1) := by decide +kernel
theorem dX8_road_278 : decode cX8_road 278 = .ok (.getfield 22, 3) := by decide +kernel
theorem dX8_road_281 : decode cX8_road 281 = .ok (.iconst 4, 1) := by decide +kernel
theorem dX8_road_282 : decode cX8_road 282 = .ok (.iload_n 2, 1) := by decide +kernel
theorem dX8_road_283 : decode cX8_road 283 = .ok (.imul, 1) := by decide +kernel
theorem dX8_road_284 : decode cX8_road 284 = .ok (.iconst 3, 1) := by decide +kernel
theorem dX8_road_285 : decode cX8_road 285 = .ok (.iadd, 1) := by decide +kernel
theorem dX8_road_286 : decode cX8_road 286 = .ok (.iaload, 1) := by decide +kernel
theorem dX8_road_287 : decode cX8_road 287 = .ok (.invokevirtual 85, 3) := by decide +kernel
theorem dX8_road_290 : decode cX8_road 290 = .ok (.iinc 2 1, 3) := by decide +kernel
theorem dX8_road_293 : decode cX8_road 293 = .ok (.goto (-53), 3) := by decide +kernel
theorem dX8_road_296 : decode cX8_road 296 = .ok (.iconst 0, 1) := by decide +kernel
theorem dX8_road_297 : decode cX8_road 297 = .ok (.istore_n 2, 1) := by decide +kernel
theorem dX8_road_298 : decode cX8_road 298 = .ok (.iload_n 2, 1) := by decide +kernel
theorem dX8_road_299 : decode cX8_road 299 = .ok (.aload_n 0, 1) := by decide +kernel
theorem dX8_road_300 : decode cX8_road 300 = .ok (.getfield 148, 3) := by decide +kernel
theorem dX8_road_303 : decode cX8_road 303 = .ok (.if_icmp .ge 41, 3) := by decide +kernel
theorem dX8_road_306 : decode cX8_road 306 = .ok (.aload_n 0, 1) := by decide +kernel
theorem dX8_road_307 : decode cX8_road 307 = .ok (.aload_n 0, 1) := by decide +kernel
theorem dX8_road_308 : decode cX8_road 308 = .ok (.getfield 25, 3) := by decide +kernel
theorem dX8_road_311 : decode cX8_road 311 = .ok (.iconst 3, 1) := by decide +kernel
theorem dX8_road_312 : decode cX8_road 312 = .ok (.iload_n 2, 1) := by decide +kernel
theorem dX8_road_313 : decode cX8_road 313 = .ok (.imul, 1) := by decide +kernel
theorem dX8_road_314 : decode cX8_road 314 = .ok (.iaload, 1) := by decide +kernel
theorem dX8_road_315 : decode cX8_road 315 = .ok (.aload_n 0, 1) := by decide +kernel
theorem dX8_road_316 : decode cX8_road 316 = .ok (.getfield 25, 3) := by decide +kernel
theorem dX8_road_319 : decode cX8_road 319 = .ok (.iconst 3, 1) := by decide +kernel
theorem dX8_road_320 : decode cX8_road 320 = .ok (.iload_n 2, 1) := by decide +kernel
theorem dX8_road_321 : decode cX8_road 321 = .ok (.imul, 1) := by decide +kernel
theorem dX8_road_322 : decode cX8_road 322 = .ok (.iconst 1, 1) := by decide +kernel
theorem dX8_road_323 : decode cX8_road 323 = .ok (.iadd, 1) := by decide +kernel
theorem dX8_road_324 : decode cX8_road 324 = .ok (.iaload, 1) := by decide +kernel
theorem dX8_road_325 : decode cX8_road 325 = .ok (.aload_n 0, 1) := by decide +kernel
theorem dX8_road_326 : decode cX8_road 326 = .ok (.getfield 25, 3) := by decide +kernel
theorem dX8_road_329 : decode cX8_road 329 = .ok (.iconst 3, 1) := by decide +kernel
theorem dX8_road_330 : decode cX8_road 330 = .ok (.iload_n 2, 1) := by decide +kernel
theorem dX8_road_331 : decode cX8_road 331 = .ok (.imul, 1) := by decide +kernel
theorem dX8_road_332 : decode cX8_road 332 = .ok (.iconst 2, 1) := by decide +kernel
theorem dX8_road_333 : decode cX8_road 333 = .ok (.iadd, 1) := by decide +kernel
theorem dX8_road_334 : decode cX8_road 334 = .ok (.iaload, 1) := by decide +kernel
theorem dX8_road_335 : decode cX8_road 335 = .ok (.invokevirtual 107, 3) := by decide +kernel
theorem dX8_road_338 : decode cX8_road 338 = .ok (.iinc 2 1, 3) := by decide +kernel
theorem dX8_road_341 : decode cX8_road 341 = .ok (.goto (-43), 3) := by decide +kernel
theorem dX8_road_344 : decode cX8_road 344 = .ok (.aload_n 0, 1) := by decide +kernel
theorem dX8_road_345 : decode cX8_road 345 = .ok (.getfield 16, 3) := by decide +kernel
theorem dX8_road_348 : decode cX8_road 348 = .ok (.iconst 0, 1) := by decide +kernel
theorem dX8_road_349 : decode cX8_road 349 = .ok (.aload_n 0, 1) := by decide +kernel
theorem dX8_road_350 : decode cX8_road 350 = .ok (.getfield 154, 3) := by decide +kernel
theorem dX8_road_353 : decode cX8_road 353 = .ok (.iastore, 1) := by decide +kernel
theorem dX8_road_354 : decode cX8_road 354 = .ok (.aload_n 0, 1) := by decide +kernel
theorem dX8_road_355 : decode cX8_road 355 = .ok (.getfield 69, 3) := by decide +kernel
theorem dX8_road_358 : decode cX8_road 358 = .ok (.ireturn, 1) := by decide +kernel
theorem dX8_care_0 : decode cX8_care 0 = .ok (.aload_n 0, 1) := by decide +kernel
theorem dX8_care_1 : decode cX8_care 1 = .ok (.iload_n 1, 1) := by decide +kernel
theorem dX8_care_2 : decode cX8_care 2 = .ok (.iload_n 2, 1) := by decide +kernel
theorem dX8_care_3 : decode cX8_care 3 = .ok (.iconst 1, 1) := by decide +kernel
theorem dX8_care_4 : decode cX8_care 4 = .ok (.invokevirtual 99, 3) := by decide +kernel
theorem dX8_care_7 : decode cX8_care 7 = .ok (.aload_n 0, 1) := by decide +kernel
theorem dX8_care_8 : decode cX8_care 8 = .ok (.getfield 163, 3) := by decide +kernel
theorem dX8_care_11 : decode cX8_care 11 = .ok (.aload_n 0, 1) := by decide +kernel
theorem dX8_care_12 : decode cX8_care 12 = .ok (.getfield 16, 3) := by decide +kernel
theorem dX8_care_15 : decode cX8_care 15 = .ok (.iconst 3, 1) := by decide +kernel
theorem dX8_care_16 : decode cX8_care 16 = .ok (.iaload, 1) := by decide +kernel
theorem dX8_care_17 : decode cX8_care 17 = .ok (.ishr, 1) := by decide +kernel
theorem dX8_care_18 : decode cX8_care 18 = .ok (.iconst 1, 1) := by decide +kernel
theorem dX8_care_19 : decode cX8_care 19 = .ok (.iand, 1) := by decide +kernel
theorem dX8_care_20 : decode cX8_care 20 = .ok (.iconst 1, 1) := by decide +kernel
theorem dX8_care_21 : decode cX8_care 21 = .ok (.iadd, 1) := by decide +kernel
theorem dX8_care_22 : decode cX8_care 22 = .ok (.imul, 1) := by decide +kernel
theorem dX8_care_23 : decode cX8_care 23 = .ok (.ireturn, 1) := by decide +kernel
theorem dX8_own_0 : decode cX8_own 0 = .ok (.iload_n 1, 1) := by decide +kernel
theorem dX8_own_1 : decode cX8_own 1 = .ok (.ifCond .ne 23, 3) := by decide +kernel
theorem dX8_own_4 : decode cX8_own 4 = .ok (.aload_n 0, 1) := by decide +kernel
theorem dX8_own_5 : decode cX8_own 5 = .ok (.aload_n 0, 1) := by decide +kernel
theorem dX8_own_6 : decode cX8_own 6 = .ok (.getfield 16, 3) := by decide +kernel
theorem dX8_own_9 : decode cX8_own 9 = .ok (.iconst 0, 1) := by decide +kernel
theorem dX8_own_10 : decode cX8_own 10 = .ok (.iaload, 1) := by decide +kernel
theorem dX8_own_11 : decode cX8_own 11 = .ok (.aload_n 0, 1) := by decide +kernel
theorem dX8_own_12 : decode cX8_own 12 = .ok (.getfield 16, 3) := by decide +kernel
theorem dX8_own_15 : decode cX8_own 15 = .ok (.iconst 1, 1) := by decide +kernel
theorem dX8_own_16 : decode cX8_own 16 = .ok (.iaload, 1) := by decide +kernel
theorem dX8_own_17 : decode cX8_own 17 = .ok (.iconst 0, 1) := by decide +kernel
theorem dX8_own_18 : decode cX8_own 18 = .ok (.invokevirtual 99, 3) := by decide +kernel
theorem dX8_own_21 : decode cX8_own 21 = .ok (.goto 19, 3) := by decide +kernel
theorem dX8_own_24 : decode cX8_own 24 = .ok (.aload_n 0, 1) := by decide +kernel
theorem dX8_own_25 : decode cX8_own 25 = .ok (.aload_n 0, 1) := by decide +kernel
theorem dX8_own_26 : decode cX8_own 26 = .ok (.getfield 16, 3) := by decide +kernel
theorem dX8_own_29 : decode cX8_own 29 = .ok (.iconst 0, 1) := by decide +kernel
theorem dX8_own_30 : decode cX8_own 30 = .ok (.iaload, 1) := by decide +kernel
theorem dX8_own_31 : decode cX8_own 31 = .ok (.aload_n 0, 1) := by decide +kernel
theorem dX8_own_32 : decode cX8_own 32 = .ok (.getfield 16, 3) := by decide +kernel
theorem dX8_own_35 : decode cX8_own 35 = .ok (.iconst 1, 1) := by decide +kernel
theorem dX8_own_36 : decode cX8_own 36 = .ok (.iaload, 1) := by decide +kernel
theorem dX8_own_37 : decode cX8_own 37 = .ok (.invokevirtual 166, 3) := by decide +kernel
theorem dX8_own_40 : decode cX8_own 40 = .ok (.ireturn, 1) := by decide +kernel
theorem dX8_isGlad_0 : decode cX8_isGlad 0 = .ok (.aload_n 0, 1) := by decide +kernel
theorem dX8_isGlad_1 : decode cX8_isGlad 1 = .ok (.aload_n 0, 1) := by decide +kernel
theorem dX8_isGlad_2 : decode cX8_isGlad 2 = .ok (.getfield 16, 3) := by decide +kernel
theorem dX8_isGlad_5 : decode cX8_isGlad 5 = .ok (.iconst 2, 1) := by decide +kernel
theorem dX8_isGlad_6 : decode cX8_isGlad 6 = .ok (.iaload, 1) := by decide +kernel
theorem dX8_isGlad_7 : decode cX8_isGlad 7 = .ok (.invokevirtual 170, 3) := by decide +kernel
theorem dX8_isGlad_10 : decode cX8_isGlad 10 = .ok (.aload_n 0, 1) := by decide +kernel
theorem dX8_isGlad_11 : decode cX8_isGlad 11 = .ok (.iload_n 1, 1) := by decide +kernel
theorem dX8_isGlad_12 : decode cX8_isGlad 12 = .ok (.iconst 0, 1) := by decide +kernel
theorem dX8_isGlad_13 : decode cX8_isGlad 13 = .ok (.aload_n 0, 1) := by decide +kernel
theorem dX8_isGlad_14 : decode cX8_isGlad 14 = .ok (.getfield 16, 3) := by decide +kernel
theorem dX8_isGlad_17 : decode cX8_isGlad 17 = .ok (.iconst 2, 1) := by decide +kernel
theorem dX8_isGlad_18 : decode cX8_isGlad 18 = .ok (.iaload, 1) := by decide +kernel
theorem dX8_isGlad_19 : decode cX8_isGlad 19 = .ok (.invokevirtual 99, 3) := by decide +kernel
theorem dX8_isGlad_22 : decode cX8_isGlad 22 = .ok (.if_icmp .le 30, 3) := by decide +kernel
theorem dX8_isGlad_25 : decode cX8_isGlad 25 = .ok (.aload_n 0, 1) := by decide +kernel
theorem dX8_isGlad_26 : decode cX8_isGlad 26 = .ok (.aload_n 0, 1) := by decide +kernel
theorem dX8_isGlad_27 : decode cX8_isGlad 27 = .ok (.getfield 16, 3) := by decide +kernel
theorem dX8_isGlad_30 : decode cX8_isGlad 30 = .ok (.iconst 0, 1) := by decide +kernel
theorem dX8_isGlad_31 : decode cX8_isGlad 31 = .ok (.iaload, 1) := by decide +kernel
theorem dX8_isGlad_32 : decode cX8_isGlad 32 = .ok (.invokevirtual 173, 3) := by decide +kernel
theorem dX8_isGlad_35 : decode cX8_isGlad 35 = .ok (.aload_n 0, 1) := by decide +kernel
theorem dX8_isGlad_36 : decode cX8_isGlad 36 = .ok (.iload_n 1, 1) := by decide +kernel
theorem dX8_isGlad_37 : decode cX8_isGlad 37 = .ok (.invokevirtual 173, 3) := by decide +kernel
theorem dX8_isGlad_40 : decode cX8_isGlad 40 = .ok (.isub, 1) := by decide +kernel
theorem dX8_isGlad_41 : decode cX8_isGlad 41 = .ok (.aload_n 0, 1) := by decide +kernel
theorem dX8_isGlad_42 : decode cX8_isGlad 42 = .ok (.getfield 60, 3) := by decide +kernel
theorem dX8_isGlad_45 : decode cX8_isGlad 45 = .ok (.if_icmp .gt 7, 3) := by decide +kernel
theorem dX8_isGlad_48 : decode cX8_isGlad 48 = .ok (.iconst 1, 1) := by decide +kernel
theorem dX8_isGlad_49 : decode cX8_isGlad 49 = .ok (.goto 4, 3) := by decide +kernel
theorem dX8_isGlad_52 : decode cX8_isGlad 52 = .ok (.iconst 0, 1) := by decide +kernel
theorem dX8_isGlad_53 : decode cX8_isGlad 53 = .ok (.ireturn, 1) := by decide +kernel
theorem dX8_asks_0 : decode cX8_asks 0 = .ok (.aload_n 0, 1) := by decide +kernel
theorem dX8_asks_1 : decode cX8_asks 1 = .ok (.getfield 16, 3) := by decide +kernel
theorem dX8_asks_4 : decode cX8_asks 4 = .ok (.iconst 5, 1) := by decide +kernel
theorem dX8_asks_5 : decode cX8_asks 5 = .ok (.iload_n 1, 1) := by decide +kernel
theorem dX8_asks_6 : decode cX8_asks 6 = .ok (.iadd, 1) := by decide +kernel
theorem dX8_asks_7 : decode cX8_asks 7 = .ok (.iaload, 1) := by decide +kernel
theorem dX8_asks_8 : decode cX8_asks 8 = .ok (.istore_n 3, 1) := by decide +kernel
theorem dX8_asks_9 : decode cX8_asks 9 = .ok (.aload_n 0, 1) := by decide +kernel
theorem dX8_asks_10 : decode cX8_asks 10 = .ok (.getfield 16, 3) := by decide +kernel
theorem dX8_asks_13 : decode cX8_asks 13 = .ok (.iconst 0, 1) := by decide +kernel
theorem dX8_asks_14 : decode cX8_asks 14 = .ok (.iaload, 1) := by decide +kernel
theorem dX8_asks_15 : decode cX8_asks 15 = .ok (.bipush (-4), 2) := by decide +kernel
theorem dX8_asks_17 : decode cX8_asks 17 = .ok (.if_icmp .eq 17, 3) := by decide +kernel
theorem dX8_asks_20 : decode cX8_asks 20 = .ok (.iload_n 3, 1) := by decide +kernel
theorem dX8_asks_21 : decode cX8_asks 21 = .ok (.bipush (-4), 2) := by decide +kernel
theorem dX8_asks_23 : decode cX8_asks 23 = .ok (.if_icmp .eq 11, 3) := by decide +kernel
theorem dX8_asks_26 : decode cX8_asks 26 = .ok (.aload_n 0, 1) := by decide +kernel
theorem dX8_asks_27 : decode cX8_asks 27 = .ok (.iload_n 3, 1) := by decide +kernel
theorem dX8_asks_28 : decode cX8_asks 28 = .ok (.invokevirtual 176, 3) := by decide +kernel
theorem dX8_asks_31 : decode cX8_asks 31 = .ok (.ifCond .ne 4, 3) := by decide +kernel
theorem dX8_asks_34 : decode cX8_asks 34 = .ok (.return_, 1) := by decide +kernel
theorem dX8_asks_35 : decode cX8_asks 35 = .ok (.aload_n 0, 1) := by decide +kernel
theorem dX8_asks_36 : decode cX8_asks 36 = .ok (.aload_n 0, 1) := by decide +kernel
theorem dX8_asks_37 : decode cX8_asks 37 = .ok (.getfield 16, 3) := by decide +kernel
theorem dX8_asks_40 : decode cX8_asks 40 = .ok (.iconst 0, 1) := by decide +kernel
theorem dX8_asks_41 : decode cX8_asks 41 = .ok (.iaload, 1) := by decide +kernel
theorem dX8_asks_42 : decode cX8_asks 42 = .ok (.invokevirtual 173, 3) := by decide +kernel
theorem dX8_asks_45 : decode cX8_asks 45 = .ok (.aload_n 0, 1) := by decide +kernel
theorem dX8_asks_46 : decode cX8_asks 46 = .ok (.iload_n 3, 1) := by decide +kernel
theorem dX8_asks_47 : decode cX8_asks 47 = .ok (.invokevirtual 173, 3) := by decide +kernel
theorem dX8_asks_50 : decode cX8_asks 50 = .ok (.iload_n 2, 1) := by decide +kernel
theorem dX8_asks_51 : decode cX8_asks 51 = .ok (.iadd, 1) := by decide +kernel
theorem dX8_asks_52 : decode cX8_asks 52 = .ok (.if_icmp .lt 44, 3) := by decide +kernel
theorem dX8_asks_55 : decode cX8_asks 55 = .ok (.aload_n 0, 1) := by decide +kernel
theorem dX8_asks_56 : decode cX8_asks 56 = .ok (.getfield 16, 3) := by decide +kernel
theorem dX8_asks_59 : decode cX8_asks 59 = .ok (.iconst 5, 1) := by decide +kernel
theorem dX8_asks_60 : decode cX8_asks 60 = .ok (.iload_n 1, 1) := by decide +kernel
theorem dX8_asks_61 : decode cX8_asks 61 = .ok (.iadd, 1) := by decide +kernel
theorem dX8_asks_62 : decode cX8_asks 62 = .ok (.aload_n 0, 1) := by decide +kernel
theorem dX8_asks_63 : decode cX8_asks 63 = .ok (.getfield 16, 3) := by decide +kernel
theorem dX8_asks_66 : decode cX8_asks 66 = .ok (.iconst 0, 1) := by decide +kernel
theorem dX8_asks_67 : decode cX8_asks 67 = .ok (.iaload, 1) := by decide +kernel
theorem dX8_asks_68 : decode cX8_asks 68 = .ok (.iastore, 1) := by decide +kernel
theorem dX8_asks_69 : decode cX8_asks 69 = .ok (.aload_n 0, 1) := by decide +kernel
theorem dX8_asks_70 : decode cX8_asks 70 = .ok (.getfield 16, 3) := by decide +kernel
theorem dX8_asks_73 : decode cX8_asks 73 = .ok (.iconst 0, 1) := by decide +kernel
theorem dX8_asks_74 : decode cX8_asks 74 = .ok (.iload_n 3, 1) := by decide +kernel
theorem dX8_asks_75 : decode cX8_asks 75 = .ok (.iastore, 1) := by decide +kernel
theorem dX8_asks_76 : decode cX8_asks 76 = .ok (.aload_n 0, 1) := by decide +kernel
theorem dX8_asks_77 : decode cX8_asks 77 = .ok (.getfield 16, 3) := by decide +kernel
theorem dX8_asks_80 : decode cX8_asks 80 = .ok (.iconst 1, 1) := by decide +kernel
theorem dX8_asks_81 : decode cX8_asks 81 = .ok (.iconst 0, 1) := by decide +kernel
theorem dX8_asks_82 : decode cX8_asks 82 = .ok (.iastore, 1) := by decide +kernel
theorem dX8_asks_83 : decode cX8_asks 83 = .ok (.aload_n 0, 1) := by decide +kernel
theorem dX8_asks_84 : decode cX8_asks 84 = .ok (.getfield 16, 3) := by decide +kernel
theorem dX8_asks_87 : decode cX8_asks 87 = .ok (.iconst 4, 1) := by decide +kernel
theorem dX8_asks_88 : decode cX8_asks 88 = .ok (.dup2, 1) := by decide +kernel
theorem dX8_asks_89 : decode cX8_asks 89 = .ok (.iaload, 1) := by decide +kernel
theorem dX8_asks_90 : decode cX8_asks 90 = .ok (.iconst 1, 1) := by decide +kernel
theorem dX8_asks_91 : decode cX8_asks 91 = .ok (.iadd, 1) := by decide +kernel
theorem dX8_asks_92 : decode cX8_asks 92 = .ok (.iastore, 1) := by decide +kernel
theorem dX8_asks_93 : decode cX8_asks 93 = .ok (.goto 29, 3) := by decide +kernel
theorem dX8_asks_96 : decode cX8_asks 96 = .ok (.aload_n 0, 1) := by decide +kernel
theorem dX8_asks_97 : decode cX8_asks 97 = .ok (.aload_n 0, 1) := by decide +kernel
theorem dX8_asks_98 : decode cX8_asks 98 = .ok (.getfield 179, 3) := by decide +kernel
theorem dX8_asks_101 : decode cX8_asks 101 = .ok (.bipush (-4), 2) := by decide +kernel
theorem dX8_asks_103 : decode cX8_asks 103 = .ok (.if_icmp .ne 12, 3) := by decide +kernel
theorem dX8_asks_106 : decode cX8_asks 106 = .ok (.aload_n 0, 1) := by decide +kernel
theorem dX8_asks_107 : decode cX8_asks 107 = .ok (.getfield 16, 3) := by decide +kernel
theorem dX8_asks_110 : decode cX8_asks 110 = .ok (.iconst 3, 1) := by decide +kernel
theorem dX8_asks_111 : decode cX8_asks 111 = .ok (.iaload, 1) := by decide +kernel
theorem dX8_asks_112 : decode cX8_asks 112 = .ok (.goto 7, 3) := by decide +kernel
theorem dX8_asks_115 : decode cX8_asks 115 = .ok (.aload_n 0, 1) := by decide +kernel
theorem dX8_asks_116 : decode cX8_asks 116 = .ok (.getfield 179, 3) := by decide +kernel
theorem dX8_asks_119 : decode cX8_asks 119 = .ok (.putfield 179, 3) := by decide +kernel
theorem dX8_asks_122 : decode cX8_asks 122 = .ok (.return_, 1) := by decide +kernel
theorem dX8_goesOn_0 : decode cX8_goesOn 0 = .ok (.aload_n 0, 1) := by decide +kernel
theorem dX8_goesOn_1 : decode cX8_goesOn 1 = .ok (.getfield 16, 3) := by decide +kernel
theorem dX8_goesOn_4 : decode cX8_goesOn 4 = .ok (.iconst 3, 1) := by decide +kernel
theorem dX8_goesOn_5 : decode cX8_goesOn 5 = .ok (.iaload, 1) := by decide +kernel
theorem dX8_goesOn_6 : decode cX8_goesOn 6 = .ok (.istore_n 1, 1) := by decide +kernel
theorem dX8_goesOn_7 : decode cX8_goesOn 7 = .ok (.aload_n 0, 1) := by decide +kernel
theorem dX8_goesOn_8 : decode cX8_goesOn 8 = .ok (.getfield 16, 3) := by decide +kernel
theorem dX8_goesOn_11 : decode cX8_goesOn 11 = .ok (.iconst 0, 1) := by decide +kernel
theorem dX8_goesOn_12 : decode cX8_goesOn 12 = .ok (.iaload, 1) := by decide +kernel
theorem dX8_goesOn_13 : decode cX8_goesOn 13 = .ok (.bipush (-4), 2) := by decide +kernel
theorem dX8_goesOn_15 : decode cX8_goesOn 15 = .ok (.if_icmp .eq 37, 3) := by decide +kernel
theorem dX8_goesOn_18 : decode cX8_goesOn 18 = .ok (.aload_n 0, 1) := by decide +kernel
theorem dX8_goesOn_19 : decode cX8_goesOn 19 = .ok (.getfield 16, 3) := by decide +kernel
theorem dX8_goesOn_22 : decode cX8_goesOn 22 = .ok (.iconst 1, 1) := by decide +kernel
theorem dX8_goesOn_23 : decode cX8_goesOn 23 = .ok (.dup2, 1) := by decide +kernel
theorem dX8_goesOn_24 : decode cX8_goesOn 24 = .ok (.iaload, 1) := by decide +kernel
theorem dX8_goesOn_25 : decode cX8_goesOn 25 = .ok (.iconst 1, 1) := by decide +kernel
theorem dX8_goesOn_26 : decode cX8_goesOn 26 = .ok (.iadd, 1) := by decide +kernel
theorem dX8_goesOn_27 : decode cX8_goesOn 27 = .ok (.iastore, 1) := by decide +kernel
theorem dX8_goesOn_28 : decode cX8_goesOn 28 = .ok (.aload_n 0, 1) := by decide +kernel
theorem dX8_goesOn_29 : decode cX8_goesOn 29 = .ok (.getfield 16, 3) := by decide +kernel
theorem dX8_goesOn_32 : decode cX8_goesOn 32 = .ok (.iconst 2, 1) := by decide +kernel
theorem dX8_goesOn_33 : decode cX8_goesOn 33 = .ok (.aload_n 0, 1) := by decide +kernel
theorem dX8_goesOn_34 : decode cX8_goesOn 34 = .ok (.iconst 0, 1) := by decide +kernel
theorem dX8_goesOn_35 : decode cX8_goesOn 35 = .ok (.invokevirtual 170, 3) := by decide +kernel
theorem dX8_goesOn_38 : decode cX8_goesOn 38 = .ok (.aload_n 0, 1) := by decide +kernel
theorem dX8_goesOn_39 : decode cX8_goesOn 39 = .ok (.iconst 1, 1) := by decide +kernel
theorem dX8_goesOn_40 : decode cX8_goesOn 40 = .ok (.invokevirtual 170, 3) := by decide +kernel
theorem dX8_goesOn_43 : decode cX8_goesOn 43 = .ok (.if_icmp .lt 7, 3) := by decide +kernel
theorem dX8_goesOn_46 : decode cX8_goesOn 46 = .ok (.iconst 0, 1) := by decide +kernel
theorem dX8_goesOn_47 : decode cX8_goesOn 47 = .ok (.goto 4, 3) := by decide +kernel
theorem dX8_goesOn_50 : decode cX8_goesOn 50 = .ok (.iconst 1, 1) := by decide +kernel
theorem dX8_goesOn_51 : decode cX8_goesOn 51 = .ok (.iastore, 1) := by decide +kernel
theorem dX8_goesOn_52 : decode cX8_goesOn 52 = .ok (.iconst 0, 1) := by decide +kernel
theorem dX8_goesOn_53 : decode cX8_goesOn 53 = .ok (.istore_n 2, 1) := by decide +kernel
theorem dX8_goesOn_54 : decode cX8_goesOn 54 = .ok (.iload_n 2, 1) := by decide +kernel
theorem dX8_goesOn_55 : decode cX8_goesOn 55 = .ok (.aload_n 0, 1) := by decide +kernel
theorem dX8_goesOn_56 : decode cX8_goesOn 56 = .ok (.getfield 76, 3) := by decide +kernel
theorem dX8_goesOn_59 : decode cX8_goesOn 59 = .ok (.if_icmp .ge 36, 3) := by decide +kernel
theorem dX8_goesOn_62 : decode cX8_goesOn 62 = .ok (.aload_n 0, 1) := by decide +kernel
theorem dX8_goesOn_63 : decode cX8_goesOn 63 = .ok (.getfield 13, 3) := by decide +kernel
theorem dX8_goesOn_66 : decode cX8_goesOn 66 = .ok (.iconst 2, 1) := by decide +kernel
theorem dX8_goesOn_67 : decode cX8_goesOn 67 = .ok (.iload_n 2, 1) := by decide +kernel
theorem dX8_goesOn_68 : decode cX8_goesOn 68 = .ok (.imul, 1) := by decide +kernel
theorem dX8_goesOn_69 : decode cX8_goesOn 69 = .ok (.iaload, 1) := by decide +kernel
theorem dX8_goesOn_70 : decode cX8_goesOn 70 = .ok (.iload_n 1, 1) := by decide +kernel
theorem dX8_goesOn_71 : decode cX8_goesOn 71 = .ok (.if_icmp .ne 18, 3) := by decide +kernel
theorem dX8_goesOn_74 : decode cX8_goesOn 74 = .ok (.aload_n 0, 1) := by decide +kernel
theorem dX8_goesOn_75 : decode cX8_goesOn 75 = .ok (.iload_n 2, 1) := by decide +kernel
theorem dX8_goesOn_76 : decode cX8_goesOn 76 = .ok (.aload_n 0, 1) := by decide +kernel
theorem dX8_goesOn_77 : decode cX8_goesOn 77 = .ok (.getfield 13, 3) := by decide +kernel
theorem dX8_goesOn_80 : decode cX8_goesOn 80 = .ok (.iconst 2, 1) := by decide +kernel
theorem dX8_goesOn_81 : decode cX8_goesOn 81 = .ok (.iload_n 2, 1) := by decide +kernel
theorem dX8_goesOn_82 : decode cX8_goesOn 82 = .ok (.imul, 1) := by decide +kernel
theorem dX8_goesOn_83 : decode cX8_goesOn 83 = .ok (.iconst 1, 1) := by decide +kernel
theorem dX8_goesOn_84 : decode cX8_goesOn 84 = .ok (.iadd, 1) := by decide +kernel
theorem dX8_goesOn_85 : decode cX8_goesOn 85 = .ok (.iaload, 1) := by decide +kernel
theorem dX8_goesOn_86 : decode cX8_goesOn 86 = .ok (.invokevirtual 182, 3) := by decide +kernel
theorem dX8_goesOn_89 : decode cX8_goesOn 89 = .ok (.iinc 2 1, 3) := by decide +kernel
theorem dX8_goesOn_92 : decode cX8_goesOn 92 = .ok (.goto (-38), 3) := by decide +kernel
theorem dX8_goesOn_95 : decode cX8_goesOn 95 = .ok (.aload_n 0, 1) := by decide +kernel
theorem dX8_goesOn_96 : decode cX8_goesOn 96 = .ok (.getfield 186, 3) := by decide +kernel
theorem dX8_goesOn_99 : decode cX8_goesOn 99 = .ok (.iload_n 1, 1) := by decide +kernel
theorem dX8_goesOn_100 : decode cX8_goesOn 100 = .ok (.if_icmp .ne 10, 3) := by decide +kernel
theorem dX8_goesOn_103 : decode cX8_goesOn 103 = .ok (.aload_n 0, 1) := by decide +kernel
theorem dX8_goesOn_104 : decode cX8_goesOn 104 = .ok (.bipush 8, 2) := by decide +kernel
theorem dX8_goesOn_106 : decode cX8_goesOn 106 = .ok (.iconst 0, 1) := by decide +kernel
theorem dX8_goesOn_107 : decode cX8_goesOn 107 = .ok (.invokevirtual 182, 3) := by decide +kernel
theorem dX8_goesOn_110 : decode cX8_goesOn 110 = .ok (.aload_n 0, 1) := by decide +kernel
theorem dX8_goesOn_111 : decode cX8_goesOn 111 = .ok (.getfield 56, 3) := by decide +kernel
theorem dX8_goesOn_114 : decode cX8_goesOn 114 = .ok (.iload_n 1, 1) := by decide +kernel
theorem dX8_goesOn_115 : decode cX8_goesOn 115 = .ok (.if_icmp .ne 39, 3) := by decide +kernel
theorem dX8_goesOn_118 : decode cX8_goesOn 118 = .ok (.aload_n 0, 1) := by decide +kernel
theorem dX8_goesOn_119 : decode cX8_goesOn 119 = .ok (.getfield 16, 3) := by decide +kernel
theorem dX8_goesOn_122 : decode cX8_goesOn 122 = .ok (.iconst 0, 1) := by decide +kernel
theorem dX8_goesOn_123 : decode cX8_goesOn 123 = .ok (.iaload, 1) := by decide +kernel
theorem dX8_goesOn_124 : decode cX8_goesOn 124 = .ok (.bipush (-4), 2) := by decide +kernel
theorem dX8_goesOn_126 : decode cX8_goesOn 126 = .ok (.if_icmp .eq 28, 3) := by decide +kernel
theorem dX8_goesOn_129 : decode cX8_goesOn 129 = .ok (.aload_n 0, 1) := by decide +kernel
theorem dX8_goesOn_130 : decode cX8_goesOn 130 = .ok (.iconst 0, 1) := by decide +kernel
theorem dX8_goesOn_131 : decode cX8_goesOn 131 = .ok (.invokevirtual 170, 3) := by decide +kernel
theorem dX8_goesOn_134 : decode cX8_goesOn 134 = .ok (.bipush 10, 2) := by decide +kernel
theorem dX8_goesOn_136 : decode cX8_goesOn 136 = .ok (.if_icmp .lt 18, 3) := by decide +kernel
theorem dX8_goesOn_139 : decode cX8_goesOn 139 = .ok (.aload_n 0, 1) := by decide +kernel
theorem dX8_goesOn_140 : decode cX8_goesOn 140 = .ok (.getfield 16, 3) := by decide +kernel
theorem dX8_goesOn_143 : decode cX8_goesOn 143 = .ok (.iconst 0, 1) := by decide +kernel
theorem dX8_goesOn_144 : decode cX8_goesOn 144 = .ok (.bipush (-4), 2) := by decide +kernel
theorem dX8_goesOn_146 : decode cX8_goesOn 146 = .ok (.iastore, 1) := by decide +kernel
theorem dX8_goesOn_147 : decode cX8_goesOn 147 = .ok (.aload_n 0, 1) := by decide +kernel
theorem dX8_goesOn_148 : decode cX8_goesOn 148 = .ok (.getfield 16, 3) := by decide +kernel
theorem dX8_goesOn_151 : decode cX8_goesOn 151 = .ok (.iconst 1, 1) := by decide +kernel
theorem dX8_goesOn_152 : decode cX8_goesOn 152 = .ok (.iconst 0, 1) := by decide +kernel
theorem dX8_goesOn_153 : decode cX8_goesOn 153 = .ok (.iastore, 1) := by decide +kernel
theorem dX8_goesOn_154 : decode cX8_goesOn 154 = .ok (.aload_n 0, 1) := by decide +kernel
theorem dX8_goesOn_155 : decode cX8_goesOn 155 = .ok (.getfield 16, 3) := by decide +kernel
theorem dX8_goesOn_158 : decode cX8_goesOn 158 = .ok (.iconst 3, 1) := by decide +kernel
theorem dX8_goesOn_159 : decode cX8_goesOn 159 = .ok (.dup2, 1) := by decide +kernel
theorem dX8_goesOn_160 : decode cX8_goesOn 160 = .ok (.iaload, 1) := by decide +kernel
theorem dX8_goesOn_161 : decode cX8_goesOn 161 = .ok (.iconst 1, 1) := by decide +kernel
theorem dX8_goesOn_162 : decode cX8_goesOn 162 = .ok (.iadd, 1) := by decide +kernel
theorem dX8_goesOn_163 : decode cX8_goesOn 163 = .ok (.iastore, 1) := by decide +kernel
theorem dX8_goesOn_164 : decode cX8_goesOn 164 = .ok (.return_, 1) := by decide +kernel
theorem dX8_notes_0 : decode cX8_notes 0 = .ok (.aload_n 0, 1) := by decide +kernel
theorem dX8_notes_1 : decode cX8_notes 1 = .ok (.getfield 66, 3) := by decide +kernel
theorem dX8_notes_4 : decode cX8_notes 4 = .ok (.bipush 8, 2) := by decide +kernel
theorem dX8_notes_6 : decode cX8_notes 6 = .ok (.if_icmp .ne 39, 3) := by decide +kernel
theorem dX8_notes_9 : decode cX8_notes 9 = .ok (.bipush 14, 2) := by decide +kernel
theorem dX8_notes_11 : decode cX8_notes 11 = .ok (.istore_n 1, 1) := by decide +kernel
theorem dX8_notes_12 : decode cX8_notes 12 = .ok (.iload_n 1, 1) := by decide +kernel
theorem dX8_notes_13 : decode cX8_notes 13 = .ok (.bipush 112, 2) := by decide +kernel
theorem dX8_notes_15 : decode cX8_notes 15 = .ok (.if_icmp .ge 24, 3) := by decide +kernel
theorem dX8_notes_18 : decode cX8_notes 18 = .ok (.aload_n 0, 1) := by decide +kernel
theorem dX8_notes_19 : decode cX8_notes 19 = .ok (.getfield 28, 3) := by decide +kernel
theorem dX8_notes_22 : decode cX8_notes 22 = .ok (.iload_n 1, 1) := by decide +kernel
theorem dX8_notes_23 : decode cX8_notes 23 = .ok (.bipush 14, 2) := by decide +kernel
theorem dX8_notes_25 : decode cX8_notes 25 = .ok (.isub, 1) := by decide +kernel
theorem dX8_notes_26 : decode cX8_notes 26 = .ok (.aload_n 0, 1) := by decide +kernel
theorem dX8_notes_27 : decode cX8_notes 27 = .ok (.getfield 28, 3) := by decide +kernel
theorem dX8_notes_30 : decode cX8_notes 30 = .ok (.iload_n 1, 1) := by decide +kernel
theorem dX8_notes_31 : decode cX8_notes 31 = .ok (.iaload, 1) := by decide +kernel
theorem dX8_notes_32 : decode cX8_notes 32 = .ok (.iastore, 1) := by decide +kernel
theorem dX8_notes_33 : decode cX8_notes 33 = .ok (.iinc 1 1, 3) := by decide +kernel
theorem dX8_notes_36 : decode cX8_notes 36 = .ok (.goto (-24), 3) := by decide +kernel
theorem dX8_notes_39 : decode cX8_notes 39 = .ok (.aload_n 0, 1) := by decide +kernel
theorem dX8_notes_40 : decode cX8_notes 40 = .ok (.bipush 7, 2) := by decide +kernel
theorem dX8_notes_42 : decode cX8_notes 42 = .ok (.putfield 66, 3) := by decide +kernel
theorem dX8_notes_45 : decode cX8_notes 45 = .ok (.iconst 0, 1) := by decide +kernel
theorem dX8_notes_46 : decode cX8_notes 46 = .ok (.istore_n 1, 1) := by decide +kernel
theorem dX8_notes_47 : decode cX8_notes 47 = .ok (.iload_n 1, 1) := by decide +kernel
theorem dX8_notes_48 : decode cX8_notes 48 = .ok (.bipush 14, 2) := by decide +kernel
theorem dX8_notes_50 : decode cX8_notes 50 = .ok (.if_icmp .ge 29, 3) := by decide +kernel
theorem dX8_notes_53 : decode cX8_notes 53 = .ok (.aload_n 0, 1) := by decide +kernel
theorem dX8_notes_54 : decode cX8_notes 54 = .ok (.getfield 28, 3) := by decide +kernel
theorem dX8_notes_57 : decode cX8_notes 57 = .ok (.bipush 14, 2) := by decide +kernel
theorem dX8_notes_59 : decode cX8_notes 59 = .ok (.aload_n 0, 1) := by decide +kernel
theorem dX8_notes_60 : decode cX8_notes 60 = .ok (.getfield 66, 3) := by decide +kernel
theorem dX8_notes_63 : decode cX8_notes 63 = .ok (.imul, 1) := by decide +kernel
theorem dX8_notes_64 : decode cX8_notes 64 = .ok (.iload_n 1, 1) := by decide +kernel
theorem dX8_notes_65 : decode cX8_notes 65 = .ok (.iadd, 1) := by decide +kernel
theorem dX8_notes_66 : decode cX8_notes 66 = .ok (.aload_n 0, 1) := by decide +kernel
theorem dX8_notes_67 : decode cX8_notes 67 = .ok (.getfield 16, 3) := by decide +kernel
theorem dX8_notes_70 : decode cX8_notes 70 = .ok (.iload_n 1, 1) := by decide +kernel
theorem dX8_notes_71 : decode cX8_notes 71 = .ok (.iaload, 1) := by decide +kernel
theorem dX8_notes_72 : decode cX8_notes 72 = .ok (.iastore, 1) := by decide +kernel
theorem dX8_notes_73 : decode cX8_notes 73 = .ok (.iinc 1 1, 3) := by decide +kernel
theorem dX8_notes_76 : decode cX8_notes 76 = .ok (.goto (-29), 3) := by decide +kernel
theorem dX8_notes_79 : decode cX8_notes 79 = .ok (.aload_n 0, 1) := by decide +kernel
theorem dX8_notes_80 : decode cX8_notes 80 = .ok (.dup, 1) := by decide +kernel
theorem dX8_notes_81 : decode cX8_notes 81 = .ok (.getfield 66, 3) := by decide +kernel
theorem dX8_notes_84 : decode cX8_notes 84 = .ok (.iconst 1, 1) := by decide +kernel
theorem dX8_notes_85 : decode cX8_notes 85 = .ok (.iadd, 1) := by decide +kernel
theorem dX8_notes_86 : decode cX8_notes 86 = .ok (.putfield 66, 3) := by decide +kernel
theorem dX8_notes_89 : decode cX8_notes 89 = .ok (.return_, 1) := by decide +kernel
theorem dX8_go_0 : decode cX8_go 0 = .ok (.aload_n 0, 1) := by decide +kernel
theorem dX8_go_1 : decode cX8_go 1 = .ok (.getfield 16, 3) := by decide +kernel
theorem dX8_go_4 : decode cX8_go 4 = .ok (.iconst 3, 1) := by decide +kernel
theorem dX8_go_5 : decode cX8_go 5 = .ok (.iaload, 1) := by decide +kernel
theorem dX8_go_6 : decode cX8_go 6 = .ok (.bipush 12, 2) := by decide +kernel
theorem dX8_go_8 : decode cX8_go 8 = .ok (.if_icmp .ne 6, 3) := by decide +kernel
theorem dX8_go_11 : decode cX8_go 11 = .ok (.bipush (-2), 2) := by decide +kernel
theorem dX8_go_13 : decode cX8_go 13 = .ok (.ireturn, 1) := by decide +kernel
theorem dX8_go_14 : decode cX8_go 14 = .ok (.aload_n 0, 1) := by decide +kernel
theorem dX8_go_15 : decode cX8_go 15 = .ok (.invokevirtual 189, 3) := by decide +kernel
theorem dX8_go_18 : decode cX8_go 18 = .ok (.aload_n 0, 1) := by decide +kernel
theorem dX8_go_19 : decode cX8_go 19 = .ok (.getfield 16, 3) := by decide +kernel
theorem dX8_go_22 : decode cX8_go 22 = .ok (.iconst 4, 1) := by decide +kernel
theorem dX8_go_23 : decode cX8_go 23 = .ok (.iaload, 1) := by decide +kernel
theorem dX8_go_24 : decode cX8_go 24 = .ok (.istore_n 1, 1) := by decide +kernel
theorem dX8_go_25 : decode cX8_go 25 = .ok (.aload_n 0, 1) := by decide +kernel
theorem dX8_go_26 : decode cX8_go 26 = .ok (.bipush (-4), 2) := by decide +kernel
theorem dX8_go_28 : decode cX8_go 28 = .ok (.putfield 186, 3) := by decide +kernel
theorem dX8_go_31 : decode cX8_go 31 = .ok (.aload_n 0, 1) := by decide +kernel
theorem dX8_go_32 : decode cX8_go 32 = .ok (.invokevirtual 192, 3) := by decide +kernel
theorem dX8_go_35 : decode cX8_go 35 = .ok (.aload_n 0, 1) := by decide +kernel
theorem dX8_go_36 : decode cX8_go 36 = .ok (.getfield 16, 3) := by decide +kernel
theorem dX8_go_39 : decode cX8_go 39 = .ok (.iconst 4, 1) := by decide +kernel
theorem dX8_go_40 : decode cX8_go 40 = .ok (.iaload, 1) := by decide +kernel
theorem dX8_go_41 : decode cX8_go 41 = .ok (.iload_n 1, 1) := by decide +kernel
theorem dX8_go_42 : decode cX8_go 42 = .ok (.isub, 1) := by decide +kernel
theorem dX8_go_43 : decode cX8_go 43 = .ok (.ireturn, 1) := by decide +kernel
theorem dX8_undo_0 : decode cX8_undo 0 = .ok (.aload_n 0, 1) := by decide +kernel
theorem dX8_undo_1 : decode cX8_undo 1 = .ok (.getfield 66, 3) := by decide +kernel
theorem dX8_undo_4 : decode cX8_undo 4 = .ok (.ifCond .ne 6, 3) := by decide +kernel
theorem dX8_undo_7 : decode cX8_undo 7 = .ok (.bipush (-4), 2) := by decide +kernel
theorem dX8_undo_9 : decode cX8_undo 9 = .ok (.ireturn, 1) := by decide +kernel
theorem dX8_undo_10 : decode cX8_undo 10 = .ok (.aload_n 0, 1) := by decide +kernel
theorem dX8_undo_11 : decode cX8_undo 11 = .ok (.dup, 1) := by decide +kernel
theorem dX8_undo_12 : decode cX8_undo 12 = .ok (.getfield 66, 3) := by decide +kernel
theorem dX8_undo_15 : decode cX8_undo 15 = .ok (.iconst 1, 1) := by decide +kernel
theorem dX8_undo_16 : decode cX8_undo 16 = .ok (.isub, 1) := by decide +kernel
theorem dX8_undo_17 : decode cX8_undo 17 = .ok (.putfield 66, 3) := by decide +kernel
theorem dX8_undo_20 : decode cX8_undo 20 = .ok (.iconst 0, 1) := by decide +kernel
theorem dX8_undo_21 : decode cX8_undo 21 = .ok (.istore_n 1, 1) := by decide +kernel
theorem dX8_undo_22 : decode cX8_undo 22 = .ok (.iload_n 1, 1) := by decide +kernel
theorem dX8_undo_23 : decode cX8_undo 23 = .ok (.bipush 14, 2) := by decide +kernel
theorem dX8_undo_25 : decode cX8_undo 25 = .ok (.if_icmp .ge 29, 3) := by decide +kernel
theorem dX8_undo_28 : decode cX8_undo 28 = .ok (.aload_n 0, 1) := by decide +kernel
theorem dX8_undo_29 : decode cX8_undo 29 = .ok (.getfield 16, 3) := by decide +kernel
theorem dX8_undo_32 : decode cX8_undo 32 = .ok (.iload_n 1, 1) := by decide +kernel
theorem dX8_undo_33 : decode cX8_undo 33 = .ok (.aload_n 0, 1) := by decide +kernel
theorem dX8_undo_34 : decode cX8_undo 34 = .ok (.getfield 28, 3) := by decide +kernel
theorem dX8_undo_37 : decode cX8_undo 37 = .ok (.bipush 14, 2) := by decide +kernel
theorem dX8_undo_39 : decode cX8_undo 39 = .ok (.aload_n 0, 1) := by decide +kernel
theorem dX8_undo_40 : decode cX8_undo 40 = .ok (.getfield 66, 3) := by decide +kernel
theorem dX8_undo_43 : decode cX8_undo 43 = .ok (.imul, 1) := by decide +kernel
theorem dX8_undo_44 : decode cX8_undo 44 = .ok (.iload_n 1, 1) := by decide +kernel
theorem dX8_undo_45 : decode cX8_undo 45 = .ok (.iadd, 1) := by decide +kernel
theorem dX8_undo_46 : decode cX8_undo 46 = .ok (.iaload, 1) := by decide +kernel
theorem dX8_undo_47 : decode cX8_undo 47 = .ok (.iastore, 1) := by decide +kernel
theorem dX8_undo_48 : decode cX8_undo 48 = .ok (.iinc 1 1, 3) := by decide +kernel
theorem dX8_undo_51 : decode cX8_undo 51 = .ok (.goto (-29), 3) := by decide +kernel
theorem dX8_undo_54 : decode cX8_undo 54 = .ok (.aload_n 0, 1) := by decide +kernel
theorem dX8_undo_55 : decode cX8_undo 55 = .ok (.getfield 66, 3) := by decide +kernel
theorem dX8_undo_58 : decode cX8_undo 58 = .ok (.ireturn, 1) := by decide +kernel
theorem dX8_again_0 : decode cX8_again 0 = .ok (.aload_n 0, 1) := by decide +kernel
theorem dX8_again_1 : decode cX8_again 1 = .ok (.getfield 16, 3) := by decide +kernel
theorem dX8_again_4 : decode cX8_again 4 = .ok (.iconst 3, 1) := by decide +kernel
theorem dX8_again_5 : decode cX8_again 5 = .ok (.iaload, 1) := by decide +kernel
theorem dX8_again_6 : decode cX8_again 6 = .ok (.istore_n 1, 1) := by decide +kernel
theorem dX8_again_7 : decode cX8_again 7 = .ok (.aload_n 0, 1) := by decide +kernel
theorem dX8_again_8 : decode cX8_again 8 = .ok (.getfield 16, 3) := by decide +kernel
theorem dX8_again_11 : decode cX8_again 11 = .ok (.iconst 3, 1) := by decide +kernel
theorem dX8_again_12 : decode cX8_again 12 = .ok (.iconst 0, 1) := by decide +kernel
theorem dX8_again_13 : decode cX8_again 13 = .ok (.iastore, 1) := by decide +kernel
theorem dX8_again_14 : decode cX8_again 14 = .ok (.iload_n 1, 1) := by decide +kernel
theorem dX8_again_15 : decode cX8_again 15 = .ok (.ireturn, 1) := by decide +kernel
theorem dX8_glad_0 : decode cX8_glad 0 = .ok (.aload_n 0, 1) := by decide +kernel
theorem dX8_glad_1 : decode cX8_glad 1 = .ok (.iload_n 1, 1) := by decide +kernel
theorem dX8_glad_2 : decode cX8_glad 2 = .ok (.i2l, 1) := by decide +kernel
theorem dX8_glad_3 : decode cX8_glad 3 = .ok (.invokevirtual 89, 3) := by decide +kernel
theorem dX8_glad_6 : decode cX8_glad 6 = .ok (.ifCond .ne 5, 3) := by decide +kernel
theorem dX8_glad_9 : decode cX8_glad 9 = .ok (.iconst (-1), 1) := by decide +kernel
theorem dX8_glad_10 : decode cX8_glad 10 = .ok (.ireturn, 1) := by decide +kernel
theorem dX8_glad_11 : decode cX8_glad 11 = .ok (.aload_n 0, 1) := by decide +kernel
theorem dX8_glad_12 : decode cX8_glad 12 = .ok (.getfield 16, 3) := by decide +kernel
theorem dX8_glad_15 : decode cX8_glad 15 = .ok (.iconst 0, 1) := by decide +kernel
theorem dX8_glad_16 : decode cX8_glad 16 = .ok (.iaload, 1) := by decide +kernel
theorem dX8_glad_17 : decode cX8_glad 17 = .ok (.bipush (-4), 2) := by decide +kernel
theorem dX8_glad_19 : decode cX8_glad 19 = .ok (.if_icmp .eq 13, 3) := by decide +kernel
theorem dX8_glad_22 : decode cX8_glad 22 = .ok (.aload_n 0, 1) := by decide +kernel
theorem dX8_glad_23 : decode cX8_glad 23 = .ok (.getfield 16, 3) := by decide +kernel
theorem dX8_glad_26 : decode cX8_glad 26 = .ok (.iconst 0, 1) := by decide +kernel
theorem dX8_glad_27 : decode cX8_glad 27 = .ok (.iaload, 1) := by decide +kernel
theorem dX8_glad_28 : decode cX8_glad 28 = .ok (.iload_n 1, 1) := by decide +kernel
theorem dX8_glad_29 : decode cX8_glad 29 = .ok (.if_icmp .ne 6, 3) := by decide +kernel
theorem dX8_glad_32 : decode cX8_glad 32 = .ok (.bipush (-2), 2) := by decide +kernel
theorem dX8_glad_34 : decode cX8_glad 34 = .ok (.ireturn, 1) := by decide +kernel
theorem dX8_glad_35 : decode cX8_glad 35 = .ok (.aload_n 0, 1) := by decide +kernel
theorem dX8_glad_36 : decode cX8_glad 36 = .ok (.iload_n 1, 1) := by decide +kernel
theorem dX8_glad_37 : decode cX8_glad 37 = .ok (.invokevirtual 176, 3) := by decide +kernel
theorem dX8_glad_40 : decode cX8_glad 40 = .ok (.ifCond .eq 7, 3) := by decide +kernel
theorem dX8_glad_43 : decode cX8_glad 43 = .ok (.iconst 1, 1) := by decide +kernel
theorem dX8_glad_44 : decode cX8_glad 44 = .ok (.goto 4, 3) := by decide +kernel
theorem dX8_glad_47 : decode cX8_glad 47 = .ok (.iconst 0, 1) := by decide +kernel
theorem dX8_glad_48 : decode cX8_glad 48 = .ok (.ireturn, 1) := by decide +kernel
theorem dX8_asides_0 : decode cX8_asides 0 = .ok (.iconst 0, 1) := by decide +kernel
theorem dX8_asides_1 : decode cX8_asides 1 = .ok (.istore_n 1, 1) := by decide +kernel
theorem dX8_asides_2 : decode cX8_asides 2 = .ok (.iload_n 1, 1) := by decide +kernel
theorem dX8_asides_3 : decode cX8_asides 3 = .ok (.bipush 14, 2) := by decide +kernel
theorem dX8_asides_5 : decode cX8_asides 5 = .ok (.if_icmp .ge 21, 3) := by decide +kernel
theorem dX8_asides_8 : decode cX8_asides 8 = .ok (.aload_n 0, 1) := by decide +kernel
theorem dX8_asides_9 : decode cX8_asides 9 = .ok (.getfield 31, 3) := by decide +kernel
theorem dX8_asides_12 : decode cX8_asides 12 = .ok (.iload_n 1, 1) := by decide +kernel
theorem dX8_asides_13 : decode cX8_asides 13 = .ok (.aload_n 0, 1) := by decide +kernel
theorem dX8_asides_14 : decode cX8_asides 14 = .ok (.getfield 16, 3) := by decide +kernel
theorem dX8_asides_17 : decode cX8_asides 17 = .ok (.iload_n 1, 1) := by decide +kernel
theorem dX8_asides_18 : decode cX8_asides 18 = .ok (.iaload, 1) := by decide +kernel
theorem dX8_asides_19 : decode cX8_asides 19 = .ok (.iastore, 1) := by decide +kernel
theorem dX8_asides_20 : decode cX8_asides 20 = .ok (.iinc 1 1, 3) := by decide +kernel
theorem dX8_asides_23 : decode cX8_asides 23 = .ok (.goto (-21), 3) := by decide +kernel
theorem dX8_asides_26 : decode cX8_asides 26 = .ok (.return_, 1) := by decide +kernel
theorem dX8_backs_0 : decode cX8_backs 0 = .ok (.iconst 0, 1) := by decide +kernel
theorem dX8_backs_1 : decode cX8_backs 1 = .ok (.istore_n 1, 1) := by decide +kernel
theorem dX8_backs_2 : decode cX8_backs 2 = .ok (.iload_n 1, 1) := by decide +kernel
theorem dX8_backs_3 : decode cX8_backs 3 = .ok (.bipush 14, 2) := by decide +kernel
theorem dX8_backs_5 : decode cX8_backs 5 = .ok (.if_icmp .ge 21, 3) := by decide +kernel
theorem dX8_backs_8 : decode cX8_backs 8 = .ok (.aload_n 0, 1) := by decide +kernel
theorem dX8_backs_9 : decode cX8_backs 9 = .ok (.getfield 16, 3) := by decide +kernel
theorem dX8_backs_12 : decode cX8_backs 12 = .ok (.iload_n 1, 1) := by decide +kernel
theorem dX8_backs_13 : decode cX8_backs 13 = .ok (.aload_n 0, 1) := by decide +kernel
theorem dX8_backs_14 : decode cX8_backs 14 = .ok (.getfield 31, 3) := by decide +kernel
theorem dX8_backs_17 : decode cX8_backs 17 = .ok (.iload_n 1, 1) := by decide +kernel
theorem dX8_backs_18 : decode cX8_backs 18 = .ok (.iaload, 1) := by decide +kernel
theorem dX8_backs_19 : decode cX8_backs 19 = .ok (.iastore, 1) := by decide +kernel
theorem dX8_backs_20 : decode cX8_backs 20 = .ok (.iinc 1 1, 3) := by decide +kernel
theorem dX8_backs_23 : decode cX8_backs 23 = .ok (.goto (-21), 3) := by decide +kernel
theorem dX8_backs_26 : decode cX8_backs 26 = .ok (.aload_n 0, 1) := by decide +kernel
theorem dX8_backs_27 : decode cX8_backs 27 = .ok (.bipush (-4), 2) := by decide +kernel
theorem dX8_backs_29 : decode cX8_backs 29 = .ok (.putfield 186, 3) := by decide +kernel
theorem dX8_backs_32 : decode cX8_backs 32 = .ok (.aload_n 0, 1) := by decide +kernel
theorem dX8_backs_33 : decode cX8_backs 33 = .ok (.iconst 0, 1) := by decide +kernel
theorem dX8_backs_34 : decode cX8_backs 34 = .ok (.putfield 163, 3) := by decide +kernel
theorem dX8_backs_37 : decode cX8_backs 37 = .ok (.return_, 1) := by decide +kernel
theorem dX8_goesHome_0 : decode cX8_goesHome 0 = .ok (.aload_n 0, 1) := by decide +kernel
theorem dX8_goesHome_1 : decode cX8_goesHome 1 = .ok (.bipush (-4), 2) := by decide +kernel
theorem dX8_goesHome_3 : decode cX8_goesHome 3 = .ok (.putfield 179, 3) := by decide +kernel
theorem dX8_goesHome_6 : decode cX8_goesHome 6 = .ok (.aload_n 0, 1) := by decide +kernel
theorem dX8_goesHome_7 : decode cX8_goesHome 7 = .ok (.getfield 16, 3) := by decide +kernel
theorem dX8_goesHome_10 : decode cX8_goesHome 10 = .ok (.iconst 3, 1) := by decide +kernel
theorem dX8_goesHome_11 : decode cX8_goesHome 11 = .ok (.iaload, 1) := by decide +kernel
theorem dX8_goesHome_12 : decode cX8_goesHome 12 = .ok (.bipush 12, 2) := by decide +kernel
theorem dX8_goesHome_14 : decode cX8_goesHome 14 = .ok (.if_icmp .ge 10, 3) := by decide +kernel
theorem dX8_goesHome_17 : decode cX8_goesHome 17 = .ok (.aload_n 0, 1) := by decide +kernel
theorem dX8_goesHome_18 : decode cX8_goesHome 18 = .ok (.invokevirtual 192, 3) := by decide +kernel
theorem dX8_goesHome_21 : decode cX8_goesHome 21 = .ok (.goto (-15), 3) := by decide +kernel
theorem dX8_goesHome_24 : decode cX8_goesHome 24 = .ok (.return_, 1) := by decide +kernel
theorem dX8_home_0 : decode cX8_home 0 = .ok (.iload_n 1, 1) := by decide +kernel
theorem dX8_home_1 : decode cX8_home 1 = .ok (.i2l, 1) := by decide +kernel
theorem dX8_home_2 : decode cX8_home 2 = .ok (.lconst 0, 1) := by decide +kernel
theorem dX8_home_3 : decode cX8_home 3 = .ok (.ldc2_w 115, 3) := by decide +kernel
theorem dX8_home_6 : decode cX8_home 6 = .ok (.invokestatic 72, 3) := by decide +kernel
theorem dX8_home_9 : decode cX8_home 9 = .ok (.ifCond .ne 5, 3) := by decide +kernel
theorem dX8_home_12 : decode cX8_home 12 = .ok (.iconst (-1), 1) := by decide +kernel
theorem dX8_home_13 : decode cX8_home 13 = .ok (.ireturn, 1) := by decide +kernel
theorem dX8_home_14 : decode cX8_home 14 = .ok (.aload_n 0, 1) := by decide +kernel
theorem dX8_home_15 : decode cX8_home 15 = .ok (.invokevirtual 195, 3) := by decide +kernel
theorem dX8_home_18 : decode cX8_home 18 = .ok (.aload_n 0, 1) := by decide +kernel
theorem dX8_home_19 : decode cX8_home 19 = .ok (.bipush (-4), 2) := by decide +kernel
theorem dX8_home_21 : decode cX8_home 21 = .ok (.putfield 186, 3) := by decide +kernel
theorem dX8_home_24 : decode cX8_home 24 = .ok (.aload_n 0, 1) := by decide +kernel
theorem dX8_home_25 : decode cX8_home 25 = .ok (.invokevirtual 198, 3) := by decide +kernel
theorem dX8_home_28 : decode cX8_home 28 = .ok (.iload_n 1, 1) := by decide +kernel
theorem dX8_home_29 : decode cX8_home 29 = .ok (.ifCond .ne 12, 3) := by decide +kernel
theorem dX8_home_32 : decode cX8_home 32 = .ok (.aload_n 0, 1) := by decide +kernel
theorem dX8_home_33 : decode cX8_home 33 = .ok (.getfield 16, 3) := by decide +kernel
theorem dX8_home_36 : decode cX8_home 36 = .ok (.iconst 0, 1) := by decide +kernel
theorem dX8_home_37 : decode cX8_home 37 = .ok (.iaload, 1) := by decide +kernel
theorem dX8_home_38 : decode cX8_home 38 = .ok (.goto 28, 3) := by decide +kernel
theorem dX8_home_41 : decode cX8_home 41 = .ok (.iload_n 1, 1) := by decide +kernel
theorem dX8_home_42 : decode cX8_home 42 = .ok (.iconst 1, 1) := by decide +kernel
theorem dX8_home_43 : decode cX8_home 43 = .ok (.if_icmp .ne 19, 3) := by decide +kernel
theorem dX8_home_46 : decode cX8_home 46 = .ok (.aload_n 0, 1) := by decide +kernel
theorem dX8_home_47 : decode cX8_home 47 = .ok (.getfield 16, 3) := by decide +kernel
theorem dX8_home_50 : decode cX8_home 50 = .ok (.iconst 4, 1) := by decide +kernel
theorem dX8_home_51 : decode cX8_home 51 = .ok (.iaload, 1) := by decide +kernel
theorem dX8_home_52 : decode cX8_home 52 = .ok (.aload_n 0, 1) := by decide +kernel
theorem dX8_home_53 : decode cX8_home 53 = .ok (.getfield 31, 3) := by decide +kernel
theorem dX8_home_56 : decode cX8_home 56 = .ok (.iconst 4, 1) := by decide +kernel
theorem dX8_home_57 : decode cX8_home 57 = .ok (.iaload, 1) := by decide +kernel
theorem dX8_home_58 : decode cX8_home 58 = .ok (.isub, 1) := by decide +kernel
theorem dX8_home_59 : decode cX8_home 59 = .ok (.goto 7, 3) := by decide +kernel
theorem dX8_home_62 : decode cX8_home 62 = .ok (.aload_n 0, 1) := by decide +kernel
theorem dX8_home_63 : decode cX8_home 63 = .ok (.getfield 179, 3) := by decide +kernel
theorem dX8_home_66 : decode cX8_home 66 = .ok (.istore_n 2, 1) := by decide +kernel
theorem dX8_home_67 : decode cX8_home 67 = .ok (.aload_n 0, 1) := by decide +kernel
theorem dX8_home_68 : decode cX8_home 68 = .ok (.invokevirtual 201, 3) := by decide +kernel
theorem dX8_home_71 : decode cX8_home 71 = .ok (.iload_n 2, 1) := by decide +kernel
theorem dX8_home_72 : decode cX8_home 72 = .ok (.ireturn, 1) := by decide +kernel
theorem dX8_lost_0 : decode cX8_lost 0 = .ok (.aload_n 0, 1) := by decide +kernel
theorem dX8_lost_1 : decode cX8_lost 1 = .ok (.invokevirtual 195, 3) := by decide +kernel
theorem dX8_lost_4 : decode cX8_lost 4 = .ok (.aload_n 0, 1) := by decide +kernel
theorem dX8_lost_5 : decode cX8_lost 5 = .ok (.bipush (-4), 2) := by decide +kernel
theorem dX8_lost_7 : decode cX8_lost 7 = .ok (.putfield 186, 3) := by decide +kernel
theorem dX8_lost_10 : decode cX8_lost 10 = .ok (.aload_n 0, 1) := by decide +kernel
theorem dX8_lost_11 : decode cX8_lost 11 = .ok (.invokevirtual 198, 3) := by decide +kernel
theorem dX8_lost_14 : decode cX8_lost 14 = .ok (.aload_n 0, 1) := by decide +kernel
theorem dX8_lost_15 : decode cX8_lost 15 = .ok (.aload_n 0, 1) := by decide +kernel
theorem dX8_lost_16 : decode cX8_lost 16 = .ok (.getfield 31, 3) := by decide +kernel
theorem dX8_lost_19 : decode cX8_lost 19 = .ok (.iconst 0, 1) := by decide +kernel
theorem dX8_lost_20 : decode cX8_lost 20 = .ok (.iaload, 1) := by decide +kernel
theorem dX8_lost_21 : decode cX8_lost 21 = .ok (.invokevirtual 173, 3) := by decide +kernel
theorem dX8_lost_24 : decode cX8_lost 24 = .ok (.aload_n 0, 1) := by decide +kernel
theorem dX8_lost_25 : decode cX8_lost 25 = .ok (.aload_n 0, 1) := by decide +kernel
theorem dX8_lost_26 : decode cX8_lost 26 = .ok (.getfield 16, 3) := by decide +kernel
theorem dX8_lost_29 : decode cX8_lost 29 = .ok (.iconst 0, 1) := by decide +kernel
theorem dX8_lost_30 : decode cX8_lost 30 = .ok (.iaload, 1) := by decide +kernel
theorem dX8_lost_31 : decode cX8_lost 31 = .ok (.invokevirtual 173, 3) := by decide +kernel
theorem dX8_lost_34 : decode cX8_lost 34 = .ok (.isub, 1) := by decide +kernel
theorem dX8_lost_35 : decode cX8_lost 35 = .ok (.istore_n 1, 1) := by decide +kernel
theorem dX8_lost_36 : decode cX8_lost 36 = .ok (.aload_n 0, 1) := by decide +kernel
theorem dX8_lost_37 : decode cX8_lost 37 = .ok (.invokevirtual 201, 3) := by decide +kernel
theorem dX8_lost_40 : decode cX8_lost 40 = .ok (.iload_n 1, 1) := by decide +kernel
theorem dX8_lost_41 : decode cX8_lost 41 = .ok (.ireturn, 1) := by decide +kernel
theorem dX8_lurk_0 : decode cX8_lurk 0 = .ok (.aload_n 0, 1) := by decide +kernel
theorem dX8_lurk_1 : decode cX8_lurk 1 = .ok (.iload_n 1, 1) := by decide +kernel
theorem dX8_lurk_2 : decode cX8_lurk 2 = .ok (.i2l, 1) := by decide +kernel
theorem dX8_lurk_3 : decode cX8_lurk 3 = .ok (.invokevirtual 89, 3) := by decide +kernel
theorem dX8_lurk_6 : decode cX8_lurk 6 = .ok (.ifCond .eq 13, 3) := by decide +kernel
theorem dX8_lurk_9 : decode cX8_lurk 9 = .ok (.iload_n 2, 1) := by decide +kernel
theorem dX8_lurk_10 : decode cX8_lurk 10 = .ok (.i2l, 1) := by decide +kernel
theorem dX8_lurk_11 : decode cX8_lurk 11 = .ok (.lconst 0, 1) := by decide +kernel
theorem dX8_lurk_12 : decode cX8_lurk 12 = .ok (.lconst 1, 1) := by decide +kernel
theorem dX8_lurk_13 : decode cX8_lurk 13 = .ok (.invokestatic 72, 3) := by decide +kernel
theorem dX8_lurk_16 : decode cX8_lurk 16 = .ok (.ifCond .ne 5, 3) := by decide +kernel
theorem dX8_lurk_19 : decode cX8_lurk 19 = .ok (.iconst (-1), 1) := by decide +kernel
theorem dX8_lurk_20 : decode cX8_lurk 20 = .ok (.ireturn, 1) := by decide +kernel
theorem dX8_lurk_21 : decode cX8_lurk 21 = .ok (.aload_n 0, 1) := by decide +kernel
theorem dX8_lurk_22 : decode cX8_lurk 22 = .ok (.iload_n 1, 1) := by decide +kernel
theorem dX8_lurk_23 : decode cX8_lurk 23 = .ok (.invokevirtual 95, 3) := by decide +kernel
theorem dX8_lurk_26 : decode cX8_lurk 26 = .ok (.bipush (-4), 2) := by decide +kernel
theorem dX8_lurk_28 : decode cX8_lurk 28 = .ok (.if_icmp .ne 6, 3) := by decide +kernel
theorem dX8_lurk_31 : decode cX8_lurk 31 = .ok (.bipush (-2), 2) := by decide +kernel
theorem dX8_lurk_33 : decode cX8_lurk 33 = .ok (.ireturn, 1) := by decide +kernel
theorem dX8_lurk_34 : decode cX8_lurk 34 = .ok (.aload_n 0, 1) := by decide +kernel
theorem dX8_lurk_35 : decode cX8_lurk 35 = .ok (.invokevirtual 195, 3) := by decide +kernel
theorem dX8_lurk_38 : decode cX8_lurk 38 = .ok (.bipush (-4), 2) := by decide +kernel
theorem dX8_lurk_40 : decode cX8_lurk 40 = .ok (.istore_n 3, 1) := by decide +kernel
theorem dX8_lurk_41 : decode cX8_lurk 41 = .ok (.bipush (-4), 2) := by decide +kernel
theorem dX8_lurk_43 : decode cX8_lurk 43 = .ok (.istore 4, 2) := by decide +kernel
theorem dX8_lurk_45 : decode cX8_lurk 45 = .ok (.iconst 0, 1) := by decide +kernel
theorem dX8_lurk_46 : decode cX8_lurk 46 = .ok (.istore 5, 2) := by decide +kernel
theorem dX8_lurk_48 : decode cX8_lurk 48 = .ok (.iload 5, 2) := by decide +kernel
theorem dX8_lurk_50 : decode cX8_lurk 50 = .ok (.aload_n 0, 1) := by decide +kernel
theorem dX8_lurk_51 : decode cX8_lurk 51 = .ok (.getfield 69, 3) := by decide +kernel
theorem dX8_lurk_54 : decode cX8_lurk 54 = .ok (.if_icmp .ge 150, 3) := by decide +kernel
theorem dX8_lurk_57 : decode cX8_lurk 57 = .ok (.aload_n 0, 1) := by decide +kernel
theorem dX8_lurk_58 : decode cX8_lurk 58 = .ok (.iload 5, 2) := by decide +kernel
theorem dX8_lurk_60 : decode cX8_lurk 60 = .ok (.invokevirtual 95, 3) := by decide +kernel
theorem dX8_lurk_63 : decode cX8_lurk 63 = .ok (.bipush (-4), 2) := by decide +kernel
theorem dX8_lurk_65 : decode cX8_lurk 65 = .ok (.if_icmp .ne 27, 3) := by decide +kernel
theorem dX8_lurk_68 : decode cX8_lurk 68 = .ok (.iload_n 3, 1) := by decide +kernel
theorem dX8_lurk_69 : decode cX8_lurk 69 = .ok (.bipush (-4), 2) := by decide +kernel
theorem dX8_lurk_71 : decode cX8_lurk 71 = .ok (.if_icmp .eq 17, 3) := by decide +kernel
theorem dX8_lurk_74 : decode cX8_lurk 74 = .ok (.aload_n 0, 1) := by decide +kernel
theorem dX8_lurk_75 : decode cX8_lurk 75 = .ok (.iload 5, 2) := by decide +kernel
theorem dX8_lurk_77 : decode cX8_lurk 77 = .ok (.invokevirtual 173, 3) := by decide +kernel
theorem dX8_lurk_80 : decode cX8_lurk 80 = .ok (.aload_n 0, 1) := by decide +kernel
theorem dX8_lurk_81 : decode cX8_lurk 81 = .ok (.iload_n 3, 1) := by decide +kernel
theorem dX8_lurk_82 : decode cX8_lurk 82 = .ok (.invokevirtual 173, 3) := by decide +kernel
theorem dX8_lurk_85 : decode cX8_lurk 85 = .ok (.if_icmp .ge 7, 3) := by decide +kernel
theorem dX8_lurk_88 : decode cX8_lurk 88 = .ok (.iconst 1, 1) := by decide +kernel
theorem dX8_lurk_89 : decode cX8_lurk 89 = .ok (.goto 4, 3) := by decide +kernel
theorem dX8_lurk_92 : decode cX8_lurk 92 = .ok (.iconst 0, 1) := by decide +kernel
theorem dX8_lurk_93 : decode cX8_lurk 93 = .ok (.istore 6, 2) := by decide +kernel
theorem dX8_lurk_95 : decode cX8_lurk 95 = .ok (.bipush (-4), 2) := by decide +kernel
theorem dX8_lurk_97 : decode cX8_lurk 97 = .ok (.istore 7, 2) := by decide +kernel
theorem dX8_lurk_99 : decode cX8_lurk 99 = .ok (.bipush 11, 2) := by decide +kernel
theorem dX8_lurk_101 : decode cX8_lurk 101 = .ok (.istore 8, 2) := by decide +kernel
theorem dX8_lurk_103 : decode cX8_lurk 103 = .ok (.iload 8, 2) := by decide +kernel
theorem dX8_lurk_105 : decode cX8_lurk 105 = .ok (.aload_n 0, 1) := by decide +kernel
theorem dX8_lurk_106 : decode cX8_lurk 106 = .ok (.getfield 31, 3) := by decide +kernel
theorem dX8_lurk_109 : decode cX8_lurk 109 = .ok (.iconst 3, 1) := by decide +kernel
theorem dX8_lurk_110 : decode cX8_lurk 110 = .ok (.iaload, 1) := by decide +kernel
theorem dX8_lurk_111 : decode cX8_lurk 111 = .ok (.if_icmp .lt 57, 3) := by decide +kernel
theorem dX8_lurk_114 : decode cX8_lurk 114 = .ok (.iload 6, 2) := by decide +kernel
theorem dX8_lurk_116 : decode cX8_lurk 116 = .ok (.ifCond .eq 52, 3) := by decide +kernel
theorem dX8_lurk_119 : decode cX8_lurk 119 = .ok (.aload_n 0, 1) := by decide +kernel
theorem dX8_lurk_120 : decode cX8_lurk 120 = .ok (.iload 8, 2) := by decide +kernel
theorem dX8_lurk_122 : decode cX8_lurk 122 = .ok (.putfield 186, 3) := by decide +kernel
theorem dX8_lurk_125 : decode cX8_lurk 125 = .ok (.aload_n 0, 1) := by decide +kernel
theorem dX8_lurk_126 : decode cX8_lurk 126 = .ok (.getfield 16, 3) := by decide +kernel
theorem dX8_lurk_129 : decode cX8_lurk 129 = .ok (.bipush 13, 2) := by decide +kernel
theorem dX8_lurk_131 : decode cX8_lurk 131 = .ok (.iload 5, 2) := by decide +kernel
theorem dX8_lurk_133 : decode cX8_lurk 133 = .ok (.iastore, 1) := by decide +kernel
theorem dX8_lurk_134 : decode cX8_lurk 134 = .ok (.aload_n 0, 1) := by decide +kernel
theorem dX8_lurk_135 : decode cX8_lurk 135 = .ok (.invokevirtual 198, 3) := by decide +kernel
theorem dX8_lurk_138 : decode cX8_lurk 138 = .ok (.aload_n 0, 1) := by decide +kernel
theorem dX8_lurk_139 : decode cX8_lurk 139 = .ok (.getfield 16, 3) := by decide +kernel
theorem dX8_lurk_142 : decode cX8_lurk 142 = .ok (.bipush 13, 2) := by decide +kernel
theorem dX8_lurk_144 : decode cX8_lurk 144 = .ok (.iaload, 1) := by decide +kernel
theorem dX8_lurk_145 : decode cX8_lurk 145 = .ok (.iload_n 1, 1) := by decide +kernel
theorem dX8_lurk_146 : decode cX8_lurk 146 = .ok (.if_icmp .ne 8, 3) := by decide +kernel
theorem dX8_lurk_149 : decode cX8_lurk 149 = .ok (.iload 8, 2) := by decide +kernel
theorem dX8_lurk_151 : decode cX8_lurk 151 = .ok (.goto 5, 3) := by decide +kernel
theorem dX8_lurk_154 : decode cX8_lurk 154 = .ok (.iload 7, 2) := by decide +kernel
theorem dX8_lurk_156 : decode cX8_lurk 156 = .ok (.istore 7, 2) := by decide +kernel
theorem dX8_lurk_158 : decode cX8_lurk 158 = .ok (.aload_n 0, 1) := by decide +kernel
theorem dX8_lurk_159 : decode cX8_lurk 159 = .ok (.invokevirtual 201, 3) := by decide +kernel
theorem dX8_lurk_162 : decode cX8_lurk 162 = .ok (.iinc 8 (-1), 3) := by decide +kernel
theorem dX8_lurk_165 : decode cX8_lurk 165 = .ok (.goto (-62), 3) := by decide +kernel
theorem dX8_lurk_168 : decode cX8_lurk 168 = .ok (.iload 7, 2) := by decide +kernel
theorem dX8_lurk_170 : decode cX8_lurk 170 = .ok (.bipush (-4), 2) := by decide +kernel
theorem dX8_lurk_172 : decode cX8_lurk 172 = .ok (.if_icmp .ne 7, 3) := by decide +kernel
theorem dX8_lurk_175 : decode cX8_lurk 175 = .ok (.iload_n 3, 1) := by decide +kernel
theorem dX8_lurk_176 : decode cX8_lurk 176 = .ok (.goto 5, 3) := by decide +kernel
theorem dX8_lurk_179 : decode cX8_lurk 179 = .ok (.iload 5, 2) := by decide +kernel
theorem dX8_lurk_181 : decode cX8_lurk 181 = .ok (.istore_n 3, 1) := by decide +kernel
theorem dX8_lurk_182 : decode cX8_lurk 182 = .ok (.iload 7, 2) := by decide +kernel
theorem dX8_lurk_184 : decode cX8_lurk 184 = .ok (.bipush (-4), 2) := by decide +kernel
theorem dX8_lurk_186 : decode cX8_lurk 186 = .ok (.if_icmp .ne 8, 3) := by decide +kernel
theorem dX8_lurk_189 : decode cX8_lurk 189 = .ok (.iload 4, 2) := by decide +kernel
theorem dX8_lurk_191 : decode cX8_lurk 191 = .ok (.goto 5, 3) := by decide +kernel
theorem dX8_lurk_194 : decode cX8_lurk 194 = .ok (.iload 7, 2) := by decide +kernel
theorem dX8_lurk_196 : decode cX8_lurk 196 = .ok (.istore 4, 2) := by decide +kernel
theorem dX8_lurk_198 : decode cX8_lurk 198 = .ok (.iinc 5 1, 3) := by decide +kernel
theorem dX8_lurk_201 : decode cX8_lurk 201 = .ok (.goto (-153), 3) := by decide +kernel
theorem dX8_lurk_204 : decode cX8_lurk 204 = .ok (.iload_n 2, 1) := by decide +kernel
theorem dX8_lurk_205 : decode cX8_lurk 205 = .ok (.ifCond .ne 7, 3) := by decide +kernel
theorem dX8_lurk_208 : decode cX8_lurk 208 = .ok (.iload_n 3, 1) := by decide +kernel
theorem dX8_lurk_209 : decode cX8_lurk 209 = .ok (.goto 5, 3) := by decide +kernel
theorem dX8_lurk_212 : decode cX8_lurk 212 = .ok (.iload 4, 2) := by decide +kernel
theorem dX8_lurk_214 : decode cX8_lurk 214 = .ok (.ireturn, 1) := by decide +kernel
theorem dX8_stand_0 : decode cX8_stand 0 = .ok (.aload_n 0, 1) := by decide +kernel
theorem dX8_stand_1 : decode cX8_stand 1 = .ok (.iload_n 1, 1) := by decide +kernel
theorem dX8_stand_2 : decode cX8_stand 2 = .ok (.invokevirtual 111, 3) := by decide +kernel
theorem dX8_stand_5 : decode cX8_stand 5 = .ok (.ifCond .eq 13, 3) := by decide +kernel
theorem dX8_stand_8 : decode cX8_stand 8 = .ok (.iload_n 2, 1) := by decide +kernel
theorem dX8_stand_9 : decode cX8_stand 9 = .ok (.i2l, 1) := by decide +kernel
theorem dX8_stand_10 : decode cX8_stand 10 = .ok (.lconst 0, 1) := by decide +kernel
theorem dX8_stand_11 : decode cX8_stand 11 = .ok (.lconst 1, 1) := by decide +kernel
theorem dX8_stand_12 : decode cX8_stand 12 = .ok (.invokestatic 72, 3) := by decide +kernel
theorem dX8_stand_15 : decode cX8_stand 15 = .ok (.ifCond .ne 5, 3) := by decide +kernel
theorem dX8_stand_18 : decode cX8_stand 18 = .ok (.iconst (-1), 1) := by decide +kernel
theorem dX8_stand_19 : decode cX8_stand 19 = .ok (.ireturn, 1) := by decide +kernel
theorem dX8_stand_20 : decode cX8_stand 20 = .ok (.aload_n 0, 1) := by decide +kernel
theorem dX8_stand_21 : decode cX8_stand 21 = .ok (.getfield 16, 3) := by decide +kernel
theorem dX8_stand_24 : decode cX8_stand 24 = .ok (.iconst 3, 1) := by decide +kernel
theorem dX8_stand_25 : decode cX8_stand 25 = .ok (.iaload, 1) := by decide +kernel
theorem dX8_stand_26 : decode cX8_stand 26 = .ok (.bipush 12, 2) := by decide +kernel
theorem dX8_stand_28 : decode cX8_stand 28 = .ok (.if_icmp .ne 6, 3) := by decide +kernel
theorem dX8_stand_31 : decode cX8_stand 31 = .ok (.bipush (-2), 2) := by decide +kernel
theorem dX8_stand_33 : decode cX8_stand 33 = .ok (.ireturn, 1) := by decide +kernel
theorem dX8_stand_34 : decode cX8_stand 34 = .ok (.aload_n 0, 1) := by decide +kernel
theorem dX8_stand_35 : decode cX8_stand 35 = .ok (.invokevirtual 195, 3) := by decide +kernel
theorem dX8_stand_38 : decode cX8_stand 38 = .ok (.aload_n 0, 1) := by decide +kernel
theorem dX8_stand_39 : decode cX8_stand 39 = .ok (.bipush (-4), 2) := by decide +kernel
theorem dX8_stand_41 : decode cX8_stand 41 = .ok (.putfield 186, 3) := by decide +kernel
theorem dX8_stand_44 : decode cX8_stand 44 = .ok (.aload_n 0, 1) := by decide +kernel
theorem dX8_stand_45 : decode cX8_stand 45 = .ok (.getfield 13, 3) := by decide +kernel
theorem dX8_stand_48 : decode cX8_stand 48 = .ok (.iconst 2, 1) := by decide +kernel
theorem dX8_stand_49 : decode cX8_stand 49 = .ok (.iload_n 1, 1) := by decide +kernel
theorem dX8_stand_50 : decode cX8_stand 50 = .ok (.imul, 1) := by decide +kernel
theorem dX8_stand_51 : decode cX8_stand 51 = .ok (.iaload, 1) := by decide +kernel
theorem dX8_stand_52 : decode cX8_stand 52 = .ok (.istore_n 3, 1) := by decide +kernel
theorem dX8_stand_53 : decode cX8_stand 53 = .ok (.bipush (-4), 2) := by decide +kernel
theorem dX8_stand_55 : decode cX8_stand 55 = .ok (.istore 4, 2) := by decide +kernel
theorem dX8_stand_57 : decode cX8_stand 57 = .ok (.iconst (-1), 1) := by decide +kernel
theorem dX8_stand_58 : decode cX8_stand 58 = .ok (.istore 5, 2) := by decide +kernel
theorem dX8_stand_60 : decode cX8_stand 60 = .ok (.aload_n 0, 1) := by decide +kernel
theorem dX8_stand_61 : decode cX8_stand 61 = .ok (.getfield 31, 3) := by decide +kernel
theorem dX8_stand_64 : decode cX8_stand 64 = .ok (.iconst 3, 1) := by decide +kernel
theorem dX8_stand_65 : decode cX8_stand 65 = .ok (.iaload, 1) := by decide +kernel
theorem dX8_stand_66 : decode cX8_stand 66 = .ok (.istore 6, 2) := by decide +kernel
theorem dX8_stand_68 : decode cX8_stand 68 = .ok (.iload 6, 2) := by decide +kernel
theorem dX8_stand_70 : decode cX8_stand 70 = .ok (.bipush 12, 2) := by decide +kernel
theorem dX8_stand_72 : decode cX8_stand 72 = .ok (.if_icmp .ge 73, 3) := by decide +kernel
theorem dX8_stand_75 : decode cX8_stand 75 = .ok (.aload_n 0, 1) := by decide +kernel
theorem dX8_stand_76 : decode cX8_stand 76 = .ok (.getfield 13, 3) := by decide +kernel
theorem dX8_stand_79 : decode cX8_stand 79 = .ok (.iconst 2, 1) := by decide +kernel
theorem dX8_stand_80 : decode cX8_stand 80 = .ok (.iload_n 1, 1) := by decide +kernel
theorem dX8_stand_81 : decode cX8_stand 81 = .ok (.imul, 1) := by decide +kernel
theorem dX8_stand_82 : decode cX8_stand 82 = .ok (.iload 6, 2) := by decide +kernel
theorem dX8_stand_84 : decode cX8_stand 84 = .ok (.iastore, 1) := by decide +kernel
theorem dX8_stand_85 : decode cX8_stand 85 = .ok (.aload_n 0, 1) := by decide +kernel
theorem dX8_stand_86 : decode cX8_stand 86 = .ok (.invokevirtual 198, 3) := by decide +kernel
theorem dX8_stand_89 : decode cX8_stand 89 = .ok (.aload_n 0, 1) := by decide +kernel
theorem dX8_stand_90 : decode cX8_stand 90 = .ok (.aload_n 0, 1) := by decide +kernel
theorem dX8_stand_91 : decode cX8_stand 91 = .ok (.getfield 16, 3) := by decide +kernel
theorem dX8_stand_94 : decode cX8_stand 94 = .ok (.iconst 5, 1) := by decide +kernel
theorem dX8_stand_95 : decode cX8_stand 95 = .ok (.iload_n 1, 1) := by decide +kernel
theorem dX8_stand_96 : decode cX8_stand 96 = .ok (.iadd, 1) := by decide +kernel
theorem dX8_stand_97 : decode cX8_stand 97 = .ok (.iaload, 1) := by decide +kernel
theorem dX8_stand_98 : decode cX8_stand 98 = .ok (.invokevirtual 173, 3) := by decide +kernel
theorem dX8_stand_101 : decode cX8_stand 101 = .ok (.istore 7, 2) := by decide +kernel
theorem dX8_stand_103 : decode cX8_stand 103 = .ok (.iload 7, 2) := by decide +kernel
theorem dX8_stand_105 : decode cX8_stand 105 = .ok (.iload 5, 2) := by decide +kernel
theorem dX8_stand_107 : decode cX8_stand 107 = .ok (.if_icmp .le 8, 3) := by decide +kernel
theorem dX8_stand_110 : decode cX8_stand 110 = .ok (.iload 6, 2) := by decide +kernel
theorem dX8_stand_112 : decode cX8_stand 112 = .ok (.goto 5, 3) := by decide +kernel
theorem dX8_stand_115 : decode cX8_stand 115 = .ok (.iload 4, 2) := by decide +kernel
theorem dX8_stand_117 : decode cX8_stand 117 = .ok (.istore 4, 2) := by decide +kernel
theorem dX8_stand_119 : decode cX8_stand 119 = .ok (.iload 7, 2) := by decide +kernel
theorem dX8_stand_121 : decode cX8_stand 121 = .ok (.iload 5, 2) := by decide +kernel
theorem dX8_stand_123 : decode cX8_stand 123 = .ok (.if_icmp .le 8, 3) := by decide +kernel
theorem dX8_stand_126 : decode cX8_stand 126 = .ok (.iload 7, 2) := by decide +kernel
theorem dX8_stand_128 : decode cX8_stand 128 = .ok (.goto 5, 3) := by decide +kernel
theorem dX8_stand_131 : decode cX8_stand 131 = .ok (.iload 5, 2) := by decide +kernel
theorem dX8_stand_133 : decode cX8_stand 133 = .ok (.istore 5, 2) := by decide +kernel
theorem dX8_stand_135 : decode cX8_stand 135 = .ok (.aload_n 0, 1) := by decide +kernel
theorem dX8_stand_136 : decode cX8_stand 136 = .ok (.invokevirtual 201, 3) := by decide +kernel
theorem dX8_stand_139 : decode cX8_stand 139 = .ok (.iinc 6 1, 3) := by decide +kernel
theorem dX8_stand_142 : decode cX8_stand 142 = .ok (.goto (-74), 3) := by decide +kernel
theorem dX8_stand_145 : decode cX8_stand 145 = .ok (.aload_n 0, 1) := by decide +kernel
theorem dX8_stand_146 : decode cX8_stand 146 = .ok (.getfield 13, 3) := by decide +kernel
theorem dX8_stand_149 : decode cX8_stand 149 = .ok (.iconst 2, 1) := by decide +kernel
theorem dX8_stand_150 : decode cX8_stand 150 = .ok (.iload_n 1, 1) := by decide +kernel
theorem dX8_stand_151 : decode cX8_stand 151 = .ok (.imul, 1) := by decide +kernel
theorem dX8_stand_152 : decode cX8_stand 152 = .ok (.iload_n 3, 1) := by decide +kernel
theorem dX8_stand_153 : decode cX8_stand 153 = .ok (.iastore, 1) := by decide +kernel
theorem dX8_stand_154 : decode cX8_stand 154 = .ok (.iload_n 2, 1) := by decide +kernel
theorem dX8_stand_155 : decode cX8_stand 155 = .ok (.ifCond .ne 8, 3) := by decide +kernel
theorem dX8_stand_158 : decode cX8_stand 158 = .ok (.iload 4, 2) := by decide +kernel
theorem dX8_stand_160 : decode cX8_stand 160 = .ok (.goto 5, 3) := by decide +kernel
theorem dX8_stand_163 : decode cX8_stand 163 = .ok (.iload 5, 2) := by decide +kernel
theorem dX8_stand_165 : decode cX8_stand 165 = .ok (.ireturn, 1) := by decide +kernel
theorem dX8_sister_0 : decode cX8_sister 0 = .ok (.aload_n 0, 1) := by decide +kernel
theorem dX8_sister_1 : decode cX8_sister 1 = .ok (.iload_n 1, 1) := by decide +kernel
theorem dX8_sister_2 : decode cX8_sister 2 = .ok (.i2l, 1) := by decide +kernel
theorem dX8_sister_3 : decode cX8_sister 3 = .ok (.invokevirtual 89, 3) := by decide +kernel
theorem dX8_sister_6 : decode cX8_sister 6 = .ok (.ifCond .eq 13, 3) := by decide +kernel
theorem dX8_sister_9 : decode cX8_sister 9 = .ok (.iload_n 2, 1) := by decide +kernel
theorem dX8_sister_10 : decode cX8_sister 10 = .ok (.i2l, 1) := by decide +kernel
theorem dX8_sister_11 : decode cX8_sister 11 = .ok (.lconst 0, 1) := by decide +kernel
theorem dX8_sister_12 : decode cX8_sister 12 = .ok (.lconst 1, 1) := by decide +kernel
theorem dX8_sister_13 : decode cX8_sister 13 = .ok (.invokestatic 72, 3) := by decide +kernel
theorem dX8_sister_16 : decode cX8_sister 16 = .ok (.ifCond .ne 5, 3) := by decide +kernel
theorem dX8_sister_19 : decode cX8_sister 19 = .ok (.iconst (-1), 1) := by decide +kernel
theorem dX8_sister_20 : decode cX8_sister 20 = .ok (.ireturn, 1) := by decide +kernel
theorem dX8_sister_21 : decode cX8_sister 21 = .ok (.aload_n 0, 1) := by decide +kernel
theorem dX8_sister_22 : decode cX8_sister 22 = .ok (.invokevirtual 195, 3) := by decide +kernel
theorem dX8_sister_25 : decode cX8_sister 25 = .ok (.aload_n 0, 1) := by decide +kernel
theorem dX8_sister_26 : decode cX8_sister 26 = .ok (.bipush (-4), 2) := by decide +kernel
theorem dX8_sister_28 : decode cX8_sister 28 = .ok (.putfield 186, 3) := by decide +kernel
theorem dX8_sister_31 : decode cX8_sister 31 = .ok (.aload_n 0, 1) := by decide +kernel
theorem dX8_sister_32 : decode cX8_sister 32 = .ok (.invokevirtual 198, 3) := by decide +kernel
theorem dX8_sister_35 : decode cX8_sister 35 = .ok (.aload_n 0, 1) := by decide +kernel
theorem dX8_sister_36 : decode cX8_sister 36 = .ok (.iload_n 1, 1) := by decide +kernel
theorem dX8_sister_37 : decode cX8_sister 37 = .ok (.invokevirtual 95, 3) := by decide +kernel
theorem dX8_sister_40 : decode cX8_sister 40 = .ok (.bipush (-4), 2) := by decide +kernel
theorem dX8_sister_42 : decode cX8_sister 42 = .ok (.if_icmp .ne 12, 3) := by decide +kernel
theorem dX8_sister_45 : decode cX8_sister 45 = .ok (.aload_n 0, 1) := by decide +kernel
theorem dX8_sister_46 : decode cX8_sister 46 = .ok (.iload_n 1, 1) := by decide +kernel
theorem dX8_sister_47 : decode cX8_sister 47 = .ok (.iload_n 2, 1) := by decide +kernel
theorem dX8_sister_48 : decode cX8_sister 48 = .ok (.invokevirtual 204, 3) := by decide +kernel
theorem dX8_sister_51 : decode cX8_sister 51 = .ok (.goto 5, 3) := by decide +kernel
theorem dX8_sister_54 : decode cX8_sister 54 = .ok (.bipush (-2), 2) := by decide +kernel
theorem dX8_sister_56 : decode cX8_sister 56 = .ok (.istore_n 3, 1) := by decide +kernel
theorem dX8_sister_57 : decode cX8_sister 57 = .ok (.aload_n 0, 1) := by decide +kernel
theorem dX8_sister_58 : decode cX8_sister 58 = .ok (.invokevirtual 201, 3) := by decide +kernel
theorem dX8_sister_61 : decode cX8_sister 61 = .ok (.iload_n 3, 1) := by decide +kernel
theorem dX8_sister_62 : decode cX8_sister 62 = .ok (.ireturn, 1) := by decide +kernel
theorem dX8_sisters_0 : decode cX8_sisters 0 = .ok (.iconst 0, 1) := by decide +kernel
theorem dX8_sisters_1 : decode cX8_sisters 1 = .ok (.istore_n 3, 1) := by decide +kernel
theorem dX8_sisters_2 : decode cX8_sisters 2 = .ok (.bipush 11, 2) := by decide +kernel
theorem dX8_sisters_4 : decode cX8_sisters 4 = .ok (.istore 4, 2) := by decide +kernel
theorem dX8_sisters_6 : decode cX8_sisters 6 = .ok (.iload 4, 2) := by decide +kernel
theorem dX8_sisters_8 : decode cX8_sisters 8 = .ok (.ifCond .lt 53, 3) := by decide +kernel
theorem dX8_sisters_11 : decode cX8_sisters 11 = .ok (.aload_n 0, 1) := by decide +kernel
theorem dX8_sisters_12 : decode cX8_sisters 12 = .ok (.getfield 76, 3) := by decide +kernel
theorem dX8_sisters_15 : decode cX8_sisters 15 = .ok (.iconst 1, 1) := by decide +kernel
theorem dX8_sisters_16 : decode cX8_sisters 16 = .ok (.isub, 1) := by decide +kernel
theorem dX8_sisters_17 : decode cX8_sisters 17 = .ok (.istore 5, 2) := by decide +kernel
theorem dX8_sisters_19 : decode cX8_sisters 19 = .ok (.iload 5, 2) := by decide +kernel
theorem dX8_sisters_21 : decode cX8_sisters 21 = .ok (.ifCond .lt 34, 3) := by decide +kernel
theorem dX8_sisters_24 : decode cX8_sisters 24 = .ok (.aload_n 0, 1) := by decide +kernel
theorem dX8_sisters_25 : decode cX8_sisters 25 = .ok (.getfield 13, 3) := by decide +kernel
theorem dX8_sisters_28 : decode cX8_sisters 28 = .ok (.iconst 2, 1) := by decide +kernel
theorem dX8_sisters_29 : decode cX8_sisters 29 = .ok (.iload 5, 2) := by decide +kernel
theorem dX8_sisters_31 : decode cX8_sisters 31 = .ok (.imul, 1) := by decide +kernel
theorem dX8_sisters_32 : decode cX8_sisters 32 = .ok (.iaload, 1) := by decide +kernel
theorem dX8_sisters_33 : decode cX8_sisters 33 = .ok (.iload 4, 2) := by decide +kernel
theorem dX8_sisters_35 : decode cX8_sisters 35 = .ok (.if_icmp .ne 14, 3) := by decide +kernel
theorem dX8_sisters_38 : decode cX8_sisters 38 = .ok (.aload_n 0, 1) := by decide +kernel
theorem dX8_sisters_39 : decode cX8_sisters 39 = .ok (.getfield 34, 3) := by decide +kernel
theorem dX8_sisters_42 : decode cX8_sisters 42 = .ok (.iload_n 3, 1) := by decide +kernel
theorem dX8_sisters_43 : decode cX8_sisters 43 = .ok (.iload 5, 2) := by decide +kernel
theorem dX8_sisters_45 : decode cX8_sisters 45 = .ok (.iastore, 1) := by decide +kernel
theorem dX8_sisters_46 : decode cX8_sisters 46 = .ok (.iinc 3 1, 3) := by decide +kernel
theorem dX8_sisters_49 : decode cX8_sisters 49 = .ok (.iinc 5 (-1), 3) := by decide +kernel
theorem dX8_sisters_52 : decode cX8_sisters 52 = .ok (.goto (-33), 3) := by decide +kernel
theorem dX8_sisters_55 : decode cX8_sisters 55 = .ok (.iinc 4 (-1), 3) := by decide +kernel
theorem dX8_sisters_58 : decode cX8_sisters 58 = .ok (.goto (-52), 3) := by decide +kernel
theorem dX8_sisters_61 : decode cX8_sisters 61 = .ok (.iconst (-1), 1) := by decide +kernel
theorem dX8_sisters_62 : decode cX8_sisters 62 = .ok (.istore 4, 2) := by decide +kernel
theorem dX8_sisters_64 : decode cX8_sisters 64 = .ok (.iconst 0, 1) := by decide +kernel
theorem dX8_sisters_65 : decode cX8_sisters 65 = .ok (.istore 5, 2) := by decide +kernel
theorem dX8_sisters_67 : decode cX8_sisters 67 = .ok (.iconst 0, 1) := by decide +kernel
theorem dX8_sisters_68 : decode cX8_sisters 68 = .ok (.istore 6, 2) := by decide +kernel
theorem dX8_sisters_70 : decode cX8_sisters 70 = .ok (.iload 6, 2) := by decide +kernel
theorem dX8_sisters_72 : decode cX8_sisters 72 = .ok (.iconst 1, 1) := by decide +kernel
theorem dX8_sisters_73 : decode cX8_sisters 73 = .ok (.iload_n 3, 1) := by decide +kernel
theorem dX8_sisters_74 : decode cX8_sisters 74 = .ok (.ishl, 1) := by decide +kernel
theorem dX8_sisters_75 : decode cX8_sisters 75 = .ok (.if_icmp .ge 165, 3) := by decide +kernel
theorem dX8_sisters_78 : decode cX8_sisters 78 = .ok (.iload_n 1, 1) := by decide +kernel
theorem dX8_sisters_79 : decode cX8_sisters 79 = .ok (.istore 7, 2) := by decide +kernel
theorem dX8_sisters_81 : decode cX8_sisters 81 = .ok (.iconst 0, 1) := by decide +kernel
theorem dX8_sisters_82 : decode cX8_sisters 82 = .ok (.istore 8, 2) := by decide +kernel
theorem dX8_sisters_84 : decode cX8_sisters 84 = .ok (.iconst 1, 1) := by decide +kernel
theorem dX8_sisters_85 : decode cX8_sisters 85 = .ok (.istore 9, 2) := by decide +kernel
theorem dX8_sisters_87 : decode cX8_sisters 87 = .ok (.iconst 0, 1) := by decide +kernel
theorem dX8_sisters_88 : decode cX8_sisters 88 = .ok (.istore 10, 2) := by decide +kernel
theorem dX8_sisters_90 : decode cX8_sisters 90 = .ok (.iload 10, 2) := by decide +kernel
theorem dX8_sisters_92 : decode cX8_sisters 92 = .ok (.iload_n 3, 1) := by decide +kernel
theorem dX8_sisters_93 : decode cX8_sisters 93 = .ok (.if_icmp .ge 113, 3) := by decide +kernel
theorem dX8_sisters_96 : decode cX8_sisters 96 = .ok (.iload 9, 2) := by decide +kernel
theorem dX8_sisters_98 : decode cX8_sisters 98 = .ok (.ifCond .eq 108, 3) := by decide +kernel
theorem dX8_sisters_101 : decode cX8_sisters 101 = .ok (.aload_n 0, 1) := by decide +kernel
theorem dX8_sisters_102 : decode cX8_sisters 102 = .ok (.getfield 34, 3) := by decide +kernel
theorem dX8_sisters_105 : decode cX8_sisters 105 = .ok (.iload 10, 2) := by decide +kernel
theorem dX8_sisters_107 : decode cX8_sisters 107 = .ok (.iaload, 1) := by decide +kernel
theorem dX8_sisters_108 : decode cX8_sisters 108 = .ok (.istore 11, 2) := by decide +kernel
theorem dX8_sisters_110 : decode cX8_sisters 110 = .ok (.iload 6, 2) := by decide +kernel
theorem dX8_sisters_112 : decode cX8_sisters 112 = .ok (.iload_n 3, 1) := by decide +kernel
theorem dX8_sisters_113 : decode cX8_sisters 113 = .ok (.iconst 1, 1) := by decide +kernel
theorem dX8_sisters_114 : decode cX8_sisters 114 = .ok (.isub, 1) := by decide +kernel
theorem dX8_sisters_115 : decode cX8_sisters 115 = .ok (.iload 10, 2) := by decide +kernel
theorem dX8_sisters_117 : decode cX8_sisters 117 = .ok (.isub, 1) := by decide +kernel
theorem dX8_sisters_118 : decode cX8_sisters 118 = .ok (.ishr, 1) := by decide +kernel
theorem dX8_sisters_119 : decode cX8_sisters 119 = .ok (.iconst 1, 1) := by decide +kernel
theorem dX8_sisters_120 : decode cX8_sisters 120 = .ok (.iand, 1) := by decide +kernel
theorem dX8_sisters_121 : decode cX8_sisters 121 = .ok (.iconst 1, 1) := by decide +kernel
theorem dX8_sisters_122 : decode cX8_sisters 122 = .ok (.if_icmp .ne 78, 3) := by decide +kernel
theorem dX8_sisters_125 : decode cX8_sisters 125 = .ok (.aload_n 0, 1) := by decide +kernel
theorem dX8_sisters_126 : decode cX8_sisters 126 = .ok (.getfield 16, 3) := by decide +kernel
theorem dX8_sisters_129 : decode cX8_sisters 129 = .ok (.iconst 5, 1) := by decide +kernel
theorem dX8_sisters_130 : decode cX8_sisters 130 = .ok (.iload 11, 2) := by decide +kernel
theorem dX8_sisters_132 : decode cX8_sisters 132 = .ok (.iadd, 1) := by decide +kernel
theorem dX8_sisters_133 : decode cX8_sisters 133 = .ok (.iaload, 1) := by decide +kernel
theorem dX8_sisters_134 : decode cX8_sisters 134 = .ok (.istore 12, 2) := by decide +kernel
theorem dX8_sisters_136 : decode cX8_sisters 136 = .ok (.iload 12, 2) := by decide +kernel
theorem dX8_sisters_138 : decode cX8_sisters 138 = .ok (.bipush (-4), 2) := by decide +kernel
theorem dX8_sisters_140 : decode cX8_sisters 140 = .ok (.if_icmp .eq 34, 3) := by decide +kernel
theorem dX8_sisters_143 : decode cX8_sisters 143 = .ok (.aload_n 0, 1) := by decide +kernel
theorem dX8_sisters_144 : decode cX8_sisters 144 = .ok (.iload 7, 2) := by decide +kernel
theorem dX8_sisters_146 : decode cX8_sisters 146 = .ok (.invokevirtual 173, 3) := by decide +kernel
theorem dX8_sisters_149 : decode cX8_sisters 149 = .ok (.aload_n 0, 1) := by decide +kernel
theorem dX8_sisters_150 : decode cX8_sisters 150 = .ok (.iload 12, 2) := by decide +kernel
theorem dX8_sisters_152 : decode cX8_sisters 152 = .ok (.invokevirtual 173, 3) := by decide +kernel
theorem dX8_sisters_155 : decode cX8_sisters 155 = .ok (.aload_n 0, 1) := by decide +kernel
theorem dX8_sisters_156 : decode cX8_sisters 156 = .ok (.getfield 13, 3) := by decide +kernel
theorem dX8_sisters_159 : decode cX8_sisters 159 = .ok (.iconst 2, 1) := by decide +kernel
theorem dX8_sisters_160 : decode cX8_sisters 160 = .ok (.iload 11, 2) := by decide +kernel
theorem dX8_sisters_162 : decode cX8_sisters 162 = .ok (.imul, 1) := by decide +kernel
theorem dX8_sisters_163 : decode cX8_sisters 163 = .ok (.iconst 1, 1) := by decide +kernel
theorem dX8_sisters_164 : decode cX8_sisters 164 = .ok (.iadd, 1) := by decide +kernel
theorem dX8_sisters_165 : decode cX8_sisters 165 = .ok (.iaload, 1) := by decide +kernel
theorem dX8_sisters_166 : decode cX8_sisters 166 = .ok (.iadd, 1) := by decide +kernel
theorem dX8_sisters_167 : decode cX8_sisters 167 = .ok (.if_icmp .lt 7, 3) := by decide +kernel
theorem dX8_sisters_170 : decode cX8_sisters 170 = .ok (.iconst 1, 1) := by decide +kernel
theorem dX8_sisters_171 : decode cX8_sisters 171 = .ok (.goto 4, 3) := by decide +kernel
theorem dX8_sisters_174 : decode cX8_sisters 174 = .ok (.iconst 0, 1) := by decide +kernel
theorem dX8_sisters_175 : decode cX8_sisters 175 = .ok (.istore 9, 2) := by decide +kernel
theorem dX8_sisters_177 : decode cX8_sisters 177 = .ok (.iload 9, 2) := by decide +kernel
theorem dX8_sisters_179 : decode cX8_sisters 179 = .ok (.ifCond .eq 8, 3) := by decide +kernel
theorem dX8_sisters_182 : decode cX8_sisters 182 = .ok (.iload 12, 2) := by decide +kernel
theorem dX8_sisters_184 : decode cX8_sisters 184 = .ok (.goto 5, 3) := by decide +kernel
theorem dX8_sisters_187 : decode cX8_sisters 187 = .ok (.iload 7, 2) := by decide +kernel
theorem dX8_sisters_189 : decode cX8_sisters 189 = .ok (.istore 7, 2) := by decide +kernel
theorem dX8_sisters_191 : decode cX8_sisters 191 = .ok (.iload 8, 2) := by decide +kernel
theorem dX8_sisters_193 : decode cX8_sisters 193 = .ok (.iconst 1, 1) := by decide +kernel
theorem dX8_sisters_194 : decode cX8_sisters 194 = .ok (.iload 11, 2) := by decide +kernel
theorem dX8_sisters_196 : decode cX8_sisters 196 = .ok (.ishl, 1) := by decide +kernel
theorem dX8_sisters_197 : decode cX8_sisters 197 = .ok (.ior, 1) := by decide +kernel
theorem dX8_sisters_198 : decode cX8_sisters 198 = .ok (.istore 8, 2) := by decide +kernel
theorem dX8_sisters_200 : decode cX8_sisters 200 = .ok (.iinc 10 1, 3) := by decide +kernel
theorem dX8_sisters_203 : decode cX8_sisters 203 = .ok (.goto (-113), 3) := by decide +kernel
theorem dX8_sisters_206 : decode cX8_sisters 206 = .ok (.iload 9, 2) := by decide +kernel
theorem dX8_sisters_208 : decode cX8_sisters 208 = .ok (.ifCond .eq 26, 3) := by decide +kernel
theorem dX8_sisters_211 : decode cX8_sisters 211 = .ok (.aload_n 0, 1) := by decide +kernel
theorem dX8_sisters_212 : decode cX8_sisters 212 = .ok (.iload 7, 2) := by decide +kernel
theorem dX8_sisters_214 : decode cX8_sisters 214 = .ok (.invokevirtual 173, 3) := by decide +kernel
theorem dX8_sisters_217 : decode cX8_sisters 217 = .ok (.iload 4, 2) := by decide +kernel
theorem dX8_sisters_219 : decode cX8_sisters 219 = .ok (.if_icmp .le 15, 3) := by decide +kernel
theorem dX8_sisters_222 : decode cX8_sisters 222 = .ok (.aload_n 0, 1) := by decide +kernel
theorem dX8_sisters_223 : decode cX8_sisters 223 = .ok (.iload 7, 2) := by decide +kernel
theorem dX8_sisters_225 : decode cX8_sisters 225 = .ok (.invokevirtual 173, 3) := by decide +kernel
theorem dX8_sisters_228 : decode cX8_sisters 228 = .ok (.istore 4, 2) := by decide +kernel
theorem dX8_sisters_230 : decode cX8_sisters 230 = .ok (.iload 8, 2) := by decide +kernel
theorem dX8_sisters_232 : decode cX8_sisters 232 = .ok (.istore 5, 2) := by decide +kernel
theorem dX8_sisters_234 : decode cX8_sisters 234 = .ok (.iinc 6 1, 3) := by decide +kernel
theorem dX8_sisters_237 : decode cX8_sisters 237 = .ok (.goto (-167), 3) := by decide +kernel
theorem dX8_sisters_240 : decode cX8_sisters 240 = .ok (.iload_n 2, 1) := by decide +kernel
theorem dX8_sisters_241 : decode cX8_sisters 241 = .ok (.ifCond .ne 8, 3) := by decide +kernel
theorem dX8_sisters_244 : decode cX8_sisters 244 = .ok (.iload 4, 2) := by decide +kernel
theorem dX8_sisters_246 : decode cX8_sisters 246 = .ok (.goto 5, 3) := by decide +kernel
theorem dX8_sisters_249 : decode cX8_sisters 249 = .ok (.iload 5, 2) := by decide +kernel
theorem dX8_sisters_251 : decode cX8_sisters 251 = .ok (.ireturn, 1) := by decide +kernel
theorem dX8_turns_0 : decode cX8_turns 0 = .ok (.aload_n 0, 1) := by decide +kernel
theorem dX8_turns_1 : decode cX8_turns 1 = .ok (.getfield 37, 3) := by decide +kernel
theorem dX8_turns_4 : decode cX8_turns 4 = .ok (.iload_n 1, 1) := by decide +kernel
theorem dX8_turns_5 : decode cX8_turns 5 = .ok (.iconst 1, 1) := by decide +kernel
theorem dX8_turns_6 : decode cX8_turns 6 = .ok (.iadd, 1) := by decide +kernel
theorem dX8_turns_7 : decode cX8_turns 7 = .ok (.dup2, 1) := by decide +kernel
theorem dX8_turns_8 : decode cX8_turns 8 = .ok (.iaload, 1) := by decide +kernel
theorem dX8_turns_9 : decode cX8_turns 9 = .ok (.iconst 1, 1) := by decide +kernel
theorem dX8_turns_10 : decode cX8_turns 10 = .ok (.iadd, 1) := by decide +kernel
theorem dX8_turns_11 : decode cX8_turns 11 = .ok (.iastore, 1) := by decide +kernel
theorem dX8_turns_12 : decode cX8_turns 12 = .ok (.aload_n 0, 1) := by decide +kernel
theorem dX8_turns_13 : decode cX8_turns 13 = .ok (.aload_n 0, 1) := by decide +kernel
theorem dX8_turns_14 : decode cX8_turns 14 = .ok (.getfield 37, 3) := by decide +kernel
theorem dX8_turns_17 : decode cX8_turns 17 = .ok (.iload_n 1, 1) := by decide +kernel
theorem dX8_turns_18 : decode cX8_turns 18 = .ok (.iaload, 1) := by decide +kernel
theorem dX8_turns_19 : decode cX8_turns 19 = .ok (.aload_n 0, 1) := by decide +kernel
theorem dX8_turns_20 : decode cX8_turns 20 = .ok (.getfield 37, 3) := by decide +kernel
theorem dX8_turns_23 : decode cX8_turns 23 = .ok (.iload_n 1, 1) := by decide +kernel
theorem dX8_turns_24 : decode cX8_turns 24 = .ok (.iconst 1, 1) := by decide +kernel
theorem dX8_turns_25 : decode cX8_turns 25 = .ok (.iadd, 1) := by decide +kernel
theorem dX8_turns_26 : decode cX8_turns 26 = .ok (.iaload, 1) := by decide +kernel
theorem dX8_turns_27 : decode cX8_turns 27 = .ok (.iconst 0, 1) := by decide +kernel
theorem dX8_turns_28 : decode cX8_turns 28 = .ok (.invokevirtual 99, 3) := by decide +kernel
theorem dX8_turns_31 : decode cX8_turns 31 = .ok (.istore_n 3, 1) := by decide +kernel
theorem dX8_turns_32 : decode cX8_turns 32 = .ok (.aload_n 0, 1) := by decide +kernel
theorem dX8_turns_33 : decode cX8_turns 33 = .ok (.aload_n 0, 1) := by decide +kernel
theorem dX8_turns_34 : decode cX8_turns 34 = .ok (.getfield 37, 3) := by decide +kernel
theorem dX8_turns_37 : decode cX8_turns 37 = .ok (.iload_n 1, 1) := by decide +kernel
theorem dX8_turns_38 : decode cX8_turns 38 = .ok (.iaload, 1) := by decide +kernel
theorem dX8_turns_39 : decode cX8_turns 39 = .ok (.aload_n 0, 1) := by decide +kernel
theorem dX8_turns_40 : decode cX8_turns 40 = .ok (.getfield 37, 3) := by decide +kernel
theorem dX8_turns_43 : decode cX8_turns 43 = .ok (.iload_n 1, 1) := by decide +kernel
theorem dX8_turns_44 : decode cX8_turns 44 = .ok (.iconst 1, 1) := by decide +kernel
theorem dX8_turns_45 : decode cX8_turns 45 = .ok (.iadd, 1) := by decide +kernel
theorem dX8_turns_46 : decode cX8_turns 46 = .ok (.iaload, 1) := by decide +kernel
theorem dX8_turns_47 : decode cX8_turns 47 = .ok (.iconst 1, 1) := by decide +kernel
theorem dX8_turns_48 : decode cX8_turns 48 = .ok (.invokevirtual 99, 3) := by decide +kernel
theorem dX8_turns_51 : decode cX8_turns 51 = .ok (.istore 4, 2) := by decide +kernel
theorem dX8_turns_53 : decode cX8_turns 53 = .ok (.aload_n 0, 1) := by decide +kernel
theorem dX8_turns_54 : decode cX8_turns 54 = .ok (.getfield 37, 3) := by decide +kernel
theorem dX8_turns_57 : decode cX8_turns 57 = .ok (.iload_n 1, 1) := by decide +kernel
theorem dX8_turns_58 : decode cX8_turns 58 = .ok (.iconst 2, 1) := by decide +kernel
theorem dX8_turns_59 : decode cX8_turns 59 = .ok (.iadd, 1) := by decide +kernel
theorem dX8_turns_60 : decode cX8_turns 60 = .ok (.iload_n 3, 1) := by decide +kernel
theorem dX8_turns_61 : decode cX8_turns 61 = .ok (.iload 4, 2) := by decide +kernel
theorem dX8_turns_63 : decode cX8_turns 63 = .ok (.if_icmp .lt 7, 3) := by decide +kernel
theorem dX8_turns_66 : decode cX8_turns 66 = .ok (.iconst 0, 1) := by decide +kernel
theorem dX8_turns_67 : decode cX8_turns 67 = .ok (.goto 4, 3) := by decide +kernel
theorem dX8_turns_70 : decode cX8_turns 70 = .ok (.iconst 1, 1) := by decide +kernel
theorem dX8_turns_71 : decode cX8_turns 71 = .ok (.iastore, 1) := by decide +kernel
theorem dX8_turns_72 : decode cX8_turns 72 = .ok (.iload_n 3, 1) := by decide +kernel
theorem dX8_turns_73 : decode cX8_turns 73 = .ok (.iload 4, 2) := by decide +kernel
theorem dX8_turns_75 : decode cX8_turns 75 = .ok (.if_icmp .lt 7, 3) := by decide +kernel
theorem dX8_turns_78 : decode cX8_turns 78 = .ok (.iload_n 3, 1) := by decide +kernel
theorem dX8_turns_79 : decode cX8_turns 79 = .ok (.goto 5, 3) := by decide +kernel
theorem dX8_turns_82 : decode cX8_turns 82 = .ok (.iload 4, 2) := by decide +kernel
theorem dX8_turns_84 : decode cX8_turns 84 = .ok (.istore 5, 2) := by decide +kernel
theorem dX8_turns_86 : decode cX8_turns 86 = .ok (.iload 5, 2) := by decide +kernel
theorem dX8_turns_88 : decode cX8_turns 88 = .ok (.aload_n 0, 1) := by decide +kernel
theorem dX8_turns_89 : decode cX8_turns 89 = .ok (.aload_n 0, 1) := by decide +kernel
theorem dX8_turns_90 : decode cX8_turns 90 = .ok (.getfield 37, 3) := by decide +kernel
theorem dX8_turns_93 : decode cX8_turns 93 = .ok (.iload_n 2, 1) := by decide +kernel
theorem dX8_turns_94 : decode cX8_turns 94 = .ok (.iaload, 1) := by decide +kernel
theorem dX8_turns_95 : decode cX8_turns 95 = .ok (.iconst 0, 1) := by decide +kernel
theorem dX8_turns_96 : decode cX8_turns 96 = .ok (.aload_n 0, 1) := by decide +kernel
theorem dX8_turns_97 : decode cX8_turns 97 = .ok (.getfield 37, 3) := by decide +kernel
theorem dX8_turns_100 : decode cX8_turns 100 = .ok (.iload_n 1, 1) := by decide +kernel
theorem dX8_turns_101 : decode cX8_turns 101 = .ok (.iconst 2, 1) := by decide +kernel
theorem dX8_turns_102 : decode cX8_turns 102 = .ok (.iadd, 1) := by decide +kernel
theorem dX8_turns_103 : decode cX8_turns 103 = .ok (.iaload, 1) := by decide +kernel
theorem dX8_turns_104 : decode cX8_turns 104 = .ok (.invokevirtual 99, 3) := by decide +kernel
theorem dX8_turns_107 : decode cX8_turns 107 = .ok (.if_icmp .le 39, 3) := by decide +kernel
theorem dX8_turns_110 : decode cX8_turns 110 = .ok (.aload_n 0, 1) := by decide +kernel
theorem dX8_turns_111 : decode cX8_turns 111 = .ok (.aload_n 0, 1) := by decide +kernel
theorem dX8_turns_112 : decode cX8_turns 112 = .ok (.getfield 37, 3) := by decide +kernel
theorem dX8_turns_115 : decode cX8_turns 115 = .ok (.iload_n 1, 1) := by decide +kernel
theorem dX8_turns_116 : decode cX8_turns 116 = .ok (.iaload, 1) := by decide +kernel
theorem dX8_turns_117 : decode cX8_turns 117 = .ok (.invokevirtual 173, 3) := by decide +kernel
theorem dX8_turns_120 : decode cX8_turns 120 = .ok (.aload_n 0, 1) := by decide +kernel
theorem dX8_turns_121 : decode cX8_turns 121 = .ok (.aload_n 0, 1) := by decide +kernel
theorem dX8_turns_122 : decode cX8_turns 122 = .ok (.getfield 37, 3) := by decide +kernel
theorem dX8_turns_125 : decode cX8_turns 125 = .ok (.iload_n 2, 1) := by decide +kernel
theorem dX8_turns_126 : decode cX8_turns 126 = .ok (.iaload, 1) := by decide +kernel
theorem dX8_turns_127 : decode cX8_turns 127 = .ok (.invokevirtual 173, 3) := by decide +kernel
theorem dX8_turns_130 : decode cX8_turns 130 = .ok (.isub, 1) := by decide +kernel
theorem dX8_turns_131 : decode cX8_turns 131 = .ok (.aload_n 0, 1) := by decide +kernel
theorem dX8_turns_132 : decode cX8_turns 132 = .ok (.getfield 37, 3) := by decide +kernel
theorem dX8_turns_135 : decode cX8_turns 135 = .ok (.iload_n 1, 1) := by decide +kernel
theorem dX8_turns_136 : decode cX8_turns 136 = .ok (.iconst 3, 1) := by decide +kernel
theorem dX8_turns_137 : decode cX8_turns 137 = .ok (.iadd, 1) := by decide +kernel
theorem dX8_turns_138 : decode cX8_turns 138 = .ok (.iaload, 1) := by decide +kernel
theorem dX8_turns_139 : decode cX8_turns 139 = .ok (.if_icmp .gt 7, 3) := by decide +kernel
theorem dX8_turns_142 : decode cX8_turns 142 = .ok (.iconst 1, 1) := by decide +kernel
theorem dX8_turns_143 : decode cX8_turns 143 = .ok (.goto 4, 3) := by decide +kernel
theorem dX8_turns_146 : decode cX8_turns 146 = .ok (.iconst 0, 1) := by decide +kernel
theorem dX8_turns_147 : decode cX8_turns 147 = .ok (.istore 6, 2) := by decide +kernel
theorem dX8_turns_149 : decode cX8_turns 149 = .ok (.iload 6, 2) := by decide +kernel
theorem dX8_turns_151 : decode cX8_turns 151 = .ok (.ifCond .eq 49, 3) := by decide +kernel
theorem dX8_turns_154 : decode cX8_turns 154 = .ok (.aload_n 0, 1) := by decide +kernel
theorem dX8_turns_155 : decode cX8_turns 155 = .ok (.getfield 37, 3) := by decide +kernel
theorem dX8_turns_158 : decode cX8_turns 158 = .ok (.iload_n 1, 1) := by decide +kernel
theorem dX8_turns_159 : decode cX8_turns 159 = .ok (.iaload, 1) := by decide +kernel
theorem dX8_turns_160 : decode cX8_turns 160 = .ok (.istore 7, 2) := by decide +kernel
theorem dX8_turns_162 : decode cX8_turns 162 = .ok (.aload_n 0, 1) := by decide +kernel
theorem dX8_turns_163 : decode cX8_turns 163 = .ok (.getfield 37, 3) := by decide +kernel
theorem dX8_turns_166 : decode cX8_turns 166 = .ok (.iload_n 1, 1) := by decide +kernel
theorem dX8_turns_167 : decode cX8_turns 167 = .ok (.aload_n 0, 1) := by decide +kernel
theorem dX8_turns_168 : decode cX8_turns 168 = .ok (.getfield 37, 3) := by decide +kernel
theorem dX8_turns_171 : decode cX8_turns 171 = .ok (.iload_n 2, 1) := by decide +kernel
theorem dX8_turns_172 : decode cX8_turns 172 = .ok (.iaload, 1) := by decide +kernel
theorem dX8_turns_173 : decode cX8_turns 173 = .ok (.iastore, 1) := by decide +kernel
theorem dX8_turns_174 : decode cX8_turns 174 = .ok (.aload_n 0, 1) := by decide +kernel
theorem dX8_turns_175 : decode cX8_turns 175 = .ok (.getfield 37, 3) := by decide +kernel
theorem dX8_turns_178 : decode cX8_turns 178 = .ok (.iload_n 2, 1) := by decide +kernel
theorem dX8_turns_179 : decode cX8_turns 179 = .ok (.iload 7, 2) := by decide +kernel
theorem dX8_turns_181 : decode cX8_turns 181 = .ok (.iastore, 1) := by decide +kernel
theorem dX8_turns_182 : decode cX8_turns 182 = .ok (.aload_n 0, 1) := by decide +kernel
theorem dX8_turns_183 : decode cX8_turns 183 = .ok (.getfield 37, 3) := by decide +kernel
theorem dX8_turns_186 : decode cX8_turns 186 = .ok (.iload_n 1, 1) := by decide +kernel
theorem dX8_turns_187 : decode cX8_turns 187 = .ok (.iconst 1, 1) := by decide +kernel
theorem dX8_turns_188 : decode cX8_turns 188 = .ok (.iadd, 1) := by decide +kernel
theorem dX8_turns_189 : decode cX8_turns 189 = .ok (.iconst 0, 1) := by decide +kernel
theorem dX8_turns_190 : decode cX8_turns 190 = .ok (.iastore, 1) := by decide +kernel
theorem dX8_turns_191 : decode cX8_turns 191 = .ok (.aload_n 0, 1) := by decide +kernel
theorem dX8_turns_192 : decode cX8_turns 192 = .ok (.getfield 37, 3) := by decide +kernel
theorem dX8_turns_195 : decode cX8_turns 195 = .ok (.iload_n 2, 1) := by decide +kernel
theorem dX8_turns_196 : decode cX8_turns 196 = .ok (.iconst 1, 1) := by decide +kernel
theorem dX8_turns_197 : decode cX8_turns 197 = .ok (.iadd, 1) := by decide +kernel
theorem dX8_turns_198 : decode cX8_turns 198 = .ok (.iconst 0, 1) := by decide +kernel
theorem dX8_turns_199 : decode cX8_turns 199 = .ok (.iastore, 1) := by decide +kernel
theorem dX8_turns_200 : decode cX8_turns 200 = .ok (.iload 6, 2) := by decide +kernel
theorem dX8_turns_202 : decode cX8_turns 202 = .ok (.ireturn, 1) := by decide +kernel
theorem dX8_meet_0 : decode cX8_meet 0 = .ok (.aload_n 0, 1) := by decide +kernel
theorem dX8_meet_1 : decode cX8_meet 1 = .ok (.iload_n 1, 1) := by decide +kernel
theorem dX8_meet_2 : decode cX8_meet 2 = .ok (.i2l, 1) := by decide +kernel
theorem dX8_meet_3 : decode cX8_meet 3 = .ok (.invokevirtual 89, 3) := by decide +kernel
theorem dX8_meet_6 : decode cX8_meet 6 = .ok (.ifCond .eq 15, 3) := by decide +kernel
theorem dX8_meet_9 : decode cX8_meet 9 = .ok (.iload_n 2, 1) := by decide +kernel
theorem dX8_meet_10 : decode cX8_meet 10 = .ok (.i2l, 1) := by decide +kernel
theorem dX8_meet_11 : decode cX8_meet 11 = .ok (.lconst 0, 1) := by decide +kernel
theorem dX8_meet_12 : decode cX8_meet 12 = .ok (.ldc2_w 115, 3) := by decide +kernel
theorem dX8_meet_15 : decode cX8_meet 15 = .ok (.invokestatic 72, 3) := by decide +kernel
theorem dX8_meet_18 : decode cX8_meet 18 = .ok (.ifCond .ne 5, 3) := by decide +kernel
theorem dX8_meet_21 : decode cX8_meet 21 = .ok (.iconst (-1), 1) := by decide +kernel
theorem dX8_meet_22 : decode cX8_meet 22 = .ok (.ireturn, 1) := by decide +kernel
theorem dX8_meet_23 : decode cX8_meet 23 = .ok (.aload_n 0, 1) := by decide +kernel
theorem dX8_meet_24 : decode cX8_meet 24 = .ok (.iload_n 1, 1) := by decide +kernel
theorem dX8_meet_25 : decode cX8_meet 25 = .ok (.invokevirtual 95, 3) := by decide +kernel
theorem dX8_meet_28 : decode cX8_meet 28 = .ok (.bipush (-4), 2) := by decide +kernel
theorem dX8_meet_30 : decode cX8_meet 30 = .ok (.if_icmp .ne 14, 3) := by decide +kernel
theorem dX8_meet_33 : decode cX8_meet 33 = .ok (.aload_n 0, 1) := by decide +kernel
theorem dX8_meet_34 : decode cX8_meet 34 = .ok (.getfield 16, 3) := by decide +kernel
theorem dX8_meet_37 : decode cX8_meet 37 = .ok (.iconst 0, 1) := by decide +kernel
theorem dX8_meet_38 : decode cX8_meet 38 = .ok (.iaload, 1) := by decide +kernel
theorem dX8_meet_39 : decode cX8_meet 39 = .ok (.bipush (-4), 2) := by decide +kernel
theorem dX8_meet_41 : decode cX8_meet 41 = .ok (.if_icmp .ne 6, 3) := by decide +kernel
theorem dX8_meet_44 : decode cX8_meet 44 = .ok (.bipush (-2), 2) := by decide +kernel
theorem dX8_meet_46 : decode cX8_meet 46 = .ok (.ireturn, 1) := by decide +kernel
theorem dX8_meet_47 : decode cX8_meet 47 = .ok (.aload_n 0, 1) := by decide +kernel
theorem dX8_meet_48 : decode cX8_meet 48 = .ok (.getfield 37, 3) := by decide +kernel
theorem dX8_meet_51 : decode cX8_meet 51 = .ok (.iconst 0, 1) := by decide +kernel
theorem dX8_meet_52 : decode cX8_meet 52 = .ok (.aload_n 0, 1) := by decide +kernel
theorem dX8_meet_53 : decode cX8_meet 53 = .ok (.getfield 16, 3) := by decide +kernel
theorem dX8_meet_56 : decode cX8_meet 56 = .ok (.iconst 0, 1) := by decide +kernel
theorem dX8_meet_57 : decode cX8_meet 57 = .ok (.iaload, 1) := by decide +kernel
theorem dX8_meet_58 : decode cX8_meet 58 = .ok (.iastore, 1) := by decide +kernel
theorem dX8_meet_59 : decode cX8_meet 59 = .ok (.aload_n 0, 1) := by decide +kernel
theorem dX8_meet_60 : decode cX8_meet 60 = .ok (.getfield 37, 3) := by decide +kernel
theorem dX8_meet_63 : decode cX8_meet 63 = .ok (.iconst 1, 1) := by decide +kernel
theorem dX8_meet_64 : decode cX8_meet 64 = .ok (.aload_n 0, 1) := by decide +kernel
theorem dX8_meet_65 : decode cX8_meet 65 = .ok (.getfield 16, 3) := by decide +kernel
theorem dX8_meet_68 : decode cX8_meet 68 = .ok (.iconst 1, 1) := by decide +kernel
theorem dX8_meet_69 : decode cX8_meet 69 = .ok (.iaload, 1) := by decide +kernel
theorem dX8_meet_70 : decode cX8_meet 70 = .ok (.iastore, 1) := by decide +kernel
theorem dX8_meet_71 : decode cX8_meet 71 = .ok (.aload_n 0, 1) := by decide +kernel
theorem dX8_meet_72 : decode cX8_meet 72 = .ok (.getfield 37, 3) := by decide +kernel
theorem dX8_meet_75 : decode cX8_meet 75 = .ok (.iconst 2, 1) := by decide +kernel
theorem dX8_meet_76 : decode cX8_meet 76 = .ok (.aload_n 0, 1) := by decide +kernel
theorem dX8_meet_77 : decode cX8_meet 77 = .ok (.getfield 16, 3) := by decide +kernel
theorem dX8_meet_80 : decode cX8_meet 80 = .ok (.iconst 2, 1) := by decide +kernel
theorem dX8_meet_81 : decode cX8_meet 81 = .ok (.iaload, 1) := by decide +kernel
theorem dX8_meet_82 : decode cX8_meet 82 = .ok (.iastore, 1) := by decide +kernel
theorem dX8_meet_83 : decode cX8_meet 83 = .ok (.aload_n 0, 1) := by decide +kernel
theorem dX8_meet_84 : decode cX8_meet 84 = .ok (.getfield 37, 3) := by decide +kernel
theorem dX8_meet_87 : decode cX8_meet 87 = .ok (.iconst 3, 1) := by decide +kernel
theorem dX8_meet_88 : decode cX8_meet 88 = .ok (.aload_n 0, 1) := by decide +kernel
theorem dX8_meet_89 : decode cX8_meet 89 = .ok (.getfield 60, 3) := by decide +kernel
theorem dX8_meet_92 : decode cX8_meet 92 = .ok (.iastore, 1) := by decide +kernel
theorem dX8_meet_93 : decode cX8_meet 93 = .ok (.aload_n 0, 1) := by decide +kernel
theorem dX8_meet_94 : decode cX8_meet 94 = .ok (.getfield 37, 3) := by decide +kernel
theorem dX8_meet_97 : decode cX8_meet 97 = .ok (.iconst 4, 1) := by decide +kernel
theorem dX8_meet_98 : decode cX8_meet 98 = .ok (.iload_n 1, 1) := by decide +kernel
theorem dX8_meet_99 : decode cX8_meet 99 = .ok (.iastore, 1) := by decide +kernel
theorem dX8_meet_100 : decode cX8_meet 100 = .ok (.aload_n 0, 1) := by decide +kernel
theorem dX8_meet_101 : decode cX8_meet 101 = .ok (.getfield 37, 3) := by decide +kernel
theorem dX8_meet_104 : decode cX8_meet 104 = .ok (.iconst 5, 1) := by decide +kernel
theorem dX8_meet_105 : decode cX8_meet 105 = .ok (.iconst 0, 1) := by decide +kernel
theorem dX8_meet_106 : decode cX8_meet 106 = .ok (.iastore, 1) := by decide +kernel
theorem dX8_meet_107 : decode cX8_meet 107 = .ok (.aload_n 0, 1) := by decide +kernel
theorem dX8_meet_108 : decode cX8_meet 108 = .ok (.getfield 37, 3) := by decide +kernel
theorem dX8_meet_111 : decode cX8_meet 111 = .ok (.bipush 6, 2) := by decide +kernel
theorem dX8_meet_113 : decode cX8_meet 113 = .ok (.iconst 0, 1) := by decide +kernel
theorem dX8_meet_114 : decode cX8_meet 114 = .ok (.iastore, 1) := by decide +kernel
theorem dX8_meet_115 : decode cX8_meet 115 = .ok (.aload_n 0, 1) := by decide +kernel
theorem dX8_meet_116 : decode cX8_meet 116 = .ok (.getfield 37, 3) := by decide +kernel
theorem dX8_meet_119 : decode cX8_meet 119 = .ok (.bipush 7, 2) := by decide +kernel
theorem dX8_meet_121 : decode cX8_meet 121 = .ok (.bipush 99, 2) := by decide +kernel
theorem dX8_meet_123 : decode cX8_meet 123 = .ok (.iastore, 1) := by decide +kernel
theorem dX8_meet_124 : decode cX8_meet 124 = .ok (.iconst 0, 1) := by decide +kernel
theorem dX8_meet_125 : decode cX8_meet 125 = .ok (.istore_n 3, 1) := by decide +kernel
theorem dX8_meet_126 : decode cX8_meet 126 = .ok (.iconst 0, 1) := by decide +kernel
theorem dX8_meet_127 : decode cX8_meet 127 = .ok (.istore 4, 2) := by decide +kernel
theorem dX8_meet_129 : decode cX8_meet 129 = .ok (.iload 4, 2) := by decide +kernel
theorem dX8_meet_131 : decode cX8_meet 131 = .ok (.sipush 200, 3) := by decide +kernel
theorem dX8_meet_134 : decode cX8_meet 134 = .ok (.if_icmp .ge 51, 3) := by decide +kernel
theorem dX8_meet_137 : decode cX8_meet 137 = .ok (.iload_n 3, 1) := by decide +kernel
theorem dX8_meet_138 : decode cX8_meet 138 = .ok (.iconst 2, 1) := by decide +kernel
theorem dX8_meet_139 : decode cX8_meet 139 = .ok (.if_icmp .ge 46, 3) := by decide +kernel
theorem dX8_meet_142 : decode cX8_meet 142 = .ok (.iload 4, 2) := by decide +kernel
theorem dX8_meet_144 : decode cX8_meet 144 = .ok (.iconst 2, 1) := by decide +kernel
theorem dX8_meet_145 : decode cX8_meet 145 = .ok (.irem, 1) := by decide +kernel
theorem dX8_meet_146 : decode cX8_meet 146 = .ok (.ifCond .ne 12, 3) := by decide +kernel
theorem dX8_meet_149 : decode cX8_meet 149 = .ok (.aload_n 0, 1) := by decide +kernel
theorem dX8_meet_150 : decode cX8_meet 150 = .ok (.iconst 0, 1) := by decide +kernel
theorem dX8_meet_151 : decode cX8_meet 151 = .ok (.iconst 4, 1) := by decide +kernel
theorem dX8_meet_152 : decode cX8_meet 152 = .ok (.invokevirtual 207, 3) := by decide +kernel
theorem dX8_meet_155 : decode cX8_meet 155 = .ok (.goto 9, 3) := by decide +kernel
theorem dX8_meet_158 : decode cX8_meet 158 = .ok (.aload_n 0, 1) := by decide +kernel
theorem dX8_meet_159 : decode cX8_meet 159 = .ok (.iconst 4, 1) := by decide +kernel
theorem dX8_meet_160 : decode cX8_meet 160 = .ok (.iconst 0, 1) := by decide +kernel
theorem dX8_meet_161 : decode cX8_meet 161 = .ok (.invokevirtual 207, 3) := by decide +kernel
theorem dX8_meet_164 : decode cX8_meet 164 = .ok (.istore 5, 2) := by decide +kernel
theorem dX8_meet_166 : decode cX8_meet 166 = .ok (.iload 5, 2) := by decide +kernel
theorem dX8_meet_168 : decode cX8_meet 168 = .ok (.ifCond .eq 7, 3) := by decide +kernel
theorem dX8_meet_171 : decode cX8_meet 171 = .ok (.iconst 0, 1) := by decide +kernel
theorem dX8_meet_172 : decode cX8_meet 172 = .ok (.goto 6, 3) := by decide +kernel
theorem dX8_meet_175 : decode cX8_meet 175 = .ok (.iload_n 3, 1) := by decide +kernel
theorem dX8_meet_176 : decode cX8_meet 176 = .ok (.iconst 1, 1) := by decide +kernel
theorem dX8_meet_177 : decode cX8_meet 177 = .ok (.iadd, 1) := by decide +kernel
theorem dX8_meet_178 : decode cX8_meet 178 = .ok (.istore_n 3, 1) := by decide +kernel
theorem dX8_meet_179 : decode cX8_meet 179 = .ok (.iinc 4 1, 3) := by decide +kernel
theorem dX8_meet_182 : decode cX8_meet 182 = .ok (.goto (-53), 3) := by decide +kernel
theorem dX8_meet_185 : decode cX8_meet 185 = .ok (.iload_n 3, 1) := by decide +kernel
theorem dX8_meet_186 : decode cX8_meet 186 = .ok (.iconst 2, 1) := by decide +kernel
theorem dX8_meet_187 : decode cX8_meet 187 = .ok (.if_icmp .ge 8, 3) := by decide +kernel
theorem dX8_meet_190 : decode cX8_meet 190 = .ok (.bipush (-4), 2) := by decide +kernel
theorem dX8_meet_192 : decode cX8_meet 192 = .ok (.goto 32, 3) := by decide +kernel
theorem dX8_meet_195 : decode cX8_meet 195 = .ok (.iload_n 2, 1) := by decide +kernel
theorem dX8_meet_196 : decode cX8_meet 196 = .ok (.ifCond .ne 8, 3) := by decide +kernel
theorem dX8_meet_199 : decode cX8_meet 199 = .ok (.iload 4, 2) := by decide +kernel
theorem dX8_meet_201 : decode cX8_meet 201 = .ok (.goto 23, 3) := by decide +kernel
theorem dX8_meet_204 : decode cX8_meet 204 = .ok (.iload_n 2, 1) := by decide +kernel
theorem dX8_meet_205 : decode cX8_meet 205 = .ok (.iconst 1, 1) := by decide +kernel
theorem dX8_meet_206 : decode cX8_meet 206 = .ok (.if_icmp .ne 12, 3) := by decide +kernel
theorem dX8_meet_209 : decode cX8_meet 209 = .ok (.aload_n 0, 1) := by decide +kernel
theorem dX8_meet_210 : decode cX8_meet 210 = .ok (.getfield 37, 3) := by decide +kernel
theorem dX8_meet_213 : decode cX8_meet 213 = .ok (.iconst 0, 1) := by decide +kernel
theorem dX8_meet_214 : decode cX8_meet 214 = .ok (.iaload, 1) := by decide +kernel
theorem dX8_meet_215 : decode cX8_meet 215 = .ok (.goto 9, 3) := by decide +kernel
theorem dX8_meet_218 : decode cX8_meet 218 = .ok (.aload_n 0, 1) := by decide +kernel
theorem dX8_meet_219 : decode cX8_meet 219 = .ok (.getfield 37, 3) := by decide +kernel
theorem dX8_meet_222 : decode cX8_meet 222 = .ok (.iconst 4, 1) := by decide +kernel
theorem dX8_meet_223 : decode cX8_meet 223 = .ok (.iaload, 1) := by decide +kernel
theorem dX8_meet_224 : decode cX8_meet 224 = .ok (.ireturn, 1) := by decide +kernel
theorem dX8_first_0 : decode cX8_first 0 = .ok (.aload_n 0, 1) := by decide +kernel
theorem dX8_first_1 : decode cX8_first 1 = .ok (.iload_n 1, 1) := by decide +kernel
theorem dX8_first_2 : decode cX8_first 2 = .ok (.i2l, 1) := by decide +kernel
theorem dX8_first_3 : decode cX8_first 3 = .ok (.invokevirtual 89, 3) := by decide +kernel
theorem dX8_first_6 : decode cX8_first 6 = .ok (.ifCond .ne 5, 3) := by decide +kernel
theorem dX8_first_9 : decode cX8_first 9 = .ok (.iconst (-1), 1) := by decide +kernel
theorem dX8_first_10 : decode cX8_first 10 = .ok (.ireturn, 1) := by decide +kernel
theorem dX8_first_11 : decode cX8_first 11 = .ok (.aload_n 0, 1) := by decide +kernel
theorem dX8_first_12 : decode cX8_first 12 = .ok (.invokevirtual 195, 3) := by decide +kernel
theorem dX8_first_15 : decode cX8_first 15 = .ok (.aload_n 0, 1) := by decide +kernel
theorem dX8_first_16 : decode cX8_first 16 = .ok (.bipush (-4), 2) := by decide +kernel
theorem dX8_first_18 : decode cX8_first 18 = .ok (.putfield 186, 3) := by decide +kernel
theorem dX8_first_21 : decode cX8_first 21 = .ok (.iconst 0, 1) := by decide +kernel
theorem dX8_first_22 : decode cX8_first 22 = .ok (.istore_n 2, 1) := by decide +kernel
theorem dX8_first_23 : decode cX8_first 23 = .ok (.iconst 0, 1) := by decide +kernel
theorem dX8_first_24 : decode cX8_first 24 = .ok (.istore_n 3, 1) := by decide +kernel
theorem dX8_first_25 : decode cX8_first 25 = .ok (.iload_n 3, 1) := by decide +kernel
theorem dX8_first_26 : decode cX8_first 26 = .ok (.aload_n 0, 1) := by decide +kernel
theorem dX8_first_27 : decode cX8_first 27 = .ok (.getfield 69, 3) := by decide +kernel
theorem dX8_first_30 : decode cX8_first 30 = .ok (.if_icmp .ge 81, 3) := by decide +kernel
theorem dX8_first_33 : decode cX8_first 33 = .ok (.aload_n 0, 1) := by decide +kernel
theorem dX8_first_34 : decode cX8_first 34 = .ok (.iload_n 3, 1) := by decide +kernel
theorem dX8_first_35 : decode cX8_first 35 = .ok (.invokevirtual 95, 3) := by decide +kernel
theorem dX8_first_38 : decode cX8_first 38 = .ok (.bipush (-4), 2) := by decide +kernel
theorem dX8_first_40 : decode cX8_first 40 = .ok (.if_icmp .ne 65, 3) := by decide +kernel
theorem dX8_first_43 : decode cX8_first 43 = .ok (.aload_n 0, 1) := by decide +kernel
theorem dX8_first_44 : decode cX8_first 44 = .ok (.getfield 16, 3) := by decide +kernel
theorem dX8_first_47 : decode cX8_first 47 = .ok (.iconst 0, 1) := by decide +kernel
theorem dX8_first_48 : decode cX8_first 48 = .ok (.iload_n 3, 1) := by decide +kernel
theorem dX8_first_49 : decode cX8_first 49 = .ok (.iastore, 1) := by decide +kernel
theorem dX8_first_50 : decode cX8_first 50 = .ok (.aload_n 0, 1) := by decide +kernel
theorem dX8_first_51 : decode cX8_first 51 = .ok (.getfield 16, 3) := by decide +kernel
theorem dX8_first_54 : decode cX8_first 54 = .ok (.iconst 1, 1) := by decide +kernel
theorem dX8_first_55 : decode cX8_first 55 = .ok (.aload_n 0, 1) := by decide +kernel
theorem dX8_first_56 : decode cX8_first 56 = .ok (.getfield 31, 3) := by decide +kernel
theorem dX8_first_59 : decode cX8_first 59 = .ok (.iconst 0, 1) := by decide +kernel
theorem dX8_first_60 : decode cX8_first 60 = .ok (.iaload, 1) := by decide +kernel
theorem dX8_first_61 : decode cX8_first 61 = .ok (.bipush (-4), 2) := by decide +kernel
theorem dX8_first_63 : decode cX8_first 63 = .ok (.if_icmp .ne 7, 3) := by decide +kernel
theorem dX8_first_66 : decode cX8_first 66 = .ok (.iconst 0, 1) := by decide +kernel
theorem dX8_first_67 : decode cX8_first 67 = .ok (.goto 9, 3) := by decide +kernel
theorem dX8_first_70 : decode cX8_first 70 = .ok (.aload_n 0, 1) := by decide +kernel
theorem dX8_first_71 : decode cX8_first 71 = .ok (.getfield 31, 3) := by decide +kernel
theorem dX8_first_74 : decode cX8_first 74 = .ok (.iconst 1, 1) := by decide +kernel
theorem dX8_first_75 : decode cX8_first 75 = .ok (.iaload, 1) := by decide +kernel
theorem dX8_first_76 : decode cX8_first 76 = .ok (.iastore, 1) := by decide +kernel
theorem dX8_first_77 : decode cX8_first 77 = .ok (.aload_n 0, 1) := by decide +kernel
theorem dX8_first_78 : decode cX8_first 78 = .ok (.invokevirtual 198, 3) := by decide +kernel
theorem dX8_first_81 : decode cX8_first 81 = .ok (.iload_n 2, 1) := by decide +kernel
theorem dX8_first_82 : decode cX8_first 82 = .ok (.aload_n 0, 1) := by decide +kernel
theorem dX8_first_83 : decode cX8_first 83 = .ok (.getfield 16, 3) := by decide +kernel
theorem dX8_first_86 : decode cX8_first 86 = .ok (.iconst 0, 1) := by decide +kernel
theorem dX8_first_87 : decode cX8_first 87 = .ok (.iaload, 1) := by decide +kernel
theorem dX8_first_88 : decode cX8_first 88 = .ok (.iload_n 1, 1) := by decide +kernel
theorem dX8_first_89 : decode cX8_first 89 = .ok (.if_icmp .ne 9, 3) := by decide +kernel
theorem dX8_first_92 : decode cX8_first 92 = .ok (.iconst 1, 1) := by decide +kernel
theorem dX8_first_93 : decode cX8_first 93 = .ok (.iload_n 3, 1) := by decide +kernel
theorem dX8_first_94 : decode cX8_first 94 = .ok (.ishl, 1) := by decide +kernel
theorem dX8_first_95 : decode cX8_first 95 = .ok (.goto 4, 3) := by decide +kernel
theorem dX8_first_98 : decode cX8_first 98 = .ok (.iconst 0, 1) := by decide +kernel
theorem dX8_first_99 : decode cX8_first 99 = .ok (.ior, 1) := by decide +kernel
theorem dX8_first_100 : decode cX8_first 100 = .ok (.istore_n 2, 1) := by decide +kernel
theorem dX8_first_101 : decode cX8_first 101 = .ok (.aload_n 0, 1) := by decide +kernel
theorem dX8_first_102 : decode cX8_first 102 = .ok (.invokevirtual 201, 3) := by decide +kernel
theorem dX8_first_105 : decode cX8_first 105 = .ok (.iinc 3 1, 3) := by decide +kernel
theorem dX8_first_108 : decode cX8_first 108 = .ok (.goto (-83), 3) := by decide +kernel
theorem dX8_first_111 : decode cX8_first 111 = .ok (.iload_n 2, 1) := by decide +kernel
theorem dX8_first_112 : decode cX8_first 112 = .ok (.ireturn, 1) := by decide +kernel
theorem dX8_cheated_0 : decode cX8_cheated 0 = .ok (.iload_n 1, 1) := by decide +kernel
theorem dX8_cheated_1 : decode cX8_cheated 1 = .ok (.i2l, 1) := by decide +kernel
theorem dX8_cheated_2 : decode cX8_cheated 2 = .ok (.ldc2_w 211, 3) := by decide +kernel
theorem dX8_cheated_5 : decode cX8_cheated 5 = .ok (.ldc2_w 81, 3) := by decide +kernel
theorem dX8_cheated_8 : decode cX8_cheated 8 = .ok (.invokestatic 72, 3) := by decide +kernel
theorem dX8_cheated_11 : decode cX8_cheated 11 = .ok (.ifCond .ne 5, 3) := by decide +kernel
theorem dX8_cheated_14 : decode cX8_cheated 14 = .ok (.iconst (-1), 1) := by decide +kernel
theorem dX8_cheated_15 : decode cX8_cheated 15 = .ok (.ireturn, 1) := by decide +kernel
theorem dX8_cheated_16 : decode cX8_cheated 16 = .ok (.aload_n 0, 1) := by decide +kernel
theorem dX8_cheated_17 : decode cX8_cheated 17 = .ok (.getfield 60, 3) := by decide +kernel
theorem dX8_cheated_20 : decode cX8_cheated 20 = .ok (.istore_n 2, 1) := by decide +kernel
theorem dX8_cheated_21 : decode cX8_cheated 21 = .ok (.bipush (-4), 2) := by decide +kernel
theorem dX8_cheated_23 : decode cX8_cheated 23 = .ok (.istore_n 3, 1) := by decide +kernel
theorem dX8_cheated_24 : decode cX8_cheated 24 = .ok (.sipush (-1000), 3) := by decide +kernel
theorem dX8_cheated_27 : decode cX8_cheated 27 = .ok (.istore 4, 2) := by decide +kernel
theorem dX8_cheated_29 : decode cX8_cheated 29 = .ok (.iconst 0, 1) := by decide +kernel
theorem dX8_cheated_30 : decode cX8_cheated 30 = .ok (.istore 5, 2) := by decide +kernel
theorem dX8_cheated_32 : decode cX8_cheated 32 = .ok (.iload 5, 2) := by decide +kernel
theorem dX8_cheated_34 : decode cX8_cheated 34 = .ok (.bipush 100, 2) := by decide +kernel
theorem dX8_cheated_36 : decode cX8_cheated 36 = .ok (.if_icmp .ge 67, 3) := by decide +kernel
theorem dX8_cheated_39 : decode cX8_cheated 39 = .ok (.aload_n 0, 1) := by decide +kernel
theorem dX8_cheated_40 : decode cX8_cheated 40 = .ok (.iload 5, 2) := by decide +kernel
theorem dX8_cheated_42 : decode cX8_cheated 42 = .ok (.putfield 60, 3) := by decide +kernel
theorem dX8_cheated_45 : decode cX8_cheated 45 = .ok (.aload_n 0, 1) := by decide +kernel
theorem dX8_cheated_46 : decode cX8_cheated 46 = .ok (.invokevirtual 213, 3) := by decide +kernel
theorem dX8_cheated_49 : decode cX8_cheated 49 = .ok (.istore 6, 2) := by decide +kernel
theorem dX8_cheated_51 : decode cX8_cheated 51 = .ok (.iload 6, 2) := by decide +kernel
theorem dX8_cheated_53 : decode cX8_cheated 53 = .ok (.iload_n 1, 1) := by decide +kernel
theorem dX8_cheated_54 : decode cX8_cheated 54 = .ok (.if_icmp .gt 14, 3) := by decide +kernel
theorem dX8_cheated_57 : decode cX8_cheated 57 = .ok (.iload 6, 2) := by decide +kernel
theorem dX8_cheated_59 : decode cX8_cheated 59 = .ok (.iload 4, 2) := by decide +kernel
theorem dX8_cheated_61 : decode cX8_cheated 61 = .ok (.if_icmp .le 7, 3) := by decide +kernel
theorem dX8_cheated_64 : decode cX8_cheated 64 = .ok (.iconst 1, 1) := by decide +kernel
theorem dX8_cheated_65 : decode cX8_cheated 65 = .ok (.goto 4, 3) := by decide +kernel
theorem dX8_cheated_68 : decode cX8_cheated 68 = .ok (.iconst 0, 1) := by decide +kernel
theorem dX8_cheated_69 : decode cX8_cheated 69 = .ok (.istore 7, 2) := by decide +kernel
theorem dX8_cheated_71 : decode cX8_cheated 71 = .ok (.iload 7, 2) := by decide +kernel
theorem dX8_cheated_73 : decode cX8_cheated 73 = .ok (.ifCond .eq 8, 3) := by decide +kernel
theorem dX8_cheated_76 : decode cX8_cheated 76 = .ok (.iload 5, 2) := by decide +kernel
theorem dX8_cheated_78 : decode cX8_cheated 78 = .ok (.goto 4, 3) := by decide +kernel
theorem dX8_cheated_81 : decode cX8_cheated 81 = .ok (.iload_n 3, 1) := by decide +kernel
theorem dX8_cheated_82 : decode cX8_cheated 82 = .ok (.istore_n 3, 1) := by decide +kernel
theorem dX8_cheated_83 : decode cX8_cheated 83 = .ok (.iload 7, 2) := by decide +kernel
theorem dX8_cheated_85 : decode cX8_cheated 85 = .ok (.ifCond .eq 8, 3) := by decide +kernel
theorem dX8_cheated_88 : decode cX8_cheated 88 = .ok (.iload 6, 2) := by decide +kernel
theorem dX8_cheated_90 : decode cX8_cheated 90 = .ok (.goto 5, 3) := by decide +kernel
theorem dX8_cheated_93 : decode cX8_cheated 93 = .ok (.iload 4, 2) := by decide +kernel
theorem dX8_cheated_95 : decode cX8_cheated 95 = .ok (.istore 4, 2) := by decide +kernel
theorem dX8_cheated_97 : decode cX8_cheated 97 = .ok (.iinc 5 1, 3) := by decide +kernel
theorem dX8_cheated_100 : decode cX8_cheated 100 = .ok (.goto (-68), 3) := by decide +kernel
theorem dX8_cheated_103 : decode cX8_cheated 103 = .ok (.aload_n 0, 1) := by decide +kernel
theorem dX8_cheated_104 : decode cX8_cheated 104 = .ok (.iload_n 2, 1) := by decide +kernel
theorem dX8_cheated_105 : decode cX8_cheated 105 = .ok (.putfield 60, 3) := by decide +kernel
theorem dX8_cheated_108 : decode cX8_cheated 108 = .ok (.iload_n 3, 1) := by decide +kernel
theorem dX8_cheated_109 : decode cX8_cheated 109 = .ok (.ireturn, 1) := by decide +kernel
theorem dX8_chance_0 : decode cX8_chance 0 = .ok (.iload_n 1, 1) := by decide +kernel
theorem dX8_chance_1 : decode cX8_chance 1 = .ok (.bipush (-4), 2) := by decide +kernel
theorem dX8_chance_3 : decode cX8_chance 3 = .ok (.if_icmp .eq 12, 3) := by decide +kernel
theorem dX8_chance_6 : decode cX8_chance 6 = .ok (.aload_n 0, 1) := by decide +kernel
theorem dX8_chance_7 : decode cX8_chance 7 = .ok (.iload_n 1, 1) := by decide +kernel
theorem dX8_chance_8 : decode cX8_chance 8 = .ok (.i2l, 1) := by decide +kernel
theorem dX8_chance_9 : decode cX8_chance 9 = .ok (.invokevirtual 89, 3) := by decide +kernel
theorem dX8_chance_12 : decode cX8_chance 12 = .ok (.ifCond .eq 13, 3) := by decide +kernel
theorem dX8_chance_15 : decode cX8_chance 15 = .ok (.iload_n 2, 1) := by decide +kernel
theorem dX8_chance_16 : decode cX8_chance 16 = .ok (.i2l, 1) := by decide +kernel
theorem dX8_chance_17 : decode cX8_chance 17 = .ok (.lconst 0, 1) := by decide +kernel
theorem dX8_chance_18 : decode cX8_chance 18 = .ok (.lconst 1, 1) := by decide +kernel
theorem dX8_chance_19 : decode cX8_chance 19 = .ok (.invokestatic 72, 3) := by decide +kernel
theorem dX8_chance_22 : decode cX8_chance 22 = .ok (.ifCond .ne 5, 3) := by decide +kernel
theorem dX8_chance_25 : decode cX8_chance 25 = .ok (.iconst (-1), 1) := by decide +kernel
theorem dX8_chance_26 : decode cX8_chance 26 = .ok (.ireturn, 1) := by decide +kernel
theorem dX8_chance_27 : decode cX8_chance 27 = .ok (.bipush 12, 2) := by decide +kernel
theorem dX8_chance_29 : decode cX8_chance 29 = .ok (.aload_n 0, 1) := by decide +kernel
theorem dX8_chance_30 : decode cX8_chance 30 = .ok (.getfield 16, 3) := by decide +kernel
theorem dX8_chance_33 : decode cX8_chance 33 = .ok (.iconst 3, 1) := by decide +kernel
theorem dX8_chance_34 : decode cX8_chance 34 = .ok (.iaload, 1) := by decide +kernel
theorem dX8_chance_35 : decode cX8_chance 35 = .ok (.isub, 1) := by decide +kernel
theorem dX8_chance_36 : decode cX8_chance 36 = .ok (.istore_n 3, 1) := by decide +kernel
theorem dX8_chance_37 : decode cX8_chance 37 = .ok (.iload_n 3, 1) := by decide +kernel
theorem dX8_chance_38 : decode cX8_chance 38 = .ok (.bipush 10, 2) := by decide +kernel
theorem dX8_chance_40 : decode cX8_chance 40 = .ok (.if_icmp .le 6, 3) := by decide +kernel
theorem dX8_chance_43 : decode cX8_chance 43 = .ok (.bipush (-3), 2) := by decide +kernel
theorem dX8_chance_45 : decode cX8_chance 45 = .ok (.ireturn, 1) := by decide +kernel
theorem dX8_chance_46 : decode cX8_chance 46 = .ok (.aload_n 0, 1) := by decide +kernel
theorem dX8_chance_47 : decode cX8_chance 47 = .ok (.invokevirtual 195, 3) := by decide +kernel
theorem dX8_chance_50 : decode cX8_chance 50 = .ok (.iconst 0, 1) := by decide +kernel
theorem dX8_chance_51 : decode cX8_chance 51 = .ok (.istore 4, 2) := by decide +kernel
theorem dX8_chance_53 : decode cX8_chance 53 = .ok (.iconst 0, 1) := by decide +kernel
theorem dX8_chance_54 : decode cX8_chance 54 = .ok (.istore 5, 2) := by decide +kernel
theorem dX8_chance_56 : decode cX8_chance 56 = .ok (.iload 5, 2) := by decide +kernel
theorem dX8_chance_58 : decode cX8_chance 58 = .ok (.iconst 1, 1) := by decide +kernel
theorem dX8_chance_59 : decode cX8_chance 59 = .ok (.iload_n 3, 1) := by decide +kernel
theorem dX8_chance_60 : decode cX8_chance 60 = .ok (.ishl, 1) := by decide +kernel
theorem dX8_chance_61 : decode cX8_chance 61 = .ok (.if_icmp .ge 56, 3) := by decide +kernel
theorem dX8_chance_64 : decode cX8_chance 64 = .ok (.aload_n 0, 1) := by decide +kernel
theorem dX8_chance_65 : decode cX8_chance 65 = .ok (.bipush (-4), 2) := by decide +kernel
theorem dX8_chance_67 : decode cX8_chance 67 = .ok (.putfield 186, 3) := by decide +kernel
theorem dX8_chance_70 : decode cX8_chance 70 = .ok (.aload_n 0, 1) := by decide +kernel
theorem dX8_chance_71 : decode cX8_chance 71 = .ok (.iload 5, 2) := by decide +kernel
theorem dX8_chance_73 : decode cX8_chance 73 = .ok (.aload_n 0, 1) := by decide +kernel
theorem dX8_chance_74 : decode cX8_chance 74 = .ok (.getfield 31, 3) := by decide +kernel
theorem dX8_chance_77 : decode cX8_chance 77 = .ok (.iconst 3, 1) := by decide +kernel
theorem dX8_chance_78 : decode cX8_chance 78 = .ok (.iaload, 1) := by decide +kernel
theorem dX8_chance_79 : decode cX8_chance 79 = .ok (.ishl, 1) := by decide +kernel
theorem dX8_chance_80 : decode cX8_chance 80 = .ok (.putfield 163, 3) := by decide +kernel
theorem dX8_chance_83 : decode cX8_chance 83 = .ok (.aload_n 0, 1) := by decide +kernel
theorem dX8_chance_84 : decode cX8_chance 84 = .ok (.invokevirtual 198, 3) := by decide +kernel
theorem dX8_chance_87 : decode cX8_chance 87 = .ok (.iload 4, 2) := by decide +kernel
theorem dX8_chance_89 : decode cX8_chance 89 = .ok (.aload_n 0, 1) := by decide +kernel
theorem dX8_chance_90 : decode cX8_chance 90 = .ok (.getfield 16, 3) := by decide +kernel
theorem dX8_chance_93 : decode cX8_chance 93 = .ok (.iconst 0, 1) := by decide +kernel
theorem dX8_chance_94 : decode cX8_chance 94 = .ok (.iaload, 1) := by decide +kernel
theorem dX8_chance_95 : decode cX8_chance 95 = .ok (.iload_n 1, 1) := by decide +kernel
theorem dX8_chance_96 : decode cX8_chance 96 = .ok (.if_icmp .ne 7, 3) := by decide +kernel
theorem dX8_chance_99 : decode cX8_chance 99 = .ok (.iconst 1, 1) := by decide +kernel
theorem dX8_chance_100 : decode cX8_chance 100 = .ok (.goto 4, 3) := by decide +kernel
theorem dX8_chance_103 : decode cX8_chance 103 = .ok (.iconst 0, 1) := by decide +kernel
theorem dX8_chance_104 : decode cX8_chance 104 = .ok (.iadd, 1) := by decide +kernel
theorem dX8_chance_105 : decode cX8_chance 105 = .ok (.istore 4, 2) := by decide +kernel
theorem dX8_chance_107 : decode cX8_chance 107 = .ok (.aload_n 0, 1) := by decide +kernel
theorem dX8_chance_108 : decode cX8_chance 108 = .ok (.invokevirtual 201, 3) := by decide +kernel
theorem dX8_chance_111 : decode cX8_chance 111 = .ok (.iinc 5 1, 3) := by decide +kernel
theorem dX8_chance_114 : decode cX8_chance 114 = .ok (.goto (-58), 3) := by decide +kernel
theorem dX8_chance_117 : decode cX8_chance 117 = .ok (.iconst 1, 1) := by decide +kernel
theorem dX8_chance_118 : decode cX8_chance 118 = .ok (.iload_n 3, 1) := by decide +kernel
theorem dX8_chance_119 : decode cX8_chance 119 = .ok (.ishl, 1) := by decide +kernel
theorem dX8_chance_120 : decode cX8_chance 120 = .ok (.istore 5, 2) := by decide +kernel
theorem dX8_chance_122 : decode cX8_chance 122 = .ok (.iload 4, 2) := by decide +kernel
theorem dX8_chance_124 : decode cX8_chance 124 = .ok (.iconst 2, 1) := by decide +kernel
theorem dX8_chance_125 : decode cX8_chance 125 = .ok (.irem, 1) := by decide +kernel
theorem dX8_chance_126 : decode cX8_chance 126 = .ok (.ifCond .ne 24, 3) := by decide +kernel
theorem dX8_chance_129 : decode cX8_chance 129 = .ok (.iload 5, 2) := by decide +kernel
theorem dX8_chance_131 : decode cX8_chance 131 = .ok (.iconst 1, 1) := by decide +kernel
theorem dX8_chance_132 : decode cX8_chance 132 = .ok (.if_icmp .le 18, 3) := by decide +kernel
theorem dX8_chance_135 : decode cX8_chance 135 = .ok (.iload 4, 2) := by decide +kernel
theorem dX8_chance_137 : decode cX8_chance 137 = .ok (.iconst 2, 1) := by decide +kernel
theorem dX8_chance_138 : decode cX8_chance 138 = .ok (.idiv, 1) := by decide +kernel
theorem dX8_chance_139 : decode cX8_chance 139 = .ok (.istore 4, 2) := by decide +kernel
theorem dX8_chance_141 : decode cX8_chance 141 = .ok (.iload 5, 2) := by decide +kernel
theorem dX8_chance_143 : decode cX8_chance 143 = .ok (.iconst 2, 1) := by decide +kernel
theorem dX8_chance_144 : decode cX8_chance 144 = .ok (.idiv, 1) := by decide +kernel
theorem dX8_chance_145 : decode cX8_chance 145 = .ok (.istore 5, 2) := by decide +kernel
theorem dX8_chance_147 : decode cX8_chance 147 = .ok (.goto (-25), 3) := by decide +kernel
theorem dX8_chance_150 : decode cX8_chance 150 = .ok (.iload_n 2, 1) := by decide +kernel
theorem dX8_chance_151 : decode cX8_chance 151 = .ok (.ifCond .ne 8, 3) := by decide +kernel
theorem dX8_chance_154 : decode cX8_chance 154 = .ok (.iload 4, 2) := by decide +kernel
theorem dX8_chance_156 : decode cX8_chance 156 = .ok (.goto 5, 3) := by decide +kernel
theorem dX8_chance_159 : decode cX8_chance 159 = .ok (.iload 5, 2) := by decide +kernel
theorem dX8_chance_161 : decode cX8_chance 161 = .ok (.ireturn, 1) := by decide +kernel
theorem dX8_notesRow_0 : decode cX8_notesRow 0 = .ok (.iconst 0, 1) := by decide +kernel
theorem dX8_notesRow_1 : decode cX8_notesRow 1 = .ok (.istore_n 3, 1) := by decide +kernel
theorem dX8_notesRow_2 : decode cX8_notesRow 2 = .ok (.iload_n 3, 1) := by decide +kernel
theorem dX8_notesRow_3 : decode cX8_notesRow 3 = .ok (.aload_n 1, 1) := by decide +kernel
theorem dX8_notesRow_4 : decode cX8_notesRow 4 = .ok (.arraylength, 1) := by decide +kernel
theorem dX8_notesRow_5 : decode cX8_notesRow 5 = .ok (.if_icmp .ge 20, 3) := by decide +kernel
theorem dX8_notesRow_8 : decode cX8_notesRow 8 = .ok (.aload_n 0, 1) := by decide +kernel
theorem dX8_notesRow_9 : decode cX8_notesRow 9 = .ok (.getfield 40, 3) := by decide +kernel
theorem dX8_notesRow_12 : decode cX8_notesRow 12 = .ok (.iload_n 2, 1) := by decide +kernel
theorem dX8_notesRow_13 : decode cX8_notesRow 13 = .ok (.iload_n 3, 1) := by decide +kernel
theorem dX8_notesRow_14 : decode cX8_notesRow 14 = .ok (.iadd, 1) := by decide +kernel
theorem dX8_notesRow_15 : decode cX8_notesRow 15 = .ok (.aload_n 1, 1) := by decide +kernel
theorem dX8_notesRow_16 : decode cX8_notesRow 16 = .ok (.iload_n 3, 1) := by decide +kernel
theorem dX8_notesRow_17 : decode cX8_notesRow 17 = .ok (.iaload, 1) := by decide +kernel
theorem dX8_notesRow_18 : decode cX8_notesRow 18 = .ok (.iastore, 1) := by decide +kernel
theorem dX8_notesRow_19 : decode cX8_notesRow 19 = .ok (.iinc 3 1, 3) := by decide +kernel
theorem dX8_notesRow_22 : decode cX8_notesRow 22 = .ok (.goto (-20), 3) := by decide +kernel
theorem dX8_notesRow_25 : decode cX8_notesRow 25 = .ok (.iload_n 2, 1) := by decide +kernel
theorem dX8_notesRow_26 : decode cX8_notesRow 26 = .ok (.aload_n 1, 1) := by decide +kernel
theorem dX8_notesRow_27 : decode cX8_notesRow 27 = .ok (.arraylength, 1) := by decide +kernel
theorem dX8_notesRow_28 : decode cX8_notesRow 28 = .ok (.iadd, 1) := by decide +kernel
theorem dX8_notesRow_29 : decode cX8_notesRow 29 = .ok (.ireturn, 1) := by decide +kernel
theorem dX8_gives_0 : decode cX8_gives 0 = .ok (.iconst 0, 1) := by decide +kernel
theorem dX8_gives_1 : decode cX8_gives 1 = .ok (.istore_n 3, 1) := by decide +kernel
theorem dX8_gives_2 : decode cX8_gives 2 = .ok (.iload_n 3, 1) := by decide +kernel
theorem dX8_gives_3 : decode cX8_gives 3 = .ok (.aload_n 2, 1) := by decide +kernel
theorem dX8_gives_4 : decode cX8_gives 4 = .ok (.arraylength, 1) := by decide +kernel
theorem dX8_gives_5 : decode cX8_gives 5 = .ok (.if_icmp .ge 20, 3) := by decide +kernel
theorem dX8_gives_8 : decode cX8_gives 8 = .ok (.aload_n 2, 1) := by decide +kernel
theorem dX8_gives_9 : decode cX8_gives 9 = .ok (.iload_n 3, 1) := by decide +kernel
theorem dX8_gives_10 : decode cX8_gives 10 = .ok (.aload_n 0, 1) := by decide +kernel
theorem dX8_gives_11 : decode cX8_gives 11 = .ok (.getfield 40, 3) := by decide +kernel
theorem dX8_gives_14 : decode cX8_gives 14 = .ok (.iload_n 1, 1) := by decide +kernel
theorem dX8_gives_15 : decode cX8_gives 15 = .ok (.iload_n 3, 1) := by decide +kernel
theorem dX8_gives_16 : decode cX8_gives 16 = .ok (.iadd, 1) := by decide +kernel
theorem dX8_gives_17 : decode cX8_gives 17 = .ok (.iaload, 1) := by decide +kernel
theorem dX8_gives_18 : decode cX8_gives 18 = .ok (.iastore, 1) := by decide +kernel
theorem dX8_gives_19 : decode cX8_gives 19 = .ok (.iinc 3 1, 3) := by decide +kernel
theorem dX8_gives_22 : decode cX8_gives 22 = .ok (.goto (-20), 3) := by decide +kernel
theorem dX8_gives_25 : decode cX8_gives 25 = .ok (.iload_n 1, 1) := by decide +kernel
theorem dX8_gives_26 : decode cX8_gives 26 = .ok (.aload_n 2, 1) := by decide +kernel
theorem dX8_gives_27 : decode cX8_gives 27 = .ok (.arraylength, 1) := by decide +kernel
theorem dX8_gives_28 : decode cX8_gives 28 = .ok (.iadd, 1) := by decide +kernel
theorem dX8_gives_29 : decode cX8_gives 29 = .ok (.ireturn, 1) := by decide +kernel
theorem dX8_image_0 : decode cX8_image 0 = .ok (.aload_n 0, 1) := by decide +kernel
theorem dX8_image_1 : decode cX8_image 1 = .ok (.getfield 40, 3) := by decide +kernel
theorem dX8_image_4 : decode cX8_image 4 = .ok (.iconst 0, 1) := by decide +kernel
theorem dX8_image_5 : decode cX8_image 5 = .ok (.aload_n 0, 1) := by decide +kernel
theorem dX8_image_6 : decode cX8_image 6 = .ok (.getfield 69, 3) := by decide +kernel
theorem dX8_image_9 : decode cX8_image 9 = .ok (.iastore, 1) := by decide +kernel
theorem dX8_image_10 : decode cX8_image 10 = .ok (.aload_n 0, 1) := by decide +kernel
theorem dX8_image_11 : decode cX8_image 11 = .ok (.getfield 40, 3) := by decide +kernel
theorem dX8_image_14 : decode cX8_image 14 = .ok (.iconst 1, 1) := by decide +kernel
theorem dX8_image_15 : decode cX8_image 15 = .ok (.aload_n 0, 1) := by decide +kernel
theorem dX8_image_16 : decode cX8_image 16 = .ok (.getfield 76, 3) := by decide +kernel
theorem dX8_image_19 : decode cX8_image 19 = .ok (.iastore, 1) := by decide +kernel
theorem dX8_image_20 : decode cX8_image 20 = .ok (.aload_n 0, 1) := by decide +kernel
theorem dX8_image_21 : decode cX8_image 21 = .ok (.getfield 40, 3) := by decide +kernel
theorem dX8_image_24 : decode cX8_image 24 = .ok (.iconst 2, 1) := by decide +kernel
theorem dX8_image_25 : decode cX8_image 25 = .ok (.aload_n 0, 1) := by decide +kernel
theorem dX8_image_26 : decode cX8_image 26 = .ok (.getfield 60, 3) := by decide +kernel
theorem dX8_image_29 : decode cX8_image 29 = .ok (.iastore, 1) := by decide +kernel
theorem dX8_image_30 : decode cX8_image 30 = .ok (.aload_n 0, 1) := by decide +kernel
theorem dX8_image_31 : decode cX8_image 31 = .ok (.getfield 40, 3) := by decide +kernel
theorem dX8_image_34 : decode cX8_image 34 = .ok (.iconst 3, 1) := by decide +kernel
theorem dX8_image_35 : decode cX8_image 35 = .ok (.aload_n 0, 1) := by decide +kernel
theorem dX8_image_36 : decode cX8_image 36 = .ok (.getfield 56, 3) := by decide +kernel
theorem dX8_image_39 : decode cX8_image 39 = .ok (.iastore, 1) := by decide +kernel
theorem dX8_image_40 : decode cX8_image 40 = .ok (.aload_n 0, 1) := by decide +kernel
theorem dX8_image_41 : decode cX8_image 41 = .ok (.getfield 40, 3) := by decide +kernel
theorem dX8_image_44 : decode cX8_image 44 = .ok (.iconst 4, 1) := by decide +kernel
theorem dX8_image_45 : decode cX8_image 45 = .ok (.aload_n 0, 1) := by decide +kernel
theorem dX8_image_46 : decode cX8_image 46 = .ok (.getfield 66, 3) := by decide +kernel
theorem dX8_image_49 : decode cX8_image 49 = .ok (.iastore, 1) := by decide +kernel
theorem dX8_image_50 : decode cX8_image 50 = .ok (.aload_n 0, 1) := by decide +kernel
theorem dX8_image_51 : decode cX8_image 51 = .ok (.aload_n 0, 1) := by decide +kernel
theorem dX8_image_52 : decode cX8_image 52 = .ok (.getfield 7, 3) := by decide +kernel
theorem dX8_image_55 : decode cX8_image 55 = .ok (.iconst 5, 1) := by decide +kernel
theorem dX8_image_56 : decode cX8_image 56 = .ok (.invokevirtual 216, 3) := by decide +kernel
theorem dX8_image_59 : decode cX8_image 59 = .ok (.istore_n 1, 1) := by decide +kernel
theorem dX8_image_60 : decode cX8_image 60 = .ok (.aload_n 0, 1) := by decide +kernel
theorem dX8_image_61 : decode cX8_image 61 = .ok (.aload_n 0, 1) := by decide +kernel
theorem dX8_image_62 : decode cX8_image 62 = .ok (.getfield 13, 3) := by decide +kernel
theorem dX8_image_65 : decode cX8_image 65 = .ok (.iload_n 1, 1) := by decide +kernel
theorem dX8_image_66 : decode cX8_image 66 = .ok (.invokevirtual 216, 3) := by decide +kernel
theorem dX8_image_69 : decode cX8_image 69 = .ok (.istore_n 1, 1) := by decide +kernel
theorem dX8_image_70 : decode cX8_image 70 = .ok (.aload_n 0, 1) := by decide +kernel
theorem dX8_image_71 : decode cX8_image 71 = .ok (.aload_n 0, 1) := by decide +kernel
theorem dX8_image_72 : decode cX8_image 72 = .ok (.getfield 16, 3) := by decide +kernel
theorem dX8_image_75 : decode cX8_image 75 = .ok (.iload_n 1, 1) := by decide +kernel
theorem dX8_image_76 : decode cX8_image 76 = .ok (.invokevirtual 216, 3) := by decide +kernel
theorem dX8_image_79 : decode cX8_image 79 = .ok (.istore_n 1, 1) := by decide +kernel
theorem dX8_image_80 : decode cX8_image 80 = .ok (.aload_n 0, 1) := by decide +kernel
theorem dX8_image_81 : decode cX8_image 81 = .ok (.aload_n 0, 1) := by decide +kernel
theorem dX8_image_82 : decode cX8_image 82 = .ok (.getfield 28, 3) := by decide +kernel
theorem dX8_image_85 : decode cX8_image 85 = .ok (.iload_n 1, 1) := by decide +kernel
theorem dX8_image_86 : decode cX8_image 86 = .ok (.invokevirtual 216, 3) := by decide +kernel
theorem dX8_image_89 : decode cX8_image 89 = .ok (.pop, 1) := by decide +kernel
theorem dX8_image_90 : decode cX8_image 90 = .ok (.aload_n 0, 1) := by decide +kernel
theorem dX8_image_91 : decode cX8_image 91 = .ok (.iconst 1, 1) := by decide +kernel
theorem dX8_image_92 : decode cX8_image 92 = .ok (.putfield 220, 3) := by decide +kernel
theorem dX8_image_95 : decode cX8_image 95 = .ok (.iconst 1, 1) := by decide +kernel
theorem dX8_image_96 : decode cX8_image 96 = .ok (.ireturn, 1) := by decide +kernel
theorem dX8_restore_0 : decode cX8_restore 0 = .ok (.aload_n 0, 1) := by decide +kernel
theorem dX8_restore_1 : decode cX8_restore 1 = .ok (.getfield 220, 3) := by decide +kernel
theorem dX8_restore_4 : decode cX8_restore 4 = .ok (.ifCond .ne 6, 3) := by decide +kernel
theorem dX8_restore_7 : decode cX8_restore 7 = .ok (.bipush (-4), 2) := by decide +kernel
theorem dX8_restore_9 : decode cX8_restore 9 = .ok (.ireturn, 1) := by decide +kernel
theorem dX8_restore_10 : decode cX8_restore 10 = .ok (.aload_n 0, 1) := by decide +kernel
theorem dX8_restore_11 : decode cX8_restore 11 = .ok (.aload_n 0, 1) := by decide +kernel
theorem dX8_restore_12 : decode cX8_restore 12 = .ok (.getfield 40, 3) := by decide +kernel
theorem dX8_restore_15 : decode cX8_restore 15 = .ok (.iconst 0, 1) := by decide +kernel
theorem dX8_restore_16 : decode cX8_restore 16 = .ok (.iaload, 1) := by decide +kernel
theorem dX8_restore_17 : decode cX8_restore 17 = .ok (.putfield 69, 3) := by decide +kernel
theorem dX8_restore_20 : decode cX8_restore 20 = .ok (.aload_n 0, 1) := by decide +kernel
theorem dX8_restore_21 : decode cX8_restore 21 = .ok (.aload_n 0, 1) := by decide +kernel
theorem dX8_restore_22 : decode cX8_restore 22 = .ok (.getfield 40, 3) := by decide +kernel
theorem dX8_restore_25 : decode cX8_restore 25 = .ok (.iconst 1, 1) := by decide +kernel
theorem dX8_restore_26 : decode cX8_restore 26 = .ok (.iaload, 1) := by decide +kernel
theorem dX8_restore_27 : decode cX8_restore 27 = .ok (.putfield 76, 3) := by decide +kernel
theorem dX8_restore_30 : decode cX8_restore 30 = .ok (.aload_n 0, 1) := by decide +kernel
theorem dX8_restore_31 : decode cX8_restore 31 = .ok (.aload_n 0, 1) := by decide +kernel
theorem dX8_restore_32 : decode cX8_restore 32 = .ok (.getfield 40, 3) := by decide +kernel
theorem dX8_restore_35 : decode cX8_restore 35 = .ok (.iconst 2, 1) := by decide +kernel
theorem dX8_restore_36 : decode cX8_restore 36 = .ok (.iaload, 1) := by decide +kernel
theorem dX8_restore_37 : decode cX8_restore 37 = .ok (.putfield 60, 3) := by decide +kernel
theorem dX8_restore_40 : decode cX8_restore 40 = .ok (.aload_n 0, 1) := by decide +kernel
theorem dX8_restore_41 : decode cX8_restore 41 = .ok (.aload_n 0, 1) := by decide +kernel
theorem dX8_restore_42 : decode cX8_restore 42 = .ok (.getfield 40, 3) := by decide +kernel
theorem dX8_restore_45 : decode cX8_restore 45 = .ok (.iconst 3, 1) := by decide +kernel
theorem dX8_restore_46 : decode cX8_restore 46 = .ok (.iaload, 1) := by decide +kernel
theorem dX8_restore_47 : decode cX8_restore 47 = .ok (.putfield 56, 3) := by decide +kernel
theorem dX8_restore_50 : decode cX8_restore 50 = .ok (.aload_n 0, 1) := by decide +kernel
theorem dX8_restore_51 : decode cX8_restore 51 = .ok (.aload_n 0, 1) := by decide +kernel
theorem dX8_restore_52 : decode cX8_restore 52 = .ok (.getfield 40, 3) := by decide +kernel
theorem dX8_restore_55 : decode cX8_restore 55 = .ok (.iconst 4, 1) := by decide +kernel
theorem dX8_restore_56 : decode cX8_restore 56 = .ok (.iaload, 1) := by decide +kernel
theorem dX8_restore_57 : decode cX8_restore 57 = .ok (.putfield 66, 3) := by decide +kernel
theorem dX8_restore_60 : decode cX8_restore 60 = .ok (.aload_n 0, 1) := by decide +kernel
theorem dX8_restore_61 : decode cX8_restore 61 = .ok (.iconst 5, 1) := by decide +kernel
theorem dX8_restore_62 : decode cX8_restore 62 = .ok (.aload_n 0, 1) := by decide +kernel
theorem dX8_restore_63 : decode cX8_restore 63 = .ok (.getfield 7, 3) := by decide +kernel
theorem dX8_restore_66 : decode cX8_restore 66 = .ok (.invokevirtual 223, 3) := by decide +kernel
theorem dX8_restore_69 : decode cX8_restore 69 = .ok (.istore_n 1, 1) := by decide +kernel
theorem dX8_restore_70 : decode cX8_restore 70 = .ok (.aload_n 0, 1) := by decide +kernel
theorem dX8_restore_71 : decode cX8_restore 71 = .ok (.iload_n 1, 1) := by decide +kernel
theorem dX8_restore_72 : decode cX8_restore 72 = .ok (.aload_n 0, 1) := by decide +kernel
theorem dX8_restore_73 : decode cX8_restore 73 = .ok (.getfield 13, 3) := by decide +kernel
theorem dX8_restore_76 : decode cX8_restore 76 = .ok (.invokevirtual 223, 3) := by decide +kernel
theorem dX8_restore_79 : decode cX8_restore 79 = .ok (.istore_n 1, 1) := by decide +kernel
theorem dX8_restore_80 : decode cX8_restore 80 = .ok (.aload_n 0, 1) := by decide +kernel
theorem dX8_restore_81 : decode cX8_restore 81 = .ok (.iload_n 1, 1) := by decide +kernel
theorem dX8_restore_82 : decode cX8_restore 82 = .ok (.aload_n 0, 1) := by decide +kernel
theorem dX8_restore_83 : decode cX8_restore 83 = .ok (.getfield 16, 3) := by decide +kernel
theorem dX8_restore_86 : decode cX8_restore 86 = .ok (.invokevirtual 223, 3) := by decide +kernel
theorem dX8_restore_89 : decode cX8_restore 89 = .ok (.istore_n 1, 1) := by decide +kernel
theorem dX8_restore_90 : decode cX8_restore 90 = .ok (.aload_n 0, 1) := by decide +kernel
theorem dX8_restore_91 : decode cX8_restore 91 = .ok (.iload_n 1, 1) := by decide +kernel
theorem dX8_restore_92 : decode cX8_restore 92 = .ok (.aload_n 0, 1) := by decide +kernel
theorem dX8_restore_93 : decode cX8_restore 93 = .ok (.getfield 28, 3) := by decide +kernel
theorem dX8_restore_96 : decode cX8_restore 96 = .ok (.invokevirtual 223, 3) := by decide +kernel
theorem dX8_restore_99 : decode cX8_restore 99 = .ok (.pop, 1) := by decide +kernel
theorem dX8_restore_100 : decode cX8_restore 100 = .ok (.iconst 1, 1) := by decide +kernel
theorem dX8_restore_101 : decode cX8_restore 101 = .ok (.ireturn, 1) := by decide +kernel
theorem dX8_isSheet_0 : decode cX8_isSheet 0 = .ok (.iload_n 0, 1) := by decide +kernel
theorem dX8_isSheet_1 : decode cX8_isSheet 1 = .ok (.i2l, 1) := by decide +kernel
theorem dX8_isSheet_2 : decode cX8_isSheet 2 = .ok (.lconst 0, 1) := by decide +kernel
theorem dX8_isSheet_3 : decode cX8_isSheet 3 = .ok (.ldc2_w 79, 3) := by decide +kernel
theorem dX8_isSheet_6 : decode cX8_isSheet 6 = .ok (.invokestatic 72, 3) := by decide +kernel
theorem dX8_isSheet_9 : decode cX8_isSheet 9 = .ok (.ireturn, 1) := by decide +kernel
theorem dX8_isLane_0 : decode cX8_isLane 0 = .ok (.iload_n 0, 1) := by decide +kernel
theorem dX8_isLane_1 : decode cX8_isLane 1 = .ok (.i2l, 1) := by decide +kernel
theorem dX8_isLane_2 : decode cX8_isLane 2 = .ok (.lconst 0, 1) := by decide +kernel
theorem dX8_isLane_3 : decode cX8_isLane 3 = .ok (.ldc2_w 79, 3) := by decide +kernel
theorem dX8_isLane_6 : decode cX8_isLane 6 = .ok (.invokestatic 72, 3) := by decide +kernel
theorem dX8_isLane_9 : decode cX8_isLane 9 = .ok (.ireturn, 1) := by decide +kernel
theorem dX8_why_0 : decode cX8_why 0 = .ok (.aload_n 0, 1) := by decide +kernel
theorem dX8_why_1 : decode cX8_why 1 = .ok (.getfield 43, 3) := by decide +kernel
theorem dX8_why_4 : decode cX8_why 4 = .ok (.iload_n 1, 1) := by decide +kernel
theorem dX8_why_5 : decode cX8_why 5 = .ok (.iaload, 1) := by decide +kernel
theorem dX8_why_6 : decode cX8_why 6 = .ok (.ifCond .ge 6, 3) := by decide +kernel
theorem dX8_why_9 : decode cX8_why 9 = .ok (.bipush (-11), 2) := by decide +kernel
theorem dX8_why_11 : decode cX8_why 11 = .ok (.ireturn, 1) := by decide +kernel
theorem dX8_why_12 : decode cX8_why 12 = .ok (.aload_n 0, 1) := by decide +kernel
theorem dX8_why_13 : decode cX8_why 13 = .ok (.getfield 43, 3) := by decide +kernel
theorem dX8_why_16 : decode cX8_why 16 = .ok (.iload_n 1, 1) := by decide +kernel
theorem dX8_why_17 : decode cX8_why 17 = .ok (.iaload, 1) := by decide +kernel
theorem dX8_why_18 : decode cX8_why 18 = .ok (.iload_n 2, 1) := by decide +kernel
theorem dX8_why_19 : decode cX8_why 19 = .ok (.if_icmp .eq 6, 3) := by decide +kernel
theorem dX8_why_22 : decode cX8_why 22 = .ok (.bipush (-12), 2) := by decide +kernel
theorem dX8_why_24 : decode cX8_why 24 = .ok (.ireturn, 1) := by decide +kernel
theorem dX8_why_25 : decode cX8_why 25 = .ok (.iload_n 3, 1) := by decide +kernel
theorem dX8_why_26 : decode cX8_why 26 = .ok (.ifCond .lt 20, 3) := by decide +kernel
theorem dX8_why_29 : decode cX8_why 29 = .ok (.iload_n 3, 1) := by decide +kernel
theorem dX8_why_30 : decode cX8_why 30 = .ok (.i2l, 1) := by decide +kernel
theorem dX8_why_31 : decode cX8_why 31 = .ok (.iload 4, 2) := by decide +kernel
theorem dX8_why_33 : decode cX8_why 33 = .ok (.i2l, 1) := by decide +kernel
theorem dX8_why_34 : decode cX8_why 34 = .ok (.ladd, 1) := by decide +kernel
theorem dX8_why_35 : decode cX8_why 35 = .ok (.aload_n 0, 1) := by decide +kernel
theorem dX8_why_36 : decode cX8_why 36 = .ok (.getfield 46, 3) := by decide +kernel
theorem dX8_why_39 : decode cX8_why 39 = .ok (.iload_n 1, 1) := by decide +kernel
theorem dX8_why_40 : decode cX8_why 40 = .ok (.iaload, 1) := by decide +kernel
theorem dX8_why_41 : decode cX8_why 41 = .ok (.i2l, 1) := by decide +kernel
theorem dX8_why_42 : decode cX8_why 42 = .ok (.lcmp, 1) := by decide +kernel
theorem dX8_why_43 : decode cX8_why 43 = .ok (.ifCond .le 8, 3) := by decide +kernel
theorem dX8_why_46 : decode cX8_why 46 = .ok (.bipush (-13), 2) := by decide +kernel
theorem dX8_why_48 : decode cX8_why 48 = .ok (.goto 4, 3) := by decide +kernel
theorem dX8_why_51 : decode cX8_why 51 = .ok (.iconst 0, 1) := by decide +kernel
theorem dX8_why_52 : decode cX8_why 52 = .ok (.ireturn, 1) := by decide +kernel
theorem dX8_seen_0 : decode cX8_seen 0 = .ok (.iload_n 1, 1) := by decide +kernel
theorem dX8_seen_1 : decode cX8_seen 1 = .ok (.invokestatic 227, 3) := by decide +kernel
theorem dX8_seen_4 : decode cX8_seen 4 = .ok (.ifCond .eq 23, 3) := by decide +kernel
theorem dX8_seen_7 : decode cX8_seen 7 = .ok (.iload_n 2, 1) := by decide +kernel
theorem dX8_seen_8 : decode cX8_seen 8 = .ok (.invokestatic 230, 3) := by decide +kernel
theorem dX8_seen_11 : decode cX8_seen 11 = .ok (.ifCond .eq 16, 3) := by decide +kernel
theorem dX8_seen_14 : decode cX8_seen 14 = .ok (.iload 4, 2) := by decide +kernel
theorem dX8_seen_16 : decode cX8_seen 16 = .ok (.i2l, 1) := by decide +kernel
theorem dX8_seen_17 : decode cX8_seen 17 = .ok (.lconst 1, 1) := by decide +kernel
theorem dX8_seen_18 : decode cX8_seen 18 = .ok (.ldc2_w 233, 3) := by decide +kernel
theorem dX8_seen_21 : decode cX8_seen 21 = .ok (.invokestatic 72, 3) := by decide +kernel
theorem dX8_seen_24 : decode cX8_seen 24 = .ok (.ifCond .ne 5, 3) := by decide +kernel
theorem dX8_seen_27 : decode cX8_seen 27 = .ok (.iconst (-1), 1) := by decide +kernel
theorem dX8_seen_28 : decode cX8_seen 28 = .ok (.ireturn, 1) := by decide +kernel
theorem dX8_seen_29 : decode cX8_seen 29 = .ok (.aload_n 0, 1) := by decide +kernel
theorem dX8_seen_30 : decode cX8_seen 30 = .ok (.iload_n 1, 1) := by decide +kernel
theorem dX8_seen_31 : decode cX8_seen 31 = .ok (.iload_n 2, 1) := by decide +kernel
theorem dX8_seen_32 : decode cX8_seen 32 = .ok (.iload_n 3, 1) := by decide +kernel
theorem dX8_seen_33 : decode cX8_seen 33 = .ok (.iconst 2, 1) := by decide +kernel
theorem dX8_seen_34 : decode cX8_seen 34 = .ok (.iload 4, 2) := by decide +kernel
theorem dX8_seen_36 : decode cX8_seen 36 = .ok (.imul, 1) := by decide +kernel
theorem dX8_seen_37 : decode cX8_seen 37 = .ok (.invokevirtual 235, 3) := by decide +kernel
theorem dX8_seen_40 : decode cX8_seen 40 = .ok (.istore 5, 2) := by decide +kernel
theorem dX8_seen_42 : decode cX8_seen 42 = .ok (.iload 5, 2) := by decide +kernel
theorem dX8_seen_44 : decode cX8_seen 44 = .ok (.ifCond .ge 6, 3) := by decide +kernel
theorem dX8_seen_47 : decode cX8_seen 47 = .ok (.iload 5, 2) := by decide +kernel
theorem dX8_seen_49 : decode cX8_seen 49 = .ok (.ireturn, 1) := by decide +kernel
theorem dX8_seen_50 : decode cX8_seen 50 = .ok (.iconst 3, 1) := by decide +kernel
theorem dX8_seen_51 : decode cX8_seen 51 = .ok (.istore 6, 2) := by decide +kernel
theorem dX8_seen_53 : decode cX8_seen 53 = .ok (.bipush 16, 2) := by decide +kernel
theorem dX8_seen_55 : decode cX8_seen 55 = .ok (.iload_n 1, 1) := by decide +kernel
theorem dX8_seen_56 : decode cX8_seen 56 = .ok (.imul, 1) := by decide +kernel
theorem dX8_seen_57 : decode cX8_seen 57 = .ok (.iload_n 3, 1) := by decide +kernel
theorem dX8_seen_58 : decode cX8_seen 58 = .ok (.iadd, 1) := by decide +kernel
theorem dX8_seen_59 : decode cX8_seen 59 = .ok (.istore 7, 2) := by decide +kernel
theorem dX8_seen_61 : decode cX8_seen 61 = .ok (.iload 7, 2) := by decide +kernel
theorem dX8_seen_63 : decode cX8_seen 63 = .ok (.bipush 16, 2) := by decide +kernel
theorem dX8_seen_65 : decode cX8_seen 65 = .ok (.iload_n 1, 1) := by decide +kernel
theorem dX8_seen_66 : decode cX8_seen 66 = .ok (.imul, 1) := by decide +kernel
theorem dX8_seen_67 : decode cX8_seen 67 = .ok (.iload_n 3, 1) := by decide +kernel
theorem dX8_seen_68 : decode cX8_seen 68 = .ok (.iadd, 1) := by decide +kernel
theorem dX8_seen_69 : decode cX8_seen 69 = .ok (.iconst 2, 1) := by decide +kernel
theorem dX8_seen_70 : decode cX8_seen 70 = .ok (.iload 4, 2) := by decide +kernel
theorem dX8_seen_72 : decode cX8_seen 72 = .ok (.imul, 1) := by decide +kernel
theorem dX8_seen_73 : decode cX8_seen 73 = .ok (.iadd, 1) := by decide +kernel
theorem dX8_seen_74 : decode cX8_seen 74 = .ok (.if_icmp .ge 42, 3) := by decide +kernel
theorem dX8_seen_77 : decode cX8_seen 77 = .ok (.aload_n 0, 1) := by decide +kernel
theorem dX8_seen_78 : decode cX8_seen 78 = .ok (.aload_n 0, 1) := by decide +kernel
theorem dX8_seen_79 : decode cX8_seen 79 = .ok (.getfield 49, 3) := by decide +kernel
theorem dX8_seen_82 : decode cX8_seen 82 = .ok (.iload 7, 2) := by decide +kernel
theorem dX8_seen_84 : decode cX8_seen 84 = .ok (.laload, 1) := by decide +kernel
theorem dX8_seen_85 : decode cX8_seen 85 = .ok (.invokevirtual 89, 3) := by decide +kernel
theorem dX8_seen_88 : decode cX8_seen 88 = .ok (.ifCond .eq 19, 3) := by decide +kernel
theorem dX8_seen_91 : decode cX8_seen 91 = .ok (.aload_n 0, 1) := by decide +kernel
theorem dX8_seen_92 : decode cX8_seen 92 = .ok (.aload_n 0, 1) := by decide +kernel
theorem dX8_seen_93 : decode cX8_seen 93 = .ok (.getfield 49, 3) := by decide +kernel
theorem dX8_seen_96 : decode cX8_seen 96 = .ok (.iload 7, 2) := by decide +kernel
theorem dX8_seen_98 : decode cX8_seen 98 = .ok (.iconst 1, 1) := by decide +kernel
theorem dX8_seen_99 : decode cX8_seen 99 = .ok (.iadd, 1) := by decide +kernel
theorem dX8_seen_100 : decode cX8_seen 100 = .ok (.laload, 1) := by decide +kernel
theorem dX8_seen_101 : decode cX8_seen 101 = .ok (.invokevirtual 89, 3) := by decide +kernel
theorem dX8_seen_104 : decode cX8_seen 104 = .ok (.ifCond .ne 6, 3) := by decide +kernel
theorem dX8_seen_107 : decode cX8_seen 107 = .ok (.bipush (-2), 2) := by decide +kernel
theorem dX8_seen_109 : decode cX8_seen 109 = .ok (.ireturn, 1) := by decide +kernel
theorem dX8_seen_110 : decode cX8_seen 110 = .ok (.iinc 7 2, 3) := by decide +kernel
theorem dX8_seen_113 : decode cX8_seen 113 = .ok (.goto (-52), 3) := by decide +kernel
theorem dX8_seen_116 : decode cX8_seen 116 = .ok (.bipush 16, 2) := by decide +kernel
theorem dX8_seen_118 : decode cX8_seen 118 = .ok (.iload_n 1, 1) := by decide +kernel
theorem dX8_seen_119 : decode cX8_seen 119 = .ok (.imul, 1) := by decide +kernel
theorem dX8_seen_120 : decode cX8_seen 120 = .ok (.iload_n 3, 1) := by decide +kernel
theorem dX8_seen_121 : decode cX8_seen 121 = .ok (.iadd, 1) := by decide +kernel
theorem dX8_seen_122 : decode cX8_seen 122 = .ok (.istore 7, 2) := by decide +kernel
theorem dX8_seen_124 : decode cX8_seen 124 = .ok (.iload 7, 2) := by decide +kernel
theorem dX8_seen_126 : decode cX8_seen 126 = .ok (.bipush 16, 2) := by decide +kernel
theorem dX8_seen_128 : decode cX8_seen 128 = .ok (.iload_n 1, 1) := by decide +kernel
theorem dX8_seen_129 : decode cX8_seen 129 = .ok (.imul, 1) := by decide +kernel
theorem dX8_seen_130 : decode cX8_seen 130 = .ok (.iload_n 3, 1) := by decide +kernel
theorem dX8_seen_131 : decode cX8_seen 131 = .ok (.iadd, 1) := by decide +kernel
theorem dX8_seen_132 : decode cX8_seen 132 = .ok (.iconst 2, 1) := by decide +kernel
theorem dX8_seen_133 : decode cX8_seen 133 = .ok (.iload 4, 2) := by decide +kernel
theorem dX8_seen_135 : decode cX8_seen 135 = .ok (.imul, 1) := by decide +kernel
theorem dX8_seen_136 : decode cX8_seen 136 = .ok (.iadd, 1) := by decide +kernel
theorem dX8_seen_137 : decode cX8_seen 137 = .ok (.if_icmp .ge 89, 3) := by decide +kernel
theorem dX8_seen_140 : decode cX8_seen 140 = .ok (.aload_n 0, 1) := by decide +kernel
theorem dX8_seen_141 : decode cX8_seen 141 = .ok (.getfield 49, 3) := by decide +kernel
theorem dX8_seen_144 : decode cX8_seen 144 = .ok (.iload 7, 2) := by decide +kernel
theorem dX8_seen_146 : decode cX8_seen 146 = .ok (.laload, 1) := by decide +kernel
theorem dX8_seen_147 : decode cX8_seen 147 = .ok (.l2i, 1) := by decide +kernel
theorem dX8_seen_148 : decode cX8_seen 148 = .ok (.istore 8, 2) := by decide +kernel
theorem dX8_seen_150 : decode cX8_seen 150 = .ok (.aload_n 0, 1) := by decide +kernel
theorem dX8_seen_151 : decode cX8_seen 151 = .ok (.getfield 49, 3) := by decide +kernel
theorem dX8_seen_154 : decode cX8_seen 154 = .ok (.iload 7, 2) := by decide +kernel
theorem dX8_seen_156 : decode cX8_seen 156 = .ok (.iconst 1, 1) := by decide +kernel
theorem dX8_seen_157 : decode cX8_seen 157 = .ok (.iadd, 1) := by decide +kernel
theorem dX8_seen_158 : decode cX8_seen 158 = .ok (.laload, 1) := by decide +kernel
theorem dX8_seen_159 : decode cX8_seen 159 = .ok (.l2i, 1) := by decide +kernel
theorem dX8_seen_160 : decode cX8_seen 160 = .ok (.istore 9, 2) := by decide +kernel
theorem dX8_seen_162 : decode cX8_seen 162 = .ok (.iload 6, 2) := by decide +kernel
theorem dX8_seen_164 : decode cX8_seen 164 = .ok (.aload_n 0, 1) := by decide +kernel
theorem dX8_seen_165 : decode cX8_seen 165 = .ok (.iload 8, 2) := by decide +kernel
theorem dX8_seen_167 : decode cX8_seen 167 = .ok (.iconst 0, 1) := by decide +kernel
theorem dX8_seen_168 : decode cX8_seen 168 = .ok (.iconst 0, 1) := by decide +kernel
theorem dX8_seen_169 : decode cX8_seen 169 = .ok (.invokevirtual 99, 3) := by decide +kernel
theorem dX8_seen_172 : decode cX8_seen 172 = .ok (.aload_n 0, 1) := by decide +kernel
theorem dX8_seen_173 : decode cX8_seen 173 = .ok (.iload 9, 2) := by decide +kernel
theorem dX8_seen_175 : decode cX8_seen 175 = .ok (.iconst 0, 1) := by decide +kernel
theorem dX8_seen_176 : decode cX8_seen 176 = .ok (.iconst 0, 1) := by decide +kernel
theorem dX8_seen_177 : decode cX8_seen 177 = .ok (.invokevirtual 99, 3) := by decide +kernel
theorem dX8_seen_180 : decode cX8_seen 180 = .ok (.if_icmp .le 7, 3) := by decide +kernel
theorem dX8_seen_183 : decode cX8_seen 183 = .ok (.iconst 3, 1) := by decide +kernel
theorem dX8_seen_184 : decode cX8_seen 184 = .ok (.goto 4, 3) := by decide +kernel
theorem dX8_seen_187 : decode cX8_seen 187 = .ok (.iconst 2, 1) := by decide +kernel
theorem dX8_seen_188 : decode cX8_seen 188 = .ok (.iand, 1) := by decide +kernel
theorem dX8_seen_189 : decode cX8_seen 189 = .ok (.istore 6, 2) := by decide +kernel
theorem dX8_seen_191 : decode cX8_seen 191 = .ok (.iload 6, 2) := by decide +kernel
theorem dX8_seen_193 : decode cX8_seen 193 = .ok (.aload_n 0, 1) := by decide +kernel
theorem dX8_seen_194 : decode cX8_seen 194 = .ok (.iload 8, 2) := by decide +kernel
theorem dX8_seen_196 : decode cX8_seen 196 = .ok (.iconst 0, 1) := by decide +kernel
theorem dX8_seen_197 : decode cX8_seen 197 = .ok (.iconst 1, 1) := by decide +kernel
theorem dX8_seen_198 : decode cX8_seen 198 = .ok (.invokevirtual 99, 3) := by decide +kernel
theorem dX8_seen_201 : decode cX8_seen 201 = .ok (.aload_n 0, 1) := by decide +kernel
theorem dX8_seen_202 : decode cX8_seen 202 = .ok (.iload 9, 2) := by decide +kernel
theorem dX8_seen_204 : decode cX8_seen 204 = .ok (.iconst 0, 1) := by decide +kernel
theorem dX8_seen_205 : decode cX8_seen 205 = .ok (.iconst 1, 1) := by decide +kernel
theorem dX8_seen_206 : decode cX8_seen 206 = .ok (.invokevirtual 99, 3) := by decide +kernel
theorem dX8_seen_209 : decode cX8_seen 209 = .ok (.if_icmp .le 7, 3) := by decide +kernel
theorem dX8_seen_212 : decode cX8_seen 212 = .ok (.iconst 3, 1) := by decide +kernel
theorem dX8_seen_213 : decode cX8_seen 213 = .ok (.goto 4, 3) := by decide +kernel
theorem dX8_seen_216 : decode cX8_seen 216 = .ok (.iconst 1, 1) := by decide +kernel
theorem dX8_seen_217 : decode cX8_seen 217 = .ok (.iand, 1) := by decide +kernel
theorem dX8_seen_218 : decode cX8_seen 218 = .ok (.istore 6, 2) := by decide +kernel
theorem dX8_seen_220 : decode cX8_seen 220 = .ok (.iinc 7 2, 3) := by decide +kernel
theorem dX8_seen_223 : decode cX8_seen 223 = .ok (.goto (-99), 3) := by decide +kernel
theorem dX8_seen_226 : decode cX8_seen 226 = .ok (.iload 6, 2) := by decide +kernel
theorem dX8_seen_228 : decode cX8_seen 228 = .ok (.ireturn, 1) := by decide +kernel
theorem dX8_puts_0 : decode cX8_puts 0 = .ok (.aload_n 0, 1) := by decide +kernel
theorem dX8_puts_1 : decode cX8_puts 1 = .ok (.getfield 43, 3) := by decide +kernel
theorem dX8_puts_4 : decode cX8_puts 4 = .ok (.iload_n 1, 1) := by decide +kernel
theorem dX8_puts_5 : decode cX8_puts 5 = .ok (.iaload, 1) := by decide +kernel
theorem dX8_puts_6 : decode cX8_puts 6 = .ok (.istore 5, 2) := by decide +kernel
theorem dX8_puts_8 : decode cX8_puts 8 = .ok (.aload_n 0, 1) := by decide +kernel
theorem dX8_puts_9 : decode cX8_puts 9 = .ok (.getfield 49, 3) := by decide +kernel
theorem dX8_puts_12 : decode cX8_puts 12 = .ok (.bipush 16, 2) := by decide +kernel
theorem dX8_puts_14 : decode cX8_puts 14 = .ok (.iload_n 1, 1) := by decide +kernel
theorem dX8_puts_15 : decode cX8_puts 15 = .ok (.imul, 1) := by decide +kernel
theorem dX8_puts_16 : decode cX8_puts 16 = .ok (.iload_n 2, 1) := by decide +kernel
theorem dX8_puts_17 : decode cX8_puts 17 = .ok (.iadd, 1) := by decide +kernel
theorem dX8_puts_18 : decode cX8_puts 18 = .ok (.iload 5, 2) := by decide +kernel
theorem dX8_puts_20 : decode cX8_puts 20 = .ok (.ifCond .ne 10, 3) := by decide +kernel
theorem dX8_puts_23 : decode cX8_puts 23 = .ok (.lload_n 3, 1) := by decide +kernel
theorem dX8_puts_24 : decode cX8_puts 24 = .ok (.l2i, 1) := by decide +kernel
theorem dX8_puts_25 : decode cX8_puts 25 = .ok (.i2b, 1) := by decide +kernel
theorem dX8_puts_26 : decode cX8_puts 26 = .ok (.i2l, 1) := by decide +kernel
theorem dX8_puts_27 : decode cX8_puts 27 = .ok (.goto 29, 3) := by decide +kernel
theorem dX8_puts_30 : decode cX8_puts 30 = .ok (.iload 5, 2) := by decide +kernel
theorem dX8_puts_32 : decode cX8_puts 32 = .ok (.iconst 1, 1) := by decide +kernel
theorem dX8_puts_33 : decode cX8_puts 33 = .ok (.if_icmp .ne 10, 3) := by decide +kernel
theorem dX8_puts_36 : decode cX8_puts 36 = .ok (.lload_n 3, 1) := by decide +kernel
theorem dX8_puts_37 : decode cX8_puts 37 = .ok (.l2i, 1) := by decide +kernel
theorem dX8_puts_38 : decode cX8_puts 38 = .ok (.i2s, 1) := by decide +kernel
theorem dX8_puts_39 : decode cX8_puts 39 = .ok (.i2l, 1) := by decide +kernel
theorem dX8_puts_40 : decode cX8_puts 40 = .ok (.goto 16, 3) := by decide +kernel
theorem dX8_puts_43 : decode cX8_puts 43 = .ok (.iload 5, 2) := by decide +kernel
theorem dX8_puts_45 : decode cX8_puts 45 = .ok (.iconst 2, 1) := by decide +kernel
theorem dX8_puts_46 : decode cX8_puts 46 = .ok (.if_icmp .ne 9, 3) := by decide +kernel
theorem dX8_puts_49 : decode cX8_puts 49 = .ok (.lload_n 3, 1) := by decide +kernel
theorem dX8_puts_50 : decode cX8_puts 50 = .ok (.l2i, 1) := by decide +kernel
theorem dX8_puts_51 : decode cX8_puts 51 = .ok (.i2l, 1) := by decide +kernel
theorem dX8_puts_52 : decode cX8_puts 52 = .ok (.goto 4, 3) := by decide +kernel
theorem dX8_puts_55 : decode cX8_puts 55 = .ok (.lload_n 3, 1) := by decide +kernel
theorem dX8_puts_56 : decode cX8_puts 56 = .ok (.lastore, 1) := by decide +kernel
theorem dX8_puts_57 : decode cX8_puts 57 = .ok (.return_, 1) := by decide +kernel
theorem dX8_film_0 : decode cX8_film 0 = .ok (.iload_n 1, 1) := by decide +kernel
theorem dX8_film_1 : decode cX8_film 1 = .ok (.invokestatic 227, 3) := by decide +kernel
theorem dX8_film_4 : decode cX8_film 4 = .ok (.ifCond .eq 10, 3) := by decide +kernel
theorem dX8_film_7 : decode cX8_film 7 = .ok (.iload_n 2, 1) := by decide +kernel
theorem dX8_film_8 : decode cX8_film 8 = .ok (.invokestatic 230, 3) := by decide +kernel
theorem dX8_film_11 : decode cX8_film 11 = .ok (.ifCond .ne 5, 3) := by decide +kernel
theorem dX8_film_14 : decode cX8_film 14 = .ok (.iconst (-1), 1) := by decide +kernel
theorem dX8_film_15 : decode cX8_film 15 = .ok (.ireturn, 1) := by decide +kernel
theorem dX8_film_16 : decode cX8_film 16 = .ok (.bipush 12, 2) := by decide +kernel
theorem dX8_film_18 : decode cX8_film 18 = .ok (.aload_n 0, 1) := by decide +kernel
theorem dX8_film_19 : decode cX8_film 19 = .ok (.getfield 16, 3) := by decide +kernel
theorem dX8_film_22 : decode cX8_film 22 = .ok (.iconst 3, 1) := by decide +kernel
theorem dX8_film_23 : decode cX8_film 23 = .ok (.iaload, 1) := by decide +kernel
theorem dX8_film_24 : decode cX8_film 24 = .ok (.isub, 1) := by decide +kernel
theorem dX8_film_25 : decode cX8_film 25 = .ok (.istore 4, 2) := by decide +kernel
theorem dX8_film_27 : decode cX8_film 27 = .ok (.aload_n 0, 1) := by decide +kernel
theorem dX8_film_28 : decode cX8_film 28 = .ok (.iload_n 1, 1) := by decide +kernel
theorem dX8_film_29 : decode cX8_film 29 = .ok (.iload_n 2, 1) := by decide +kernel
theorem dX8_film_30 : decode cX8_film 30 = .ok (.iload_n 3, 1) := by decide +kernel
theorem dX8_film_31 : decode cX8_film 31 = .ok (.iload 4, 2) := by decide +kernel
theorem dX8_film_33 : decode cX8_film 33 = .ok (.invokevirtual 235, 3) := by decide +kernel
theorem dX8_film_36 : decode cX8_film 36 = .ok (.istore 5, 2) := by decide +kernel
theorem dX8_film_38 : decode cX8_film 38 = .ok (.iload 5, 2) := by decide +kernel
theorem dX8_film_40 : decode cX8_film 40 = .ok (.ifCond .ge 6, 3) := by decide +kernel
theorem dX8_film_43 : decode cX8_film 43 = .ok (.iload 5, 2) := by decide +kernel
theorem dX8_film_45 : decode cX8_film 45 = .ok (.ireturn, 1) := by decide +kernel
theorem dX8_film_46 : decode cX8_film 46 = .ok (.aload_n 0, 1) := by decide +kernel
theorem dX8_film_47 : decode cX8_film 47 = .ok (.invokevirtual 195, 3) := by decide +kernel
theorem dX8_film_50 : decode cX8_film 50 = .ok (.aload_n 0, 1) := by decide +kernel
theorem dX8_film_51 : decode cX8_film 51 = .ok (.bipush (-4), 2) := by decide +kernel
theorem dX8_film_53 : decode cX8_film 53 = .ok (.putfield 186, 3) := by decide +kernel
theorem dX8_film_56 : decode cX8_film 56 = .ok (.iconst 0, 1) := by decide +kernel
theorem dX8_film_57 : decode cX8_film 57 = .ok (.istore 6, 2) := by decide +kernel
theorem dX8_film_59 : decode cX8_film 59 = .ok (.iload 6, 2) := by decide +kernel
theorem dX8_film_61 : decode cX8_film 61 = .ok (.iload 4, 2) := by decide +kernel
theorem dX8_film_63 : decode cX8_film 63 = .ok (.if_icmp .ge 29, 3) := by decide +kernel
theorem dX8_film_66 : decode cX8_film 66 = .ok (.aload_n 0, 1) := by decide +kernel
theorem dX8_film_67 : decode cX8_film 67 = .ok (.invokevirtual 192, 3) := by decide +kernel
theorem dX8_film_70 : decode cX8_film 70 = .ok (.aload_n 0, 1) := by decide +kernel
theorem dX8_film_71 : decode cX8_film 71 = .ok (.iload_n 1, 1) := by decide +kernel
theorem dX8_film_72 : decode cX8_film 72 = .ok (.iload_n 3, 1) := by decide +kernel
theorem dX8_film_73 : decode cX8_film 73 = .ok (.iload 6, 2) := by decide +kernel
theorem dX8_film_75 : decode cX8_film 75 = .ok (.iadd, 1) := by decide +kernel
theorem dX8_film_76 : decode cX8_film 76 = .ok (.aload_n 0, 1) := by decide +kernel
theorem dX8_film_77 : decode cX8_film 77 = .ok (.getfield 16, 3) := by decide +kernel
theorem dX8_film_80 : decode cX8_film 80 = .ok (.iconst 0, 1) := by decide +kernel
theorem dX8_film_81 : decode cX8_film 81 = .ok (.iaload, 1) := by decide +kernel
theorem dX8_film_82 : decode cX8_film 82 = .ok (.i2l, 1) := by decide +kernel
theorem dX8_film_83 : decode cX8_film 83 = .ok (.invokevirtual 239, 3) := by decide +kernel
theorem dX8_film_86 : decode cX8_film 86 = .ok (.iinc 6 1, 3) := by decide +kernel
theorem dX8_film_89 : decode cX8_film 89 = .ok (.goto (-30), 3) := by decide +kernel
theorem dX8_film_92 : decode cX8_film 92 = .ok (.aload_n 0, 1) := by decide +kernel
theorem dX8_film_93 : decode cX8_film 93 = .ok (.invokevirtual 201, 3) := by decide +kernel
theorem dX8_film_96 : decode cX8_film 96 = .ok (.iload 4, 2) := by decide +kernel
theorem dX8_film_98 : decode cX8_film 98 = .ok (.ireturn, 1) := by decide +kernel
theorem dX8_deal_0 : decode cX8_deal 0 = .ok (.iload_n 1, 1) := by decide +kernel
theorem dX8_deal_1 : decode cX8_deal 1 = .ok (.invokestatic 227, 3) := by decide +kernel
theorem dX8_deal_4 : decode cX8_deal 4 = .ok (.ifCond .eq 10, 3) := by decide +kernel
theorem dX8_deal_7 : decode cX8_deal 7 = .ok (.iload_n 2, 1) := by decide +kernel
theorem dX8_deal_8 : decode cX8_deal 8 = .ok (.invokestatic 230, 3) := by decide +kernel
theorem dX8_deal_11 : decode cX8_deal 11 = .ok (.ifCond .ne 5, 3) := by decide +kernel
theorem dX8_deal_14 : decode cX8_deal 14 = .ok (.iconst (-1), 1) := by decide +kernel
theorem dX8_deal_15 : decode cX8_deal 15 = .ok (.ireturn, 1) := by decide +kernel
theorem dX8_deal_16 : decode cX8_deal 16 = .ok (.aload_n 0, 1) := by decide +kernel
theorem dX8_deal_17 : decode cX8_deal 17 = .ok (.iload_n 1, 1) := by decide +kernel
theorem dX8_deal_18 : decode cX8_deal 18 = .ok (.iload_n 2, 1) := by decide +kernel
theorem dX8_deal_19 : decode cX8_deal 19 = .ok (.iload_n 3, 1) := by decide +kernel
theorem dX8_deal_20 : decode cX8_deal 20 = .ok (.aload_n 0, 1) := by decide +kernel
theorem dX8_deal_21 : decode cX8_deal 21 = .ok (.getfield 76, 3) := by decide +kernel
theorem dX8_deal_24 : decode cX8_deal 24 = .ok (.invokevirtual 235, 3) := by decide +kernel
theorem dX8_deal_27 : decode cX8_deal 27 = .ok (.istore 4, 2) := by decide +kernel
theorem dX8_deal_29 : decode cX8_deal 29 = .ok (.iload 4, 2) := by decide +kernel
theorem dX8_deal_31 : decode cX8_deal 31 = .ok (.ifCond .ge 6, 3) := by decide +kernel
theorem dX8_deal_34 : decode cX8_deal 34 = .ok (.iload 4, 2) := by decide +kernel
theorem dX8_deal_36 : decode cX8_deal 36 = .ok (.ireturn, 1) := by decide +kernel
theorem dX8_deal_37 : decode cX8_deal 37 = .ok (.aload_n 0, 1) := by decide +kernel
theorem dX8_deal_38 : decode cX8_deal 38 = .ok (.getfield 16, 3) := by decide +kernel
theorem dX8_deal_41 : decode cX8_deal 41 = .ok (.iconst 0, 1) := by decide +kernel
theorem dX8_deal_42 : decode cX8_deal 42 = .ok (.iaload, 1) := by decide +kernel
theorem dX8_deal_43 : decode cX8_deal 43 = .ok (.bipush (-4), 2) := by decide +kernel
theorem dX8_deal_45 : decode cX8_deal 45 = .ok (.if_icmp .ne 7, 3) := by decide +kernel
theorem dX8_deal_48 : decode cX8_deal 48 = .ok (.iconst 0, 1) := by decide +kernel
theorem dX8_deal_49 : decode cX8_deal 49 = .ok (.goto 11, 3) := by decide +kernel
theorem dX8_deal_52 : decode cX8_deal 52 = .ok (.iconst 1, 1) := by decide +kernel
theorem dX8_deal_53 : decode cX8_deal 53 = .ok (.aload_n 0, 1) := by decide +kernel
theorem dX8_deal_54 : decode cX8_deal 54 = .ok (.getfield 16, 3) := by decide +kernel
theorem dX8_deal_57 : decode cX8_deal 57 = .ok (.iconst 0, 1) := by decide +kernel
theorem dX8_deal_58 : decode cX8_deal 58 = .ok (.iaload, 1) := by decide +kernel
theorem dX8_deal_59 : decode cX8_deal 59 = .ok (.ishl, 1) := by decide +kernel
theorem dX8_deal_60 : decode cX8_deal 60 = .ok (.istore 5, 2) := by decide +kernel
theorem dX8_deal_62 : decode cX8_deal 62 = .ok (.iconst 0, 1) := by decide +kernel
theorem dX8_deal_63 : decode cX8_deal 63 = .ok (.istore 6, 2) := by decide +kernel
theorem dX8_deal_65 : decode cX8_deal 65 = .ok (.iload 6, 2) := by decide +kernel
theorem dX8_deal_67 : decode cX8_deal 67 = .ok (.aload_n 0, 1) := by decide +kernel
theorem dX8_deal_68 : decode cX8_deal 68 = .ok (.getfield 76, 3) := by decide +kernel
theorem dX8_deal_71 : decode cX8_deal 71 = .ok (.if_icmp .ge 79, 3) := by decide +kernel
theorem dX8_deal_74 : decode cX8_deal 74 = .ok (.aload_n 0, 1) := by decide +kernel
theorem dX8_deal_75 : decode cX8_deal 75 = .ok (.getfield 49, 3) := by decide +kernel
theorem dX8_deal_78 : decode cX8_deal 78 = .ok (.bipush 16, 2) := by decide +kernel
theorem dX8_deal_80 : decode cX8_deal 80 = .ok (.iload_n 1, 1) := by decide +kernel
theorem dX8_deal_81 : decode cX8_deal 81 = .ok (.imul, 1) := by decide +kernel
theorem dX8_deal_82 : decode cX8_deal 82 = .ok (.iload_n 3, 1) := by decide +kernel
theorem dX8_deal_83 : decode cX8_deal 83 = .ok (.iadd, 1) := by decide +kernel
theorem dX8_deal_84 : decode cX8_deal 84 = .ok (.iload 6, 2) := by decide +kernel
theorem dX8_deal_86 : decode cX8_deal 86 = .ok (.iadd, 1) := by decide +kernel
theorem dX8_deal_87 : decode cX8_deal 87 = .ok (.laload, 1) := by decide +kernel
theorem dX8_deal_88 : decode cX8_deal 88 = .ok (.lstore 7, 2) := by decide +kernel
theorem dX8_deal_90 : decode cX8_deal 90 = .ok (.lload 7, 2) := by decide +kernel
theorem dX8_deal_92 : decode cX8_deal 92 = .ok (.aload_n 0, 1) := by decide +kernel
theorem dX8_deal_93 : decode cX8_deal 93 = .ok (.getfield 69, 3) := by decide +kernel
theorem dX8_deal_96 : decode cX8_deal 96 = .ok (.i2l, 1) := by decide +kernel
theorem dX8_deal_97 : decode cX8_deal 97 = .ok (.lcmp, 1) := by decide +kernel
theorem dX8_deal_98 : decode cX8_deal 98 = .ok (.ifCond .ge 22, 3) := by decide +kernel
theorem dX8_deal_101 : decode cX8_deal 101 = .ok (.lload 7, 2) := by decide +kernel
theorem dX8_deal_103 : decode cX8_deal 103 = .ok (.lconst 0, 1) := by decide +kernel
theorem dX8_deal_104 : decode cX8_deal 104 = .ok (.lcmp, 1) := by decide +kernel
theorem dX8_deal_105 : decode cX8_deal 105 = .ok (.ifCond .lt 18, 3) := by decide +kernel
theorem dX8_deal_108 : decode cX8_deal 108 = .ok (.iload 5, 2) := by decide +kernel
theorem dX8_deal_110 : decode cX8_deal 110 = .ok (.lload 7, 2) := by decide +kernel
theorem dX8_deal_112 : decode cX8_deal 112 = .ok (.l2i, 1) := by decide +kernel
theorem dX8_deal_113 : decode cX8_deal 113 = .ok (.ishr, 1) := by decide +kernel
theorem dX8_deal_114 : decode cX8_deal 114 = .ok (.iconst 1, 1) := by decide +kernel
theorem dX8_deal_115 : decode cX8_deal 115 = .ok (.iand, 1) := by decide +kernel
theorem dX8_deal_116 : decode cX8_deal 116 = .ok (.iconst 1, 1) := by decide +kernel
theorem dX8_deal_117 : decode cX8_deal 117 = .ok (.if_icmp .ne 6, 3) := by decide +kernel
theorem dX8_deal_120 : decode cX8_deal 120 = .ok (.bipush (-2), 2) := by decide +kernel
theorem dX8_deal_122 : decode cX8_deal 122 = .ok (.ireturn, 1) := by decide +kernel
theorem dX8_deal_123 : decode cX8_deal 123 = .ok (.iload 5, 2) := by decide +kernel
theorem dX8_deal_125 : decode cX8_deal 125 = .ok (.lload 7, 2) := by decide +kernel
theorem dX8_deal_127 : decode cX8_deal 127 = .ok (.lconst 0, 1) := by decide +kernel
theorem dX8_deal_128 : decode cX8_deal 128 = .ok (.lcmp, 1) := by decide +kernel
theorem dX8_deal_129 : decode cX8_deal 129 = .ok (.ifCond .ge 7, 3) := by decide +kernel
theorem dX8_deal_132 : decode cX8_deal 132 = .ok (.iconst 0, 1) := by decide +kernel
theorem dX8_deal_133 : decode cX8_deal 133 = .ok (.goto 8, 3) := by decide +kernel
theorem dX8_deal_136 : decode cX8_deal 136 = .ok (.iconst 1, 1) := by decide +kernel
theorem dX8_deal_137 : decode cX8_deal 137 = .ok (.lload 7, 2) := by decide +kernel
theorem dX8_deal_139 : decode cX8_deal 139 = .ok (.l2i, 1) := by decide +kernel
theorem dX8_deal_140 : decode cX8_deal 140 = .ok (.ishl, 1) := by decide +kernel
theorem dX8_deal_141 : decode cX8_deal 141 = .ok (.ior, 1) := by decide +kernel
theorem dX8_deal_142 : decode cX8_deal 142 = .ok (.istore 5, 2) := by decide +kernel
theorem dX8_deal_144 : decode cX8_deal 144 = .ok (.iinc 6 1, 3) := by decide +kernel
theorem dX8_deal_147 : decode cX8_deal 147 = .ok (.goto (-82), 3) := by decide +kernel
theorem dX8_deal_150 : decode cX8_deal 150 = .ok (.iconst 0, 1) := by decide +kernel
theorem dX8_deal_151 : decode cX8_deal 151 = .ok (.istore 6, 2) := by decide +kernel
theorem dX8_deal_153 : decode cX8_deal 153 = .ok (.iload 6, 2) := by decide +kernel
theorem dX8_deal_155 : decode cX8_deal 155 = .ok (.aload_n 0, 1) := by decide +kernel
theorem dX8_deal_156 : decode cX8_deal 156 = .ok (.getfield 76, 3) := by decide +kernel
theorem dX8_deal_159 : decode cX8_deal 159 = .ok (.if_icmp .ge 49, 3) := by decide +kernel
theorem dX8_deal_162 : decode cX8_deal 162 = .ok (.aload_n 0, 1) := by decide +kernel
theorem dX8_deal_163 : decode cX8_deal 163 = .ok (.getfield 49, 3) := by decide +kernel
theorem dX8_deal_166 : decode cX8_deal 166 = .ok (.bipush 16, 2) := by decide +kernel
theorem dX8_deal_168 : decode cX8_deal 168 = .ok (.iload_n 1, 1) := by decide +kernel
theorem dX8_deal_169 : decode cX8_deal 169 = .ok (.imul, 1) := by decide +kernel
theorem dX8_deal_170 : decode cX8_deal 170 = .ok (.iload_n 3, 1) := by decide +kernel
theorem dX8_deal_171 : decode cX8_deal 171 = .ok (.iadd, 1) := by decide +kernel
theorem dX8_deal_172 : decode cX8_deal 172 = .ok (.iload 6, 2) := by decide +kernel
theorem dX8_deal_174 : decode cX8_deal 174 = .ok (.iadd, 1) := by decide +kernel
theorem dX8_deal_175 : decode cX8_deal 175 = .ok (.laload, 1) := by decide +kernel
theorem dX8_deal_176 : decode cX8_deal 176 = .ok (.lstore 7, 2) := by decide +kernel
theorem dX8_deal_178 : decode cX8_deal 178 = .ok (.aload_n 0, 1) := by decide +kernel
theorem dX8_deal_179 : decode cX8_deal 179 = .ok (.getfield 16, 3) := by decide +kernel
theorem dX8_deal_182 : decode cX8_deal 182 = .ok (.iconst 5, 1) := by decide +kernel
theorem dX8_deal_183 : decode cX8_deal 183 = .ok (.iload 6, 2) := by decide +kernel
theorem dX8_deal_185 : decode cX8_deal 185 = .ok (.iadd, 1) := by decide +kernel
theorem dX8_deal_186 : decode cX8_deal 186 = .ok (.lload 7, 2) := by decide +kernel
theorem dX8_deal_188 : decode cX8_deal 188 = .ok (.lconst 0, 1) := by decide +kernel
theorem dX8_deal_189 : decode cX8_deal 189 = .ok (.lcmp, 1) := by decide +kernel
theorem dX8_deal_190 : decode cX8_deal 190 = .ok (.ifCond .ge 8, 3) := by decide +kernel
theorem dX8_deal_193 : decode cX8_deal 193 = .ok (.bipush (-4), 2) := by decide +kernel
theorem dX8_deal_195 : decode cX8_deal 195 = .ok (.goto 6, 3) := by decide +kernel
theorem dX8_deal_198 : decode cX8_deal 198 = .ok (.lload 7, 2) := by decide +kernel
theorem dX8_deal_200 : decode cX8_deal 200 = .ok (.l2i, 1) := by decide +kernel
theorem dX8_deal_201 : decode cX8_deal 201 = .ok (.iastore, 1) := by decide +kernel
theorem dX8_deal_202 : decode cX8_deal 202 = .ok (.iinc 6 1, 3) := by decide +kernel
theorem dX8_deal_205 : decode cX8_deal 205 = .ok (.goto (-52), 3) := by decide +kernel
theorem dX8_deal_208 : decode cX8_deal 208 = .ok (.aload_n 0, 1) := by decide +kernel
theorem dX8_deal_209 : decode cX8_deal 209 = .ok (.getfield 76, 3) := by decide +kernel
theorem dX8_deal_212 : decode cX8_deal 212 = .ok (.ireturn, 1) := by decide +kernel
theorem dX8_sheet_0 : decode cX8_sheet 0 = .ok (.iload_n 1, 1) := by decide +kernel
theorem dX8_sheet_1 : decode cX8_sheet 1 = .ok (.invokestatic 227, 3) := by decide +kernel
theorem dX8_sheet_4 : decode cX8_sheet 4 = .ok (.ifCond .eq 16, 3) := by decide +kernel
theorem dX8_sheet_7 : decode cX8_sheet 7 = .ok (.iload_n 2, 1) := by decide +kernel
theorem dX8_sheet_8 : decode cX8_sheet 8 = .ok (.invokestatic 230, 3) := by decide +kernel
theorem dX8_sheet_11 : decode cX8_sheet 11 = .ok (.ifCond .eq 9, 3) := by decide +kernel
theorem dX8_sheet_14 : decode cX8_sheet 14 = .ok (.iload_n 3, 1) := by decide +kernel
theorem dX8_sheet_15 : decode cX8_sheet 15 = .ok (.bipush 16, 2) := by decide +kernel
theorem dX8_sheet_17 : decode cX8_sheet 17 = .ok (.if_icmp .le 5, 3) := by decide +kernel
theorem dX8_sheet_20 : decode cX8_sheet 20 = .ok (.iconst (-1), 1) := by decide +kernel
theorem dX8_sheet_21 : decode cX8_sheet 21 = .ok (.ireturn, 1) := by decide +kernel
theorem dX8_sheet_22 : decode cX8_sheet 22 = .ok (.iload_n 3, 1) := by decide +kernel
theorem dX8_sheet_23 : decode cX8_sheet 23 = .ok (.ifCond .ge 6, 3) := by decide +kernel
theorem dX8_sheet_26 : decode cX8_sheet 26 = .ok (.bipush (-14), 2) := by decide +kernel
theorem dX8_sheet_28 : decode cX8_sheet 28 = .ok (.ireturn, 1) := by decide +kernel
theorem dX8_sheet_29 : decode cX8_sheet 29 = .ok (.aload_n 0, 1) := by decide +kernel
theorem dX8_sheet_30 : decode cX8_sheet 30 = .ok (.getfield 43, 3) := by decide +kernel
theorem dX8_sheet_33 : decode cX8_sheet 33 = .ok (.iload_n 1, 1) := by decide +kernel
theorem dX8_sheet_34 : decode cX8_sheet 34 = .ok (.iload_n 2, 1) := by decide +kernel
theorem dX8_sheet_35 : decode cX8_sheet 35 = .ok (.iastore, 1) := by decide +kernel
theorem dX8_sheet_36 : decode cX8_sheet 36 = .ok (.aload_n 0, 1) := by decide +kernel
theorem dX8_sheet_37 : decode cX8_sheet 37 = .ok (.getfield 46, 3) := by decide +kernel
theorem dX8_sheet_40 : decode cX8_sheet 40 = .ok (.iload_n 1, 1) := by decide +kernel
theorem dX8_sheet_41 : decode cX8_sheet 41 = .ok (.iload_n 3, 1) := by decide +kernel
theorem dX8_sheet_42 : decode cX8_sheet 42 = .ok (.iastore, 1) := by decide +kernel
theorem dX8_sheet_43 : decode cX8_sheet 43 = .ok (.iconst 0, 1) := by decide +kernel
theorem dX8_sheet_44 : decode cX8_sheet 44 = .ok (.istore 4, 2) := by decide +kernel
theorem dX8_sheet_46 : decode cX8_sheet 46 = .ok (.iload 4, 2) := by decide +kernel
theorem dX8_sheet_48 : decode cX8_sheet 48 = .ok (.bipush 16, 2) := by decide +kernel
theorem dX8_sheet_50 : decode cX8_sheet 50 = .ok (.if_icmp .ge 22, 3) := by decide +kernel
theorem dX8_sheet_53 : decode cX8_sheet 53 = .ok (.aload_n 0, 1) := by decide +kernel
theorem dX8_sheet_54 : decode cX8_sheet 54 = .ok (.getfield 49, 3) := by decide +kernel
theorem dX8_sheet_57 : decode cX8_sheet 57 = .ok (.bipush 16, 2) := by decide +kernel
theorem dX8_sheet_59 : decode cX8_sheet 59 = .ok (.iload_n 1, 1) := by decide +kernel
theorem dX8_sheet_60 : decode cX8_sheet 60 = .ok (.imul, 1) := by decide +kernel
theorem dX8_sheet_61 : decode cX8_sheet 61 = .ok (.iload 4, 2) := by decide +kernel
theorem dX8_sheet_63 : decode cX8_sheet 63 = .ok (.iadd, 1) := by decide +kernel
theorem dX8_sheet_64 : decode cX8_sheet 64 = .ok (.lconst 0, 1) := by decide +kernel
theorem dX8_sheet_65 : decode cX8_sheet 65 = .ok (.lastore, 1) := by decide +kernel
theorem dX8_sheet_66 : decode cX8_sheet 66 = .ok (.iinc 4 1, 3) := by decide +kernel
theorem dX8_sheet_69 : decode cX8_sheet 69 = .ok (.goto (-23), 3) := by decide +kernel
theorem dX8_sheet_72 : decode cX8_sheet 72 = .ok (.iload_n 3, 1) := by decide +kernel
theorem dX8_sheet_73 : decode cX8_sheet 73 = .ok (.ireturn, 1) := by decide +kernel
theorem dX8_drop_0 : decode cX8_drop 0 = .ok (.iload_n 1, 1) := by decide +kernel
theorem dX8_drop_1 : decode cX8_drop 1 = .ok (.invokestatic 227, 3) := by decide +kernel
theorem dX8_drop_4 : decode cX8_drop 4 = .ok (.ifCond .ne 5, 3) := by decide +kernel
theorem dX8_drop_7 : decode cX8_drop 7 = .ok (.iconst (-1), 1) := by decide +kernel
theorem dX8_drop_8 : decode cX8_drop 8 = .ok (.ireturn, 1) := by decide +kernel
theorem dX8_drop_9 : decode cX8_drop 9 = .ok (.aload_n 0, 1) := by decide +kernel
theorem dX8_drop_10 : decode cX8_drop 10 = .ok (.getfield 43, 3) := by decide +kernel
theorem dX8_drop_13 : decode cX8_drop 13 = .ok (.iload_n 1, 1) := by decide +kernel
theorem dX8_drop_14 : decode cX8_drop 14 = .ok (.iaload, 1) := by decide +kernel
theorem dX8_drop_15 : decode cX8_drop 15 = .ok (.ifCond .ge 6, 3) := by decide +kernel
theorem dX8_drop_18 : decode cX8_drop 18 = .ok (.bipush (-11), 2) := by decide +kernel
theorem dX8_drop_20 : decode cX8_drop 20 = .ok (.ireturn, 1) := by decide +kernel
theorem dX8_drop_21 : decode cX8_drop 21 = .ok (.aload_n 0, 1) := by decide +kernel
theorem dX8_drop_22 : decode cX8_drop 22 = .ok (.getfield 43, 3) := by decide +kernel
theorem dX8_drop_25 : decode cX8_drop 25 = .ok (.iload_n 1, 1) := by decide +kernel
theorem dX8_drop_26 : decode cX8_drop 26 = .ok (.iconst (-1), 1) := by decide +kernel
theorem dX8_drop_27 : decode cX8_drop 27 = .ok (.iastore, 1) := by decide +kernel
theorem dX8_drop_28 : decode cX8_drop 28 = .ok (.aload_n 0, 1) := by decide +kernel
theorem dX8_drop_29 : decode cX8_drop 29 = .ok (.getfield 46, 3) := by decide +kernel
theorem dX8_drop_32 : decode cX8_drop 32 = .ok (.iload_n 1, 1) := by decide +kernel
theorem dX8_drop_33 : decode cX8_drop 33 = .ok (.iaload, 1) := by decide +kernel
theorem dX8_drop_34 : decode cX8_drop 34 = .ok (.ireturn, 1) := by decide +kernel
theorem dX8_item_0 : decode cX8_item 0 = .ok (.iload_n 1, 1) := by decide +kernel
theorem dX8_item_1 : decode cX8_item 1 = .ok (.invokestatic 227, 3) := by decide +kernel
theorem dX8_item_4 : decode cX8_item 4 = .ok (.ifCond .eq 10, 3) := by decide +kernel
theorem dX8_item_7 : decode cX8_item 7 = .ok (.iload_n 2, 1) := by decide +kernel
theorem dX8_item_8 : decode cX8_item 8 = .ok (.invokestatic 230, 3) := by decide +kernel
theorem dX8_item_11 : decode cX8_item 11 = .ok (.ifCond .ne 5, 3) := by decide +kernel
theorem dX8_item_14 : decode cX8_item 14 = .ok (.iconst (-1), 1) := by decide +kernel
theorem dX8_item_15 : decode cX8_item 15 = .ok (.ireturn, 1) := by decide +kernel
theorem dX8_item_16 : decode cX8_item 16 = .ok (.aload_n 0, 1) := by decide +kernel
theorem dX8_item_17 : decode cX8_item 17 = .ok (.iload_n 1, 1) := by decide +kernel
theorem dX8_item_18 : decode cX8_item 18 = .ok (.iload_n 2, 1) := by decide +kernel
theorem dX8_item_19 : decode cX8_item 19 = .ok (.iload_n 3, 1) := by decide +kernel
theorem dX8_item_20 : decode cX8_item 20 = .ok (.iconst 1, 1) := by decide +kernel
theorem dX8_item_21 : decode cX8_item 21 = .ok (.invokevirtual 235, 3) := by decide +kernel
theorem dX8_item_24 : decode cX8_item 24 = .ok (.istore 6, 2) := by decide +kernel
theorem dX8_item_26 : decode cX8_item 26 = .ok (.iload 6, 2) := by decide +kernel
theorem dX8_item_28 : decode cX8_item 28 = .ok (.ifCond .ge 6, 3) := by decide +kernel
theorem dX8_item_31 : decode cX8_item 31 = .ok (.iload 6, 2) := by decide +kernel
theorem dX8_item_33 : decode cX8_item 33 = .ok (.ireturn, 1) := by decide +kernel
theorem dX8_item_34 : decode cX8_item 34 = .ok (.aload_n 0, 1) := by decide +kernel
theorem dX8_item_35 : decode cX8_item 35 = .ok (.iload_n 1, 1) := by decide +kernel
theorem dX8_item_36 : decode cX8_item 36 = .ok (.iload_n 3, 1) := by decide +kernel
theorem dX8_item_37 : decode cX8_item 37 = .ok (.lload 4, 2) := by decide +kernel
theorem dX8_item_39 : decode cX8_item 39 = .ok (.invokevirtual 239, 3) := by decide +kernel
theorem dX8_item_42 : decode cX8_item 42 = .ok (.iconst 1, 1) := by decide +kernel
theorem dX8_item_43 : decode cX8_item 43 = .ok (.ireturn, 1) := by decide +kernel
theorem dX8_copy_0 : decode cX8_copy 0 = .ok (.iload_n 1, 1) := by decide +kernel
theorem dX8_copy_1 : decode cX8_copy 1 = .ok (.invokestatic 227, 3) := by decide +kernel
theorem dX8_copy_4 : decode cX8_copy 4 = .ok (.ifCond .eq 10, 3) := by decide +kernel
theorem dX8_copy_7 : decode cX8_copy 7 = .ok (.iload_n 3, 1) := by decide +kernel
theorem dX8_copy_8 : decode cX8_copy 8 = .ok (.invokestatic 227, 3) := by decide +kernel
theorem dX8_copy_11 : decode cX8_copy 11 = .ok (.ifCond .ne 5, 3) := by decide +kernel
theorem dX8_copy_14 : decode cX8_copy 14 = .ok (.iconst (-1), 1) := by decide +kernel
theorem dX8_copy_15 : decode cX8_copy 15 = .ok (.ireturn, 1) := by decide +kernel
theorem dX8_copy_16 : decode cX8_copy 16 = .ok (.aload_n 0, 1) := by decide +kernel
theorem dX8_copy_17 : decode cX8_copy 17 = .ok (.getfield 43, 3) := by decide +kernel
theorem dX8_copy_20 : decode cX8_copy 20 = .ok (.iload_n 1, 1) := by decide +kernel
theorem dX8_copy_21 : decode cX8_copy 21 = .ok (.iaload, 1) := by decide +kernel
theorem dX8_copy_22 : decode cX8_copy 22 = .ok (.ifCond .lt 12, 3) := by decide +kernel
theorem dX8_copy_25 : decode cX8_copy 25 = .ok (.aload_n 0, 1) := by decide +kernel
theorem dX8_copy_26 : decode cX8_copy 26 = .ok (.getfield 43, 3) := by decide +kernel
theorem dX8_copy_29 : decode cX8_copy 29 = .ok (.iload_n 3, 1) := by decide +kernel
theorem dX8_copy_30 : decode cX8_copy 30 = .ok (.iaload, 1) := by decide +kernel
theorem dX8_copy_31 : decode cX8_copy 31 = .ok (.ifCond .ge 6, 3) := by decide +kernel
theorem dX8_copy_34 : decode cX8_copy 34 = .ok (.bipush (-11), 2) := by decide +kernel
theorem dX8_copy_36 : decode cX8_copy 36 = .ok (.ireturn, 1) := by decide +kernel
theorem dX8_copy_37 : decode cX8_copy 37 = .ok (.aload_n 0, 1) := by decide +kernel
theorem dX8_copy_38 : decode cX8_copy 38 = .ok (.getfield 43, 3) := by decide +kernel
theorem dX8_copy_41 : decode cX8_copy 41 = .ok (.iload_n 1, 1) := by decide +kernel
theorem dX8_copy_42 : decode cX8_copy 42 = .ok (.iaload, 1) := by decide +kernel
theorem dX8_copy_43 : decode cX8_copy 43 = .ok (.aload_n 0, 1) := by decide +kernel
theorem dX8_copy_44 : decode cX8_copy 44 = .ok (.getfield 43, 3) := by decide +kernel
theorem dX8_copy_47 : decode cX8_copy 47 = .ok (.iload_n 3, 1) := by decide +kernel
theorem dX8_copy_48 : decode cX8_copy 48 = .ok (.iaload, 1) := by decide +kernel
theorem dX8_copy_49 : decode cX8_copy 49 = .ok (.if_icmp .eq 6, 3) := by decide +kernel
theorem dX8_copy_52 : decode cX8_copy 52 = .ok (.bipush (-12), 2) := by decide +kernel
theorem dX8_copy_54 : decode cX8_copy 54 = .ok (.ireturn, 1) := by decide +kernel
theorem dX8_copy_55 : decode cX8_copy 55 = .ok (.iload 5, 2) := by decide +kernel
theorem dX8_copy_57 : decode cX8_copy 57 = .ok (.ifCond .lt 38, 3) := by decide +kernel
theorem dX8_copy_60 : decode cX8_copy 60 = .ok (.aload_n 0, 1) := by decide +kernel
theorem dX8_copy_61 : decode cX8_copy 61 = .ok (.iload_n 1, 1) := by decide +kernel
theorem dX8_copy_62 : decode cX8_copy 62 = .ok (.aload_n 0, 1) := by decide +kernel
theorem dX8_copy_63 : decode cX8_copy 63 = .ok (.getfield 43, 3) := by decide +kernel
theorem dX8_copy_66 : decode cX8_copy 66 = .ok (.iload_n 1, 1) := by decide +kernel
theorem dX8_copy_67 : decode cX8_copy 67 = .ok (.iaload, 1) := by decide +kernel
theorem dX8_copy_68 : decode cX8_copy 68 = .ok (.iload_n 2, 1) := by decide +kernel
theorem dX8_copy_69 : decode cX8_copy 69 = .ok (.iload 5, 2) := by decide +kernel
theorem dX8_copy_71 : decode cX8_copy 71 = .ok (.invokevirtual 235, 3) := by decide +kernel
theorem dX8_copy_74 : decode cX8_copy 74 = .ok (.ifCond .lt 21, 3) := by decide +kernel
theorem dX8_copy_77 : decode cX8_copy 77 = .ok (.aload_n 0, 1) := by decide +kernel
theorem dX8_copy_78 : decode cX8_copy 78 = .ok (.iload_n 3, 1) := by decide +kernel
theorem dX8_copy_79 : decode cX8_copy 79 = .ok (.aload_n 0, 1) := by decide +kernel
theorem dX8_copy_80 : decode cX8_copy 80 = .ok (.getfield 43, 3) := by decide +kernel
theorem dX8_copy_83 : decode cX8_copy 83 = .ok (.iload_n 3, 1) := by decide +kernel
theorem dX8_copy_84 : decode cX8_copy 84 = .ok (.iaload, 1) := by decide +kernel
theorem dX8_copy_85 : decode cX8_copy 85 = .ok (.iload 4, 2) := by decide +kernel
theorem dX8_copy_87 : decode cX8_copy 87 = .ok (.iload 5, 2) := by decide +kernel
theorem dX8_copy_89 : decode cX8_copy 89 = .ok (.invokevirtual 235, 3) := by decide +kernel
theorem dX8_copy_92 : decode cX8_copy 92 = .ok (.ifCond .ge 6, 3) := by decide +kernel
theorem dX8_copy_95 : decode cX8_copy 95 = .ok (.bipush (-13), 2) := by decide +kernel
theorem dX8_copy_97 : decode cX8_copy 97 = .ok (.ireturn, 1) := by decide +kernel
theorem dX8_copy_98 : decode cX8_copy 98 = .ok (.iconst 0, 1) := by decide +kernel
theorem dX8_copy_99 : decode cX8_copy 99 = .ok (.istore 6, 2) := by decide +kernel
theorem dX8_copy_101 : decode cX8_copy 101 = .ok (.iload 6, 2) := by decide +kernel
theorem dX8_copy_103 : decode cX8_copy 103 = .ok (.iload 5, 2) := by decide +kernel
theorem dX8_copy_105 : decode cX8_copy 105 = .ok (.if_icmp .ge 30, 3) := by decide +kernel
theorem dX8_copy_108 : decode cX8_copy 108 = .ok (.aload_n 0, 1) := by decide +kernel
theorem dX8_copy_109 : decode cX8_copy 109 = .ok (.getfield 53, 3) := by decide +kernel
theorem dX8_copy_112 : decode cX8_copy 112 = .ok (.iload 6, 2) := by decide +kernel
theorem dX8_copy_114 : decode cX8_copy 114 = .ok (.aload_n 0, 1) := by decide +kernel
theorem dX8_copy_115 : decode cX8_copy 115 = .ok (.getfield 49, 3) := by decide +kernel
theorem dX8_copy_118 : decode cX8_copy 118 = .ok (.bipush 16, 2) := by decide +kernel
theorem dX8_copy_120 : decode cX8_copy 120 = .ok (.iload_n 1, 1) := by decide +kernel
theorem dX8_copy_121 : decode cX8_copy 121 = .ok (.imul, 1) := by decide +kernel
theorem dX8_copy_122 : decode cX8_copy 122 = .ok (.iload_n 2, 1) := by decide +kernel
theorem dX8_copy_123 : decode cX8_copy 123 = .ok (.iadd, 1) := by decide +kernel
theorem dX8_copy_124 : decode cX8_copy 124 = .ok (.iload 6, 2) := by decide +kernel
theorem dX8_copy_126 : decode cX8_copy 126 = .ok (.iadd, 1) := by decide +kernel
theorem dX8_copy_127 : decode cX8_copy 127 = .ok (.laload, 1) := by decide +kernel
theorem dX8_copy_128 : decode cX8_copy 128 = .ok (.lastore, 1) := by decide +kernel
theorem dX8_copy_129 : decode cX8_copy 129 = .ok (.iinc 6 1, 3) := by decide +kernel
theorem dX8_copy_132 : decode cX8_copy 132 = .ok (.goto (-31), 3) := by decide +kernel
theorem dX8_copy_135 : decode cX8_copy 135 = .ok (.iconst 0, 1) := by decide +kernel
theorem dX8_copy_136 : decode cX8_copy 136 = .ok (.istore 6, 2) := by decide +kernel
theorem dX8_copy_138 : decode cX8_copy 138 = .ok (.iload 6, 2) := by decide +kernel
theorem dX8_copy_140 : decode cX8_copy 140 = .ok (.iload 5, 2) := by decide +kernel
theorem dX8_copy_142 : decode cX8_copy 142 = .ok (.if_icmp .ge 31, 3) := by decide +kernel
theorem dX8_copy_145 : decode cX8_copy 145 = .ok (.aload_n 0, 1) := by decide +kernel
theorem dX8_copy_146 : decode cX8_copy 146 = .ok (.getfield 49, 3) := by decide +kernel
theorem dX8_copy_149 : decode cX8_copy 149 = .ok (.bipush 16, 2) := by decide +kernel
theorem dX8_copy_151 : decode cX8_copy 151 = .ok (.iload_n 3, 1) := by decide +kernel
theorem dX8_copy_152 : decode cX8_copy 152 = .ok (.imul, 1) := by decide +kernel
theorem dX8_copy_153 : decode cX8_copy 153 = .ok (.iload 4, 2) := by decide +kernel
theorem dX8_copy_155 : decode cX8_copy 155 = .ok (.iadd, 1) := by decide +kernel
theorem dX8_copy_156 : decode cX8_copy 156 = .ok (.iload 6, 2) := by decide +kernel
theorem dX8_copy_158 : decode cX8_copy 158 = .ok (.iadd, 1) := by decide +kernel
theorem dX8_copy_159 : decode cX8_copy 159 = .ok (.aload_n 0, 1) := by decide +kernel
theorem dX8_copy_160 : decode cX8_copy 160 = .ok (.getfield 53, 3) := by decide +kernel
theorem dX8_copy_163 : decode cX8_copy 163 = .ok (.iload 6, 2) := by decide +kernel
theorem dX8_copy_165 : decode cX8_copy 165 = .ok (.laload, 1) := by decide +kernel
theorem dX8_copy_166 : decode cX8_copy 166 = .ok (.lastore, 1) := by decide +kernel
theorem dX8_copy_167 : decode cX8_copy 167 = .ok (.iinc 6 1, 3) := by decide +kernel
theorem dX8_copy_170 : decode cX8_copy 170 = .ok (.goto (-32), 3) := by decide +kernel
theorem dX8_copy_173 : decode cX8_copy 173 = .ok (.iload 5, 2) := by decide +kernel
theorem dX8_copy_175 : decode cX8_copy 175 = .ok (.ireturn, 1) := by decide +kernel
