theorem dX12_init_0 : decode cX12_init 0 = .ok (.aload_n 0, 1) := by decide +kernel
theorem dX12_init_1 : decode cX12_init 1 = .ok (.invokespecial 1, 3) := by decide +kernel
theorem dX12_init_4 : decode cX12_init 4 = .ok (.aload_n 0, 1) := by decide +kernel
theorem dX12_init_5 : decode cX12_init 5 = .ok (.bipush 8, 2) := by decide +kernel
theorem dX12_init_7 : decode cX12_init 7 = .ok (.newarray .int, 2) := by decide +kernel
theorem dX12_init_9 : decode cX12_init 9 = .ok (.dup, 1) := by decide +kernel
theorem dX12_init_10 : decode cX12_init 10 = .ok (.iconst 0, 1) := by decide +kernel
theorem dX12_init_11 : decode cX12_init 11 = .ok (.iconst (-1), 1) := by decide +kernel
theorem dX12_init_12 : decode cX12_init 12 = .ok (.iastore, 1) := by decide +kernel
theorem dX12_init_13 : decode cX12_init 13 = .ok (.dup, 1) := by decide +kernel
theorem dX12_init_14 : decode cX12_init 14 = .ok (.iconst 1, 1) := by decide +kernel
theorem dX12_init_15 : decode cX12_init 15 = .ok (.iconst (-1), 1) := by decide +kernel
theorem dX12_init_16 : decode cX12_init 16 = .ok (.iastore, 1) := by decide +kernel
theorem dX12_init_17 : decode cX12_init 17 = .ok (.dup, 1) := by decide +kernel
theorem dX12_init_18 : decode cX12_init 18 = .ok (.iconst 2, 1) := by decide +kernel
theorem dX12_init_19 : decode cX12_init 19 = .ok (.iconst (-1), 1) := by decide +kernel
theorem dX12_init_20 : decode cX12_init 20 = .ok (.iastore, 1) := by decide +kernel
theorem dX12_init_21 : decode cX12_init 21 = .ok (.dup, 1) := by decide +kernel
theorem dX12_init_22 : decode cX12_init 22 = .ok (.iconst 3, 1) := by decide +kernel
theorem dX12_init_23 : decode cX12_init 23 = .ok (.iconst (-1), 1) := by decide +kernel
theorem dX12_init_24 : decode cX12_init 24 = .ok (.iastore, 1) := by decide +kernel
theorem dX12_init_25 : decode cX12_init 25 = .ok (.dup, 1) := by decide +kernel
theorem dX12_init_26 : decode cX12_init 26 = .ok (.iconst 4, 1) := by decide +kernel
theorem dX12_init_27 : decode cX12_init 27 = .ok (.iconst (-1), 1) := by decide +kernel
theorem dX12_init_28 : decode cX12_init 28 = .ok (.iastore, 1) := by decide +kernel
theorem dX12_init_29 : decode cX12_init 29 = .ok (.dup, 1) := by decide +kernel
theorem dX12_init_30 : decode cX12_init 30 = .ok (.iconst 5, 1) := by decide +kernel
theorem dX12_init_31 : decode cX12_init 31 = .ok (.iconst (-1), 1) := by decide +kernel
theorem dX12_init_32 : decode cX12_init 32 = .ok (.iastore, 1) := by decide +kernel
theorem dX12_init_33 : decode cX12_init 33 = .ok (.dup, 1) := by decide +kernel
theorem dX12_init_34 : decode cX12_init 34 = .ok (.bipush 6, 2) := by decide +kernel
theorem dX12_init_36 : decode cX12_init 36 = .ok (.iconst (-1), 1) := by decide +kernel
theorem dX12_init_37 : decode cX12_init 37 = .ok (.iastore, 1) := by decide +kernel
theorem dX12_init_38 : decode cX12_init 38 = .ok (.dup, 1) := by decide +kernel
theorem dX12_init_39 : decode cX12_init 39 = .ok (.bipush 7, 2) := by decide +kernel
theorem dX12_init_41 : decode cX12_init 41 = .ok (.iconst (-1), 1) := by decide +kernel
theorem dX12_init_42 : decode cX12_init 42 = .ok (.iastore, 1) := by decide +kernel
theorem dX12_init_43 : decode cX12_init 43 = .ok (.putfield 7, 3) := by decide +kernel
theorem dX12_init_46 : decode cX12_init 46 = .ok (.aload_n 0, 1) := by decide +kernel
theorem dX12_init_47 : decode cX12_init 47 = .ok (.bipush 8, 2) := by decide +kernel
theorem dX12_init_49 : decode cX12_init 49 = .ok (.newarray .int, 2) := by decide +kernel
theorem dX12_init_51 : decode cX12_init 51 = .ok (.putfield 13, 3) := by decide +kernel
theorem dX12_init_54 : decode cX12_init 54 = .ok (.aload_n 0, 1) := by decide +kernel
theorem dX12_init_55 : decode cX12_init 55 = .ok (.sipush 320, 3) := by decide +kernel
theorem dX12_init_58 : decode cX12_init 58 = .ok (.newarray .int, 2) := by decide +kernel
theorem dX12_init_60 : decode cX12_init 60 = .ok (.putfield 16, 3) := by decide +kernel
theorem dX12_init_63 : decode cX12_init 63 = .ok (.aload_n 0, 1) := by decide +kernel
theorem dX12_init_64 : decode cX12_init 64 = .ok (.bipush 58, 2) := by decide +kernel
theorem dX12_init_66 : decode cX12_init 66 = .ok (.newarray .int, 2) := by decide +kernel
theorem dX12_init_68 : decode cX12_init 68 = .ok (.putfield 19, 3) := by decide +kernel
theorem dX12_init_71 : decode cX12_init 71 = .ok (.aload_n 0, 1) := by decide +kernel
theorem dX12_init_72 : decode cX12_init 72 = .ok (.bipush 58, 2) := by decide +kernel
theorem dX12_init_74 : decode cX12_init 74 = .ok (.newarray .int, 2) := by decide +kernel
theorem dX12_init_76 : decode cX12_init 76 = .ok (.putfield 22, 3) := by decide +kernel
theorem dX12_init_79 : decode cX12_init 79 = .ok (.aload_n 0, 1) := by decide +kernel
theorem dX12_init_80 : decode cX12_init 80 = .ok (.bipush 77, 2) := by decide +kernel
theorem dX12_init_82 : decode cX12_init 82 = .ok (.newarray .int, 2) := by decide +kernel
theorem dX12_init_84 : decode cX12_init 84 = .ok (.putfield 25, 3) := by decide +kernel
theorem dX12_init_87 : decode cX12_init 87 = .ok (.aload_n 0, 1) := by decide +kernel
theorem dX12_init_88 : decode cX12_init 88 = .ok (.sipush 500, 3) := by decide +kernel
theorem dX12_init_91 : decode cX12_init 91 = .ok (.newarray .int, 2) := by decide +kernel
theorem dX12_init_93 : decode cX12_init 93 = .ok (.putfield 28, 3) := by decide +kernel
theorem dX12_init_96 : decode cX12_init 96 = .ok (.aload_n 0, 1) := by decide +kernel
theorem dX12_init_97 : decode cX12_init 97 = .ok (.bipush 6, 2) := by decide +kernel
theorem dX12_init_99 : decode cX12_init 99 = .ok (.newarray .int, 2) := by decide +kernel
theorem dX12_init_101 : decode cX12_init 101 = .ok (.putfield 31, 3) := by decide +kernel
theorem dX12_init_104 : decode cX12_init 104 = .ok (.aload_n 0, 1) := by decide +kernel
theorem dX12_init_105 : decode cX12_init 105 = .ok (.bipush 6, 2) := by decide +kernel
theorem dX12_init_107 : decode cX12_init 107 = .ok (.newarray .int, 2) := by decide +kernel
theorem dX12_init_109 : decode cX12_init 109 = .ok (.putfield 34, 3) := by decide +kernel
theorem dX12_init_112 : decode cX12_init 112 = .ok (.aload_n 0, 1) := by decide +kernel
theorem dX12_init_113 : decode cX12_init 113 = .ok (.bipush 6, 2) := by decide +kernel
theorem dX12_init_115 : decode cX12_init 115 = .ok (.newarray .int, 2) := by decide +kernel
theorem dX12_init_117 : decode cX12_init 117 = .ok (.putfield 37, 3) := by decide +kernel
theorem dX12_init_120 : decode cX12_init 120 = .ok (.aload_n 0, 1) := by decide +kernel
theorem dX12_init_121 : decode cX12_init 121 = .ok (.bipush 77, 2) := by decide +kernel
theorem dX12_init_123 : decode cX12_init 123 = .ok (.newarray .int, 2) := by decide +kernel
theorem dX12_init_125 : decode cX12_init 125 = .ok (.putfield 40, 3) := by decide +kernel
theorem dX12_init_128 : decode cX12_init 128 = .ok (.aload_n 0, 1) := by decide +kernel
theorem dX12_init_129 : decode cX12_init 129 = .ok (.iconst 2, 1) := by decide +kernel
theorem dX12_init_130 : decode cX12_init 130 = .ok (.newarray .boolean, 2) := by decide +kernel
theorem dX12_init_132 : decode cX12_init 132 = .ok (.putfield 43, 3) := by decide +kernel
theorem dX12_init_135 : decode cX12_init 135 = .ok (.aload_n 0, 1) := by decide +kernel
theorem dX12_init_136 : decode cX12_init 136 = .ok (.bipush 116, 2) := by decide +kernel
theorem dX12_init_138 : decode cX12_init 138 = .ok (.newarray .int, 2) := by decide +kernel
theorem dX12_init_140 : decode cX12_init 140 = .ok (.putfield 47, 3) := by decide +kernel
theorem dX12_init_143 : decode cX12_init 143 = .ok (.aload_n 0, 1) := by decide +kernel
theorem dX12_init_144 : decode cX12_init 144 = .ok (.sipush 154, 3) := by decide +kernel
theorem dX12_init_147 : decode cX12_init 147 = .ok (.newarray .int, 2) := by decide +kernel
theorem dX12_init_149 : decode cX12_init 149 = .ok (.putfield 50, 3) := by decide +kernel
theorem dX12_init_152 : decode cX12_init 152 = .ok (.aload_n 0, 1) := by decide +kernel
theorem dX12_init_153 : decode cX12_init 153 = .ok (.bipush 16, 2) := by decide +kernel
theorem dX12_init_155 : decode cX12_init 155 = .ok (.newarray .int, 2) := by decide +kernel
theorem dX12_init_157 : decode cX12_init 157 = .ok (.putfield 53, 3) := by decide +kernel
theorem dX12_init_160 : decode cX12_init 160 = .ok (.return_, 1) := by decide +kernel
theorem dX12_in_0 : decode cX12_in 0 = .ok (.lload_n 0, 1) := by decide +kernel
theorem dX12_in_1 : decode cX12_in 1 = .ok (.lload_n 2, 1) := by decide +kernel
theorem dX12_in_2 : decode cX12_in 2 = .ok (.lcmp, 1) := by decide +kernel
theorem dX12_in_3 : decode cX12_in 3 = .ok (.ifCond .lt 14, 3) := by decide +kernel
theorem dX12_in_6 : decode cX12_in 6 = .ok (.lload_n 0, 1) := by decide +kernel
theorem dX12_in_7 : decode cX12_in 7 = .ok (.lload 4, 2) := by decide +kernel
theorem dX12_in_9 : decode cX12_in 9 = .ok (.lcmp, 1) := by decide +kernel
theorem dX12_in_10 : decode cX12_in 10 = .ok (.ifCond .gt 7, 3) := by decide +kernel
theorem dX12_in_13 : decode cX12_in 13 = .ok (.iconst 1, 1) := by decide +kernel
theorem dX12_in_14 : decode cX12_in 14 = .ok (.goto 4, 3) := by decide +kernel
theorem dX12_in_17 : decode cX12_in 17 = .ok (.iconst 0, 1) := by decide +kernel
theorem dX12_in_18 : decode cX12_in 18 = .ok (.ireturn, 1) := by decide +kernel
theorem dX12_finding_0 : decode cX12_finding 0 = .ok (.aload_n 0, 1) := by decide +kernel
theorem dX12_finding_1 : decode cX12_finding 1 = .ok (.iload_n 1, 1) := by decide +kernel
theorem dX12_finding_2 : decode cX12_finding 2 = .ok (.putfield 60, 3) := by decide +kernel
theorem dX12_finding_5 : decode cX12_finding 5 = .ok (.ldc 63, 2) := by decide +kernel
theorem dX12_finding_7 : decode cX12_finding 7 = .ok (.iload_n 1, 1) := by decide +kernel
theorem dX12_finding_8 : decode cX12_finding 8 = .ok (.isub, 1) := by decide +kernel
theorem dX12_finding_9 : decode cX12_finding 9 = .ok (.ireturn, 1) := by decide +kernel
theorem dX12_isRow_0 : decode cX12_isRow 0 = .ok (.iload_n 0, 1) := by decide +kernel
theorem dX12_isRow_1 : decode cX12_isRow 1 = .ok (.i2l, 1) := by decide +kernel
theorem dX12_isRow_2 : decode cX12_isRow 2 = .ok (.lconst 0, 1) := by decide +kernel
theorem dX12_isRow_3 : decode cX12_isRow 3 = .ok (.ldc2_w 64, 3) := by decide +kernel
theorem dX12_isRow_6 : decode cX12_isRow 6 = .ok (.invokestatic 66, 3) := by decide +kernel
theorem dX12_isRow_9 : decode cX12_isRow 9 = .ok (.ireturn, 1) := by decide +kernel
theorem dX12_row_0 : decode cX12_row 0 = .ok (.aload_n 0, 1) := by decide +kernel
theorem dX12_row_1 : decode cX12_row 1 = .ok (.iconst 0, 1) := by decide +kernel
theorem dX12_row_2 : decode cX12_row 2 = .ok (.putfield 56, 3) := by decide +kernel
theorem dX12_row_5 : decode cX12_row 5 = .ok (.iload_n 1, 1) := by decide +kernel
theorem dX12_row_6 : decode cX12_row 6 = .ok (.invokestatic 70, 3) := by decide +kernel
theorem dX12_row_9 : decode cX12_row 9 = .ok (.ifCond .eq 21, 3) := by decide +kernel
theorem dX12_row_12 : decode cX12_row 12 = .ok (.iload_n 2, 1) := by decide +kernel
theorem dX12_row_13 : decode cX12_row 13 = .ok (.i2l, 1) := by decide +kernel
theorem dX12_row_14 : decode cX12_row 14 = .ok (.lconst 0, 1) := by decide +kernel
theorem dX12_row_15 : decode cX12_row 15 = .ok (.ldc2_w 74, 3) := by decide +kernel
theorem dX12_row_18 : decode cX12_row 18 = .ok (.invokestatic 66, 3) := by decide +kernel
theorem dX12_row_21 : decode cX12_row 21 = .ok (.ifCond .eq 9, 3) := by decide +kernel
theorem dX12_row_24 : decode cX12_row 24 = .ok (.iload_n 3, 1) := by decide +kernel
theorem dX12_row_25 : decode cX12_row 25 = .ok (.bipush 40, 2) := by decide +kernel
theorem dX12_row_27 : decode cX12_row 27 = .ok (.if_icmp .le 6, 3) := by decide +kernel
theorem dX12_row_30 : decode cX12_row 30 = .ok (.ldc 76, 2) := by decide +kernel
theorem dX12_row_32 : decode cX12_row 32 = .ok (.ireturn, 1) := by decide +kernel
theorem dX12_row_33 : decode cX12_row 33 = .ok (.aload_n 0, 1) := by decide +kernel
theorem dX12_row_34 : decode cX12_row 34 = .ok (.iconst 0, 1) := by decide +kernel
theorem dX12_row_35 : decode cX12_row 35 = .ok (.putfield 60, 3) := by decide +kernel
theorem dX12_row_38 : decode cX12_row 38 = .ok (.iload_n 3, 1) := by decide +kernel
theorem dX12_row_39 : decode cX12_row 39 = .ok (.ifCond .ge 9, 3) := by decide +kernel
theorem dX12_row_42 : decode cX12_row 42 = .ok (.aload_n 0, 1) := by decide +kernel
theorem dX12_row_43 : decode cX12_row 43 = .ok (.iconst 4, 1) := by decide +kernel
theorem dX12_row_44 : decode cX12_row 44 = .ok (.invokevirtual 77, 3) := by decide +kernel
theorem dX12_row_47 : decode cX12_row 47 = .ok (.ireturn, 1) := by decide +kernel
theorem dX12_row_48 : decode cX12_row 48 = .ok (.aload_n 0, 1) := by decide +kernel
theorem dX12_row_49 : decode cX12_row 49 = .ok (.getfield 7, 3) := by decide +kernel
theorem dX12_row_52 : decode cX12_row 52 = .ok (.iload_n 1, 1) := by decide +kernel
theorem dX12_row_53 : decode cX12_row 53 = .ok (.iload_n 2, 1) := by decide +kernel
theorem dX12_row_54 : decode cX12_row 54 = .ok (.iastore, 1) := by decide +kernel
theorem dX12_row_55 : decode cX12_row 55 = .ok (.aload_n 0, 1) := by decide +kernel
theorem dX12_row_56 : decode cX12_row 56 = .ok (.getfield 13, 3) := by decide +kernel
theorem dX12_row_59 : decode cX12_row 59 = .ok (.iload_n 1, 1) := by decide +kernel
theorem dX12_row_60 : decode cX12_row 60 = .ok (.iload_n 3, 1) := by decide +kernel
theorem dX12_row_61 : decode cX12_row 61 = .ok (.iastore, 1) := by decide +kernel
theorem dX12_row_62 : decode cX12_row 62 = .ok (.iconst 0, 1) := by decide +kernel
theorem dX12_row_63 : decode cX12_row 63 = .ok (.istore 4, 2) := by decide +kernel
theorem dX12_row_65 : decode cX12_row 65 = .ok (.iload 4, 2) := by decide +kernel
theorem dX12_row_67 : decode cX12_row 67 = .ok (.bipush 40, 2) := by decide +kernel
theorem dX12_row_69 : decode cX12_row 69 = .ok (.if_icmp .ge 22, 3) := by decide +kernel
theorem dX12_row_72 : decode cX12_row 72 = .ok (.aload_n 0, 1) := by decide +kernel
theorem dX12_row_73 : decode cX12_row 73 = .ok (.getfield 16, 3) := by decide +kernel
theorem dX12_row_76 : decode cX12_row 76 = .ok (.bipush 40, 2) := by decide +kernel
theorem dX12_row_78 : decode cX12_row 78 = .ok (.iload_n 1, 1) := by decide +kernel
theorem dX12_row_79 : decode cX12_row 79 = .ok (.imul, 1) := by decide +kernel
theorem dX12_row_80 : decode cX12_row 80 = .ok (.iload 4, 2) := by decide +kernel
theorem dX12_row_82 : decode cX12_row 82 = .ok (.iadd, 1) := by decide +kernel
theorem dX12_row_83 : decode cX12_row 83 = .ok (.iconst 0, 1) := by decide +kernel
theorem dX12_row_84 : decode cX12_row 84 = .ok (.iastore, 1) := by decide +kernel
theorem dX12_row_85 : decode cX12_row 85 = .ok (.iinc 4 1, 3) := by decide +kernel
theorem dX12_row_88 : decode cX12_row 88 = .ok (.goto (-23), 3) := by decide +kernel
theorem dX12_row_91 : decode cX12_row 91 = .ok (.iload_n 3, 1) := by decide +kernel
theorem dX12_row_92 : decode cX12_row 92 = .ok (.ireturn, 1) := by decide +kernel
theorem dX12_set_0 : decode cX12_set 0 = .ok (.aload_n 0, 1) := by decide +kernel
theorem dX12_set_1 : decode cX12_set 1 = .ok (.iconst 0, 1) := by decide +kernel
theorem dX12_set_2 : decode cX12_set 2 = .ok (.putfield 56, 3) := by decide +kernel
theorem dX12_set_5 : decode cX12_set 5 = .ok (.iload_n 1, 1) := by decide +kernel
theorem dX12_set_6 : decode cX12_set 6 = .ok (.invokestatic 70, 3) := by decide +kernel
theorem dX12_set_9 : decode cX12_set 9 = .ok (.ifCond .ne 6, 3) := by decide +kernel
theorem dX12_set_12 : decode cX12_set 12 = .ok (.ldc 76, 2) := by decide +kernel
theorem dX12_set_14 : decode cX12_set 14 = .ok (.ireturn, 1) := by decide +kernel
theorem dX12_set_15 : decode cX12_set 15 = .ok (.aload_n 0, 1) := by decide +kernel
theorem dX12_set_16 : decode cX12_set 16 = .ok (.iconst 0, 1) := by decide +kernel
theorem dX12_set_17 : decode cX12_set 17 = .ok (.putfield 60, 3) := by decide +kernel
theorem dX12_set_20 : decode cX12_set 20 = .ok (.aload_n 0, 1) := by decide +kernel
theorem dX12_set_21 : decode cX12_set 21 = .ok (.getfield 7, 3) := by decide +kernel
theorem dX12_set_24 : decode cX12_set 24 = .ok (.iload_n 1, 1) := by decide +kernel
theorem dX12_set_25 : decode cX12_set 25 = .ok (.iaload, 1) := by decide +kernel
theorem dX12_set_26 : decode cX12_set 26 = .ok (.ifCond .ge 9, 3) := by decide +kernel
theorem dX12_set_29 : decode cX12_set 29 = .ok (.aload_n 0, 1) := by decide +kernel
theorem dX12_set_30 : decode cX12_set 30 = .ok (.iconst 1, 1) := by decide +kernel
theorem dX12_set_31 : decode cX12_set 31 = .ok (.invokevirtual 77, 3) := by decide +kernel
theorem dX12_set_34 : decode cX12_set 34 = .ok (.ireturn, 1) := by decide +kernel
theorem dX12_set_35 : decode cX12_set 35 = .ok (.iload_n 2, 1) := by decide +kernel
theorem dX12_set_36 : decode cX12_set 36 = .ok (.i2l, 1) := by decide +kernel
theorem dX12_set_37 : decode cX12_set 37 = .ok (.lconst 0, 1) := by decide +kernel
theorem dX12_set_38 : decode cX12_set 38 = .ok (.aload_n 0, 1) := by decide +kernel
theorem dX12_set_39 : decode cX12_set 39 = .ok (.getfield 13, 3) := by decide +kernel
theorem dX12_set_42 : decode cX12_set 42 = .ok (.iload_n 1, 1) := by decide +kernel
theorem dX12_set_43 : decode cX12_set 43 = .ok (.iaload, 1) := by decide +kernel
theorem dX12_set_44 : decode cX12_set 44 = .ok (.iconst 1, 1) := by decide +kernel
theorem dX12_set_45 : decode cX12_set 45 = .ok (.isub, 1) := by decide +kernel
theorem dX12_set_46 : decode cX12_set 46 = .ok (.i2l, 1) := by decide +kernel
theorem dX12_set_47 : decode cX12_set 47 = .ok (.invokestatic 66, 3) := by decide +kernel
theorem dX12_set_50 : decode cX12_set 50 = .ok (.ifCond .ne 9, 3) := by decide +kernel
theorem dX12_set_53 : decode cX12_set 53 = .ok (.aload_n 0, 1) := by decide +kernel
theorem dX12_set_54 : decode cX12_set 54 = .ok (.iconst 2, 1) := by decide +kernel
theorem dX12_set_55 : decode cX12_set 55 = .ok (.invokevirtual 77, 3) := by decide +kernel
theorem dX12_set_58 : decode cX12_set 58 = .ok (.ireturn, 1) := by decide +kernel
theorem dX12_set_59 : decode cX12_set 59 = .ok (.aload_n 0, 1) := by decide +kernel
theorem dX12_set_60 : decode cX12_set 60 = .ok (.getfield 16, 3) := by decide +kernel
theorem dX12_set_63 : decode cX12_set 63 = .ok (.bipush 40, 2) := by decide +kernel
theorem dX12_set_65 : decode cX12_set 65 = .ok (.iload_n 1, 1) := by decide +kernel
theorem dX12_set_66 : decode cX12_set 66 = .ok (.imul, 1) := by decide +kernel
theorem dX12_set_67 : decode cX12_set 67 = .ok (.iload_n 2, 1) := by decide +kernel
theorem dX12_set_68 : decode cX12_set 68 = .ok (.iadd, 1) := by decide +kernel
theorem dX12_set_69 : decode cX12_set 69 = .ok (.aload_n 0, 1) := by decide +kernel
theorem dX12_set_70 : decode cX12_set 70 = .ok (.getfield 7, 3) := by decide +kernel
theorem dX12_set_73 : decode cX12_set 73 = .ok (.iload_n 1, 1) := by decide +kernel
theorem dX12_set_74 : decode cX12_set 74 = .ok (.iaload, 1) := by decide +kernel
theorem dX12_set_75 : decode cX12_set 75 = .ok (.ifCond .ne 8, 3) := by decide +kernel
theorem dX12_set_78 : decode cX12_set 78 = .ok (.iload_n 3, 1) := by decide +kernel
theorem dX12_set_79 : decode cX12_set 79 = .ok (.i2b, 1) := by decide +kernel
theorem dX12_set_80 : decode cX12_set 80 = .ok (.goto 19, 3) := by decide +kernel
theorem dX12_set_83 : decode cX12_set 83 = .ok (.aload_n 0, 1) := by decide +kernel
theorem dX12_set_84 : decode cX12_set 84 = .ok (.getfield 7, 3) := by decide +kernel
theorem dX12_set_87 : decode cX12_set 87 = .ok (.iload_n 1, 1) := by decide +kernel
theorem dX12_set_88 : decode cX12_set 88 = .ok (.iaload, 1) := by decide +kernel
theorem dX12_set_89 : decode cX12_set 89 = .ok (.iconst 1, 1) := by decide +kernel
theorem dX12_set_90 : decode cX12_set 90 = .ok (.if_icmp .ne 8, 3) := by decide +kernel
theorem dX12_set_93 : decode cX12_set 93 = .ok (.iload_n 3, 1) := by decide +kernel
theorem dX12_set_94 : decode cX12_set 94 = .ok (.i2s, 1) := by decide +kernel
theorem dX12_set_95 : decode cX12_set 95 = .ok (.goto 4, 3) := by decide +kernel
theorem dX12_set_98 : decode cX12_set 98 = .ok (.iload_n 3, 1) := by decide +kernel
theorem dX12_set_99 : decode cX12_set 99 = .ok (.iastore, 1) := by decide +kernel
theorem dX12_set_100 : decode cX12_set 100 = .ok (.aload_n 0, 1) := by decide +kernel
theorem dX12_set_101 : decode cX12_set 101 = .ok (.getfield 16, 3) := by decide +kernel
theorem dX12_set_104 : decode cX12_set 104 = .ok (.bipush 40, 2) := by decide +kernel
theorem dX12_set_106 : decode cX12_set 106 = .ok (.iload_n 1, 1) := by decide +kernel
theorem dX12_set_107 : decode cX12_set 107 = .ok (.imul, 1) := by decide +kernel
theorem dX12_set_108 : decode cX12_set 108 = .ok (.iload_n 2, 1) := by decide +kernel
theorem dX12_set_109 : decode cX12_set 109 = .ok (.iadd, 1) := by decide +kernel
theorem dX12_set_110 : decode cX12_set 110 = .ok (.iaload, 1) := by decide +kernel
theorem dX12_set_111 : decode cX12_set 111 = .ok (.ireturn, 1) := by decide +kernel
theorem dX12_copy_0 : decode cX12_copy 0 = .ok (.aload_n 0, 1) := by decide +kernel
theorem dX12_copy_1 : decode cX12_copy 1 = .ok (.iconst 0, 1) := by decide +kernel
theorem dX12_copy_2 : decode cX12_copy 2 = .ok (.putfield 56, 3) := by decide +kernel
theorem dX12_copy_5 : decode cX12_copy 5 = .ok (.iload_n 1, 1) := by decide +kernel
theorem dX12_copy_6 : decode cX12_copy 6 = .ok (.invokestatic 70, 3) := by decide +kernel
theorem dX12_copy_9 : decode cX12_copy 9 = .ok (.ifCond .eq 10, 3) := by decide +kernel
theorem dX12_copy_12 : decode cX12_copy 12 = .ok (.iload_n 3, 1) := by decide +kernel
theorem dX12_copy_13 : decode cX12_copy 13 = .ok (.invokestatic 70, 3) := by decide +kernel
theorem dX12_copy_16 : decode cX12_copy 16 = .ok (.ifCond .ne 6, 3) := by decide +kernel
theorem dX12_copy_19 : decode cX12_copy 19 = .ok (.ldc 76, 2) := by decide +kernel
theorem dX12_copy_21 : decode cX12_copy 21 = .ok (.ireturn, 1) := by decide +kernel
theorem dX12_copy_22 : decode cX12_copy 22 = .ok (.aload_n 0, 1) := by decide +kernel
theorem dX12_copy_23 : decode cX12_copy 23 = .ok (.iconst 0, 1) := by decide +kernel
theorem dX12_copy_24 : decode cX12_copy 24 = .ok (.putfield 60, 3) := by decide +kernel
theorem dX12_copy_27 : decode cX12_copy 27 = .ok (.aload_n 0, 1) := by decide +kernel
theorem dX12_copy_28 : decode cX12_copy 28 = .ok (.getfield 7, 3) := by decide +kernel
theorem dX12_copy_31 : decode cX12_copy 31 = .ok (.iload_n 1, 1) := by decide +kernel
theorem dX12_copy_32 : decode cX12_copy 32 = .ok (.iaload, 1) := by decide +kernel
theorem dX12_copy_33 : decode cX12_copy 33 = .ok (.ifCond .lt 12, 3) := by decide +kernel
theorem dX12_copy_36 : decode cX12_copy 36 = .ok (.aload_n 0, 1) := by decide +kernel
theorem dX12_copy_37 : decode cX12_copy 37 = .ok (.getfield 7, 3) := by decide +kernel
theorem dX12_copy_40 : decode cX12_copy 40 = .ok (.iload_n 3, 1) := by decide +kernel
theorem dX12_copy_41 : decode cX12_copy 41 = .ok (.iaload, 1) := by decide +kernel
theorem dX12_copy_42 : decode cX12_copy 42 = .ok (.ifCond .ge 9, 3) := by decide +kernel
theorem dX12_copy_45 : decode cX12_copy 45 = .ok (.aload_n 0, 1) := by decide +kernel
theorem dX12_copy_46 : decode cX12_copy 46 = .ok (.iconst 1, 1) := by decide +kernel
theorem dX12_copy_47 : decode cX12_copy 47 = .ok (.invokevirtual 77, 3) := by decide +kernel
theorem dX12_copy_50 : decode cX12_copy 50 = .ok (.ireturn, 1) := by decide +kernel
theorem dX12_copy_51 : decode cX12_copy 51 = .ok (.aload_n 0, 1) := by decide +kernel
theorem dX12_copy_52 : decode cX12_copy 52 = .ok (.getfield 7, 3) := by decide +kernel
theorem dX12_copy_55 : decode cX12_copy 55 = .ok (.iload_n 1, 1) := by decide +kernel
theorem dX12_copy_56 : decode cX12_copy 56 = .ok (.iaload, 1) := by decide +kernel
theorem dX12_copy_57 : decode cX12_copy 57 = .ok (.aload_n 0, 1) := by decide +kernel
theorem dX12_copy_58 : decode cX12_copy 58 = .ok (.getfield 7, 3) := by decide +kernel
theorem dX12_copy_61 : decode cX12_copy 61 = .ok (.iload_n 3, 1) := by decide +kernel
theorem dX12_copy_62 : decode cX12_copy 62 = .ok (.iaload, 1) := by decide +kernel
theorem dX12_copy_63 : decode cX12_copy 63 = .ok (.if_icmp .eq 9, 3) := by decide +kernel
theorem dX12_copy_66 : decode cX12_copy 66 = .ok (.aload_n 0, 1) := by decide +kernel
theorem dX12_copy_67 : decode cX12_copy 67 = .ok (.iconst 5, 1) := by decide +kernel
theorem dX12_copy_68 : decode cX12_copy 68 = .ok (.invokevirtual 77, 3) := by decide +kernel
theorem dX12_copy_71 : decode cX12_copy 71 = .ok (.ireturn, 1) := by decide +kernel
theorem dX12_copy_72 : decode cX12_copy 72 = .ok (.iload_n 2, 1) := by decide +kernel
theorem dX12_copy_73 : decode cX12_copy 73 = .ok (.ifCond .lt 48, 3) := by decide +kernel
theorem dX12_copy_76 : decode cX12_copy 76 = .ok (.iload 4, 2) := by decide +kernel
theorem dX12_copy_78 : decode cX12_copy 78 = .ok (.ifCond .lt 43, 3) := by decide +kernel
theorem dX12_copy_81 : decode cX12_copy 81 = .ok (.iload 5, 2) := by decide +kernel
theorem dX12_copy_83 : decode cX12_copy 83 = .ok (.ifCond .lt 38, 3) := by decide +kernel
theorem dX12_copy_86 : decode cX12_copy 86 = .ok (.iload_n 2, 1) := by decide +kernel
theorem dX12_copy_87 : decode cX12_copy 87 = .ok (.i2l, 1) := by decide +kernel
theorem dX12_copy_88 : decode cX12_copy 88 = .ok (.iload 5, 2) := by decide +kernel
theorem dX12_copy_90 : decode cX12_copy 90 = .ok (.i2l, 1) := by decide +kernel
theorem dX12_copy_91 : decode cX12_copy 91 = .ok (.ladd, 1) := by decide +kernel
theorem dX12_copy_92 : decode cX12_copy 92 = .ok (.aload_n 0, 1) := by decide +kernel
theorem dX12_copy_93 : decode cX12_copy 93 = .ok (.getfield 13, 3) := by decide +kernel
theorem dX12_copy_96 : decode cX12_copy 96 = .ok (.iload_n 1, 1) := by decide +kernel
theorem dX12_copy_97 : decode cX12_copy 97 = .ok (.iaload, 1) := by decide +kernel
theorem dX12_copy_98 : decode cX12_copy 98 = .ok (.i2l, 1) := by decide +kernel
theorem dX12_copy_99 : decode cX12_copy 99 = .ok (.lcmp, 1) := by decide +kernel
theorem dX12_copy_100 : decode cX12_copy 100 = .ok (.ifCond .gt 21, 3) := by decide +kernel
theorem dX12_copy_103 : decode cX12_copy 103 = .ok (.iload 4, 2) := by decide +kernel
theorem dX12_copy_105 : decode cX12_copy 105 = .ok (.i2l, 1) := by decide +kernel
theorem dX12_copy_106 : decode cX12_copy 106 = .ok (.iload 5, 2) := by decide +kernel
theorem dX12_copy_108 : decode cX12_copy 108 = .ok (.i2l, 1) := by decide +kernel
theorem dX12_copy_109 : decode cX12_copy 109 = .ok (.ladd, 1) := by decide +kernel
theorem dX12_copy_110 : decode cX12_copy 110 = .ok (.aload_n 0, 1) := by decide +kernel
theorem dX12_copy_111 : decode cX12_copy 111 = .ok (.getfield 13, 3) := by decide +kernel
theorem dX12_copy_114 : decode cX12_copy 114 = .ok (.iload_n 3, 1) := by decide +kernel
theorem dX12_copy_115 : decode cX12_copy 115 = .ok (.iaload, 1) := by decide +kernel
theorem dX12_copy_116 : decode cX12_copy 116 = .ok (.i2l, 1) := by decide +kernel
theorem dX12_copy_117 : decode cX12_copy 117 = .ok (.lcmp, 1) := by decide +kernel
theorem dX12_copy_118 : decode cX12_copy 118 = .ok (.ifCond .le 9, 3) := by decide +kernel
theorem dX12_copy_121 : decode cX12_copy 121 = .ok (.aload_n 0, 1) := by decide +kernel
theorem dX12_copy_122 : decode cX12_copy 122 = .ok (.iconst 2, 1) := by decide +kernel
theorem dX12_copy_123 : decode cX12_copy 123 = .ok (.invokevirtual 77, 3) := by decide +kernel
theorem dX12_copy_126 : decode cX12_copy 126 = .ok (.ireturn, 1) := by decide +kernel
theorem dX12_copy_127 : decode cX12_copy 127 = .ok (.iload_n 2, 1) := by decide +kernel
theorem dX12_copy_128 : decode cX12_copy 128 = .ok (.iload 4, 2) := by decide +kernel
theorem dX12_copy_130 : decode cX12_copy 130 = .ok (.if_icmp .lt 7, 3) := by decide +kernel
theorem dX12_copy_133 : decode cX12_copy 133 = .ok (.iconst 1, 1) := by decide +kernel
theorem dX12_copy_134 : decode cX12_copy 134 = .ok (.goto 4, 3) := by decide +kernel
theorem dX12_copy_137 : decode cX12_copy 137 = .ok (.iconst 0, 1) := by decide +kernel
theorem dX12_copy_138 : decode cX12_copy 138 = .ok (.istore 6, 2) := by decide +kernel
theorem dX12_copy_140 : decode cX12_copy 140 = .ok (.iconst 0, 1) := by decide +kernel
theorem dX12_copy_141 : decode cX12_copy 141 = .ok (.istore 7, 2) := by decide +kernel
theorem dX12_copy_143 : decode cX12_copy 143 = .ok (.iload 7, 2) := by decide +kernel
theorem dX12_copy_145 : decode cX12_copy 145 = .ok (.iload 5, 2) := by decide +kernel
theorem dX12_copy_147 : decode cX12_copy 147 = .ok (.if_icmp .ge 57, 3) := by decide +kernel
theorem dX12_copy_150 : decode cX12_copy 150 = .ok (.iload 6, 2) := by decide +kernel
theorem dX12_copy_152 : decode cX12_copy 152 = .ok (.ifCond .eq 8, 3) := by decide +kernel
theorem dX12_copy_155 : decode cX12_copy 155 = .ok (.iload 7, 2) := by decide +kernel
theorem dX12_copy_157 : decode cX12_copy 157 = .ok (.goto 10, 3) := by decide +kernel
theorem dX12_copy_160 : decode cX12_copy 160 = .ok (.iload 5, 2) := by decide +kernel
theorem dX12_copy_162 : decode cX12_copy 162 = .ok (.iconst 1, 1) := by decide +kernel
theorem dX12_copy_163 : decode cX12_copy 163 = .ok (.isub, 1) := by decide +kernel
theorem dX12_copy_164 : decode cX12_copy 164 = .ok (.iload 7, 2) := by decide +kernel
theorem dX12_copy_166 : decode cX12_copy 166 = .ok (.isub, 1) := by decide +kernel
theorem dX12_copy_167 : decode cX12_copy 167 = .ok (.istore 8, 2) := by decide +kernel
theorem dX12_copy_169 : decode cX12_copy 169 = .ok (.aload_n 0, 1) := by decide +kernel
theorem dX12_copy_170 : decode cX12_copy 170 = .ok (.getfield 16, 3) := by decide +kernel
theorem dX12_copy_173 : decode cX12_copy 173 = .ok (.bipush 40, 2) := by decide +kernel
theorem dX12_copy_175 : decode cX12_copy 175 = .ok (.iload_n 3, 1) := by decide +kernel
theorem dX12_copy_176 : decode cX12_copy 176 = .ok (.imul, 1) := by decide +kernel
theorem dX12_copy_177 : decode cX12_copy 177 = .ok (.iload 4, 2) := by decide +kernel
theorem dX12_copy_179 : decode cX12_copy 179 = .ok (.iadd, 1) := by decide +kernel
theorem dX12_copy_180 : decode cX12_copy 180 = .ok (.iload 8, 2) := by decide +kernel
theorem dX12_copy_182 : decode cX12_copy 182 = .ok (.iadd, 1) := by decide +kernel
theorem dX12_copy_183 : decode cX12_copy 183 = .ok (.aload_n 0, 1) := by decide +kernel
theorem dX12_copy_184 : decode cX12_copy 184 = .ok (.getfield 16, 3) := by decide +kernel
theorem dX12_copy_187 : decode cX12_copy 187 = .ok (.bipush 40, 2) := by decide +kernel
theorem dX12_copy_189 : decode cX12_copy 189 = .ok (.iload_n 1, 1) := by decide +kernel
theorem dX12_copy_190 : decode cX12_copy 190 = .ok (.imul, 1) := by decide +kernel
theorem dX12_copy_191 : decode cX12_copy 191 = .ok (.iload_n 2, 1) := by decide +kernel
theorem dX12_copy_192 : decode cX12_copy 192 = .ok (.iadd, 1) := by decide +kernel
theorem dX12_copy_193 : decode cX12_copy 193 = .ok (.iload 8, 2) := by decide +kernel
theorem dX12_copy_195 : decode cX12_copy 195 = .ok (.iadd, 1) := by decide +kernel
theorem dX12_copy_196 : decode cX12_copy 196 = .ok (.iaload, 1) := by decide +kernel
theorem dX12_copy_197 : decode cX12_copy 197 = .ok (.iastore, 1) := by decide +kernel
theorem dX12_copy_198 : decode cX12_copy 198 = .ok (.iinc 7 1, 3) := by decide +kernel
theorem dX12_copy_201 : decode cX12_copy 201 = .ok (.goto (-58), 3) := by decide +kernel
theorem dX12_copy_204 : decode cX12_copy 204 = .ok (.iload 5, 2) := by decide +kernel
theorem dX12_copy_206 : decode cX12_copy 206 = .ok (.ireturn, 1) := by decide +kernel
theorem dX12_drop_0 : decode cX12_drop 0 = .ok (.aload_n 0, 1) := by decide +kernel
theorem dX12_drop_1 : decode cX12_drop 1 = .ok (.iconst 0, 1) := by decide +kernel
theorem dX12_drop_2 : decode cX12_drop 2 = .ok (.putfield 56, 3) := by decide +kernel
theorem dX12_drop_5 : decode cX12_drop 5 = .ok (.iload_n 1, 1) := by decide +kernel
theorem dX12_drop_6 : decode cX12_drop 6 = .ok (.invokestatic 70, 3) := by decide +kernel
theorem dX12_drop_9 : decode cX12_drop 9 = .ok (.ifCond .ne 6, 3) := by decide +kernel
theorem dX12_drop_12 : decode cX12_drop 12 = .ok (.ldc 76, 2) := by decide +kernel
theorem dX12_drop_14 : decode cX12_drop 14 = .ok (.ireturn, 1) := by decide +kernel
theorem dX12_drop_15 : decode cX12_drop 15 = .ok (.aload_n 0, 1) := by decide +kernel
theorem dX12_drop_16 : decode cX12_drop 16 = .ok (.iconst 0, 1) := by decide +kernel
theorem dX12_drop_17 : decode cX12_drop 17 = .ok (.putfield 60, 3) := by decide +kernel
theorem dX12_drop_20 : decode cX12_drop 20 = .ok (.aload_n 0, 1) := by decide +kernel
theorem dX12_drop_21 : decode cX12_drop 21 = .ok (.getfield 7, 3) := by decide +kernel
theorem dX12_drop_24 : decode cX12_drop 24 = .ok (.iload_n 1, 1) := by decide +kernel
theorem dX12_drop_25 : decode cX12_drop 25 = .ok (.iaload, 1) := by decide +kernel
theorem dX12_drop_26 : decode cX12_drop 26 = .ok (.ifCond .ge 9, 3) := by decide +kernel
theorem dX12_drop_29 : decode cX12_drop 29 = .ok (.aload_n 0, 1) := by decide +kernel
theorem dX12_drop_30 : decode cX12_drop 30 = .ok (.iconst 1, 1) := by decide +kernel
theorem dX12_drop_31 : decode cX12_drop 31 = .ok (.invokevirtual 77, 3) := by decide +kernel
theorem dX12_drop_34 : decode cX12_drop 34 = .ok (.ireturn, 1) := by decide +kernel
theorem dX12_drop_35 : decode cX12_drop 35 = .ok (.aload_n 0, 1) := by decide +kernel
theorem dX12_drop_36 : decode cX12_drop 36 = .ok (.getfield 7, 3) := by decide +kernel
theorem dX12_drop_39 : decode cX12_drop 39 = .ok (.iload_n 1, 1) := by decide +kernel
theorem dX12_drop_40 : decode cX12_drop 40 = .ok (.iconst (-1), 1) := by decide +kernel
theorem dX12_drop_41 : decode cX12_drop 41 = .ok (.iastore, 1) := by decide +kernel
theorem dX12_drop_42 : decode cX12_drop 42 = .ok (.aload_n 0, 1) := by decide +kernel
theorem dX12_drop_43 : decode cX12_drop 43 = .ok (.getfield 13, 3) := by decide +kernel
theorem dX12_drop_46 : decode cX12_drop 46 = .ok (.iload_n 1, 1) := by decide +kernel
theorem dX12_drop_47 : decode cX12_drop 47 = .ok (.iaload, 1) := by decide +kernel
theorem dX12_drop_48 : decode cX12_drop 48 = .ok (.ireturn, 1) := by decide +kernel
theorem dX12_feed_0 : decode cX12_feed 0 = .ok (.aload_n 0, 1) := by decide +kernel
theorem dX12_feed_1 : decode cX12_feed 1 = .ok (.iconst 0, 1) := by decide +kernel
theorem dX12_feed_2 : decode cX12_feed 2 = .ok (.putfield 56, 3) := by decide +kernel
theorem dX12_feed_5 : decode cX12_feed 5 = .ok (.iload_n 3, 1) := by decide +kernel
theorem dX12_feed_6 : decode cX12_feed 6 = .ok (.i2l, 1) := by decide +kernel
theorem dX12_feed_7 : decode cX12_feed 7 = .ok (.lconst 1, 1) := by decide +kernel
theorem dX12_feed_8 : decode cX12_feed 8 = .ok (.ldc2_w 81, 3) := by decide +kernel
theorem dX12_feed_11 : decode cX12_feed 11 = .ok (.invokestatic 66, 3) := by decide +kernel
theorem dX12_feed_14 : decode cX12_feed 14 = .ok (.ifCond .ne 6, 3) := by decide +kernel
theorem dX12_feed_17 : decode cX12_feed 17 = .ok (.ldc 76, 2) := by decide +kernel
theorem dX12_feed_19 : decode cX12_feed 19 = .ok (.ireturn, 1) := by decide +kernel
theorem dX12_feed_20 : decode cX12_feed 20 = .ok (.aload_n 0, 1) := by decide +kernel
theorem dX12_feed_21 : decode cX12_feed 21 = .ok (.getfield 83, 3) := by decide +kernel
theorem dX12_feed_24 : decode cX12_feed 24 = .ok (.iload_n 3, 1) := by decide +kernel
theorem dX12_feed_25 : decode cX12_feed 25 = .ok (.iadd, 1) := by decide +kernel
theorem dX12_feed_26 : decode cX12_feed 26 = .ok (.sipush 500, 3) := by decide +kernel
theorem dX12_feed_29 : decode cX12_feed 29 = .ok (.if_icmp .le 6, 3) := by decide +kernel
theorem dX12_feed_32 : decode cX12_feed 32 = .ok (.ldc 86, 2) := by decide +kernel
theorem dX12_feed_34 : decode cX12_feed 34 = .ok (.ireturn, 1) := by decide +kernel
theorem dX12_feed_35 : decode cX12_feed 35 = .ok (.iload_n 3, 1) := by decide +kernel
theorem dX12_feed_36 : decode cX12_feed 36 = .ok (.iconst 1, 1) := by decide +kernel
theorem dX12_feed_37 : decode cX12_feed 37 = .ok (.isub, 1) := by decide +kernel
theorem dX12_feed_38 : decode cX12_feed 38 = .ok (.istore 4, 2) := by decide +kernel
theorem dX12_feed_40 : decode cX12_feed 40 = .ok (.iload 4, 2) := by decide +kernel
theorem dX12_feed_42 : decode cX12_feed 42 = .ok (.ifCond .lt 40, 3) := by decide +kernel
theorem dX12_feed_45 : decode cX12_feed 45 = .ok (.aload_n 0, 1) := by decide +kernel
theorem dX12_feed_46 : decode cX12_feed 46 = .ok (.getfield 28, 3) := by decide +kernel
theorem dX12_feed_49 : decode cX12_feed 49 = .ok (.aload_n 0, 1) := by decide +kernel
theorem dX12_feed_50 : decode cX12_feed 50 = .ok (.getfield 83, 3) := by decide +kernel
theorem dX12_feed_53 : decode cX12_feed 53 = .ok (.lload_n 1, 1) := by decide +kernel
theorem dX12_feed_54 : decode cX12_feed 54 = .ok (.bipush 8, 2) := by decide +kernel
theorem dX12_feed_56 : decode cX12_feed 56 = .ok (.iload 4, 2) := by decide +kernel
theorem dX12_feed_58 : decode cX12_feed 58 = .ok (.imul, 1) := by decide +kernel
theorem dX12_feed_59 : decode cX12_feed 59 = .ok (.lshr, 1) := by decide +kernel
theorem dX12_feed_60 : decode cX12_feed 60 = .ok (.ldc2_w 87, 3) := by decide +kernel
theorem dX12_feed_63 : decode cX12_feed 63 = .ok (.land, 1) := by decide +kernel
theorem dX12_feed_64 : decode cX12_feed 64 = .ok (.l2i, 1) := by decide +kernel
theorem dX12_feed_65 : decode cX12_feed 65 = .ok (.iastore, 1) := by decide +kernel
theorem dX12_feed_66 : decode cX12_feed 66 = .ok (.aload_n 0, 1) := by decide +kernel
theorem dX12_feed_67 : decode cX12_feed 67 = .ok (.dup, 1) := by decide +kernel
theorem dX12_feed_68 : decode cX12_feed 68 = .ok (.getfield 83, 3) := by decide +kernel
theorem dX12_feed_71 : decode cX12_feed 71 = .ok (.iconst 1, 1) := by decide +kernel
theorem dX12_feed_72 : decode cX12_feed 72 = .ok (.iadd, 1) := by decide +kernel
theorem dX12_feed_73 : decode cX12_feed 73 = .ok (.putfield 83, 3) := by decide +kernel
theorem dX12_feed_76 : decode cX12_feed 76 = .ok (.iinc 4 (-1), 3) := by decide +kernel
theorem dX12_feed_79 : decode cX12_feed 79 = .ok (.goto (-39), 3) := by decide +kernel
theorem dX12_feed_82 : decode cX12_feed 82 = .ok (.aload_n 0, 1) := by decide +kernel
theorem dX12_feed_83 : decode cX12_feed 83 = .ok (.getfield 83, 3) := by decide +kernel
theorem dX12_feed_86 : decode cX12_feed 86 = .ok (.ireturn, 1) := by decide +kernel
theorem dX12_byteAt_0 : decode cX12_byteAt 0 = .ok (.iload_n 1, 1) := by decide +kernel
theorem dX12_byteAt_1 : decode cX12_byteAt 1 = .ok (.aload_n 0, 1) := by decide +kernel
theorem dX12_byteAt_2 : decode cX12_byteAt 2 = .ok (.getfield 89, 3) := by decide +kernel
theorem dX12_byteAt_5 : decode cX12_byteAt 5 = .ok (.if_icmp .ge 12, 3) := by decide +kernel
theorem dX12_byteAt_8 : decode cX12_byteAt 8 = .ok (.aload_n 0, 1) := by decide +kernel
theorem dX12_byteAt_9 : decode cX12_byteAt 9 = .ok (.getfield 28, 3) := by decide +kernel
theorem dX12_byteAt_12 : decode cX12_byteAt 12 = .ok (.iload_n 1, 1) := by decide +kernel
theorem dX12_byteAt_13 : decode cX12_byteAt 13 = .ok (.iaload, 1) := by decide +kernel
theorem dX12_byteAt_14 : decode cX12_byteAt 14 = .ok (.goto 5, 3) := by decide +kernel
theorem dX12_byteAt_17 : decode cX12_byteAt 17 = .ok (.ldc 92, 2) := by decide +kernel
theorem dX12_byteAt_19 : decode cX12_byteAt 19 = .ok (.ireturn, 1) := by decide +kernel
theorem dX12_isLetter_0 : decode cX12_isLetter 0 = .ok (.iload_n 0, 1) := by decide +kernel
theorem dX12_isLetter_1 : decode cX12_isLetter 1 = .ok (.bipush 97, 2) := by decide +kernel
theorem dX12_isLetter_3 : decode cX12_isLetter 3 = .ok (.if_icmp .lt 13, 3) := by decide +kernel
theorem dX12_isLetter_6 : decode cX12_isLetter 6 = .ok (.iload_n 0, 1) := by decide +kernel
theorem dX12_isLetter_7 : decode cX12_isLetter 7 = .ok (.bipush 122, 2) := by decide +kernel
theorem dX12_isLetter_9 : decode cX12_isLetter 9 = .ok (.if_icmp .gt 7, 3) := by decide +kernel
theorem dX12_isLetter_12 : decode cX12_isLetter 12 = .ok (.iconst 1, 1) := by decide +kernel
theorem dX12_isLetter_13 : decode cX12_isLetter 13 = .ok (.goto 4, 3) := by decide +kernel
theorem dX12_isLetter_16 : decode cX12_isLetter 16 = .ok (.iconst 0, 1) := by decide +kernel
theorem dX12_isLetter_17 : decode cX12_isLetter 17 = .ok (.ireturn, 1) := by decide +kernel
theorem dX12_isFigure_0 : decode cX12_isFigure 0 = .ok (.iload_n 0, 1) := by decide +kernel
theorem dX12_isFigure_1 : decode cX12_isFigure 1 = .ok (.bipush 48, 2) := by decide +kernel
theorem dX12_isFigure_3 : decode cX12_isFigure 3 = .ok (.if_icmp .lt 13, 3) := by decide +kernel
theorem dX12_isFigure_6 : decode cX12_isFigure 6 = .ok (.iload_n 0, 1) := by decide +kernel
theorem dX12_isFigure_7 : decode cX12_isFigure 7 = .ok (.bipush 57, 2) := by decide +kernel
theorem dX12_isFigure_9 : decode cX12_isFigure 9 = .ok (.if_icmp .gt 7, 3) := by decide +kernel
theorem dX12_isFigure_12 : decode cX12_isFigure 12 = .ok (.iconst 1, 1) := by decide +kernel
theorem dX12_isFigure_13 : decode cX12_isFigure 13 = .ok (.goto 4, 3) := by decide +kernel
theorem dX12_isFigure_16 : decode cX12_isFigure 16 = .ok (.iconst 0, 1) := by decide +kernel
theorem dX12_isFigure_17 : decode cX12_isFigure 17 = .ok (.ireturn, 1) := by decide +kernel
theorem dX12_next_0 : decode cX12_next 0 = .ok (.aload_n 0, 1) := by decide +kernel
theorem dX12_next_1 : decode cX12_next 1 = .ok (.aload_n 0, 1) := by decide +kernel
theorem dX12_next_2 : decode cX12_next 2 = .ok (.getfield 93, 3) := by decide +kernel
theorem dX12_next_5 : decode cX12_next 5 = .ok (.invokevirtual 96, 3) := by decide +kernel
theorem dX12_next_8 : decode cX12_next 8 = .ok (.bipush 32, 2) := by decide +kernel
theorem dX12_next_10 : decode cX12_next 10 = .ok (.if_icmp .eq 16, 3) := by decide +kernel
theorem dX12_next_13 : decode cX12_next 13 = .ok (.aload_n 0, 1) := by decide +kernel
theorem dX12_next_14 : decode cX12_next 14 = .ok (.aload_n 0, 1) := by decide +kernel
theorem dX12_next_15 : decode cX12_next 15 = .ok (.getfield 93, 3) := by decide +kernel
theorem dX12_next_18 : decode cX12_next 18 = .ok (.invokevirtual 96, 3) := by decide +kernel
theorem dX12_next_21 : decode cX12_next 21 = .ok (.bipush 10, 2) := by decide +kernel
theorem dX12_next_23 : decode cX12_next 23 = .ok (.if_icmp .ne 16, 3) := by decide +kernel
theorem dX12_next_26 : decode cX12_next 26 = .ok (.aload_n 0, 1) := by decide +kernel
theorem dX12_next_27 : decode cX12_next 27 = .ok (.dup, 1) := by decide +kernel
theorem dX12_next_28 : decode cX12_next 28 = .ok (.getfield 93, 3) := by decide +kernel
theorem dX12_next_31 : decode cX12_next 31 = .ok (.iconst 1, 1) := by decide +kernel
theorem dX12_next_32 : decode cX12_next 32 = .ok (.iadd, 1) := by decide +kernel
theorem dX12_next_33 : decode cX12_next 33 = .ok (.putfield 93, 3) := by decide +kernel
theorem dX12_next_36 : decode cX12_next 36 = .ok (.goto (-36), 3) := by decide +kernel
theorem dX12_next_39 : decode cX12_next 39 = .ok (.aload_n 0, 1) := by decide +kernel
theorem dX12_next_40 : decode cX12_next 40 = .ok (.aload_n 0, 1) := by decide +kernel
theorem dX12_next_41 : decode cX12_next 41 = .ok (.getfield 93, 3) := by decide +kernel
theorem dX12_next_44 : decode cX12_next 44 = .ok (.putfield 99, 3) := by decide +kernel
theorem dX12_next_47 : decode cX12_next 47 = .ok (.aload_n 0, 1) := by decide +kernel
theorem dX12_next_48 : decode cX12_next 48 = .ok (.aload_n 0, 1) := by decide +kernel
theorem dX12_next_49 : decode cX12_next 49 = .ok (.getfield 93, 3) := by decide +kernel
theorem dX12_next_52 : decode cX12_next 52 = .ok (.invokevirtual 96, 3) := by decide +kernel
theorem dX12_next_55 : decode cX12_next 55 = .ok (.istore_n 1, 1) := by decide +kernel
theorem dX12_next_56 : decode cX12_next 56 = .ok (.iload_n 1, 1) := by decide +kernel
theorem dX12_next_57 : decode cX12_next 57 = .ok (.ldc 92, 2) := by decide +kernel
theorem dX12_next_59 : decode cX12_next 59 = .ok (.if_icmp .ne 11, 3) := by decide +kernel
theorem dX12_next_62 : decode cX12_next 62 = .ok (.aload_n 0, 1) := by decide +kernel
theorem dX12_next_63 : decode cX12_next 63 = .ok (.iconst 1, 1) := by decide +kernel
theorem dX12_next_64 : decode cX12_next 64 = .ok (.putfield 102, 3) := by decide +kernel
theorem dX12_next_67 : decode cX12_next 67 = .ok (.goto 129, 3) := by decide +kernel
theorem dX12_next_70 : decode cX12_next 70 = .ok (.iload_n 1, 1) := by decide +kernel
theorem dX12_next_71 : decode cX12_next 71 = .ok (.invokestatic 105, 3) := by decide +kernel
theorem dX12_next_74 : decode cX12_next 74 = .ok (.ifCond .eq 38, 3) := by decide +kernel
theorem dX12_next_77 : decode cX12_next 77 = .ok (.aload_n 0, 1) := by decide +kernel
theorem dX12_next_78 : decode cX12_next 78 = .ok (.aload_n 0, 1) := by decide +kernel
theorem dX12_next_79 : decode cX12_next 79 = .ok (.getfield 93, 3) := by decide +kernel
theorem dX12_next_82 : decode cX12_next 82 = .ok (.invokevirtual 96, 3) := by decide +kernel
theorem dX12_next_85 : decode cX12_next 85 = .ok (.invokestatic 105, 3) := by decide +kernel
theorem dX12_next_88 : decode cX12_next 88 = .ok (.ifCond .eq 16, 3) := by decide +kernel
theorem dX12_next_91 : decode cX12_next 91 = .ok (.aload_n 0, 1) := by decide +kernel
theorem dX12_next_92 : decode cX12_next 92 = .ok (.dup, 1) := by decide +kernel
theorem dX12_next_93 : decode cX12_next 93 = .ok (.getfield 93, 3) := by decide +kernel
theorem dX12_next_96 : decode cX12_next 96 = .ok (.iconst 1, 1) := by decide +kernel
theorem dX12_next_97 : decode cX12_next 97 = .ok (.iadd, 1) := by decide +kernel
theorem dX12_next_98 : decode cX12_next 98 = .ok (.putfield 93, 3) := by decide +kernel
theorem dX12_next_101 : decode cX12_next 101 = .ok (.goto (-24), 3) := by decide +kernel
theorem dX12_next_104 : decode cX12_next 104 = .ok (.aload_n 0, 1) := by decide +kernel
theorem dX12_next_105 : decode cX12_next 105 = .ok (.iconst 2, 1) := by decide +kernel
theorem dX12_next_106 : decode cX12_next 106 = .ok (.putfield 102, 3) := by decide +kernel
theorem dX12_next_109 : decode cX12_next 109 = .ok (.goto 87, 3) := by decide +kernel
theorem dX12_next_112 : decode cX12_next 112 = .ok (.iload_n 1, 1) := by decide +kernel
theorem dX12_next_113 : decode cX12_next 113 = .ok (.invokestatic 108, 3) := by decide +kernel
theorem dX12_next_116 : decode cX12_next 116 = .ok (.ifCond .eq 55, 3) := by decide +kernel
theorem dX12_next_119 : decode cX12_next 119 = .ok (.aload_n 0, 1) := by decide +kernel
theorem dX12_next_120 : decode cX12_next 120 = .ok (.aload_n 0, 1) := by decide +kernel
theorem dX12_next_121 : decode cX12_next 121 = .ok (.getfield 93, 3) := by decide +kernel
theorem dX12_next_124 : decode cX12_next 124 = .ok (.invokevirtual 96, 3) := by decide +kernel
theorem dX12_next_127 : decode cX12_next 127 = .ok (.invokestatic 108, 3) := by decide +kernel
theorem dX12_next_130 : decode cX12_next 130 = .ok (.ifCond .eq 16, 3) := by decide +kernel
theorem dX12_next_133 : decode cX12_next 133 = .ok (.aload_n 0, 1) := by decide +kernel
theorem dX12_next_134 : decode cX12_next 134 = .ok (.dup, 1) := by decide +kernel
theorem dX12_next_135 : decode cX12_next 135 = .ok (.getfield 93, 3) := by decide +kernel
theorem dX12_next_138 : decode cX12_next 138 = .ok (.iconst 1, 1) := by decide +kernel
theorem dX12_next_139 : decode cX12_next 139 = .ok (.iadd, 1) := by decide +kernel
theorem dX12_next_140 : decode cX12_next 140 = .ok (.putfield 93, 3) := by decide +kernel
theorem dX12_next_143 : decode cX12_next 143 = .ok (.goto (-24), 3) := by decide +kernel
theorem dX12_next_146 : decode cX12_next 146 = .ok (.aload_n 0, 1) := by decide +kernel
theorem dX12_next_147 : decode cX12_next 147 = .ok (.aload_n 0, 1) := by decide +kernel
theorem dX12_next_148 : decode cX12_next 148 = .ok (.getfield 93, 3) := by decide +kernel
theorem dX12_next_151 : decode cX12_next 151 = .ok (.aload_n 0, 1) := by decide +kernel
theorem dX12_next_152 : decode cX12_next 152 = .ok (.getfield 99, 3) := by decide +kernel
theorem dX12_next_155 : decode cX12_next 155 = .ok (.isub, 1) := by decide +kernel
theorem dX12_next_156 : decode cX12_next 156 = .ok (.iconst 4, 1) := by decide +kernel
theorem dX12_next_157 : decode cX12_next 157 = .ok (.if_icmp .le 7, 3) := by decide +kernel
theorem dX12_next_160 : decode cX12_next 160 = .ok (.iconst 0, 1) := by decide +kernel
theorem dX12_next_161 : decode cX12_next 161 = .ok (.goto 4, 3) := by decide +kernel
theorem dX12_next_164 : decode cX12_next 164 = .ok (.iconst 3, 1) := by decide +kernel
theorem dX12_next_165 : decode cX12_next 165 = .ok (.putfield 102, 3) := by decide +kernel
theorem dX12_next_168 : decode cX12_next 168 = .ok (.goto 28, 3) := by decide +kernel
theorem dX12_next_171 : decode cX12_next 171 = .ok (.aload_n 0, 1) := by decide +kernel
theorem dX12_next_172 : decode cX12_next 172 = .ok (.dup, 1) := by decide +kernel
theorem dX12_next_173 : decode cX12_next 173 = .ok (.getfield 93, 3) := by decide +kernel
theorem dX12_next_176 : decode cX12_next 176 = .ok (.iconst 1, 1) := by decide +kernel
theorem dX12_next_177 : decode cX12_next 177 = .ok (.iadd, 1) := by decide +kernel
theorem dX12_next_178 : decode cX12_next 178 = .ok (.putfield 93, 3) := by decide +kernel
theorem dX12_next_181 : decode cX12_next 181 = .ok (.aload_n 0, 1) := by decide +kernel
theorem dX12_next_182 : decode cX12_next 182 = .ok (.iload_n 1, 1) := by decide +kernel
theorem dX12_next_183 : decode cX12_next 183 = .ok (.bipush 59, 2) := by decide +kernel
theorem dX12_next_185 : decode cX12_next 185 = .ok (.if_icmp .ne 7, 3) := by decide +kernel
theorem dX12_next_188 : decode cX12_next 188 = .ok (.iconst 4, 1) := by decide +kernel
theorem dX12_next_189 : decode cX12_next 189 = .ok (.goto 4, 3) := by decide +kernel
theorem dX12_next_192 : decode cX12_next 192 = .ok (.iconst 0, 1) := by decide +kernel
theorem dX12_next_193 : decode cX12_next 193 = .ok (.putfield 102, 3) := by decide +kernel
theorem dX12_next_196 : decode cX12_next 196 = .ok (.aload_n 0, 1) := by decide +kernel
theorem dX12_next_197 : decode cX12_next 197 = .ok (.aload_n 0, 1) := by decide +kernel
theorem dX12_next_198 : decode cX12_next 198 = .ok (.getfield 93, 3) := by decide +kernel
theorem dX12_next_201 : decode cX12_next 201 = .ok (.putfield 111, 3) := by decide +kernel
theorem dX12_next_204 : decode cX12_next 204 = .ok (.return_, 1) := by decide +kernel
theorem dX12_bad_0 : decode cX12_bad 0 = .ok (.aload_n 0, 1) := by decide +kernel
theorem dX12_bad_1 : decode cX12_bad 1 = .ok (.getfield 114, 3) := by decide +kernel
theorem dX12_bad_4 : decode cX12_bad 4 = .ok (.ifCond .ne 16, 3) := by decide +kernel
theorem dX12_bad_7 : decode cX12_bad 7 = .ok (.aload_n 0, 1) := by decide +kernel
theorem dX12_bad_8 : decode cX12_bad 8 = .ok (.iload_n 1, 1) := by decide +kernel
theorem dX12_bad_9 : decode cX12_bad 9 = .ok (.putfield 114, 3) := by decide +kernel
theorem dX12_bad_12 : decode cX12_bad 12 = .ok (.aload_n 0, 1) := by decide +kernel
theorem dX12_bad_13 : decode cX12_bad 13 = .ok (.aload_n 0, 1) := by decide +kernel
theorem dX12_bad_14 : decode cX12_bad 14 = .ok (.getfield 99, 3) := by decide +kernel
theorem dX12_bad_17 : decode cX12_bad 17 = .ok (.putfield 117, 3) := by decide +kernel
theorem dX12_bad_20 : decode cX12_bad 20 = .ok (.return_, 1) := by decide +kernel
theorem dX12_must_0 : decode cX12_must 0 = .ok (.iload_n 1, 1) := by decide +kernel
theorem dX12_must_1 : decode cX12_must 1 = .ok (.ifCond .ne 8, 3) := by decide +kernel
theorem dX12_must_4 : decode cX12_must 4 = .ok (.aload_n 0, 1) := by decide +kernel
theorem dX12_must_5 : decode cX12_must 5 = .ok (.iconst 1, 1) := by decide +kernel
theorem dX12_must_6 : decode cX12_must 6 = .ok (.invokevirtual 120, 3) := by decide +kernel
theorem dX12_must_9 : decode cX12_must 9 = .ok (.aload_n 0, 1) := by decide +kernel
theorem dX12_must_10 : decode cX12_must 10 = .ok (.getfield 114, 3) := by decide +kernel
theorem dX12_must_13 : decode cX12_must 13 = .ok (.ifCond .ne 7, 3) := by decide +kernel
theorem dX12_must_16 : decode cX12_must 16 = .ok (.aload_n 0, 1) := by decide +kernel
theorem dX12_must_17 : decode cX12_must 17 = .ok (.invokevirtual 124, 3) := by decide +kernel
theorem dX12_must_20 : decode cX12_must 20 = .ok (.return_, 1) := by decide +kernel
theorem dX12_word_0 : decode cX12_word 0 = .ok (.lconst 0, 1) := by decide +kernel
theorem dX12_word_1 : decode cX12_word 1 = .ok (.lstore_n 1, 1) := by decide +kernel
theorem dX12_word_2 : decode cX12_word 2 = .ok (.aload_n 0, 1) := by decide +kernel
theorem dX12_word_3 : decode cX12_word 3 = .ok (.getfield 99, 3) := by decide +kernel
theorem dX12_word_6 : decode cX12_word 6 = .ok (.istore_n 3, 1) := by decide +kernel
theorem dX12_word_7 : decode cX12_word 7 = .ok (.iload_n 3, 1) := by decide +kernel
theorem dX12_word_8 : decode cX12_word 8 = .ok (.aload_n 0, 1) := by decide +kernel
theorem dX12_word_9 : decode cX12_word 9 = .ok (.getfield 111, 3) := by decide +kernel
theorem dX12_word_12 : decode cX12_word 12 = .ok (.if_icmp .ge 44, 3) := by decide +kernel
theorem dX12_word_15 : decode cX12_word 15 = .ok (.aload_n 0, 1) := by decide +kernel
theorem dX12_word_16 : decode cX12_word 16 = .ok (.getfield 102, 3) := by decide +kernel
theorem dX12_word_19 : decode cX12_word 19 = .ok (.iconst 2, 1) := by decide +kernel
theorem dX12_word_20 : decode cX12_word 20 = .ok (.if_icmp .ne 36, 3) := by decide +kernel
theorem dX12_word_23 : decode cX12_word 23 = .ok (.aload_n 0, 1) := by decide +kernel
theorem dX12_word_24 : decode cX12_word 24 = .ok (.getfield 111, 3) := by decide +kernel
theorem dX12_word_27 : decode cX12_word 27 = .ok (.aload_n 0, 1) := by decide +kernel
theorem dX12_word_28 : decode cX12_word 28 = .ok (.getfield 99, 3) := by decide +kernel
theorem dX12_word_31 : decode cX12_word 31 = .ok (.isub, 1) := by decide +kernel
theorem dX12_word_32 : decode cX12_word 32 = .ok (.bipush 8, 2) := by decide +kernel
theorem dX12_word_34 : decode cX12_word 34 = .ok (.if_icmp .ge 22, 3) := by decide +kernel
theorem dX12_word_37 : decode cX12_word 37 = .ok (.lload_n 1, 1) := by decide +kernel
theorem dX12_word_38 : decode cX12_word 38 = .ok (.bipush 8, 2) := by decide +kernel
theorem dX12_word_40 : decode cX12_word 40 = .ok (.lshl, 1) := by decide +kernel
theorem dX12_word_41 : decode cX12_word 41 = .ok (.aload_n 0, 1) := by decide +kernel
theorem dX12_word_42 : decode cX12_word 42 = .ok (.getfield 28, 3) := by decide +kernel
theorem dX12_word_45 : decode cX12_word 45 = .ok (.iload_n 3, 1) := by decide +kernel
theorem dX12_word_46 : decode cX12_word 46 = .ok (.iaload, 1) := by decide +kernel
theorem dX12_word_47 : decode cX12_word 47 = .ok (.i2l, 1) := by decide +kernel
theorem dX12_word_48 : decode cX12_word 48 = .ok (.lor, 1) := by decide +kernel
theorem dX12_word_49 : decode cX12_word 49 = .ok (.lstore_n 1, 1) := by decide +kernel
theorem dX12_word_50 : decode cX12_word 50 = .ok (.iinc 3 1, 3) := by decide +kernel
theorem dX12_word_53 : decode cX12_word 53 = .ok (.goto (-46), 3) := by decide +kernel
theorem dX12_word_56 : decode cX12_word 56 = .ok (.aload_n 0, 1) := by decide +kernel
theorem dX12_word_57 : decode cX12_word 57 = .ok (.getfield 114, 3) := by decide +kernel
theorem dX12_word_60 : decode cX12_word 60 = .ok (.ifCond .ne 7, 3) := by decide +kernel
theorem dX12_word_63 : decode cX12_word 63 = .ok (.lload_n 1, 1) := by decide +kernel
theorem dX12_word_64 : decode cX12_word 64 = .ok (.goto 4, 3) := by decide +kernel
theorem dX12_word_67 : decode cX12_word 67 = .ok (.lconst 0, 1) := by decide +kernel
theorem dX12_word_68 : decode cX12_word 68 = .ok (.lreturn, 1) := by decide +kernel
theorem dX12_number_0 : decode cX12_number 0 = .ok (.aload_n 0, 1) := by decide +kernel
theorem dX12_number_1 : decode cX12_number 1 = .ok (.getfield 114, 3) := by decide +kernel
theorem dX12_number_4 : decode cX12_number 4 = .ok (.ifCond .le 5, 3) := by decide +kernel
theorem dX12_number_7 : decode cX12_number 7 = .ok (.iconst 0, 1) := by decide +kernel
theorem dX12_number_8 : decode cX12_number 8 = .ok (.ireturn, 1) := by decide +kernel
theorem dX12_number_9 : decode cX12_number 9 = .ok (.iconst 0, 1) := by decide +kernel
theorem dX12_number_10 : decode cX12_number 10 = .ok (.istore_n 3, 1) := by decide +kernel
theorem dX12_number_11 : decode cX12_number 11 = .ok (.aload_n 0, 1) := by decide +kernel
theorem dX12_number_12 : decode cX12_number 12 = .ok (.getfield 99, 3) := by decide +kernel
theorem dX12_number_15 : decode cX12_number 15 = .ok (.istore 4, 2) := by decide +kernel
theorem dX12_number_17 : decode cX12_number 17 = .ok (.iload 4, 2) := by decide +kernel
theorem dX12_number_19 : decode cX12_number 19 = .ok (.aload_n 0, 1) := by decide +kernel
theorem dX12_number_20 : decode cX12_number 20 = .ok (.getfield 111, 3) := by decide +kernel
theorem dX12_number_23 : decode cX12_number 23 = .ok (.if_icmp .ge 33, 3) := by decide +kernel
theorem dX12_number_26 : decode cX12_number 26 = .ok (.aload_n 0, 1) := by decide +kernel
theorem dX12_number_27 : decode cX12_number 27 = .ok (.getfield 102, 3) := by decide +kernel
theorem dX12_number_30 : decode cX12_number 30 = .ok (.iconst 3, 1) := by decide +kernel
theorem dX12_number_31 : decode cX12_number 31 = .ok (.if_icmp .ne 25, 3) := by decide +kernel
theorem dX12_number_34 : decode cX12_number 34 = .ok (.bipush 10, 2) := by decide +kernel
theorem dX12_number_36 : decode cX12_number 36 = .ok (.iload_n 3, 1) := by decide +kernel
theorem dX12_number_37 : decode cX12_number 37 = .ok (.imul, 1) := by decide +kernel
theorem dX12_number_38 : decode cX12_number 38 = .ok (.aload_n 0, 1) := by decide +kernel
theorem dX12_number_39 : decode cX12_number 39 = .ok (.getfield 28, 3) := by decide +kernel
theorem dX12_number_42 : decode cX12_number 42 = .ok (.iload 4, 2) := by decide +kernel
theorem dX12_number_44 : decode cX12_number 44 = .ok (.iaload, 1) := by decide +kernel
theorem dX12_number_45 : decode cX12_number 45 = .ok (.iadd, 1) := by decide +kernel
theorem dX12_number_46 : decode cX12_number 46 = .ok (.bipush 48, 2) := by decide +kernel
theorem dX12_number_48 : decode cX12_number 48 = .ok (.isub, 1) := by decide +kernel
theorem dX12_number_49 : decode cX12_number 49 = .ok (.istore_n 3, 1) := by decide +kernel
theorem dX12_number_50 : decode cX12_number 50 = .ok (.iinc 4 1, 3) := by decide +kernel
theorem dX12_number_53 : decode cX12_number 53 = .ok (.goto (-36), 3) := by decide +kernel
theorem dX12_number_56 : decode cX12_number 56 = .ok (.aload_n 0, 1) := by decide +kernel
theorem dX12_number_57 : decode cX12_number 57 = .ok (.getfield 102, 3) := by decide +kernel
theorem dX12_number_60 : decode cX12_number 60 = .ok (.iconst 3, 1) := by decide +kernel
theorem dX12_number_61 : decode cX12_number 61 = .ok (.if_icmp .ne 20, 3) := by decide +kernel
theorem dX12_number_64 : decode cX12_number 64 = .ok (.iload_n 3, 1) := by decide +kernel
theorem dX12_number_65 : decode cX12_number 65 = .ok (.i2l, 1) := by decide +kernel
theorem dX12_number_66 : decode cX12_number 66 = .ok (.iload_n 1, 1) := by decide +kernel
theorem dX12_number_67 : decode cX12_number 67 = .ok (.i2l, 1) := by decide +kernel
theorem dX12_number_68 : decode cX12_number 68 = .ok (.iload_n 2, 1) := by decide +kernel
theorem dX12_number_69 : decode cX12_number 69 = .ok (.i2l, 1) := by decide +kernel
theorem dX12_number_70 : decode cX12_number 70 = .ok (.invokestatic 66, 3) := by decide +kernel
theorem dX12_number_73 : decode cX12_number 73 = .ok (.ifCond .ne 8, 3) := by decide +kernel
theorem dX12_number_76 : decode cX12_number 76 = .ok (.aload_n 0, 1) := by decide +kernel
theorem dX12_number_77 : decode cX12_number 77 = .ok (.iconst 2, 1) := by decide +kernel
theorem dX12_number_78 : decode cX12_number 78 = .ok (.invokevirtual 120, 3) := by decide +kernel
theorem dX12_number_81 : decode cX12_number 81 = .ok (.aload_n 0, 1) := by decide +kernel
theorem dX12_number_82 : decode cX12_number 82 = .ok (.aload_n 0, 1) := by decide +kernel
theorem dX12_number_83 : decode cX12_number 83 = .ok (.getfield 102, 3) := by decide +kernel
theorem dX12_number_86 : decode cX12_number 86 = .ok (.iconst 3, 1) := by decide +kernel
theorem dX12_number_87 : decode cX12_number 87 = .ok (.if_icmp .ne 7, 3) := by decide +kernel
theorem dX12_number_90 : decode cX12_number 90 = .ok (.iconst 1, 1) := by decide +kernel
theorem dX12_number_91 : decode cX12_number 91 = .ok (.goto 4, 3) := by decide +kernel
theorem dX12_number_94 : decode cX12_number 94 = .ok (.iconst 0, 1) := by decide +kernel
theorem dX12_number_95 : decode cX12_number 95 = .ok (.invokevirtual 127, 3) := by decide +kernel
theorem dX12_number_98 : decode cX12_number 98 = .ok (.iload_n 3, 1) := by decide +kernel
theorem dX12_number_99 : decode cX12_number 99 = .ok (.ireturn, 1) := by decide +kernel
theorem dX12_wayOf_0 : decode cX12_wayOf 0 = .ok (.lload_n 0, 1) := by decide +kernel
theorem dX12_wayOf_1 : decode cX12_wayOf 1 = .ok (.ldc2_w 131, 3) := by decide +kernel
theorem dX12_wayOf_4 : decode cX12_wayOf 4 = .ok (.lcmp, 1) := by decide +kernel
theorem dX12_wayOf_5 : decode cX12_wayOf 5 = .ok (.ifCond .ne 7, 3) := by decide +kernel
theorem dX12_wayOf_8 : decode cX12_wayOf 8 = .ok (.iconst 1, 1) := by decide +kernel
theorem dX12_wayOf_9 : decode cX12_wayOf 9 = .ok (.goto 53, 3) := by decide +kernel
theorem dX12_wayOf_12 : decode cX12_wayOf 12 = .ok (.lload_n 0, 1) := by decide +kernel
theorem dX12_wayOf_13 : decode cX12_wayOf 13 = .ok (.ldc2_w 133, 3) := by decide +kernel
theorem dX12_wayOf_16 : decode cX12_wayOf 16 = .ok (.lcmp, 1) := by decide +kernel
theorem dX12_wayOf_17 : decode cX12_wayOf 17 = .ok (.ifCond .ne 7, 3) := by decide +kernel
theorem dX12_wayOf_20 : decode cX12_wayOf 20 = .ok (.iconst 2, 1) := by decide +kernel
theorem dX12_wayOf_21 : decode cX12_wayOf 21 = .ok (.goto 41, 3) := by decide +kernel
theorem dX12_wayOf_24 : decode cX12_wayOf 24 = .ok (.lload_n 0, 1) := by decide +kernel
theorem dX12_wayOf_25 : decode cX12_wayOf 25 = .ok (.ldc2_w 135, 3) := by decide +kernel
theorem dX12_wayOf_28 : decode cX12_wayOf 28 = .ok (.lcmp, 1) := by decide +kernel
theorem dX12_wayOf_29 : decode cX12_wayOf 29 = .ok (.ifCond .ne 7, 3) := by decide +kernel
theorem dX12_wayOf_32 : decode cX12_wayOf 32 = .ok (.iconst 3, 1) := by decide +kernel
theorem dX12_wayOf_33 : decode cX12_wayOf 33 = .ok (.goto 29, 3) := by decide +kernel
theorem dX12_wayOf_36 : decode cX12_wayOf 36 = .ok (.lload_n 0, 1) := by decide +kernel
theorem dX12_wayOf_37 : decode cX12_wayOf 37 = .ok (.ldc2_w 137, 3) := by decide +kernel
theorem dX12_wayOf_40 : decode cX12_wayOf 40 = .ok (.lcmp, 1) := by decide +kernel
theorem dX12_wayOf_41 : decode cX12_wayOf 41 = .ok (.ifCond .ne 7, 3) := by decide +kernel
theorem dX12_wayOf_44 : decode cX12_wayOf 44 = .ok (.iconst 4, 1) := by decide +kernel
theorem dX12_wayOf_45 : decode cX12_wayOf 45 = .ok (.goto 17, 3) := by decide +kernel
theorem dX12_wayOf_48 : decode cX12_wayOf 48 = .ok (.lload_n 0, 1) := by decide +kernel
theorem dX12_wayOf_49 : decode cX12_wayOf 49 = .ok (.ldc2_w 139, 3) := by decide +kernel
theorem dX12_wayOf_52 : decode cX12_wayOf 52 = .ok (.lcmp, 1) := by decide +kernel
theorem dX12_wayOf_53 : decode cX12_wayOf 53 = .ok (.ifCond .ne 7, 3) := by decide +kernel
theorem dX12_wayOf_56 : decode cX12_wayOf 56 = .ok (.iconst 5, 1) := by decide +kernel
theorem dX12_wayOf_57 : decode cX12_wayOf 57 = .ok (.goto 5, 3) := by decide +kernel
theorem dX12_wayOf_60 : decode cX12_wayOf 60 = .ok (.ldc 92, 2) := by decide +kernel
theorem dX12_wayOf_62 : decode cX12_wayOf 62 = .ok (.ireturn, 1) := by decide +kernel
theorem dX12_mustWord_0 : decode cX12_mustWord 0 = .ok (.aload_n 0, 1) := by decide +kernel
theorem dX12_mustWord_1 : decode cX12_mustWord 1 = .ok (.getfield 114, 3) := by decide +kernel
theorem dX12_mustWord_4 : decode cX12_mustWord 4 = .ok (.ifCond .ne 21, 3) := by decide +kernel
theorem dX12_mustWord_7 : decode cX12_mustWord 7 = .ok (.aload_n 0, 1) := by decide +kernel
theorem dX12_mustWord_8 : decode cX12_mustWord 8 = .ok (.aload_n 0, 1) := by decide +kernel
theorem dX12_mustWord_9 : decode cX12_mustWord 9 = .ok (.invokevirtual 141, 3) := by decide +kernel
theorem dX12_mustWord_12 : decode cX12_mustWord 12 = .ok (.lload_n 1, 1) := by decide +kernel
theorem dX12_mustWord_13 : decode cX12_mustWord 13 = .ok (.lcmp, 1) := by decide +kernel
theorem dX12_mustWord_14 : decode cX12_mustWord 14 = .ok (.ifCond .ne 7, 3) := by decide +kernel
theorem dX12_mustWord_17 : decode cX12_mustWord 17 = .ok (.iconst 1, 1) := by decide +kernel
theorem dX12_mustWord_18 : decode cX12_mustWord 18 = .ok (.goto 4, 3) := by decide +kernel
theorem dX12_mustWord_21 : decode cX12_mustWord 21 = .ok (.iconst 0, 1) := by decide +kernel
theorem dX12_mustWord_22 : decode cX12_mustWord 22 = .ok (.invokevirtual 127, 3) := by decide +kernel
theorem dX12_mustWord_25 : decode cX12_mustWord 25 = .ok (.return_, 1) := by decide +kernel
theorem dX12_mustEnd_0 : decode cX12_mustEnd 0 = .ok (.aload_n 0, 1) := by decide +kernel
theorem dX12_mustEnd_1 : decode cX12_mustEnd 1 = .ok (.getfield 114, 3) := by decide +kernel
theorem dX12_mustEnd_4 : decode cX12_mustEnd 4 = .ok (.ifCond .ne 20, 3) := by decide +kernel
theorem dX12_mustEnd_7 : decode cX12_mustEnd 7 = .ok (.aload_n 0, 1) := by decide +kernel
theorem dX12_mustEnd_8 : decode cX12_mustEnd 8 = .ok (.aload_n 0, 1) := by decide +kernel
theorem dX12_mustEnd_9 : decode cX12_mustEnd 9 = .ok (.getfield 102, 3) := by decide +kernel
theorem dX12_mustEnd_12 : decode cX12_mustEnd 12 = .ok (.iconst 4, 1) := by decide +kernel
theorem dX12_mustEnd_13 : decode cX12_mustEnd 13 = .ok (.if_icmp .ne 7, 3) := by decide +kernel
theorem dX12_mustEnd_16 : decode cX12_mustEnd 16 = .ok (.iconst 1, 1) := by decide +kernel
theorem dX12_mustEnd_17 : decode cX12_mustEnd 17 = .ok (.goto 4, 3) := by decide +kernel
theorem dX12_mustEnd_20 : decode cX12_mustEnd 20 = .ok (.iconst 0, 1) := by decide +kernel
theorem dX12_mustEnd_21 : decode cX12_mustEnd 21 = .ok (.invokevirtual 127, 3) := by decide +kernel
theorem dX12_mustEnd_24 : decode cX12_mustEnd 24 = .ok (.return_, 1) := by decide +kernel
theorem dX12_mustBegin_0 : decode cX12_mustBegin 0 = .ok (.aload_n 0, 1) := by decide +kernel
theorem dX12_mustBegin_1 : decode cX12_mustBegin 1 = .ok (.invokevirtual 141, 3) := by decide +kernel
theorem dX12_mustBegin_4 : decode cX12_mustBegin 4 = .ok (.lload_n 1, 1) := by decide +kernel
theorem dX12_mustBegin_5 : decode cX12_mustBegin 5 = .ok (.lcmp, 1) := by decide +kernel
theorem dX12_mustBegin_6 : decode cX12_mustBegin 6 = .ok (.ifCond .eq 8, 3) := by decide +kernel
theorem dX12_mustBegin_9 : decode cX12_mustBegin 9 = .ok (.aload_n 0, 1) := by decide +kernel
theorem dX12_mustBegin_10 : decode cX12_mustBegin 10 = .ok (.iconst 1, 1) := by decide +kernel
theorem dX12_mustBegin_11 : decode cX12_mustBegin 11 = .ok (.invokevirtual 120, 3) := by decide +kernel
theorem dX12_mustBegin_14 : decode cX12_mustBegin 14 = .ok (.return_, 1) := by decide +kernel
theorem dX12_begins_0 : decode cX12_begins 0 = .ok (.aload_n 0, 1) := by decide +kernel
theorem dX12_begins_1 : decode cX12_begins 1 = .ok (.getfield 22, 3) := by decide +kernel
theorem dX12_begins_4 : decode cX12_begins 4 = .ok (.iload_n 1, 1) := by decide +kernel
theorem dX12_begins_5 : decode cX12_begins 5 = .ok (.iaload, 1) := by decide +kernel
theorem dX12_begins_6 : decode cX12_begins 6 = .ok (.iload_n 2, 1) := by decide +kernel
theorem dX12_begins_7 : decode cX12_begins 7 = .ok (.if_icmp .ne 8, 3) := by decide +kernel
theorem dX12_begins_10 : decode cX12_begins 10 = .ok (.aload_n 0, 1) := by decide +kernel
theorem dX12_begins_11 : decode cX12_begins 11 = .ok (.iconst 3, 1) := by decide +kernel
theorem dX12_begins_12 : decode cX12_begins 12 = .ok (.invokevirtual 120, 3) := by decide +kernel
theorem dX12_begins_15 : decode cX12_begins 15 = .ok (.aload_n 0, 1) := by decide +kernel
theorem dX12_begins_16 : decode cX12_begins 16 = .ok (.iconst 1, 1) := by decide +kernel
theorem dX12_begins_17 : decode cX12_begins 17 = .ok (.invokevirtual 127, 3) := by decide +kernel
theorem dX12_begins_20 : decode cX12_begins 20 = .ok (.return_, 1) := by decide +kernel
theorem dX12_readLaw_0 : decode cX12_readLaw 0 = .ok (.aload_n 0, 1) := by decide +kernel
theorem dX12_readLaw_1 : decode cX12_readLaw 1 = .ok (.ldc2_w 145, 3) := by decide +kernel
theorem dX12_readLaw_4 : decode cX12_readLaw 4 = .ok (.invokevirtual 147, 3) := by decide +kernel
theorem dX12_readLaw_7 : decode cX12_readLaw 7 = .ok (.aload_n 0, 1) := by decide +kernel
theorem dX12_readLaw_8 : decode cX12_readLaw 8 = .ok (.invokevirtual 141, 3) := by decide +kernel
theorem dX12_readLaw_11 : decode cX12_readLaw 11 = .ok (.ldc2_w 151, 3) := by decide +kernel
theorem dX12_readLaw_14 : decode cX12_readLaw 14 = .ok (.lcmp, 1) := by decide +kernel
theorem dX12_readLaw_15 : decode cX12_readLaw 15 = .ok (.ifCond .ne 7, 3) := by decide +kernel
theorem dX12_readLaw_18 : decode cX12_readLaw 18 = .ok (.iconst 1, 1) := by decide +kernel
theorem dX12_readLaw_19 : decode cX12_readLaw 19 = .ok (.goto 4, 3) := by decide +kernel
theorem dX12_readLaw_22 : decode cX12_readLaw 22 = .ok (.iconst 0, 1) := by decide +kernel
theorem dX12_readLaw_23 : decode cX12_readLaw 23 = .ok (.istore_n 1, 1) := by decide +kernel
theorem dX12_readLaw_24 : decode cX12_readLaw 24 = .ok (.aload_n 0, 1) := by decide +kernel
theorem dX12_readLaw_25 : decode cX12_readLaw 25 = .ok (.getfield 114, 3) := by decide +kernel
theorem dX12_readLaw_28 : decode cX12_readLaw 28 = .ok (.ifCond .ne 27, 3) := by decide +kernel
theorem dX12_readLaw_31 : decode cX12_readLaw 31 = .ok (.aload_n 0, 1) := by decide +kernel
theorem dX12_readLaw_32 : decode cX12_readLaw 32 = .ok (.iload_n 1, 1) := by decide +kernel
theorem dX12_readLaw_33 : decode cX12_readLaw 33 = .ok (.ifCond .ne 14, 3) := by decide +kernel
theorem dX12_readLaw_36 : decode cX12_readLaw 36 = .ok (.aload_n 0, 1) := by decide +kernel
theorem dX12_readLaw_37 : decode cX12_readLaw 37 = .ok (.invokevirtual 141, 3) := by decide +kernel
theorem dX12_readLaw_40 : decode cX12_readLaw 40 = .ok (.ldc2_w 153, 3) := by decide +kernel
theorem dX12_readLaw_43 : decode cX12_readLaw 43 = .ok (.lcmp, 1) := by decide +kernel
theorem dX12_readLaw_44 : decode cX12_readLaw 44 = .ok (.ifCond .ne 7, 3) := by decide +kernel
theorem dX12_readLaw_47 : decode cX12_readLaw 47 = .ok (.iconst 1, 1) := by decide +kernel
theorem dX12_readLaw_48 : decode cX12_readLaw 48 = .ok (.goto 4, 3) := by decide +kernel
theorem dX12_readLaw_51 : decode cX12_readLaw 51 = .ok (.iconst 0, 1) := by decide +kernel
theorem dX12_readLaw_52 : decode cX12_readLaw 52 = .ok (.invokevirtual 127, 3) := by decide +kernel
theorem dX12_readLaw_55 : decode cX12_readLaw 55 = .ok (.aload_n 0, 1) := by decide +kernel
theorem dX12_readLaw_56 : decode cX12_readLaw 56 = .ok (.getfield 22, 3) := by decide +kernel
theorem dX12_readLaw_59 : decode cX12_readLaw 59 = .ok (.iconst 0, 1) := by decide +kernel
theorem dX12_readLaw_60 : decode cX12_readLaw 60 = .ok (.iload_n 1, 1) := by decide +kernel
theorem dX12_readLaw_61 : decode cX12_readLaw 61 = .ok (.ifCond .eq 7, 3) := by decide +kernel
theorem dX12_readLaw_64 : decode cX12_readLaw 64 = .ok (.iconst 1, 1) := by decide +kernel
theorem dX12_readLaw_65 : decode cX12_readLaw 65 = .ok (.goto 4, 3) := by decide +kernel
theorem dX12_readLaw_68 : decode cX12_readLaw 68 = .ok (.iconst 0, 1) := by decide +kernel
theorem dX12_readLaw_69 : decode cX12_readLaw 69 = .ok (.iastore, 1) := by decide +kernel
theorem dX12_readLaw_70 : decode cX12_readLaw 70 = .ok (.aload_n 0, 1) := by decide +kernel
theorem dX12_readLaw_71 : decode cX12_readLaw 71 = .ok (.getfield 22, 3) := by decide +kernel
theorem dX12_readLaw_74 : decode cX12_readLaw 74 = .ok (.iconst 1, 1) := by decide +kernel
theorem dX12_readLaw_75 : decode cX12_readLaw 75 = .ok (.aload_n 0, 1) := by decide +kernel
theorem dX12_readLaw_76 : decode cX12_readLaw 76 = .ok (.iconst 1, 1) := by decide +kernel
theorem dX12_readLaw_77 : decode cX12_readLaw 77 = .ok (.bipush 60, 2) := by decide +kernel
theorem dX12_readLaw_79 : decode cX12_readLaw 79 = .ok (.invokevirtual 155, 3) := by decide +kernel
theorem dX12_readLaw_82 : decode cX12_readLaw 82 = .ok (.iastore, 1) := by decide +kernel
theorem dX12_readLaw_83 : decode cX12_readLaw 83 = .ok (.aload_n 0, 1) := by decide +kernel
theorem dX12_readLaw_84 : decode cX12_readLaw 84 = .ok (.invokevirtual 159, 3) := by decide +kernel
theorem dX12_readLaw_87 : decode cX12_readLaw 87 = .ok (.return_, 1) := by decide +kernel
theorem dX12_readWorth_0 : decode cX12_readWorth 0 = .ok (.aload_n 0, 1) := by decide +kernel
theorem dX12_readWorth_1 : decode cX12_readWorth 1 = .ok (.iconst 2, 1) := by decide +kernel
theorem dX12_readWorth_2 : decode cX12_readWorth 2 = .ok (.bipush 8, 2) := by decide +kernel
theorem dX12_readWorth_4 : decode cX12_readWorth 4 = .ok (.invokevirtual 162, 3) := by decide +kernel
theorem dX12_readWorth_7 : decode cX12_readWorth 7 = .ok (.aload_n 0, 1) := by decide +kernel
theorem dX12_readWorth_8 : decode cX12_readWorth 8 = .ok (.getfield 22, 3) := by decide +kernel
theorem dX12_readWorth_11 : decode cX12_readWorth 11 = .ok (.iconst 2, 1) := by decide +kernel
theorem dX12_readWorth_12 : decode cX12_readWorth 12 = .ok (.iaload, 1) := by decide +kernel
theorem dX12_readWorth_13 : decode cX12_readWorth 13 = .ok (.istore_n 1, 1) := by decide +kernel
theorem dX12_readWorth_14 : decode cX12_readWorth 14 = .ok (.aload_n 0, 1) := by decide +kernel
theorem dX12_readWorth_15 : decode cX12_readWorth 15 = .ok (.iload_n 1, 1) := by decide +kernel
theorem dX12_readWorth_16 : decode cX12_readWorth 16 = .ok (.ifCond .ne 7, 3) := by decide +kernel
theorem dX12_readWorth_19 : decode cX12_readWorth 19 = .ok (.iconst 0, 1) := by decide +kernel
theorem dX12_readWorth_20 : decode cX12_readWorth 20 = .ok (.goto 16, 3) := by decide +kernel
theorem dX12_readWorth_23 : decode cX12_readWorth 23 = .ok (.aload_n 0, 1) := by decide +kernel
theorem dX12_readWorth_24 : decode cX12_readWorth 24 = .ok (.getfield 22, 3) := by decide +kernel
theorem dX12_readWorth_27 : decode cX12_readWorth 27 = .ok (.bipush 8, 2) := by decide +kernel
theorem dX12_readWorth_29 : decode cX12_readWorth 29 = .ok (.iload_n 1, 1) := by decide +kernel
theorem dX12_readWorth_30 : decode cX12_readWorth 30 = .ok (.iadd, 1) := by decide +kernel
theorem dX12_readWorth_31 : decode cX12_readWorth 31 = .ok (.iconst 1, 1) := by decide +kernel
theorem dX12_readWorth_32 : decode cX12_readWorth 32 = .ok (.isub, 1) := by decide +kernel
theorem dX12_readWorth_33 : decode cX12_readWorth 33 = .ok (.iaload, 1) := by decide +kernel
theorem dX12_readWorth_34 : decode cX12_readWorth 34 = .ok (.iconst 1, 1) := by decide +kernel
theorem dX12_readWorth_35 : decode cX12_readWorth 35 = .ok (.iadd, 1) := by decide +kernel
theorem dX12_readWorth_36 : decode cX12_readWorth 36 = .ok (.bipush 60, 2) := by decide +kernel
theorem dX12_readWorth_38 : decode cX12_readWorth 38 = .ok (.invokevirtual 155, 3) := by decide +kernel
theorem dX12_readWorth_41 : decode cX12_readWorth 41 = .ok (.istore_n 2, 1) := by decide +kernel
theorem dX12_readWorth_42 : decode cX12_readWorth 42 = .ok (.aload_n 0, 1) := by decide +kernel
theorem dX12_readWorth_43 : decode cX12_readWorth 43 = .ok (.iconst 0, 1) := by decide +kernel
theorem dX12_readWorth_44 : decode cX12_readWorth 44 = .ok (.sipush 9999, 3) := by decide +kernel
theorem dX12_readWorth_47 : decode cX12_readWorth 47 = .ok (.invokevirtual 155, 3) := by decide +kernel
theorem dX12_readWorth_50 : decode cX12_readWorth 50 = .ok (.istore_n 3, 1) := by decide +kernel
theorem dX12_readWorth_51 : decode cX12_readWorth 51 = .ok (.aload_n 0, 1) := by decide +kernel
theorem dX12_readWorth_52 : decode cX12_readWorth 52 = .ok (.invokevirtual 159, 3) := by decide +kernel
theorem dX12_readWorth_55 : decode cX12_readWorth 55 = .ok (.aload_n 0, 1) := by decide +kernel
theorem dX12_readWorth_56 : decode cX12_readWorth 56 = .ok (.getfield 114, 3) := by decide +kernel
theorem dX12_readWorth_59 : decode cX12_readWorth 59 = .ok (.ifCond .ne 33, 3) := by decide +kernel
theorem dX12_readWorth_62 : decode cX12_readWorth 62 = .ok (.aload_n 0, 1) := by decide +kernel
theorem dX12_readWorth_63 : decode cX12_readWorth 63 = .ok (.getfield 22, 3) := by decide +kernel
theorem dX12_readWorth_66 : decode cX12_readWorth 66 = .ok (.bipush 8, 2) := by decide +kernel
theorem dX12_readWorth_68 : decode cX12_readWorth 68 = .ok (.iload_n 1, 1) := by decide +kernel
theorem dX12_readWorth_69 : decode cX12_readWorth 69 = .ok (.iadd, 1) := by decide +kernel
theorem dX12_readWorth_70 : decode cX12_readWorth 70 = .ok (.iload_n 2, 1) := by decide +kernel
theorem dX12_readWorth_71 : decode cX12_readWorth 71 = .ok (.iastore, 1) := by decide +kernel
theorem dX12_readWorth_72 : decode cX12_readWorth 72 = .ok (.aload_n 0, 1) := by decide +kernel
theorem dX12_readWorth_73 : decode cX12_readWorth 73 = .ok (.getfield 22, 3) := by decide +kernel
theorem dX12_readWorth_76 : decode cX12_readWorth 76 = .ok (.bipush 16, 2) := by decide +kernel
theorem dX12_readWorth_78 : decode cX12_readWorth 78 = .ok (.iload_n 1, 1) := by decide +kernel
theorem dX12_readWorth_79 : decode cX12_readWorth 79 = .ok (.iadd, 1) := by decide +kernel
theorem dX12_readWorth_80 : decode cX12_readWorth 80 = .ok (.iload_n 3, 1) := by decide +kernel
theorem dX12_readWorth_81 : decode cX12_readWorth 81 = .ok (.iastore, 1) := by decide +kernel
theorem dX12_readWorth_82 : decode cX12_readWorth 82 = .ok (.aload_n 0, 1) := by decide +kernel
theorem dX12_readWorth_83 : decode cX12_readWorth 83 = .ok (.getfield 22, 3) := by decide +kernel
theorem dX12_readWorth_86 : decode cX12_readWorth 86 = .ok (.iconst 2, 1) := by decide +kernel
theorem dX12_readWorth_87 : decode cX12_readWorth 87 = .ok (.dup2, 1) := by decide +kernel
theorem dX12_readWorth_88 : decode cX12_readWorth 88 = .ok (.iaload, 1) := by decide +kernel
theorem dX12_readWorth_89 : decode cX12_readWorth 89 = .ok (.iconst 1, 1) := by decide +kernel
theorem dX12_readWorth_90 : decode cX12_readWorth 90 = .ok (.iadd, 1) := by decide +kernel
theorem dX12_readWorth_91 : decode cX12_readWorth 91 = .ok (.iastore, 1) := by decide +kernel
theorem dX12_readWorth_92 : decode cX12_readWorth 92 = .ok (.return_, 1) := by decide +kernel
theorem dX12_readChest_0 : decode cX12_readChest 0 = .ok (.aload_n 0, 1) := by decide +kernel
theorem dX12_readChest_1 : decode cX12_readChest 1 = .ok (.ldc2_w 166, 3) := by decide +kernel
theorem dX12_readChest_4 : decode cX12_readChest 4 = .ok (.invokevirtual 147, 3) := by decide +kernel
theorem dX12_readChest_7 : decode cX12_readChest 7 = .ok (.aload_n 0, 1) := by decide +kernel
theorem dX12_readChest_8 : decode cX12_readChest 8 = .ok (.getfield 22, 3) := by decide +kernel
theorem dX12_readChest_11 : decode cX12_readChest 11 = .ok (.iconst 5, 1) := by decide +kernel
theorem dX12_readChest_12 : decode cX12_readChest 12 = .ok (.aload_n 0, 1) := by decide +kernel
theorem dX12_readChest_13 : decode cX12_readChest 13 = .ok (.iconst 0, 1) := by decide +kernel
theorem dX12_readChest_14 : decode cX12_readChest 14 = .ok (.sipush 500, 3) := by decide +kernel
theorem dX12_readChest_17 : decode cX12_readChest 17 = .ok (.invokevirtual 155, 3) := by decide +kernel
theorem dX12_readChest_20 : decode cX12_readChest 20 = .ok (.iastore, 1) := by decide +kernel
theorem dX12_readChest_21 : decode cX12_readChest 21 = .ok (.aload_n 0, 1) := by decide +kernel
theorem dX12_readChest_22 : decode cX12_readChest 22 = .ok (.getfield 22, 3) := by decide +kernel
theorem dX12_readChest_25 : decode cX12_readChest 25 = .ok (.bipush 6, 2) := by decide +kernel
theorem dX12_readChest_27 : decode cX12_readChest 27 = .ok (.aload_n 0, 1) := by decide +kernel
theorem dX12_readChest_28 : decode cX12_readChest 28 = .ok (.iconst 0, 1) := by decide +kernel
theorem dX12_readChest_29 : decode cX12_readChest 29 = .ok (.bipush 20, 2) := by decide +kernel
theorem dX12_readChest_31 : decode cX12_readChest 31 = .ok (.invokevirtual 155, 3) := by decide +kernel
theorem dX12_readChest_34 : decode cX12_readChest 34 = .ok (.iastore, 1) := by decide +kernel
theorem dX12_readChest_35 : decode cX12_readChest 35 = .ok (.aload_n 0, 1) := by decide +kernel
theorem dX12_readChest_36 : decode cX12_readChest 36 = .ok (.getfield 22, 3) := by decide +kernel
theorem dX12_readChest_39 : decode cX12_readChest 39 = .ok (.bipush 7, 2) := by decide +kernel
theorem dX12_readChest_41 : decode cX12_readChest 41 = .ok (.aload_n 0, 1) := by decide +kernel
theorem dX12_readChest_42 : decode cX12_readChest 42 = .ok (.iconst 0, 1) := by decide +kernel
theorem dX12_readChest_43 : decode cX12_readChest 43 = .ok (.sipush 999, 3) := by decide +kernel
theorem dX12_readChest_46 : decode cX12_readChest 46 = .ok (.invokevirtual 155, 3) := by decide +kernel
theorem dX12_readChest_49 : decode cX12_readChest 49 = .ok (.iastore, 1) := by decide +kernel
theorem dX12_readChest_50 : decode cX12_readChest 50 = .ok (.aload_n 0, 1) := by decide +kernel
theorem dX12_readChest_51 : decode cX12_readChest 51 = .ok (.invokevirtual 159, 3) := by decide +kernel
theorem dX12_readChest_54 : decode cX12_readChest 54 = .ok (.return_, 1) := by decide +kernel
theorem dX12_readKeeper_0 : decode cX12_readKeeper 0 = .ok (.aload_n 0, 1) := by decide +kernel
theorem dX12_readKeeper_1 : decode cX12_readKeeper 1 = .ok (.iconst 3, 1) := by decide +kernel
theorem dX12_readKeeper_2 : decode cX12_readKeeper 2 = .ok (.bipush 6, 2) := by decide +kernel
theorem dX12_readKeeper_4 : decode cX12_readKeeper 4 = .ok (.invokevirtual 162, 3) := by decide +kernel
theorem dX12_readKeeper_7 : decode cX12_readKeeper 7 = .ok (.aload_n 0, 1) := by decide +kernel
theorem dX12_readKeeper_8 : decode cX12_readKeeper 8 = .ok (.invokevirtual 141, 3) := by decide +kernel
theorem dX12_readKeeper_11 : decode cX12_readKeeper 11 = .ok (.invokestatic 168, 3) := by decide +kernel
theorem dX12_readKeeper_14 : decode cX12_readKeeper 14 = .ok (.istore_n 1, 1) := by decide +kernel
theorem dX12_readKeeper_15 : decode cX12_readKeeper 15 = .ok (.aload_n 0, 1) := by decide +kernel
theorem dX12_readKeeper_16 : decode cX12_readKeeper 16 = .ok (.getfield 114, 3) := by decide +kernel
theorem dX12_readKeeper_19 : decode cX12_readKeeper 19 = .ok (.ifCond .ne 18, 3) := by decide +kernel
theorem dX12_readKeeper_22 : decode cX12_readKeeper 22 = .ok (.aload_n 0, 1) := by decide +kernel
theorem dX12_readKeeper_23 : decode cX12_readKeeper 23 = .ok (.iload_n 1, 1) := by decide +kernel
theorem dX12_readKeeper_24 : decode cX12_readKeeper 24 = .ok (.ldc 92, 2) := by decide +kernel
theorem dX12_readKeeper_26 : decode cX12_readKeeper 26 = .ok (.if_icmp .eq 7, 3) := by decide +kernel
theorem dX12_readKeeper_29 : decode cX12_readKeeper 29 = .ok (.iconst 1, 1) := by decide +kernel
theorem dX12_readKeeper_30 : decode cX12_readKeeper 30 = .ok (.goto 4, 3) := by decide +kernel
theorem dX12_readKeeper_33 : decode cX12_readKeeper 33 = .ok (.iconst 0, 1) := by decide +kernel
theorem dX12_readKeeper_34 : decode cX12_readKeeper 34 = .ok (.invokevirtual 127, 3) := by decide +kernel
theorem dX12_readKeeper_37 : decode cX12_readKeeper 37 = .ok (.aload_n 0, 1) := by decide +kernel
theorem dX12_readKeeper_38 : decode cX12_readKeeper 38 = .ok (.iconst 0, 1) := by decide +kernel
theorem dX12_readKeeper_39 : decode cX12_readKeeper 39 = .ok (.bipush 60, 2) := by decide +kernel
theorem dX12_readKeeper_41 : decode cX12_readKeeper 41 = .ok (.invokevirtual 155, 3) := by decide +kernel
theorem dX12_readKeeper_44 : decode cX12_readKeeper 44 = .ok (.istore_n 2, 1) := by decide +kernel
theorem dX12_readKeeper_45 : decode cX12_readKeeper 45 = .ok (.aload_n 0, 1) := by decide +kernel
theorem dX12_readKeeper_46 : decode cX12_readKeeper 46 = .ok (.iconst 1, 1) := by decide +kernel
theorem dX12_readKeeper_47 : decode cX12_readKeeper 47 = .ok (.bipush 9, 2) := by decide +kernel
theorem dX12_readKeeper_49 : decode cX12_readKeeper 49 = .ok (.invokevirtual 155, 3) := by decide +kernel
theorem dX12_readKeeper_52 : decode cX12_readKeeper 52 = .ok (.istore_n 3, 1) := by decide +kernel
theorem dX12_readKeeper_53 : decode cX12_readKeeper 53 = .ok (.aload_n 0, 1) := by decide +kernel
theorem dX12_readKeeper_54 : decode cX12_readKeeper 54 = .ok (.invokevirtual 159, 3) := by decide +kernel
theorem dX12_readKeeper_57 : decode cX12_readKeeper 57 = .ok (.aload_n 0, 1) := by decide +kernel
theorem dX12_readKeeper_58 : decode cX12_readKeeper 58 = .ok (.getfield 114, 3) := by decide +kernel
theorem dX12_readKeeper_61 : decode cX12_readKeeper 61 = .ok (.ifCond .ne 58, 3) := by decide +kernel
theorem dX12_readKeeper_64 : decode cX12_readKeeper 64 = .ok (.aload_n 0, 1) := by decide +kernel
theorem dX12_readKeeper_65 : decode cX12_readKeeper 65 = .ok (.getfield 22, 3) := by decide +kernel
theorem dX12_readKeeper_68 : decode cX12_readKeeper 68 = .ok (.bipush 24, 2) := by decide +kernel
theorem dX12_readKeeper_70 : decode cX12_readKeeper 70 = .ok (.aload_n 0, 1) := by decide +kernel
theorem dX12_readKeeper_71 : decode cX12_readKeeper 71 = .ok (.getfield 22, 3) := by decide +kernel
theorem dX12_readKeeper_74 : decode cX12_readKeeper 74 = .ok (.iconst 3, 1) := by decide +kernel
theorem dX12_readKeeper_75 : decode cX12_readKeeper 75 = .ok (.iaload, 1) := by decide +kernel
theorem dX12_readKeeper_76 : decode cX12_readKeeper 76 = .ok (.iadd, 1) := by decide +kernel
theorem dX12_readKeeper_77 : decode cX12_readKeeper 77 = .ok (.iload_n 1, 1) := by decide +kernel
theorem dX12_readKeeper_78 : decode cX12_readKeeper 78 = .ok (.iastore, 1) := by decide +kernel
theorem dX12_readKeeper_79 : decode cX12_readKeeper 79 = .ok (.aload_n 0, 1) := by decide +kernel
theorem dX12_readKeeper_80 : decode cX12_readKeeper 80 = .ok (.getfield 22, 3) := by decide +kernel
theorem dX12_readKeeper_83 : decode cX12_readKeeper 83 = .ok (.bipush 30, 2) := by decide +kernel
theorem dX12_readKeeper_85 : decode cX12_readKeeper 85 = .ok (.aload_n 0, 1) := by decide +kernel
theorem dX12_readKeeper_86 : decode cX12_readKeeper 86 = .ok (.getfield 22, 3) := by decide +kernel
theorem dX12_readKeeper_89 : decode cX12_readKeeper 89 = .ok (.iconst 3, 1) := by decide +kernel
theorem dX12_readKeeper_90 : decode cX12_readKeeper 90 = .ok (.iaload, 1) := by decide +kernel
theorem dX12_readKeeper_91 : decode cX12_readKeeper 91 = .ok (.iadd, 1) := by decide +kernel
theorem dX12_readKeeper_92 : decode cX12_readKeeper 92 = .ok (.iload_n 2, 1) := by decide +kernel
theorem dX12_readKeeper_93 : decode cX12_readKeeper 93 = .ok (.iastore, 1) := by decide +kernel
theorem dX12_readKeeper_94 : decode cX12_readKeeper 94 = .ok (.aload_n 0, 1) := by decide +kernel
theorem dX12_readKeeper_95 : decode cX12_readKeeper 95 = .ok (.getfield 22, 3) := by decide +kernel
theorem dX12_readKeeper_98 : decode cX12_readKeeper 98 = .ok (.bipush 36, 2) := by decide +kernel
theorem dX12_readKeeper_100 : decode cX12_readKeeper 100 = .ok (.aload_n 0, 1) := by decide +kernel
theorem dX12_readKeeper_101 : decode cX12_readKeeper 101 = .ok (.getfield 22, 3) := by decide +kernel
theorem dX12_readKeeper_104 : decode cX12_readKeeper 104 = .ok (.iconst 3, 1) := by decide +kernel
theorem dX12_readKeeper_105 : decode cX12_readKeeper 105 = .ok (.iaload, 1) := by decide +kernel
theorem dX12_readKeeper_106 : decode cX12_readKeeper 106 = .ok (.iadd, 1) := by decide +kernel
theorem dX12_readKeeper_107 : decode cX12_readKeeper 107 = .ok (.iload_n 3, 1) := by decide +kernel
theorem dX12_readKeeper_108 : decode cX12_readKeeper 108 = .ok (.iastore, 1) := by decide +kernel
theorem dX12_readKeeper_109 : decode cX12_readKeeper 109 = .ok (.aload_n 0, 1) := by decide +kernel
theorem dX12_readKeeper_110 : decode cX12_readKeeper 110 = .ok (.getfield 22, 3) := by decide +kernel
theorem dX12_readKeeper_113 : decode cX12_readKeeper 113 = .ok (.iconst 3, 1) := by decide +kernel
theorem dX12_readKeeper_114 : decode cX12_readKeeper 114 = .ok (.dup2, 1) := by decide +kernel
theorem dX12_readKeeper_115 : decode cX12_readKeeper 115 = .ok (.iaload, 1) := by decide +kernel
theorem dX12_readKeeper_116 : decode cX12_readKeeper 116 = .ok (.iconst 1, 1) := by decide +kernel
theorem dX12_readKeeper_117 : decode cX12_readKeeper 117 = .ok (.iadd, 1) := by decide +kernel
theorem dX12_readKeeper_118 : decode cX12_readKeeper 118 = .ok (.iastore, 1) := by decide +kernel
theorem dX12_readKeeper_119 : decode cX12_readKeeper 119 = .ok (.return_, 1) := by decide +kernel
theorem dX12_readNews_0 : decode cX12_readNews 0 = .ok (.aload_n 0, 1) := by decide +kernel
theorem dX12_readNews_1 : decode cX12_readNews 1 = .ok (.iconst 4, 1) := by decide +kernel
theorem dX12_readNews_2 : decode cX12_readNews 2 = .ok (.bipush 8, 2) := by decide +kernel
theorem dX12_readNews_4 : decode cX12_readNews 4 = .ok (.invokevirtual 162, 3) := by decide +kernel
theorem dX12_readNews_7 : decode cX12_readNews 7 = .ok (.aload_n 0, 1) := by decide +kernel
theorem dX12_readNews_8 : decode cX12_readNews 8 = .ok (.iconst 0, 1) := by decide +kernel
theorem dX12_readNews_9 : decode cX12_readNews 9 = .ok (.sipush 999, 3) := by decide +kernel
theorem dX12_readNews_12 : decode cX12_readNews 12 = .ok (.invokevirtual 155, 3) := by decide +kernel
theorem dX12_readNews_15 : decode cX12_readNews 15 = .ok (.istore_n 1, 1) := by decide +kernel
theorem dX12_readNews_16 : decode cX12_readNews 16 = .ok (.iconst 0, 1) := by decide +kernel
theorem dX12_readNews_17 : decode cX12_readNews 17 = .ok (.istore_n 2, 1) := by decide +kernel
theorem dX12_readNews_18 : decode cX12_readNews 18 = .ok (.aload_n 0, 1) := by decide +kernel
theorem dX12_readNews_19 : decode cX12_readNews 19 = .ok (.getfield 114, 3) := by decide +kernel
theorem dX12_readNews_22 : decode cX12_readNews 22 = .ok (.ifCond .ne 45, 3) := by decide +kernel
theorem dX12_readNews_25 : decode cX12_readNews 25 = .ok (.aload_n 0, 1) := by decide +kernel
theorem dX12_readNews_26 : decode cX12_readNews 26 = .ok (.getfield 102, 3) := by decide +kernel
theorem dX12_readNews_29 : decode cX12_readNews 29 = .ok (.iconst 3, 1) := by decide +kernel
theorem dX12_readNews_30 : decode cX12_readNews 30 = .ok (.if_icmp .ne 37, 3) := by decide +kernel
theorem dX12_readNews_33 : decode cX12_readNews 33 = .ok (.aload_n 0, 1) := by decide +kernel
theorem dX12_readNews_34 : decode cX12_readNews 34 = .ok (.iconst 0, 1) := by decide +kernel
theorem dX12_readNews_35 : decode cX12_readNews 35 = .ok (.aload_n 0, 1) := by decide +kernel
theorem dX12_readNews_36 : decode cX12_readNews 36 = .ok (.getfield 22, 3) := by decide +kernel
theorem dX12_readNews_39 : decode cX12_readNews 39 = .ok (.iconst 3, 1) := by decide +kernel
theorem dX12_readNews_40 : decode cX12_readNews 40 = .ok (.iaload, 1) := by decide +kernel
theorem dX12_readNews_41 : decode cX12_readNews 41 = .ok (.iconst 1, 1) := by decide +kernel
theorem dX12_readNews_42 : decode cX12_readNews 42 = .ok (.isub, 1) := by decide +kernel
theorem dX12_readNews_43 : decode cX12_readNews 43 = .ok (.invokevirtual 155, 3) := by decide +kernel
theorem dX12_readNews_46 : decode cX12_readNews 46 = .ok (.istore_n 3, 1) := by decide +kernel
theorem dX12_readNews_47 : decode cX12_readNews 47 = .ok (.iload_n 2, 1) := by decide +kernel
theorem dX12_readNews_48 : decode cX12_readNews 48 = .ok (.aload_n 0, 1) := by decide +kernel
theorem dX12_readNews_49 : decode cX12_readNews 49 = .ok (.getfield 114, 3) := by decide +kernel
theorem dX12_readNews_52 : decode cX12_readNews 52 = .ok (.ifCond .ne 9, 3) := by decide +kernel
theorem dX12_readNews_55 : decode cX12_readNews 55 = .ok (.iconst 1, 1) := by decide +kernel
theorem dX12_readNews_56 : decode cX12_readNews 56 = .ok (.iload_n 3, 1) := by decide +kernel
theorem dX12_readNews_57 : decode cX12_readNews 57 = .ok (.ishl, 1) := by decide +kernel
theorem dX12_readNews_58 : decode cX12_readNews 58 = .ok (.goto 4, 3) := by decide +kernel
theorem dX12_readNews_61 : decode cX12_readNews 61 = .ok (.iconst 0, 1) := by decide +kernel
theorem dX12_readNews_62 : decode cX12_readNews 62 = .ok (.ior, 1) := by decide +kernel
theorem dX12_readNews_63 : decode cX12_readNews 63 = .ok (.istore_n 2, 1) := by decide +kernel
theorem dX12_readNews_64 : decode cX12_readNews 64 = .ok (.goto (-46), 3) := by decide +kernel
theorem dX12_readNews_67 : decode cX12_readNews 67 = .ok (.aload_n 0, 1) := by decide +kernel
theorem dX12_readNews_68 : decode cX12_readNews 68 = .ok (.invokevirtual 159, 3) := by decide +kernel
theorem dX12_readNews_71 : decode cX12_readNews 71 = .ok (.aload_n 0, 1) := by decide +kernel
theorem dX12_readNews_72 : decode cX12_readNews 72 = .ok (.getfield 114, 3) := by decide +kernel
theorem dX12_readNews_75 : decode cX12_readNews 75 = .ok (.ifCond .ne 43, 3) := by decide +kernel
theorem dX12_readNews_78 : decode cX12_readNews 78 = .ok (.aload_n 0, 1) := by decide +kernel
theorem dX12_readNews_79 : decode cX12_readNews 79 = .ok (.getfield 22, 3) := by decide +kernel
theorem dX12_readNews_82 : decode cX12_readNews 82 = .ok (.bipush 42, 2) := by decide +kernel
theorem dX12_readNews_84 : decode cX12_readNews 84 = .ok (.aload_n 0, 1) := by decide +kernel
theorem dX12_readNews_85 : decode cX12_readNews 85 = .ok (.getfield 22, 3) := by decide +kernel
theorem dX12_readNews_88 : decode cX12_readNews 88 = .ok (.iconst 4, 1) := by decide +kernel
theorem dX12_readNews_89 : decode cX12_readNews 89 = .ok (.iaload, 1) := by decide +kernel
theorem dX12_readNews_90 : decode cX12_readNews 90 = .ok (.iadd, 1) := by decide +kernel
theorem dX12_readNews_91 : decode cX12_readNews 91 = .ok (.iload_n 1, 1) := by decide +kernel
theorem dX12_readNews_92 : decode cX12_readNews 92 = .ok (.iastore, 1) := by decide +kernel
theorem dX12_readNews_93 : decode cX12_readNews 93 = .ok (.aload_n 0, 1) := by decide +kernel
theorem dX12_readNews_94 : decode cX12_readNews 94 = .ok (.getfield 22, 3) := by decide +kernel
theorem dX12_readNews_97 : decode cX12_readNews 97 = .ok (.bipush 50, 2) := by decide +kernel
theorem dX12_readNews_99 : decode cX12_readNews 99 = .ok (.aload_n 0, 1) := by decide +kernel
theorem dX12_readNews_100 : decode cX12_readNews 100 = .ok (.getfield 22, 3) := by decide +kernel
theorem dX12_readNews_103 : decode cX12_readNews 103 = .ok (.iconst 4, 1) := by decide +kernel
theorem dX12_readNews_104 : decode cX12_readNews 104 = .ok (.iaload, 1) := by decide +kernel
theorem dX12_readNews_105 : decode cX12_readNews 105 = .ok (.iadd, 1) := by decide +kernel
theorem dX12_readNews_106 : decode cX12_readNews 106 = .ok (.iload_n 2, 1) := by decide +kernel
theorem dX12_readNews_107 : decode cX12_readNews 107 = .ok (.iastore, 1) := by decide +kernel
theorem dX12_readNews_108 : decode cX12_readNews 108 = .ok (.aload_n 0, 1) := by decide +kernel
theorem dX12_readNews_109 : decode cX12_readNews 109 = .ok (.getfield 22, 3) := by decide +kernel
theorem dX12_readNews_112 : decode cX12_readNews 112 = .ok (.iconst 4, 1) := by decide +kernel
theorem dX12_readNews_113 : decode cX12_readNews 113 = .ok (.dup2, 1) := by decide +kernel
theorem dX12_readNews_114 : decode cX12_readNews 114 = .ok (.iaload, 1) := by decide +kernel
theorem dX12_readNews_115 : decode cX12_readNews 115 = .ok (.iconst 1, 1) := by decide +kernel
theorem dX12_readNews_116 : decode cX12_readNews 116 = .ok (.iadd, 1) := by decide +kernel
theorem dX12_readNews_117 : decode cX12_readNews 117 = .ok (.iastore, 1) := by decide +kernel
theorem dX12_readNews_118 : decode cX12_readNews 118 = .ok (.return_, 1) := by decide +kernel
theorem dX12_land_0 : decode cX12_land 0 = .ok (.aload_n 0, 1) := by decide +kernel
theorem dX12_land_1 : decode cX12_land 1 = .ok (.iconst 0, 1) := by decide +kernel
theorem dX12_land_2 : decode cX12_land 2 = .ok (.putfield 56, 3) := by decide +kernel
theorem dX12_land_5 : decode cX12_land 5 = .ok (.aload_n 0, 1) := by decide +kernel
theorem dX12_land_6 : decode cX12_land 6 = .ok (.aload_n 0, 1) := by decide +kernel
theorem dX12_land_7 : decode cX12_land 7 = .ok (.getfield 83, 3) := by decide +kernel
theorem dX12_land_10 : decode cX12_land 10 = .ok (.putfield 89, 3) := by decide +kernel
theorem dX12_land_13 : decode cX12_land 13 = .ok (.aload_n 0, 1) := by decide +kernel
theorem dX12_land_14 : decode cX12_land 14 = .ok (.iconst 0, 1) := by decide +kernel
theorem dX12_land_15 : decode cX12_land 15 = .ok (.putfield 83, 3) := by decide +kernel
theorem dX12_land_18 : decode cX12_land 18 = .ok (.aload_n 0, 1) := by decide +kernel
theorem dX12_land_19 : decode cX12_land 19 = .ok (.iconst 0, 1) := by decide +kernel
theorem dX12_land_20 : decode cX12_land 20 = .ok (.putfield 93, 3) := by decide +kernel
theorem dX12_land_23 : decode cX12_land 23 = .ok (.aload_n 0, 1) := by decide +kernel
theorem dX12_land_24 : decode cX12_land 24 = .ok (.iconst 0, 1) := by decide +kernel
theorem dX12_land_25 : decode cX12_land 25 = .ok (.putfield 114, 3) := by decide +kernel
theorem dX12_land_28 : decode cX12_land 28 = .ok (.iconst 0, 1) := by decide +kernel
theorem dX12_land_29 : decode cX12_land 29 = .ok (.istore_n 1, 1) := by decide +kernel
theorem dX12_land_30 : decode cX12_land 30 = .ok (.iload_n 1, 1) := by decide +kernel
theorem dX12_land_31 : decode cX12_land 31 = .ok (.bipush 58, 2) := by decide +kernel
theorem dX12_land_33 : decode cX12_land 33 = .ok (.if_icmp .ge 16, 3) := by decide +kernel
theorem dX12_land_36 : decode cX12_land 36 = .ok (.aload_n 0, 1) := by decide +kernel
theorem dX12_land_37 : decode cX12_land 37 = .ok (.getfield 22, 3) := by decide +kernel
theorem dX12_land_40 : decode cX12_land 40 = .ok (.iload_n 1, 1) := by decide +kernel
theorem dX12_land_41 : decode cX12_land 41 = .ok (.iconst 0, 1) := by decide +kernel
theorem dX12_land_42 : decode cX12_land 42 = .ok (.iastore, 1) := by decide +kernel
theorem dX12_land_43 : decode cX12_land 43 = .ok (.iinc 1 1, 3) := by decide +kernel
theorem dX12_land_46 : decode cX12_land 46 = .ok (.goto (-16), 3) := by decide +kernel
theorem dX12_land_49 : decode cX12_land 49 = .ok (.aload_n 0, 1) := by decide +kernel
theorem dX12_land_50 : decode cX12_land 50 = .ok (.invokevirtual 124, 3) := by decide +kernel
theorem dX12_land_53 : decode cX12_land 53 = .ok (.aload_n 0, 1) := by decide +kernel
theorem dX12_land_54 : decode cX12_land 54 = .ok (.invokevirtual 172, 3) := by decide +kernel
theorem dX12_land_57 : decode cX12_land 57 = .ok (.aload_n 0, 1) := by decide +kernel
theorem dX12_land_58 : decode cX12_land 58 = .ok (.ldc2_w 175, 3) := by decide +kernel
theorem dX12_land_61 : decode cX12_land 61 = .ok (.invokevirtual 177, 3) := by decide +kernel
theorem dX12_land_64 : decode cX12_land 64 = .ok (.aload_n 0, 1) := by decide +kernel
theorem dX12_land_65 : decode cX12_land 65 = .ok (.invokevirtual 141, 3) := by decide +kernel
theorem dX12_land_68 : decode cX12_land 68 = .ok (.ldc2_w 175, 3) := by decide +kernel
theorem dX12_land_71 : decode cX12_land 71 = .ok (.lcmp, 1) := by decide +kernel
theorem dX12_land_72 : decode cX12_land 72 = .ok (.ifCond .ne 10, 3) := by decide +kernel
theorem dX12_land_75 : decode cX12_land 75 = .ok (.aload_n 0, 1) := by decide +kernel
theorem dX12_land_76 : decode cX12_land 76 = .ok (.invokevirtual 180, 3) := by decide +kernel
theorem dX12_land_79 : decode cX12_land 79 = .ok (.goto (-15), 3) := by decide +kernel
theorem dX12_land_82 : decode cX12_land 82 = .ok (.aload_n 0, 1) := by decide +kernel
theorem dX12_land_83 : decode cX12_land 83 = .ok (.invokevirtual 183, 3) := by decide +kernel
theorem dX12_land_86 : decode cX12_land 86 = .ok (.aload_n 0, 1) := by decide +kernel
theorem dX12_land_87 : decode cX12_land 87 = .ok (.ldc2_w 186, 3) := by decide +kernel
theorem dX12_land_90 : decode cX12_land 90 = .ok (.invokevirtual 177, 3) := by decide +kernel
theorem dX12_land_93 : decode cX12_land 93 = .ok (.aload_n 0, 1) := by decide +kernel
theorem dX12_land_94 : decode cX12_land 94 = .ok (.invokevirtual 141, 3) := by decide +kernel
theorem dX12_land_97 : decode cX12_land 97 = .ok (.ldc2_w 186, 3) := by decide +kernel
theorem dX12_land_100 : decode cX12_land 100 = .ok (.lcmp, 1) := by decide +kernel
theorem dX12_land_101 : decode cX12_land 101 = .ok (.ifCond .ne 10, 3) := by decide +kernel
theorem dX12_land_104 : decode cX12_land 104 = .ok (.aload_n 0, 1) := by decide +kernel
theorem dX12_land_105 : decode cX12_land 105 = .ok (.invokevirtual 188, 3) := by decide +kernel
theorem dX12_land_108 : decode cX12_land 108 = .ok (.goto (-15), 3) := by decide +kernel
theorem dX12_land_111 : decode cX12_land 111 = .ok (.aload_n 0, 1) := by decide +kernel
theorem dX12_land_112 : decode cX12_land 112 = .ok (.invokevirtual 141, 3) := by decide +kernel
theorem dX12_land_115 : decode cX12_land 115 = .ok (.ldc2_w 191, 3) := by decide +kernel
theorem dX12_land_118 : decode cX12_land 118 = .ok (.lcmp, 1) := by decide +kernel
theorem dX12_land_119 : decode cX12_land 119 = .ok (.ifCond .ne 10, 3) := by decide +kernel
theorem dX12_land_122 : decode cX12_land 122 = .ok (.aload_n 0, 1) := by decide +kernel
theorem dX12_land_123 : decode cX12_land 123 = .ok (.invokevirtual 193, 3) := by decide +kernel
theorem dX12_land_126 : decode cX12_land 126 = .ok (.goto (-15), 3) := by decide +kernel
theorem dX12_land_129 : decode cX12_land 129 = .ok (.aload_n 0, 1) := by decide +kernel
theorem dX12_land_130 : decode cX12_land 130 = .ok (.getfield 114, 3) := by decide +kernel
theorem dX12_land_133 : decode cX12_land 133 = .ok (.ifCond .ne 16, 3) := by decide +kernel
theorem dX12_land_136 : decode cX12_land 136 = .ok (.aload_n 0, 1) := by decide +kernel
theorem dX12_land_137 : decode cX12_land 137 = .ok (.getfield 102, 3) := by decide +kernel
theorem dX12_land_140 : decode cX12_land 140 = .ok (.iconst 1, 1) := by decide +kernel
theorem dX12_land_141 : decode cX12_land 141 = .ok (.if_icmp .eq 8, 3) := by decide +kernel
theorem dX12_land_144 : decode cX12_land 144 = .ok (.aload_n 0, 1) := by decide +kernel
theorem dX12_land_145 : decode cX12_land 145 = .ok (.iconst 1, 1) := by decide +kernel
theorem dX12_land_146 : decode cX12_land 146 = .ok (.invokevirtual 120, 3) := by decide +kernel
theorem dX12_land_149 : decode cX12_land 149 = .ok (.aload_n 0, 1) := by decide +kernel
theorem dX12_land_150 : decode cX12_land 150 = .ok (.getfield 114, 3) := by decide +kernel
theorem dX12_land_153 : decode cX12_land 153 = .ok (.ifCond .le 19, 3) := by decide +kernel
theorem dX12_land_156 : decode cX12_land 156 = .ok (.aload_n 0, 1) := by decide +kernel
theorem dX12_land_157 : decode cX12_land 157 = .ok (.aload_n 0, 1) := by decide +kernel
theorem dX12_land_158 : decode cX12_land 158 = .ok (.getfield 114, 3) := by decide +kernel
theorem dX12_land_161 : decode cX12_land 161 = .ok (.putfield 196, 3) := by decide +kernel
theorem dX12_land_164 : decode cX12_land 164 = .ok (.ldc 199, 2) := by decide +kernel
theorem dX12_land_166 : decode cX12_land 166 = .ok (.aload_n 0, 1) := by decide +kernel
theorem dX12_land_167 : decode cX12_land 167 = .ok (.getfield 117, 3) := by decide +kernel
theorem dX12_land_170 : decode cX12_land 170 = .ok (.isub, 1) := by decide +kernel
theorem dX12_land_171 : decode cX12_land 171 = .ok (.ireturn, 1) := by decide +kernel
theorem dX12_land_172 : decode cX12_land 172 = .ok (.aload_n 0, 1) := by decide +kernel
theorem dX12_land_173 : decode cX12_land 173 = .ok (.iconst 1, 1) := by decide +kernel
theorem dX12_land_174 : decode cX12_land 174 = .ok (.putfield 200, 3) := by decide +kernel
theorem dX12_land_177 : decode cX12_land 177 = .ok (.iconst 0, 1) := by decide +kernel
theorem dX12_land_178 : decode cX12_land 178 = .ok (.istore_n 1, 1) := by decide +kernel
theorem dX12_land_179 : decode cX12_land 179 = .ok (.iload_n 1, 1) := by decide +kernel
theorem dX12_land_180 : decode cX12_land 180 = .ok (.bipush 58, 2) := by decide +kernel
theorem dX12_land_182 : decode cX12_land 182 = .ok (.if_icmp .ge 21, 3) := by decide +kernel
theorem dX12_land_185 : decode cX12_land 185 = .ok (.aload_n 0, 1) := by decide +kernel
theorem dX12_land_186 : decode cX12_land 186 = .ok (.getfield 19, 3) := by decide +kernel
theorem dX12_land_189 : decode cX12_land 189 = .ok (.iload_n 1, 1) := by decide +kernel
theorem dX12_land_190 : decode cX12_land 190 = .ok (.aload_n 0, 1) := by decide +kernel
theorem dX12_land_191 : decode cX12_land 191 = .ok (.getfield 22, 3) := by decide +kernel
theorem dX12_land_194 : decode cX12_land 194 = .ok (.iload_n 1, 1) := by decide +kernel
theorem dX12_land_195 : decode cX12_land 195 = .ok (.iaload, 1) := by decide +kernel
theorem dX12_land_196 : decode cX12_land 196 = .ok (.iastore, 1) := by decide +kernel
theorem dX12_land_197 : decode cX12_land 197 = .ok (.iinc 1 1, 3) := by decide +kernel
theorem dX12_land_200 : decode cX12_land 200 = .ok (.goto (-21), 3) := by decide +kernel
theorem dX12_land_203 : decode cX12_land 203 = .ok (.aload_n 0, 1) := by decide +kernel
theorem dX12_land_204 : decode cX12_land 204 = .ok (.invokevirtual 204, 3) := by decide +kernel
theorem dX12_land_207 : decode cX12_land 207 = .ok (.aload_n 0, 1) := by decide +kernel
theorem dX12_land_208 : decode cX12_land 208 = .ok (.getfield 19, 3) := by decide +kernel
theorem dX12_land_211 : decode cX12_land 211 = .ok (.iconst 3, 1) := by decide +kernel
theorem dX12_land_212 : decode cX12_land 212 = .ok (.iaload, 1) := by decide +kernel
theorem dX12_land_213 : decode cX12_land 213 = .ok (.ireturn, 1) := by decide +kernel
theorem dX12_begin_0 : decode cX12_begin 0 = .ok (.iconst 0, 1) := by decide +kernel
theorem dX12_begin_1 : decode cX12_begin 1 = .ok (.istore_n 1, 1) := by decide +kernel
theorem dX12_begin_2 : decode cX12_begin 2 = .ok (.iload_n 1, 1) := by decide +kernel
theorem dX12_begin_3 : decode cX12_begin 3 = .ok (.bipush 77, 2) := by decide +kernel
theorem dX12_begin_5 : decode cX12_begin 5 = .ok (.if_icmp .ge 35, 3) := by decide +kernel
theorem dX12_begin_8 : decode cX12_begin 8 = .ok (.aload_n 0, 1) := by decide +kernel
theorem dX12_begin_9 : decode cX12_begin 9 = .ok (.getfield 25, 3) := by decide +kernel
theorem dX12_begin_12 : decode cX12_begin 12 = .ok (.iload_n 1, 1) := by decide +kernel
theorem dX12_begin_13 : decode cX12_begin 13 = .ok (.iload_n 1, 1) := by decide +kernel
theorem dX12_begin_14 : decode cX12_begin 14 = .ok (.i2l, 1) := by decide +kernel
theorem dX12_begin_15 : decode cX12_begin 15 = .ok (.ldc2_w 207, 3) := by decide +kernel
theorem dX12_begin_18 : decode cX12_begin 18 = .ok (.ldc2_w 209, 3) := by decide +kernel
theorem dX12_begin_21 : decode cX12_begin 21 = .ok (.invokestatic 66, 3) := by decide +kernel
theorem dX12_begin_24 : decode cX12_begin 24 = .ok (.ifCond .eq 8, 3) := by decide +kernel
theorem dX12_begin_27 : decode cX12_begin 27 = .ok (.ldc 92, 2) := by decide +kernel
theorem dX12_begin_29 : decode cX12_begin 29 = .ok (.goto 4, 3) := by decide +kernel
theorem dX12_begin_32 : decode cX12_begin 32 = .ok (.iconst 0, 1) := by decide +kernel
theorem dX12_begin_33 : decode cX12_begin 33 = .ok (.iastore, 1) := by decide +kernel
theorem dX12_begin_34 : decode cX12_begin 34 = .ok (.iinc 1 1, 3) := by decide +kernel
theorem dX12_begin_37 : decode cX12_begin 37 = .ok (.goto (-35), 3) := by decide +kernel
theorem dX12_begin_40 : decode cX12_begin 40 = .ok (.iconst 0, 1) := by decide +kernel
theorem dX12_begin_41 : decode cX12_begin 41 = .ok (.istore_n 1, 1) := by decide +kernel
theorem dX12_begin_42 : decode cX12_begin 42 = .ok (.iload_n 1, 1) := by decide +kernel
theorem dX12_begin_43 : decode cX12_begin 43 = .ok (.aload_n 0, 1) := by decide +kernel
theorem dX12_begin_44 : decode cX12_begin 44 = .ok (.getfield 19, 3) := by decide +kernel
theorem dX12_begin_47 : decode cX12_begin 47 = .ok (.iconst 4, 1) := by decide +kernel
theorem dX12_begin_48 : decode cX12_begin 48 = .ok (.iaload, 1) := by decide +kernel
theorem dX12_begin_49 : decode cX12_begin 49 = .ok (.if_icmp .ge 81, 3) := by decide +kernel
theorem dX12_begin_52 : decode cX12_begin 52 = .ok (.iconst 0, 1) := by decide +kernel
theorem dX12_begin_53 : decode cX12_begin 53 = .ok (.istore_n 2, 1) := by decide +kernel
theorem dX12_begin_54 : decode cX12_begin 54 = .ok (.iload_n 2, 1) := by decide +kernel
theorem dX12_begin_55 : decode cX12_begin 55 = .ok (.aload_n 0, 1) := by decide +kernel
theorem dX12_begin_56 : decode cX12_begin 56 = .ok (.getfield 19, 3) := by decide +kernel
theorem dX12_begin_59 : decode cX12_begin 59 = .ok (.iconst 3, 1) := by decide +kernel
theorem dX12_begin_60 : decode cX12_begin 60 = .ok (.iaload, 1) := by decide +kernel
theorem dX12_begin_61 : decode cX12_begin 61 = .ok (.if_icmp .ge 63, 3) := by decide +kernel
theorem dX12_begin_64 : decode cX12_begin 64 = .ok (.aload_n 0, 1) := by decide +kernel
theorem dX12_begin_65 : decode cX12_begin 65 = .ok (.getfield 19, 3) := by decide +kernel
theorem dX12_begin_68 : decode cX12_begin 68 = .ok (.bipush 50, 2) := by decide +kernel
theorem dX12_begin_70 : decode cX12_begin 70 = .ok (.iload_n 1, 1) := by decide +kernel
theorem dX12_begin_71 : decode cX12_begin 71 = .ok (.iadd, 1) := by decide +kernel
theorem dX12_begin_72 : decode cX12_begin 72 = .ok (.iaload, 1) := by decide +kernel
theorem dX12_begin_73 : decode cX12_begin 73 = .ok (.iload_n 2, 1) := by decide +kernel
theorem dX12_begin_74 : decode cX12_begin 74 = .ok (.ishr, 1) := by decide +kernel
theorem dX12_begin_75 : decode cX12_begin 75 = .ok (.iconst 1, 1) := by decide +kernel
theorem dX12_begin_76 : decode cX12_begin 76 = .ok (.iand, 1) := by decide +kernel
theorem dX12_begin_77 : decode cX12_begin 77 = .ok (.iconst 1, 1) := by decide +kernel
theorem dX12_begin_78 : decode cX12_begin 78 = .ok (.if_icmp .ne 7, 3) := by decide +kernel
theorem dX12_begin_81 : decode cX12_begin 81 = .ok (.iconst 1, 1) := by decide +kernel
theorem dX12_begin_82 : decode cX12_begin 82 = .ok (.goto 4, 3) := by decide +kernel
theorem dX12_begin_85 : decode cX12_begin 85 = .ok (.iconst 0, 1) := by decide +kernel
theorem dX12_begin_86 : decode cX12_begin 86 = .ok (.istore_n 3, 1) := by decide +kernel
theorem dX12_begin_87 : decode cX12_begin 87 = .ok (.aload_n 0, 1) := by decide +kernel
theorem dX12_begin_88 : decode cX12_begin 88 = .ok (.getfield 25, 3) := by decide +kernel
theorem dX12_begin_91 : decode cX12_begin 91 = .ok (.bipush 29, 2) := by decide +kernel
theorem dX12_begin_93 : decode cX12_begin 93 = .ok (.bipush 8, 2) := by decide +kernel
theorem dX12_begin_95 : decode cX12_begin 95 = .ok (.iload_n 2, 1) := by decide +kernel
theorem dX12_begin_96 : decode cX12_begin 96 = .ok (.imul, 1) := by decide +kernel
theorem dX12_begin_97 : decode cX12_begin 97 = .ok (.iadd, 1) := by decide +kernel
theorem dX12_begin_98 : decode cX12_begin 98 = .ok (.iload_n 1, 1) := by decide +kernel
theorem dX12_begin_99 : decode cX12_begin 99 = .ok (.iadd, 1) := by decide +kernel
theorem dX12_begin_100 : decode cX12_begin 100 = .ok (.iload_n 3, 1) := by decide +kernel
theorem dX12_begin_101 : decode cX12_begin 101 = .ok (.ifCond .eq 15, 3) := by decide +kernel
theorem dX12_begin_104 : decode cX12_begin 104 = .ok (.aload_n 0, 1) := by decide +kernel
theorem dX12_begin_105 : decode cX12_begin 105 = .ok (.getfield 19, 3) := by decide +kernel
theorem dX12_begin_108 : decode cX12_begin 108 = .ok (.bipush 36, 2) := by decide +kernel
theorem dX12_begin_110 : decode cX12_begin 110 = .ok (.iload_n 2, 1) := by decide +kernel
theorem dX12_begin_111 : decode cX12_begin 111 = .ok (.iadd, 1) := by decide +kernel
theorem dX12_begin_112 : decode cX12_begin 112 = .ok (.iaload, 1) := by decide +kernel
theorem dX12_begin_113 : decode cX12_begin 113 = .ok (.goto 4, 3) := by decide +kernel
theorem dX12_begin_116 : decode cX12_begin 116 = .ok (.iconst 0, 1) := by decide +kernel
theorem dX12_begin_117 : decode cX12_begin 117 = .ok (.iastore, 1) := by decide +kernel
theorem dX12_begin_118 : decode cX12_begin 118 = .ok (.iinc 2 1, 3) := by decide +kernel
theorem dX12_begin_121 : decode cX12_begin 121 = .ok (.goto (-67), 3) := by decide +kernel
theorem dX12_begin_124 : decode cX12_begin 124 = .ok (.iinc 1 1, 3) := by decide +kernel
theorem dX12_begin_127 : decode cX12_begin 127 = .ok (.goto (-85), 3) := by decide +kernel
theorem dX12_begin_130 : decode cX12_begin 130 = .ok (.return_, 1) := by decide +kernel
theorem dX12_fault_0 : decode cX12_fault 0 = .ok (.aload_n 0, 1) := by decide +kernel
theorem dX12_fault_1 : decode cX12_fault 1 = .ok (.iconst 0, 1) := by decide +kernel
theorem dX12_fault_2 : decode cX12_fault 2 = .ok (.putfield 56, 3) := by decide +kernel
theorem dX12_fault_5 : decode cX12_fault 5 = .ok (.aload_n 0, 1) := by decide +kernel
theorem dX12_fault_6 : decode cX12_fault 6 = .ok (.getfield 196, 3) := by decide +kernel
theorem dX12_fault_9 : decode cX12_fault 9 = .ok (.ireturn, 1) := by decide +kernel
theorem dX12_isKeeper_0 : decode cX12_isKeeper 0 = .ok (.iload_n 1, 1) := by decide +kernel
theorem dX12_isKeeper_1 : decode cX12_isKeeper 1 = .ok (.i2l, 1) := by decide +kernel
theorem dX12_isKeeper_2 : decode cX12_isKeeper 2 = .ok (.lconst 0, 1) := by decide +kernel
theorem dX12_isKeeper_3 : decode cX12_isKeeper 3 = .ok (.aload_n 0, 1) := by decide +kernel
theorem dX12_isKeeper_4 : decode cX12_isKeeper 4 = .ok (.getfield 19, 3) := by decide +kernel
theorem dX12_isKeeper_7 : decode cX12_isKeeper 7 = .ok (.iconst 3, 1) := by decide +kernel
theorem dX12_isKeeper_8 : decode cX12_isKeeper 8 = .ok (.iaload, 1) := by decide +kernel
theorem dX12_isKeeper_9 : decode cX12_isKeeper 9 = .ok (.iconst 1, 1) := by decide +kernel
theorem dX12_isKeeper_10 : decode cX12_isKeeper 10 = .ok (.isub, 1) := by decide +kernel
theorem dX12_isKeeper_11 : decode cX12_isKeeper 11 = .ok (.i2l, 1) := by decide +kernel
theorem dX12_isKeeper_12 : decode cX12_isKeeper 12 = .ok (.invokestatic 66, 3) := by decide +kernel
theorem dX12_isKeeper_15 : decode cX12_isKeeper 15 = .ok (.ireturn, 1) := by decide +kernel
theorem dX12_isPiece_0 : decode cX12_isPiece 0 = .ok (.iload_n 1, 1) := by decide +kernel
theorem dX12_isPiece_1 : decode cX12_isPiece 1 = .ok (.i2l, 1) := by decide +kernel
theorem dX12_isPiece_2 : decode cX12_isPiece 2 = .ok (.lconst 0, 1) := by decide +kernel
theorem dX12_isPiece_3 : decode cX12_isPiece 3 = .ok (.aload_n 0, 1) := by decide +kernel
theorem dX12_isPiece_4 : decode cX12_isPiece 4 = .ok (.getfield 19, 3) := by decide +kernel
theorem dX12_isPiece_7 : decode cX12_isPiece 7 = .ok (.iconst 4, 1) := by decide +kernel
theorem dX12_isPiece_8 : decode cX12_isPiece 8 = .ok (.iaload, 1) := by decide +kernel
theorem dX12_isPiece_9 : decode cX12_isPiece 9 = .ok (.iconst 1, 1) := by decide +kernel
theorem dX12_isPiece_10 : decode cX12_isPiece 10 = .ok (.isub, 1) := by decide +kernel
theorem dX12_isPiece_11 : decode cX12_isPiece 11 = .ok (.i2l, 1) := by decide +kernel
theorem dX12_isPiece_12 : decode cX12_isPiece 12 = .ok (.invokestatic 66, 3) := by decide +kernel
theorem dX12_isPiece_15 : decode cX12_isPiece 15 = .ok (.ireturn, 1) := by decide +kernel
theorem dX12_plainValue_0 : decode cX12_plainValue 0 = .ok (.aload_n 0, 1) := by decide +kernel
theorem dX12_plainValue_1 : decode cX12_plainValue 1 = .ok (.getfield 19, 3) := by decide +kernel
theorem dX12_plainValue_4 : decode cX12_plainValue 4 = .ok (.iconst 2, 1) := by decide +kernel
theorem dX12_plainValue_5 : decode cX12_plainValue 5 = .ok (.iaload, 1) := by decide +kernel
theorem dX12_plainValue_6 : decode cX12_plainValue 6 = .ok (.iconst 1, 1) := by decide +kernel
theorem dX12_plainValue_7 : decode cX12_plainValue 7 = .ok (.isub, 1) := by decide +kernel
theorem dX12_plainValue_8 : decode cX12_plainValue 8 = .ok (.istore_n 2, 1) := by decide +kernel
theorem dX12_plainValue_9 : decode cX12_plainValue 9 = .ok (.iload_n 1, 1) := by decide +kernel
theorem dX12_plainValue_10 : decode cX12_plainValue 10 = .ok (.aload_n 0, 1) := by decide +kernel
theorem dX12_plainValue_11 : decode cX12_plainValue 11 = .ok (.getfield 19, 3) := by decide +kernel
theorem dX12_plainValue_14 : decode cX12_plainValue 14 = .ok (.bipush 8, 2) := by decide +kernel
theorem dX12_plainValue_16 : decode cX12_plainValue 16 = .ok (.iload_n 2, 1) := by decide +kernel
theorem dX12_plainValue_17 : decode cX12_plainValue 17 = .ok (.iadd, 1) := by decide +kernel
theorem dX12_plainValue_18 : decode cX12_plainValue 18 = .ok (.iaload, 1) := by decide +kernel
theorem dX12_plainValue_19 : decode cX12_plainValue 19 = .ok (.if_icmp .lt 13, 3) := by decide +kernel
theorem dX12_plainValue_22 : decode cX12_plainValue 22 = .ok (.aload_n 0, 1) := by decide +kernel
theorem dX12_plainValue_23 : decode cX12_plainValue 23 = .ok (.getfield 19, 3) := by decide +kernel
theorem dX12_plainValue_26 : decode cX12_plainValue 26 = .ok (.bipush 16, 2) := by decide +kernel
theorem dX12_plainValue_28 : decode cX12_plainValue 28 = .ok (.iload_n 2, 1) := by decide +kernel
theorem dX12_plainValue_29 : decode cX12_plainValue 29 = .ok (.iadd, 1) := by decide +kernel
theorem dX12_plainValue_30 : decode cX12_plainValue 30 = .ok (.iaload, 1) := by decide +kernel
theorem dX12_plainValue_31 : decode cX12_plainValue 31 = .ok (.ireturn, 1) := by decide +kernel
theorem dX12_plainValue_32 : decode cX12_plainValue 32 = .ok (.iconst 0, 1) := by decide +kernel
theorem dX12_plainValue_33 : decode cX12_plainValue 33 = .ok (.istore_n 3, 1) := by decide +kernel
theorem dX12_plainValue_34 : decode cX12_plainValue 34 = .ok (.iload_n 1, 1) := by decide +kernel
theorem dX12_plainValue_35 : decode cX12_plainValue 35 = .ok (.aload_n 0, 1) := by decide +kernel
theorem dX12_plainValue_36 : decode cX12_plainValue 36 = .ok (.getfield 19, 3) := by decide +kernel
theorem dX12_plainValue_39 : decode cX12_plainValue 39 = .ok (.bipush 8, 2) := by decide +kernel
theorem dX12_plainValue_41 : decode cX12_plainValue 41 = .ok (.iload_n 3, 1) := by decide +kernel
theorem dX12_plainValue_42 : decode cX12_plainValue 42 = .ok (.iadd, 1) := by decide +kernel
theorem dX12_plainValue_43 : decode cX12_plainValue 43 = .ok (.iaload, 1) := by decide +kernel
theorem dX12_plainValue_44 : decode cX12_plainValue 44 = .ok (.if_icmp .lt 9, 3) := by decide +kernel
theorem dX12_plainValue_47 : decode cX12_plainValue 47 = .ok (.iinc 3 1, 3) := by decide +kernel
theorem dX12_plainValue_50 : decode cX12_plainValue 50 = .ok (.goto (-16), 3) := by decide +kernel
theorem dX12_plainValue_53 : decode cX12_plainValue 53 = .ok (.iload_n 3, 1) := by decide +kernel
theorem dX12_plainValue_54 : decode cX12_plainValue 54 = .ok (.ifCond .ne 11, 3) := by decide +kernel
theorem dX12_plainValue_57 : decode cX12_plainValue 57 = .ok (.aload_n 0, 1) := by decide +kernel
theorem dX12_plainValue_58 : decode cX12_plainValue 58 = .ok (.getfield 19, 3) := by decide +kernel
theorem dX12_plainValue_61 : decode cX12_plainValue 61 = .ok (.bipush 16, 2) := by decide +kernel
theorem dX12_plainValue_63 : decode cX12_plainValue 63 = .ok (.iaload, 1) := by decide +kernel
theorem dX12_plainValue_64 : decode cX12_plainValue 64 = .ok (.ireturn, 1) := by decide +kernel
theorem dX12_plainValue_65 : decode cX12_plainValue 65 = .ok (.aload_n 0, 1) := by decide +kernel
theorem dX12_plainValue_66 : decode cX12_plainValue 66 = .ok (.getfield 19, 3) := by decide +kernel
theorem dX12_plainValue_69 : decode cX12_plainValue 69 = .ok (.bipush 8, 2) := by decide +kernel
theorem dX12_plainValue_71 : decode cX12_plainValue 71 = .ok (.iload_n 3, 1) := by decide +kernel
theorem dX12_plainValue_72 : decode cX12_plainValue 72 = .ok (.iadd, 1) := by decide +kernel
theorem dX12_plainValue_73 : decode cX12_plainValue 73 = .ok (.iaload, 1) := by decide +kernel
theorem dX12_plainValue_74 : decode cX12_plainValue 74 = .ok (.aload_n 0, 1) := by decide +kernel
theorem dX12_plainValue_75 : decode cX12_plainValue 75 = .ok (.getfield 19, 3) := by decide +kernel
theorem dX12_plainValue_78 : decode cX12_plainValue 78 = .ok (.bipush 8, 2) := by decide +kernel
theorem dX12_plainValue_80 : decode cX12_plainValue 80 = .ok (.iload_n 3, 1) := by decide +kernel
theorem dX12_plainValue_81 : decode cX12_plainValue 81 = .ok (.iadd, 1) := by decide +kernel
theorem dX12_plainValue_82 : decode cX12_plainValue 82 = .ok (.iconst 1, 1) := by decide +kernel
theorem dX12_plainValue_83 : decode cX12_plainValue 83 = .ok (.isub, 1) := by decide +kernel
theorem dX12_plainValue_84 : decode cX12_plainValue 84 = .ok (.iaload, 1) := by decide +kernel
theorem dX12_plainValue_85 : decode cX12_plainValue 85 = .ok (.isub, 1) := by decide +kernel
theorem dX12_plainValue_86 : decode cX12_plainValue 86 = .ok (.istore 4, 2) := by decide +kernel
theorem dX12_plainValue_88 : decode cX12_plainValue 88 = .ok (.aload_n 0, 1) := by decide +kernel
theorem dX12_plainValue_89 : decode cX12_plainValue 89 = .ok (.getfield 19, 3) := by decide +kernel
theorem dX12_plainValue_92 : decode cX12_plainValue 92 = .ok (.bipush 16, 2) := by decide +kernel
theorem dX12_plainValue_94 : decode cX12_plainValue 94 = .ok (.iload_n 3, 1) := by decide +kernel
theorem dX12_plainValue_95 : decode cX12_plainValue 95 = .ok (.iadd, 1) := by decide +kernel
theorem dX12_plainValue_96 : decode cX12_plainValue 96 = .ok (.iconst 1, 1) := by decide +kernel
theorem dX12_plainValue_97 : decode cX12_plainValue 97 = .ok (.isub, 1) := by decide +kernel
theorem dX12_plainValue_98 : decode cX12_plainValue 98 = .ok (.iaload, 1) := by decide +kernel
theorem dX12_plainValue_99 : decode cX12_plainValue 99 = .ok (.aload_n 0, 1) := by decide +kernel
theorem dX12_plainValue_100 : decode cX12_plainValue 100 = .ok (.getfield 19, 3) := by decide +kernel
theorem dX12_plainValue_103 : decode cX12_plainValue 103 = .ok (.bipush 16, 2) := by decide +kernel
theorem dX12_plainValue_105 : decode cX12_plainValue 105 = .ok (.iload_n 3, 1) := by decide +kernel
theorem dX12_plainValue_106 : decode cX12_plainValue 106 = .ok (.iadd, 1) := by decide +kernel
theorem dX12_plainValue_107 : decode cX12_plainValue 107 = .ok (.iaload, 1) := by decide +kernel
theorem dX12_plainValue_108 : decode cX12_plainValue 108 = .ok (.aload_n 0, 1) := by decide +kernel
theorem dX12_plainValue_109 : decode cX12_plainValue 109 = .ok (.getfield 19, 3) := by decide +kernel
theorem dX12_plainValue_112 : decode cX12_plainValue 112 = .ok (.bipush 16, 2) := by decide +kernel
theorem dX12_plainValue_114 : decode cX12_plainValue 114 = .ok (.iload_n 3, 1) := by decide +kernel
theorem dX12_plainValue_115 : decode cX12_plainValue 115 = .ok (.iadd, 1) := by decide +kernel
theorem dX12_plainValue_116 : decode cX12_plainValue 116 = .ok (.iconst 1, 1) := by decide +kernel
theorem dX12_plainValue_117 : decode cX12_plainValue 117 = .ok (.isub, 1) := by decide +kernel
theorem dX12_plainValue_118 : decode cX12_plainValue 118 = .ok (.iaload, 1) := by decide +kernel
theorem dX12_plainValue_119 : decode cX12_plainValue 119 = .ok (.isub, 1) := by decide +kernel
theorem dX12_plainValue_120 : decode cX12_plainValue 120 = .ok (.iload_n 1, 1) := by decide +kernel
theorem dX12_plainValue_121 : decode cX12_plainValue 121 = .ok (.aload_n 0, 1) := by decide +kernel
theorem dX12_plainValue_122 : decode cX12_plainValue 122 = .ok (.getfield 19, 3) := by decide +kernel
theorem dX12_plainValue_125 : decode cX12_plainValue 125 = .ok (.bipush 8, 2) := by decide +kernel
theorem dX12_plainValue_127 : decode cX12_plainValue 127 = .ok (.iload_n 3, 1) := by decide +kernel
theorem dX12_plainValue_128 : decode cX12_plainValue 128 = .ok (.iadd, 1) := by decide +kernel
theorem dX12_plainValue_129 : decode cX12_plainValue 129 = .ok (.iconst 1, 1) := by decide +kernel
theorem dX12_plainValue_130 : decode cX12_plainValue 130 = .ok (.isub, 1) := by decide +kernel
theorem dX12_plainValue_131 : decode cX12_plainValue 131 = .ok (.iaload, 1) := by decide +kernel
theorem dX12_plainValue_132 : decode cX12_plainValue 132 = .ok (.isub, 1) := by decide +kernel
theorem dX12_plainValue_133 : decode cX12_plainValue 133 = .ok (.imul, 1) := by decide +kernel
theorem dX12_plainValue_134 : decode cX12_plainValue 134 = .ok (.iload 4, 2) := by decide +kernel
theorem dX12_plainValue_136 : decode cX12_plainValue 136 = .ok (.idiv, 1) := by decide +kernel
theorem dX12_plainValue_137 : decode cX12_plainValue 137 = .ok (.iadd, 1) := by decide +kernel
theorem dX12_plainValue_138 : decode cX12_plainValue 138 = .ok (.ireturn, 1) := by decide +kernel
theorem dX12_valueOf_0 : decode cX12_valueOf 0 = .ok (.aload_n 0, 1) := by decide +kernel
theorem dX12_valueOf_1 : decode cX12_valueOf 1 = .ok (.getfield 19, 3) := by decide +kernel
theorem dX12_valueOf_4 : decode cX12_valueOf 4 = .ok (.iconst 0, 1) := by decide +kernel
theorem dX12_valueOf_5 : decode cX12_valueOf 5 = .ok (.iaload, 1) := by decide +kernel
theorem dX12_valueOf_6 : decode cX12_valueOf 6 = .ok (.ifCond .ne 9, 3) := by decide +kernel
theorem dX12_valueOf_9 : decode cX12_valueOf 9 = .ok (.aload_n 0, 1) := by decide +kernel
theorem dX12_valueOf_10 : decode cX12_valueOf 10 = .ok (.iload_n 1, 1) := by decide +kernel
theorem dX12_valueOf_11 : decode cX12_valueOf 11 = .ok (.invokevirtual 211, 3) := by decide +kernel
theorem dX12_valueOf_14 : decode cX12_valueOf 14 = .ok (.ireturn, 1) := by decide +kernel
theorem dX12_valueOf_15 : decode cX12_valueOf 15 = .ok (.aload_n 0, 1) := by decide +kernel
theorem dX12_valueOf_16 : decode cX12_valueOf 16 = .ok (.iload_n 1, 1) := by decide +kernel
theorem dX12_valueOf_17 : decode cX12_valueOf 17 = .ok (.aload_n 0, 1) := by decide +kernel
theorem dX12_valueOf_18 : decode cX12_valueOf 18 = .ok (.getfield 19, 3) := by decide +kernel
theorem dX12_valueOf_21 : decode cX12_valueOf 21 = .ok (.iconst 1, 1) := by decide +kernel
theorem dX12_valueOf_22 : decode cX12_valueOf 22 = .ok (.iaload, 1) := by decide +kernel
theorem dX12_valueOf_23 : decode cX12_valueOf 23 = .ok (.if_icmp .ge 14, 3) := by decide +kernel
theorem dX12_valueOf_26 : decode cX12_valueOf 26 = .ok (.aload_n 0, 1) := by decide +kernel
theorem dX12_valueOf_27 : decode cX12_valueOf 27 = .ok (.getfield 19, 3) := by decide +kernel
theorem dX12_valueOf_30 : decode cX12_valueOf 30 = .ok (.iconst 1, 1) := by decide +kernel
theorem dX12_valueOf_31 : decode cX12_valueOf 31 = .ok (.iaload, 1) := by decide +kernel
theorem dX12_valueOf_32 : decode cX12_valueOf 32 = .ok (.iload_n 1, 1) := by decide +kernel
theorem dX12_valueOf_33 : decode cX12_valueOf 33 = .ok (.isub, 1) := by decide +kernel
theorem dX12_valueOf_34 : decode cX12_valueOf 34 = .ok (.goto 4, 3) := by decide +kernel
theorem dX12_valueOf_37 : decode cX12_valueOf 37 = .ok (.iconst 0, 1) := by decide +kernel
theorem dX12_valueOf_38 : decode cX12_valueOf 38 = .ok (.invokevirtual 211, 3) := by decide +kernel
theorem dX12_valueOf_41 : decode cX12_valueOf 41 = .ok (.ireturn, 1) := by decide +kernel
theorem dX12_value_0 : decode cX12_value 0 = .ok (.aload_n 0, 1) := by decide +kernel
theorem dX12_value_1 : decode cX12_value 1 = .ok (.iconst 0, 1) := by decide +kernel
theorem dX12_value_2 : decode cX12_value 2 = .ok (.putfield 56, 3) := by decide +kernel
theorem dX12_value_5 : decode cX12_value 5 = .ok (.aload_n 0, 1) := by decide +kernel
theorem dX12_value_6 : decode cX12_value 6 = .ok (.getfield 200, 3) := by decide +kernel
theorem dX12_value_9 : decode cX12_value 9 = .ok (.ifCond .ne 6, 3) := by decide +kernel
theorem dX12_value_12 : decode cX12_value 12 = .ok (.ldc 214, 2) := by decide +kernel
theorem dX12_value_14 : decode cX12_value 14 = .ok (.ireturn, 1) := by decide +kernel
theorem dX12_value_15 : decode cX12_value 15 = .ok (.iload_n 1, 1) := by decide +kernel
theorem dX12_value_16 : decode cX12_value 16 = .ok (.i2l, 1) := by decide +kernel
theorem dX12_value_17 : decode cX12_value 17 = .ok (.lconst 0, 1) := by decide +kernel
theorem dX12_value_18 : decode cX12_value 18 = .ok (.ldc2_w 215, 3) := by decide +kernel
theorem dX12_value_21 : decode cX12_value 21 = .ok (.invokestatic 66, 3) := by decide +kernel
theorem dX12_value_24 : decode cX12_value 24 = .ok (.ifCond .eq 11, 3) := by decide +kernel
theorem dX12_value_27 : decode cX12_value 27 = .ok (.aload_n 0, 1) := by decide +kernel
theorem dX12_value_28 : decode cX12_value 28 = .ok (.iload_n 1, 1) := by decide +kernel
theorem dX12_value_29 : decode cX12_value 29 = .ok (.invokevirtual 217, 3) := by decide +kernel
theorem dX12_value_32 : decode cX12_value 32 = .ok (.goto 5, 3) := by decide +kernel
theorem dX12_value_35 : decode cX12_value 35 = .ok (.ldc 76, 2) := by decide +kernel
theorem dX12_value_37 : decode cX12_value 37 = .ok (.ireturn, 1) := by decide +kernel
theorem dX12_worthFor_0 : decode cX12_worthFor 0 = .ok (.iload_n 2, 1) := by decide +kernel
theorem dX12_worthFor_1 : decode cX12_worthFor 1 = .ok (.bipush 6, 2) := by decide +kernel
theorem dX12_worthFor_3 : decode cX12_worthFor 3 = .ok (.if_icmp .le 7, 3) := by decide +kernel
theorem dX12_worthFor_6 : decode cX12_worthFor 6 = .ok (.iconst 0, 1) := by decide +kernel
theorem dX12_worthFor_7 : decode cX12_worthFor 7 = .ok (.goto 19, 3) := by decide +kernel
theorem dX12_worthFor_10 : decode cX12_worthFor 10 = .ok (.aload_n 0, 1) := by decide +kernel
theorem dX12_worthFor_11 : decode cX12_worthFor 11 = .ok (.iload_n 1, 1) := by decide +kernel
theorem dX12_worthFor_12 : decode cX12_worthFor 12 = .ok (.invokevirtual 217, 3) := by decide +kernel
theorem dX12_worthFor_15 : decode cX12_worthFor 15 = .ok (.iload_n 2, 1) := by decide +kernel
theorem dX12_worthFor_16 : decode cX12_worthFor 16 = .ok (.iconst 1, 1) := by decide +kernel
theorem dX12_worthFor_17 : decode cX12_worthFor 17 = .ok (.if_icmp .ge 7, 3) := by decide +kernel
theorem dX12_worthFor_20 : decode cX12_worthFor 20 = .ok (.iconst 1, 1) := by decide +kernel
theorem dX12_worthFor_21 : decode cX12_worthFor 21 = .ok (.goto 4, 3) := by decide +kernel
theorem dX12_worthFor_24 : decode cX12_worthFor 24 = .ok (.iload_n 2, 1) := by decide +kernel
theorem dX12_worthFor_25 : decode cX12_worthFor 25 = .ok (.idiv, 1) := by decide +kernel
theorem dX12_worthFor_26 : decode cX12_worthFor 26 = .ok (.ireturn, 1) := by decide +kernel
theorem dX12_has_0 : decode cX12_has 0 = .ok (.aload_n 0, 1) := by decide +kernel
theorem dX12_has_1 : decode cX12_has 1 = .ok (.getfield 25, 3) := by decide +kernel
theorem dX12_has_4 : decode cX12_has 4 = .ok (.bipush 29, 2) := by decide +kernel
theorem dX12_has_6 : decode cX12_has 6 = .ok (.bipush 8, 2) := by decide +kernel
theorem dX12_has_8 : decode cX12_has 8 = .ok (.iload_n 1, 1) := by decide +kernel
theorem dX12_has_9 : decode cX12_has 9 = .ok (.imul, 1) := by decide +kernel
theorem dX12_has_10 : decode cX12_has 10 = .ok (.iadd, 1) := by decide +kernel
theorem dX12_has_11 : decode cX12_has 11 = .ok (.iload_n 2, 1) := by decide +kernel
theorem dX12_has_12 : decode cX12_has 12 = .ok (.iadd, 1) := by decide +kernel
theorem dX12_has_13 : decode cX12_has 13 = .ok (.iaload, 1) := by decide +kernel
theorem dX12_has_14 : decode cX12_has 14 = .ok (.ifCond .le 7, 3) := by decide +kernel
theorem dX12_has_17 : decode cX12_has 17 = .ok (.iconst 1, 1) := by decide +kernel
theorem dX12_has_18 : decode cX12_has 18 = .ok (.goto 4, 3) := by decide +kernel
theorem dX12_has_21 : decode cX12_has 21 = .ok (.iconst 0, 1) := by decide +kernel
theorem dX12_has_22 : decode cX12_has 22 = .ok (.ireturn, 1) := by decide +kernel
theorem dX12_keepersOf_0 : decode cX12_keepersOf 0 = .ok (.iconst 0, 1) := by decide +kernel
theorem dX12_keepersOf_1 : decode cX12_keepersOf 1 = .ok (.istore_n 2, 1) := by decide +kernel
theorem dX12_keepersOf_2 : decode cX12_keepersOf 2 = .ok (.iconst 0, 1) := by decide +kernel
theorem dX12_keepersOf_3 : decode cX12_keepersOf 3 = .ok (.istore_n 3, 1) := by decide +kernel
theorem dX12_keepersOf_4 : decode cX12_keepersOf 4 = .ok (.iload_n 3, 1) := by decide +kernel
theorem dX12_keepersOf_5 : decode cX12_keepersOf 5 = .ok (.aload_n 0, 1) := by decide +kernel
theorem dX12_keepersOf_6 : decode cX12_keepersOf 6 = .ok (.getfield 19, 3) := by decide +kernel
theorem dX12_keepersOf_9 : decode cX12_keepersOf 9 = .ok (.iconst 3, 1) := by decide +kernel
theorem dX12_keepersOf_10 : decode cX12_keepersOf 10 = .ok (.iaload, 1) := by decide +kernel
theorem dX12_keepersOf_11 : decode cX12_keepersOf 11 = .ok (.if_icmp .ge 26, 3) := by decide +kernel
theorem dX12_keepersOf_14 : decode cX12_keepersOf 14 = .ok (.iload_n 2, 1) := by decide +kernel
theorem dX12_keepersOf_15 : decode cX12_keepersOf 15 = .ok (.aload_n 0, 1) := by decide +kernel
theorem dX12_keepersOf_16 : decode cX12_keepersOf 16 = .ok (.iload_n 3, 1) := by decide +kernel
theorem dX12_keepersOf_17 : decode cX12_keepersOf 17 = .ok (.iload_n 1, 1) := by decide +kernel
theorem dX12_keepersOf_18 : decode cX12_keepersOf 18 = .ok (.invokevirtual 220, 3) := by decide +kernel
theorem dX12_keepersOf_21 : decode cX12_keepersOf 21 = .ok (.ifCond .eq 7, 3) := by decide +kernel
theorem dX12_keepersOf_24 : decode cX12_keepersOf 24 = .ok (.iconst 1, 1) := by decide +kernel
theorem dX12_keepersOf_25 : decode cX12_keepersOf 25 = .ok (.goto 4, 3) := by decide +kernel
theorem dX12_keepersOf_28 : decode cX12_keepersOf 28 = .ok (.iconst 0, 1) := by decide +kernel
theorem dX12_keepersOf_29 : decode cX12_keepersOf 29 = .ok (.iadd, 1) := by decide +kernel
theorem dX12_keepersOf_30 : decode cX12_keepersOf 30 = .ok (.istore_n 2, 1) := by decide +kernel
theorem dX12_keepersOf_31 : decode cX12_keepersOf 31 = .ok (.iinc 3 1, 3) := by decide +kernel
theorem dX12_keepersOf_34 : decode cX12_keepersOf 34 = .ok (.goto (-30), 3) := by decide +kernel
theorem dX12_keepersOf_37 : decode cX12_keepersOf 37 = .ok (.iload_n 2, 1) := by decide +kernel
theorem dX12_keepersOf_38 : decode cX12_keepersOf 38 = .ok (.ireturn, 1) := by decide +kernel
theorem dX12_hadBy_0 : decode cX12_hadBy 0 = .ok (.aload_n 0, 1) := by decide +kernel
theorem dX12_hadBy_1 : decode cX12_hadBy 1 = .ok (.iload_n 1, 1) := by decide +kernel
theorem dX12_hadBy_2 : decode cX12_hadBy 2 = .ok (.invokevirtual 224, 3) := by decide +kernel
theorem dX12_hadBy_5 : decode cX12_hadBy 5 = .ok (.aload_n 0, 1) := by decide +kernel
theorem dX12_hadBy_6 : decode cX12_hadBy 6 = .ok (.getfield 25, 3) := by decide +kernel
theorem dX12_hadBy_9 : decode cX12_hadBy 9 = .ok (.bipush 13, 2) := by decide +kernel
theorem dX12_hadBy_11 : decode cX12_hadBy 11 = .ok (.iload_n 1, 1) := by decide +kernel
theorem dX12_hadBy_12 : decode cX12_hadBy 12 = .ok (.iadd, 1) := by decide +kernel
theorem dX12_hadBy_13 : decode cX12_hadBy 13 = .ok (.iaload, 1) := by decide +kernel
theorem dX12_hadBy_14 : decode cX12_hadBy 14 = .ok (.iadd, 1) := by decide +kernel
theorem dX12_hadBy_15 : decode cX12_hadBy 15 = .ok (.ireturn, 1) := by decide +kernel
theorem dX12_isAboutTo_0 : decode cX12_isAboutTo 0 = .ok (.aload_n 0, 1) := by decide +kernel
theorem dX12_isAboutTo_1 : decode cX12_isAboutTo 1 = .ok (.getfield 19, 3) := by decide +kernel
theorem dX12_isAboutTo_4 : decode cX12_isAboutTo 4 = .ok (.bipush 24, 2) := by decide +kernel
theorem dX12_isAboutTo_6 : decode cX12_isAboutTo 6 = .ok (.iload_n 1, 1) := by decide +kernel
theorem dX12_isAboutTo_7 : decode cX12_isAboutTo 7 = .ok (.iadd, 1) := by decide +kernel
theorem dX12_isAboutTo_8 : decode cX12_isAboutTo 8 = .ok (.iaload, 1) := by decide +kernel
theorem dX12_isAboutTo_9 : decode cX12_isAboutTo 9 = .ok (.iconst 2, 1) := by decide +kernel
theorem dX12_isAboutTo_10 : decode cX12_isAboutTo 10 = .ok (.invokestatic 227, 3) := by decide +kernel
theorem dX12_isAboutTo_13 : decode cX12_isAboutTo 13 = .ok (.istore 4, 2) := by decide +kernel
theorem dX12_isAboutTo_15 : decode cX12_isAboutTo 15 = .ok (.iload 4, 2) := by decide +kernel
theorem dX12_isAboutTo_17 : decode cX12_isAboutTo 17 = .ok (.ifCond .eq 47, 3) := by decide +kernel
theorem dX12_isAboutTo_20 : decode cX12_isAboutTo 20 = .ok (.aload_n 0, 1) := by decide +kernel
theorem dX12_isAboutTo_21 : decode cX12_isAboutTo 21 = .ok (.iload_n 1, 1) := by decide +kernel
theorem dX12_isAboutTo_22 : decode cX12_isAboutTo 22 = .ok (.iload_n 2, 1) := by decide +kernel
theorem dX12_isAboutTo_23 : decode cX12_isAboutTo 23 = .ok (.invokevirtual 220, 3) := by decide +kernel
theorem dX12_isAboutTo_26 : decode cX12_isAboutTo 26 = .ok (.ifCond .eq 38, 3) := by decide +kernel
theorem dX12_isAboutTo_29 : decode cX12_isAboutTo 29 = .ok (.aload_n 0, 1) := by decide +kernel
theorem dX12_isAboutTo_30 : decode cX12_isAboutTo 30 = .ok (.getfield 25, 3) := by decide +kernel
theorem dX12_isAboutTo_33 : decode cX12_isAboutTo 33 = .ok (.bipush 7, 2) := by decide +kernel
theorem dX12_isAboutTo_35 : decode cX12_isAboutTo 35 = .ok (.iload_n 1, 1) := by decide +kernel
theorem dX12_isAboutTo_36 : decode cX12_isAboutTo 36 = .ok (.iadd, 1) := by decide +kernel
theorem dX12_isAboutTo_37 : decode cX12_isAboutTo 37 = .ok (.iaload, 1) := by decide +kernel
theorem dX12_isAboutTo_38 : decode cX12_isAboutTo 38 = .ok (.iload_n 2, 1) := by decide +kernel
theorem dX12_isAboutTo_39 : decode cX12_isAboutTo 39 = .ok (.ishr, 1) := by decide +kernel
theorem dX12_isAboutTo_40 : decode cX12_isAboutTo 40 = .ok (.iconst 1, 1) := by decide +kernel
theorem dX12_isAboutTo_41 : decode cX12_isAboutTo 41 = .ok (.iand, 1) := by decide +kernel
theorem dX12_isAboutTo_42 : decode cX12_isAboutTo 42 = .ok (.ifCond .ne 22, 3) := by decide +kernel
theorem dX12_isAboutTo_45 : decode cX12_isAboutTo 45 = .ok (.aload_n 0, 1) := by decide +kernel
theorem dX12_isAboutTo_46 : decode cX12_isAboutTo 46 = .ok (.getfield 19, 3) := by decide +kernel
theorem dX12_isAboutTo_49 : decode cX12_isAboutTo 49 = .ok (.bipush 30, 2) := by decide +kernel
theorem dX12_isAboutTo_51 : decode cX12_isAboutTo 51 = .ok (.iload_n 1, 1) := by decide +kernel
theorem dX12_isAboutTo_52 : decode cX12_isAboutTo 52 = .ok (.iadd, 1) := by decide +kernel
theorem dX12_isAboutTo_53 : decode cX12_isAboutTo 53 = .ok (.iaload, 1) := by decide +kernel
theorem dX12_isAboutTo_54 : decode cX12_isAboutTo 54 = .ok (.iload_n 3, 1) := by decide +kernel
theorem dX12_isAboutTo_55 : decode cX12_isAboutTo 55 = .ok (.iconst 1, 1) := by decide +kernel
theorem dX12_isAboutTo_56 : decode cX12_isAboutTo 56 = .ok (.iadd, 1) := by decide +kernel
theorem dX12_isAboutTo_57 : decode cX12_isAboutTo 57 = .ok (.if_icmp .gt 7, 3) := by decide +kernel
theorem dX12_isAboutTo_60 : decode cX12_isAboutTo 60 = .ok (.iconst 1, 1) := by decide +kernel
theorem dX12_isAboutTo_61 : decode cX12_isAboutTo 61 = .ok (.goto 4, 3) := by decide +kernel
theorem dX12_isAboutTo_64 : decode cX12_isAboutTo 64 = .ok (.iconst 0, 1) := by decide +kernel
theorem dX12_isAboutTo_65 : decode cX12_isAboutTo 65 = .ok (.ireturn, 1) := by decide +kernel
theorem dX12_sells_0 : decode cX12_sells 0 = .ok (.aload_n 0, 1) := by decide +kernel
theorem dX12_sells_1 : decode cX12_sells 1 = .ok (.getfield 19, 3) := by decide +kernel
theorem dX12_sells_4 : decode cX12_sells 4 = .ok (.bipush 24, 2) := by decide +kernel
theorem dX12_sells_6 : decode cX12_sells 6 = .ok (.iload_n 1, 1) := by decide +kernel
theorem dX12_sells_7 : decode cX12_sells 7 = .ok (.iadd, 1) := by decide +kernel
theorem dX12_sells_8 : decode cX12_sells 8 = .ok (.iaload, 1) := by decide +kernel
theorem dX12_sells_9 : decode cX12_sells 9 = .ok (.istore 4, 2) := by decide +kernel
theorem dX12_sells_11 : decode cX12_sells 11 = .ok (.iload 4, 2) := by decide +kernel
theorem dX12_sells_13 : decode cX12_sells 13 = .ok (.iconst 1, 1) := by decide +kernel
theorem dX12_sells_14 : decode cX12_sells 14 = .ok (.if_icmp .eq 9, 3) := by decide +kernel
theorem dX12_sells_17 : decode cX12_sells 17 = .ok (.iload 4, 2) := by decide +kernel
theorem dX12_sells_19 : decode cX12_sells 19 = .ok (.iconst 5, 1) := by decide +kernel
theorem dX12_sells_20 : decode cX12_sells 20 = .ok (.if_icmp .ne 15, 3) := by decide +kernel
theorem dX12_sells_23 : decode cX12_sells 23 = .ok (.iload 4, 2) := by decide +kernel
theorem dX12_sells_25 : decode cX12_sells 25 = .ok (.iconst 1, 1) := by decide +kernel
theorem dX12_sells_26 : decode cX12_sells 26 = .ok (.if_icmp .ne 7, 3) := by decide +kernel
theorem dX12_sells_29 : decode cX12_sells 29 = .ok (.iconst 1, 1) := by decide +kernel
theorem dX12_sells_30 : decode cX12_sells 30 = .ok (.goto 4, 3) := by decide +kernel
theorem dX12_sells_33 : decode cX12_sells 33 = .ok (.iconst 0, 1) := by decide +kernel
theorem dX12_sells_34 : decode cX12_sells 34 = .ok (.ireturn, 1) := by decide +kernel
theorem dX12_sells_35 : decode cX12_sells 35 = .ok (.iload_n 3, 1) := by decide +kernel
theorem dX12_sells_36 : decode cX12_sells 36 = .ok (.aload_n 0, 1) := by decide +kernel
theorem dX12_sells_37 : decode cX12_sells 37 = .ok (.getfield 19, 3) := by decide +kernel
theorem dX12_sells_40 : decode cX12_sells 40 = .ok (.bipush 30, 2) := by decide +kernel
theorem dX12_sells_42 : decode cX12_sells 42 = .ok (.iload_n 1, 1) := by decide +kernel
theorem dX12_sells_43 : decode cX12_sells 43 = .ok (.iadd, 1) := by decide +kernel
theorem dX12_sells_44 : decode cX12_sells 44 = .ok (.iaload, 1) := by decide +kernel
theorem dX12_sells_45 : decode cX12_sells 45 = .ok (.if_icmp .ge 27, 3) := by decide +kernel
theorem dX12_sells_48 : decode cX12_sells 48 = .ok (.iload 4, 2) := by decide +kernel
theorem dX12_sells_50 : decode cX12_sells 50 = .ok (.iconst 4, 1) := by decide +kernel
theorem dX12_sells_51 : decode cX12_sells 51 = .ok (.if_icmp .ne 25, 3) := by decide +kernel
theorem dX12_sells_54 : decode cX12_sells 54 = .ok (.aload_n 0, 1) := by decide +kernel
theorem dX12_sells_55 : decode cX12_sells 55 = .ok (.getfield 25, 3) := by decide +kernel
theorem dX12_sells_58 : decode cX12_sells 58 = .ok (.bipush 29, 2) := by decide +kernel
theorem dX12_sells_60 : decode cX12_sells 60 = .ok (.bipush 8, 2) := by decide +kernel
theorem dX12_sells_62 : decode cX12_sells 62 = .ok (.iload_n 1, 1) := by decide +kernel
theorem dX12_sells_63 : decode cX12_sells 63 = .ok (.imul, 1) := by decide +kernel
theorem dX12_sells_64 : decode cX12_sells 64 = .ok (.iadd, 1) := by decide +kernel
theorem dX12_sells_65 : decode cX12_sells 65 = .ok (.iload_n 2, 1) := by decide +kernel
theorem dX12_sells_66 : decode cX12_sells 66 = .ok (.iadd, 1) := by decide +kernel
theorem dX12_sells_67 : decode cX12_sells 67 = .ok (.iaload, 1) := by decide +kernel
theorem dX12_sells_68 : decode cX12_sells 68 = .ok (.iconst 1, 1) := by decide +kernel
theorem dX12_sells_69 : decode cX12_sells 69 = .ok (.if_icmp .ne 7, 3) := by decide +kernel
theorem dX12_sells_72 : decode cX12_sells 72 = .ok (.iconst 1, 1) := by decide +kernel
theorem dX12_sells_73 : decode cX12_sells 73 = .ok (.goto 4, 3) := by decide +kernel
theorem dX12_sells_76 : decode cX12_sells 76 = .ok (.iconst 0, 1) := by decide +kernel
theorem dX12_sells_77 : decode cX12_sells 77 = .ok (.istore 5, 2) := by decide +kernel
theorem dX12_sells_79 : decode cX12_sells 79 = .ok (.iconst 0, 1) := by decide +kernel
theorem dX12_sells_80 : decode cX12_sells 80 = .ok (.istore 6, 2) := by decide +kernel
theorem dX12_sells_82 : decode cX12_sells 82 = .ok (.iload 6, 2) := by decide +kernel
theorem dX12_sells_84 : decode cX12_sells 84 = .ok (.aload_n 0, 1) := by decide +kernel
theorem dX12_sells_85 : decode cX12_sells 85 = .ok (.getfield 19, 3) := by decide +kernel
theorem dX12_sells_88 : decode cX12_sells 88 = .ok (.iconst 3, 1) := by decide +kernel
theorem dX12_sells_89 : decode cX12_sells 89 = .ok (.iaload, 1) := by decide +kernel
theorem dX12_sells_90 : decode cX12_sells 90 = .ok (.if_icmp .ge 44, 3) := by decide +kernel
theorem dX12_sells_93 : decode cX12_sells 93 = .ok (.iload 4, 2) := by decide +kernel
theorem dX12_sells_95 : decode cX12_sells 95 = .ok (.iconst 3, 1) := by decide +kernel
theorem dX12_sells_96 : decode cX12_sells 96 = .ok (.if_icmp .ne 38, 3) := by decide +kernel
theorem dX12_sells_99 : decode cX12_sells 99 = .ok (.iload 5, 2) := by decide +kernel
theorem dX12_sells_101 : decode cX12_sells 101 = .ok (.ifCond .ne 20, 3) := by decide +kernel
theorem dX12_sells_104 : decode cX12_sells 104 = .ok (.iload 6, 2) := by decide +kernel
theorem dX12_sells_106 : decode cX12_sells 106 = .ok (.iload_n 1, 1) := by decide +kernel
theorem dX12_sells_107 : decode cX12_sells 107 = .ok (.if_icmp .eq 18, 3) := by decide +kernel
theorem dX12_sells_110 : decode cX12_sells 110 = .ok (.aload_n 0, 1) := by decide +kernel
theorem dX12_sells_111 : decode cX12_sells 111 = .ok (.iload 6, 2) := by decide +kernel
theorem dX12_sells_113 : decode cX12_sells 113 = .ok (.iload_n 2, 1) := by decide +kernel
theorem dX12_sells_114 : decode cX12_sells 114 = .ok (.iload_n 3, 1) := by decide +kernel
theorem dX12_sells_115 : decode cX12_sells 115 = .ok (.invokevirtual 230, 3) := by decide +kernel
theorem dX12_sells_118 : decode cX12_sells 118 = .ok (.ifCond .eq 7, 3) := by decide +kernel
theorem dX12_sells_121 : decode cX12_sells 121 = .ok (.iconst 1, 1) := by decide +kernel
theorem dX12_sells_122 : decode cX12_sells 122 = .ok (.goto 4, 3) := by decide +kernel
theorem dX12_sells_125 : decode cX12_sells 125 = .ok (.iconst 0, 1) := by decide +kernel
theorem dX12_sells_126 : decode cX12_sells 126 = .ok (.istore 5, 2) := by decide +kernel
theorem dX12_sells_128 : decode cX12_sells 128 = .ok (.iinc 6 1, 3) := by decide +kernel
theorem dX12_sells_131 : decode cX12_sells 131 = .ok (.goto (-49), 3) := by decide +kernel
theorem dX12_sells_134 : decode cX12_sells 134 = .ok (.iload 5, 2) := by decide +kernel
theorem dX12_sells_136 : decode cX12_sells 136 = .ok (.ireturn, 1) := by decide +kernel
theorem dX12_sellAll_0 : decode cX12_sellAll 0 = .ok (.aload_n 0, 1) := by decide +kernel
theorem dX12_sellAll_1 : decode cX12_sellAll 1 = .ok (.getfield 25, 3) := by decide +kernel
theorem dX12_sellAll_4 : decode cX12_sellAll 4 = .ok (.iconst 0, 1) := by decide +kernel
theorem dX12_sellAll_5 : decode cX12_sellAll 5 = .ok (.iaload, 1) := by decide +kernel
theorem dX12_sellAll_6 : decode cX12_sellAll 6 = .ok (.istore_n 1, 1) := by decide +kernel
theorem dX12_sellAll_7 : decode cX12_sellAll 7 = .ok (.iconst 0, 1) := by decide +kernel
theorem dX12_sellAll_8 : decode cX12_sellAll 8 = .ok (.istore_n 2, 1) := by decide +kernel
theorem dX12_sellAll_9 : decode cX12_sellAll 9 = .ok (.iload_n 2, 1) := by decide +kernel
theorem dX12_sellAll_10 : decode cX12_sellAll 10 = .ok (.aload_n 0, 1) := by decide +kernel
theorem dX12_sellAll_11 : decode cX12_sellAll 11 = .ok (.getfield 19, 3) := by decide +kernel
theorem dX12_sellAll_14 : decode cX12_sellAll 14 = .ok (.iconst 3, 1) := by decide +kernel
theorem dX12_sellAll_15 : decode cX12_sellAll 15 = .ok (.iaload, 1) := by decide +kernel
theorem dX12_sellAll_16 : decode cX12_sellAll 16 = .ok (.if_icmp .ge 164, 3) := by decide +kernel
theorem dX12_sellAll_19 : decode cX12_sellAll 19 = .ok (.iconst 0, 1) := by decide +kernel
theorem dX12_sellAll_20 : decode cX12_sellAll 20 = .ok (.istore_n 3, 1) := by decide +kernel
theorem dX12_sellAll_21 : decode cX12_sellAll 21 = .ok (.iload_n 3, 1) := by decide +kernel
theorem dX12_sellAll_22 : decode cX12_sellAll 22 = .ok (.aload_n 0, 1) := by decide +kernel
theorem dX12_sellAll_23 : decode cX12_sellAll 23 = .ok (.getfield 19, 3) := by decide +kernel
theorem dX12_sellAll_26 : decode cX12_sellAll 26 = .ok (.iconst 4, 1) := by decide +kernel
theorem dX12_sellAll_27 : decode cX12_sellAll 27 = .ok (.iaload, 1) := by decide +kernel
theorem dX12_sellAll_28 : decode cX12_sellAll 28 = .ok (.if_icmp .ge 146, 3) := by decide +kernel
theorem dX12_sellAll_31 : decode cX12_sellAll 31 = .ok (.aload_n 0, 1) := by decide +kernel
theorem dX12_sellAll_32 : decode cX12_sellAll 32 = .ok (.iload_n 2, 1) := by decide +kernel
theorem dX12_sellAll_33 : decode cX12_sellAll 33 = .ok (.iload_n 3, 1) := by decide +kernel
theorem dX12_sellAll_34 : decode cX12_sellAll 34 = .ok (.invokevirtual 220, 3) := by decide +kernel
theorem dX12_sellAll_37 : decode cX12_sellAll 37 = .ok (.ifCond .eq 33, 3) := by decide +kernel
theorem dX12_sellAll_40 : decode cX12_sellAll 40 = .ok (.aload_n 0, 1) := by decide +kernel
theorem dX12_sellAll_41 : decode cX12_sellAll 41 = .ok (.getfield 25, 3) := by decide +kernel
theorem dX12_sellAll_44 : decode cX12_sellAll 44 = .ok (.bipush 7, 2) := by decide +kernel
theorem dX12_sellAll_46 : decode cX12_sellAll 46 = .ok (.iload_n 2, 1) := by decide +kernel
theorem dX12_sellAll_47 : decode cX12_sellAll 47 = .ok (.iadd, 1) := by decide +kernel
theorem dX12_sellAll_48 : decode cX12_sellAll 48 = .ok (.iaload, 1) := by decide +kernel
theorem dX12_sellAll_49 : decode cX12_sellAll 49 = .ok (.iload_n 3, 1) := by decide +kernel
theorem dX12_sellAll_50 : decode cX12_sellAll 50 = .ok (.ishr, 1) := by decide +kernel
theorem dX12_sellAll_51 : decode cX12_sellAll 51 = .ok (.iconst 1, 1) := by decide +kernel
theorem dX12_sellAll_52 : decode cX12_sellAll 52 = .ok (.iand, 1) := by decide +kernel
theorem dX12_sellAll_53 : decode cX12_sellAll 53 = .ok (.ifCond .ne 17, 3) := by decide +kernel
theorem dX12_sellAll_56 : decode cX12_sellAll 56 = .ok (.aload_n 0, 1) := by decide +kernel
theorem dX12_sellAll_57 : decode cX12_sellAll 57 = .ok (.iload_n 2, 1) := by decide +kernel
theorem dX12_sellAll_58 : decode cX12_sellAll 58 = .ok (.iload_n 3, 1) := by decide +kernel
theorem dX12_sellAll_59 : decode cX12_sellAll 59 = .ok (.iload_n 1, 1) := by decide +kernel
theorem dX12_sellAll_60 : decode cX12_sellAll 60 = .ok (.invokevirtual 234, 3) := by decide +kernel
theorem dX12_sellAll_63 : decode cX12_sellAll 63 = .ok (.ifCond .eq 7, 3) := by decide +kernel
theorem dX12_sellAll_66 : decode cX12_sellAll 66 = .ok (.iconst 1, 1) := by decide +kernel
theorem dX12_sellAll_67 : decode cX12_sellAll 67 = .ok (.goto 4, 3) := by decide +kernel
theorem dX12_sellAll_70 : decode cX12_sellAll 70 = .ok (.iconst 0, 1) := by decide +kernel
theorem dX12_sellAll_71 : decode cX12_sellAll 71 = .ok (.istore 4, 2) := by decide +kernel
theorem dX12_sellAll_73 : decode cX12_sellAll 73 = .ok (.aload_n 0, 1) := by decide +kernel
theorem dX12_sellAll_74 : decode cX12_sellAll 74 = .ok (.getfield 25, 3) := by decide +kernel
theorem dX12_sellAll_77 : decode cX12_sellAll 77 = .ok (.iconst 1, 1) := by decide +kernel
theorem dX12_sellAll_78 : decode cX12_sellAll 78 = .ok (.iload_n 2, 1) := by decide +kernel
theorem dX12_sellAll_79 : decode cX12_sellAll 79 = .ok (.iadd, 1) := by decide +kernel
theorem dX12_sellAll_80 : decode cX12_sellAll 80 = .ok (.dup2, 1) := by decide +kernel
theorem dX12_sellAll_81 : decode cX12_sellAll 81 = .ok (.iaload, 1) := by decide +kernel
theorem dX12_sellAll_82 : decode cX12_sellAll 82 = .ok (.iload 4, 2) := by decide +kernel
theorem dX12_sellAll_84 : decode cX12_sellAll 84 = .ok (.ifCond .eq 16, 3) := by decide +kernel
theorem dX12_sellAll_87 : decode cX12_sellAll 87 = .ok (.aload_n 0, 1) := by decide +kernel
theorem dX12_sellAll_88 : decode cX12_sellAll 88 = .ok (.iload_n 1, 1) := by decide +kernel
theorem dX12_sellAll_89 : decode cX12_sellAll 89 = .ok (.aload_n 0, 1) := by decide +kernel
theorem dX12_sellAll_90 : decode cX12_sellAll 90 = .ok (.iload_n 3, 1) := by decide +kernel
theorem dX12_sellAll_91 : decode cX12_sellAll 91 = .ok (.invokevirtual 237, 3) := by decide +kernel
theorem dX12_sellAll_94 : decode cX12_sellAll 94 = .ok (.invokevirtual 240, 3) := by decide +kernel
theorem dX12_sellAll_97 : decode cX12_sellAll 97 = .ok (.goto 4, 3) := by decide +kernel
theorem dX12_sellAll_100 : decode cX12_sellAll 100 = .ok (.iconst 0, 1) := by decide +kernel
theorem dX12_sellAll_101 : decode cX12_sellAll 101 = .ok (.iadd, 1) := by decide +kernel
theorem dX12_sellAll_102 : decode cX12_sellAll 102 = .ok (.iastore, 1) := by decide +kernel
theorem dX12_sellAll_103 : decode cX12_sellAll 103 = .ok (.aload_n 0, 1) := by decide +kernel
theorem dX12_sellAll_104 : decode cX12_sellAll 104 = .ok (.getfield 25, 3) := by decide +kernel
theorem dX12_sellAll_107 : decode cX12_sellAll 107 = .ok (.bipush 7, 2) := by decide +kernel
theorem dX12_sellAll_109 : decode cX12_sellAll 109 = .ok (.iload_n 2, 1) := by decide +kernel
theorem dX12_sellAll_110 : decode cX12_sellAll 110 = .ok (.iadd, 1) := by decide +kernel
theorem dX12_sellAll_111 : decode cX12_sellAll 111 = .ok (.dup2, 1) := by decide +kernel
theorem dX12_sellAll_112 : decode cX12_sellAll 112 = .ok (.iaload, 1) := by decide +kernel
theorem dX12_sellAll_113 : decode cX12_sellAll 113 = .ok (.iload 4, 2) := by decide +kernel
theorem dX12_sellAll_115 : decode cX12_sellAll 115 = .ok (.ifCond .eq 9, 3) := by decide +kernel
theorem dX12_sellAll_118 : decode cX12_sellAll 118 = .ok (.iconst 1, 1) := by decide +kernel
theorem dX12_sellAll_119 : decode cX12_sellAll 119 = .ok (.iload_n 3, 1) := by decide +kernel
theorem dX12_sellAll_120 : decode cX12_sellAll 120 = .ok (.ishl, 1) := by decide +kernel
theorem dX12_sellAll_121 : decode cX12_sellAll 121 = .ok (.goto 4, 3) := by decide +kernel
theorem dX12_sellAll_124 : decode cX12_sellAll 124 = .ok (.iconst 0, 1) := by decide +kernel
theorem dX12_sellAll_125 : decode cX12_sellAll 125 = .ok (.ior, 1) := by decide +kernel
theorem dX12_sellAll_126 : decode cX12_sellAll 126 = .ok (.iastore, 1) := by decide +kernel
theorem dX12_sellAll_127 : decode cX12_sellAll 127 = .ok (.aload_n 0, 1) := by decide +kernel
theorem dX12_sellAll_128 : decode cX12_sellAll 128 = .ok (.getfield 25, 3) := by decide +kernel
theorem dX12_sellAll_131 : decode cX12_sellAll 131 = .ok (.bipush 21, 2) := by decide +kernel
theorem dX12_sellAll_133 : decode cX12_sellAll 133 = .ok (.iload_n 3, 1) := by decide +kernel
theorem dX12_sellAll_134 : decode cX12_sellAll 134 = .ok (.iadd, 1) := by decide +kernel
theorem dX12_sellAll_135 : decode cX12_sellAll 135 = .ok (.iload 4, 2) := by decide +kernel
theorem dX12_sellAll_137 : decode cX12_sellAll 137 = .ok (.ifCond .eq 21, 3) := by decide +kernel
theorem dX12_sellAll_140 : decode cX12_sellAll 140 = .ok (.aload_n 0, 1) := by decide +kernel
theorem dX12_sellAll_141 : decode cX12_sellAll 141 = .ok (.getfield 25, 3) := by decide +kernel
theorem dX12_sellAll_144 : decode cX12_sellAll 144 = .ok (.bipush 21, 2) := by decide +kernel
theorem dX12_sellAll_146 : decode cX12_sellAll 146 = .ok (.iload_n 3, 1) := by decide +kernel
theorem dX12_sellAll_147 : decode cX12_sellAll 147 = .ok (.iadd, 1) := by decide +kernel
theorem dX12_sellAll_148 : decode cX12_sellAll 148 = .ok (.iaload, 1) := by decide +kernel
theorem dX12_sellAll_149 : decode cX12_sellAll 149 = .ok (.ldc 92, 2) := by decide +kernel
theorem dX12_sellAll_151 : decode cX12_sellAll 151 = .ok (.if_icmp .ne 7, 3) := by decide +kernel
theorem dX12_sellAll_154 : decode cX12_sellAll 154 = .ok (.iload_n 1, 1) := by decide +kernel
theorem dX12_sellAll_155 : decode cX12_sellAll 155 = .ok (.goto 12, 3) := by decide +kernel
theorem dX12_sellAll_158 : decode cX12_sellAll 158 = .ok (.aload_n 0, 1) := by decide +kernel
theorem dX12_sellAll_159 : decode cX12_sellAll 159 = .ok (.getfield 25, 3) := by decide +kernel
theorem dX12_sellAll_162 : decode cX12_sellAll 162 = .ok (.bipush 21, 2) := by decide +kernel
theorem dX12_sellAll_164 : decode cX12_sellAll 164 = .ok (.iload_n 3, 1) := by decide +kernel
theorem dX12_sellAll_165 : decode cX12_sellAll 165 = .ok (.iadd, 1) := by decide +kernel
theorem dX12_sellAll_166 : decode cX12_sellAll 166 = .ok (.iaload, 1) := by decide +kernel
theorem dX12_sellAll_167 : decode cX12_sellAll 167 = .ok (.iastore, 1) := by decide +kernel
theorem dX12_sellAll_168 : decode cX12_sellAll 168 = .ok (.iinc 3 1, 3) := by decide +kernel
theorem dX12_sellAll_171 : decode cX12_sellAll 171 = .ok (.goto (-150), 3) := by decide +kernel
theorem dX12_sellAll_174 : decode cX12_sellAll 174 = .ok (.iinc 2 1, 3) := by decide +kernel
theorem dX12_sellAll_177 : decode cX12_sellAll 177 = .ok (.goto (-168), 3) := by decide +kernel
theorem dX12_sellAll_180 : decode cX12_sellAll 180 = .ok (.return_, 1) := by decide +kernel
theorem dX12_year_0 : decode cX12_year 0 = .ok (.aload_n 0, 1) := by decide +kernel
theorem dX12_year_1 : decode cX12_year 1 = .ok (.invokevirtual 243, 3) := by decide +kernel
theorem dX12_year_4 : decode cX12_year 4 = .ok (.iconst 0, 1) := by decide +kernel
theorem dX12_year_5 : decode cX12_year 5 = .ok (.istore_n 2, 1) := by decide +kernel
theorem dX12_year_6 : decode cX12_year 6 = .ok (.iload_n 2, 1) := by decide +kernel
theorem dX12_year_7 : decode cX12_year 7 = .ok (.bipush 8, 2) := by decide +kernel
theorem dX12_year_9 : decode cX12_year 9 = .ok (.aload_n 0, 1) := by decide +kernel
theorem dX12_year_10 : decode cX12_year 10 = .ok (.getfield 19, 3) := by decide +kernel
theorem dX12_year_13 : decode cX12_year 13 = .ok (.iconst 3, 1) := by decide +kernel
theorem dX12_year_14 : decode cX12_year 14 = .ok (.iaload, 1) := by decide +kernel
theorem dX12_year_15 : decode cX12_year 15 = .ok (.imul, 1) := by decide +kernel
theorem dX12_year_16 : decode cX12_year 16 = .ok (.if_icmp .ge 131, 3) := by decide +kernel
theorem dX12_year_19 : decode cX12_year 19 = .ok (.aload_n 0, 1) := by decide +kernel
theorem dX12_year_20 : decode cX12_year 20 = .ok (.getfield 25, 3) := by decide +kernel
theorem dX12_year_23 : decode cX12_year 23 = .ok (.bipush 29, 2) := by decide +kernel
theorem dX12_year_25 : decode cX12_year 25 = .ok (.iload_n 2, 1) := by decide +kernel
theorem dX12_year_26 : decode cX12_year 26 = .ok (.iadd, 1) := by decide +kernel
theorem dX12_year_27 : decode cX12_year 27 = .ok (.iaload, 1) := by decide +kernel
theorem dX12_year_28 : decode cX12_year 28 = .ok (.istore_n 3, 1) := by decide +kernel
theorem dX12_year_29 : decode cX12_year 29 = .ok (.iconst 0, 1) := by decide +kernel
theorem dX12_year_30 : decode cX12_year 30 = .ok (.istore 4, 2) := by decide +kernel
theorem dX12_year_32 : decode cX12_year 32 = .ok (.iload 4, 2) := by decide +kernel
theorem dX12_year_34 : decode cX12_year 34 = .ok (.iload_n 3, 1) := by decide +kernel
theorem dX12_year_35 : decode cX12_year 35 = .ok (.if_icmp .ge 56, 3) := by decide +kernel
theorem dX12_year_38 : decode cX12_year 38 = .ok (.aload_n 0, 1) := by decide +kernel
theorem dX12_year_39 : decode cX12_year 39 = .ok (.aload_n 0, 1) := by decide +kernel
theorem dX12_year_40 : decode cX12_year 40 = .ok (.getfield 246, 3) := by decide +kernel
theorem dX12_year_43 : decode cX12_year 43 = .ok (.ldc2_w 250, 3) := by decide +kernel
theorem dX12_year_46 : decode cX12_year 46 = .ok (.lmul, 1) := by decide +kernel
theorem dX12_year_47 : decode cX12_year 47 = .ok (.ldc2_w 252, 3) := by decide +kernel
theorem dX12_year_50 : decode cX12_year 50 = .ok (.lrem, 1) := by decide +kernel
theorem dX12_year_51 : decode cX12_year 51 = .ok (.putfield 246, 3) := by decide +kernel
theorem dX12_year_54 : decode cX12_year 54 = .ok (.aload_n 0, 1) := by decide +kernel
theorem dX12_year_55 : decode cX12_year 55 = .ok (.getfield 25, 3) := by decide +kernel
theorem dX12_year_58 : decode cX12_year 58 = .ok (.bipush 29, 2) := by decide +kernel
theorem dX12_year_60 : decode cX12_year 60 = .ok (.iload_n 2, 1) := by decide +kernel
theorem dX12_year_61 : decode cX12_year 61 = .ok (.iadd, 1) := by decide +kernel
theorem dX12_year_62 : decode cX12_year 62 = .ok (.dup2, 1) := by decide +kernel
theorem dX12_year_63 : decode cX12_year 63 = .ok (.iaload, 1) := by decide +kernel
theorem dX12_year_64 : decode cX12_year 64 = .ok (.aload_n 0, 1) := by decide +kernel
theorem dX12_year_65 : decode cX12_year 65 = .ok (.getfield 246, 3) := by decide +kernel
theorem dX12_year_68 : decode cX12_year 68 = .ok (.ldc2_w 254, 3) := by decide +kernel
theorem dX12_year_71 : decode cX12_year 71 = .ok (.lrem, 1) := by decide +kernel
theorem dX12_year_72 : decode cX12_year 72 = .ok (.iload_n 1, 1) := by decide +kernel
theorem dX12_year_73 : decode cX12_year 73 = .ok (.i2l, 1) := by decide +kernel
theorem dX12_year_74 : decode cX12_year 74 = .ok (.lcmp, 1) := by decide +kernel
theorem dX12_year_75 : decode cX12_year 75 = .ok (.ifCond .ge 7, 3) := by decide +kernel
theorem dX12_year_78 : decode cX12_year 78 = .ok (.iconst 1, 1) := by decide +kernel
theorem dX12_year_79 : decode cX12_year 79 = .ok (.goto 4, 3) := by decide +kernel
theorem dX12_year_82 : decode cX12_year 82 = .ok (.iconst 0, 1) := by decide +kernel
theorem dX12_year_83 : decode cX12_year 83 = .ok (.isub, 1) := by decide +kernel
theorem dX12_year_84 : decode cX12_year 84 = .ok (.iastore, 1) := by decide +kernel
theorem dX12_year_85 : decode cX12_year 85 = .ok (.iinc 4 1, 3) := by decide +kernel
theorem dX12_year_88 : decode cX12_year 88 = .ok (.goto (-56), 3) := by decide +kernel
theorem dX12_year_91 : decode cX12_year 91 = .ok (.aload_n 0, 1) := by decide +kernel
theorem dX12_year_92 : decode cX12_year 92 = .ok (.getfield 25, 3) := by decide +kernel
theorem dX12_year_95 : decode cX12_year 95 = .ok (.iconst 1, 1) := by decide +kernel
theorem dX12_year_96 : decode cX12_year 96 = .ok (.iload_n 2, 1) := by decide +kernel
theorem dX12_year_97 : decode cX12_year 97 = .ok (.bipush 8, 2) := by decide +kernel
theorem dX12_year_99 : decode cX12_year 99 = .ok (.idiv, 1) := by decide +kernel
theorem dX12_year_100 : decode cX12_year 100 = .ok (.iadd, 1) := by decide +kernel
theorem dX12_year_101 : decode cX12_year 101 = .ok (.dup2, 1) := by decide +kernel
theorem dX12_year_102 : decode cX12_year 102 = .ok (.iaload, 1) := by decide +kernel
theorem dX12_year_103 : decode cX12_year 103 = .ok (.aload_n 0, 1) := by decide +kernel
theorem dX12_year_104 : decode cX12_year 104 = .ok (.getfield 25, 3) := by decide +kernel
theorem dX12_year_107 : decode cX12_year 107 = .ok (.bipush 29, 2) := by decide +kernel
theorem dX12_year_109 : decode cX12_year 109 = .ok (.iload_n 2, 1) := by decide +kernel
theorem dX12_year_110 : decode cX12_year 110 = .ok (.iadd, 1) := by decide +kernel
theorem dX12_year_111 : decode cX12_year 111 = .ok (.iaload, 1) := by decide +kernel
theorem dX12_year_112 : decode cX12_year 112 = .ok (.iconst 1, 1) := by decide +kernel
theorem dX12_year_113 : decode cX12_year 113 = .ok (.if_icmp .le 25, 3) := by decide +kernel
theorem dX12_year_116 : decode cX12_year 116 = .ok (.aload_n 0, 1) := by decide +kernel
theorem dX12_year_117 : decode cX12_year 117 = .ok (.getfield 25, 3) := by decide +kernel
theorem dX12_year_120 : decode cX12_year 120 = .ok (.bipush 29, 2) := by decide +kernel
theorem dX12_year_122 : decode cX12_year 122 = .ok (.iload_n 2, 1) := by decide +kernel
theorem dX12_year_123 : decode cX12_year 123 = .ok (.iadd, 1) := by decide +kernel
theorem dX12_year_124 : decode cX12_year 124 = .ok (.iaload, 1) := by decide +kernel
theorem dX12_year_125 : decode cX12_year 125 = .ok (.iconst 1, 1) := by decide +kernel
theorem dX12_year_126 : decode cX12_year 126 = .ok (.isub, 1) := by decide +kernel
theorem dX12_year_127 : decode cX12_year 127 = .ok (.aload_n 0, 1) := by decide +kernel
theorem dX12_year_128 : decode cX12_year 128 = .ok (.getfield 19, 3) := by decide +kernel
theorem dX12_year_131 : decode cX12_year 131 = .ok (.bipush 7, 2) := by decide +kernel
theorem dX12_year_133 : decode cX12_year 133 = .ok (.iaload, 1) := by decide +kernel
theorem dX12_year_134 : decode cX12_year 134 = .ok (.imul, 1) := by decide +kernel
theorem dX12_year_135 : decode cX12_year 135 = .ok (.goto 4, 3) := by decide +kernel
theorem dX12_year_138 : decode cX12_year 138 = .ok (.iconst 0, 1) := by decide +kernel
theorem dX12_year_139 : decode cX12_year 139 = .ok (.isub, 1) := by decide +kernel
theorem dX12_year_140 : decode cX12_year 140 = .ok (.iastore, 1) := by decide +kernel
theorem dX12_year_141 : decode cX12_year 141 = .ok (.iinc 2 1, 3) := by decide +kernel
theorem dX12_year_144 : decode cX12_year 144 = .ok (.goto (-138), 3) := by decide +kernel
theorem dX12_year_147 : decode cX12_year 147 = .ok (.iconst 0, 1) := by decide +kernel
theorem dX12_year_148 : decode cX12_year 148 = .ok (.istore_n 2, 1) := by decide +kernel
theorem dX12_year_149 : decode cX12_year 149 = .ok (.iload_n 2, 1) := by decide +kernel
theorem dX12_year_150 : decode cX12_year 150 = .ok (.aload_n 0, 1) := by decide +kernel
theorem dX12_year_151 : decode cX12_year 151 = .ok (.getfield 19, 3) := by decide +kernel
theorem dX12_year_154 : decode cX12_year 154 = .ok (.iconst 4, 1) := by decide +kernel
theorem dX12_year_155 : decode cX12_year 155 = .ok (.iaload, 1) := by decide +kernel
theorem dX12_year_156 : decode cX12_year 156 = .ok (.if_icmp .ge 46, 3) := by decide +kernel
theorem dX12_year_159 : decode cX12_year 159 = .ok (.aload_n 0, 1) := by decide +kernel
theorem dX12_year_160 : decode cX12_year 160 = .ok (.getfield 25, 3) := by decide +kernel
theorem dX12_year_163 : decode cX12_year 163 = .ok (.bipush 13, 2) := by decide +kernel
theorem dX12_year_165 : decode cX12_year 165 = .ok (.iload_n 2, 1) := by decide +kernel
theorem dX12_year_166 : decode cX12_year 166 = .ok (.iadd, 1) := by decide +kernel
theorem dX12_year_167 : decode cX12_year 167 = .ok (.dup2, 1) := by decide +kernel
theorem dX12_year_168 : decode cX12_year 168 = .ok (.iaload, 1) := by decide +kernel
theorem dX12_year_169 : decode cX12_year 169 = .ok (.aload_n 0, 1) := by decide +kernel
theorem dX12_year_170 : decode cX12_year 170 = .ok (.getfield 25, 3) := by decide +kernel
theorem dX12_year_173 : decode cX12_year 173 = .ok (.bipush 21, 2) := by decide +kernel
theorem dX12_year_175 : decode cX12_year 175 = .ok (.iload_n 2, 1) := by decide +kernel
theorem dX12_year_176 : decode cX12_year 176 = .ok (.iadd, 1) := by decide +kernel
theorem dX12_year_177 : decode cX12_year 177 = .ok (.iaload, 1) := by decide +kernel
theorem dX12_year_178 : decode cX12_year 178 = .ok (.ldc 92, 2) := by decide +kernel
theorem dX12_year_180 : decode cX12_year 180 = .ok (.if_icmp .ne 7, 3) := by decide +kernel
theorem dX12_year_183 : decode cX12_year 183 = .ok (.iconst 0, 1) := by decide +kernel
theorem dX12_year_184 : decode cX12_year 184 = .ok (.goto 10, 3) := by decide +kernel
theorem dX12_year_187 : decode cX12_year 187 = .ok (.aload_n 0, 1) := by decide +kernel
theorem dX12_year_188 : decode cX12_year 188 = .ok (.getfield 19, 3) := by decide +kernel
theorem dX12_year_191 : decode cX12_year 191 = .ok (.bipush 6, 2) := by decide +kernel
theorem dX12_year_193 : decode cX12_year 193 = .ok (.iaload, 1) := by decide +kernel
theorem dX12_year_194 : decode cX12_year 194 = .ok (.iadd, 1) := by decide +kernel
theorem dX12_year_195 : decode cX12_year 195 = .ok (.iastore, 1) := by decide +kernel
theorem dX12_year_196 : decode cX12_year 196 = .ok (.iinc 2 1, 3) := by decide +kernel
theorem dX12_year_199 : decode cX12_year 199 = .ok (.goto (-50), 3) := by decide +kernel
theorem dX12_year_202 : decode cX12_year 202 = .ok (.aload_n 0, 1) := by decide +kernel
theorem dX12_year_203 : decode cX12_year 203 = .ok (.getfield 25, 3) := by decide +kernel
theorem dX12_year_206 : decode cX12_year 206 = .ok (.iconst 0, 1) := by decide +kernel
theorem dX12_year_207 : decode cX12_year 207 = .ok (.dup2, 1) := by decide +kernel
theorem dX12_year_208 : decode cX12_year 208 = .ok (.iaload, 1) := by decide +kernel
theorem dX12_year_209 : decode cX12_year 209 = .ok (.iconst 1, 1) := by decide +kernel
theorem dX12_year_210 : decode cX12_year 210 = .ok (.iadd, 1) := by decide +kernel
theorem dX12_year_211 : decode cX12_year 211 = .ok (.iastore, 1) := by decide +kernel
theorem dX12_year_212 : decode cX12_year 212 = .ok (.return_, 1) := by decide +kernel
theorem dX12_go_0 : decode cX12_go 0 = .ok (.aload_n 0, 1) := by decide +kernel
theorem dX12_go_1 : decode cX12_go 1 = .ok (.iconst 0, 1) := by decide +kernel
theorem dX12_go_2 : decode cX12_go 2 = .ok (.putfield 56, 3) := by decide +kernel
theorem dX12_go_5 : decode cX12_go 5 = .ok (.aload_n 0, 1) := by decide +kernel
theorem dX12_go_6 : decode cX12_go 6 = .ok (.getfield 200, 3) := by decide +kernel
theorem dX12_go_9 : decode cX12_go 9 = .ok (.ifCond .ne 6, 3) := by decide +kernel
theorem dX12_go_12 : decode cX12_go 12 = .ok (.ldc 214, 2) := by decide +kernel
theorem dX12_go_14 : decode cX12_go 14 = .ok (.ireturn, 1) := by decide +kernel
theorem dX12_go_15 : decode cX12_go 15 = .ok (.iload_n 1, 1) := by decide +kernel
theorem dX12_go_16 : decode cX12_go 16 = .ok (.i2l, 1) := by decide +kernel
theorem dX12_go_17 : decode cX12_go 17 = .ok (.lconst 1, 1) := by decide +kernel
theorem dX12_go_18 : decode cX12_go 18 = .ok (.ldc2_w 256, 3) := by decide +kernel
theorem dX12_go_21 : decode cX12_go 21 = .ok (.invokestatic 66, 3) := by decide +kernel
theorem dX12_go_24 : decode cX12_go 24 = .ok (.ifCond .eq 15, 3) := by decide +kernel
theorem dX12_go_27 : decode cX12_go 27 = .ok (.iload_n 2, 1) := by decide +kernel
theorem dX12_go_28 : decode cX12_go 28 = .ok (.i2l, 1) := by decide +kernel
theorem dX12_go_29 : decode cX12_go 29 = .ok (.lconst 1, 1) := by decide +kernel
theorem dX12_go_30 : decode cX12_go 30 = .ok (.ldc2_w 258, 3) := by decide +kernel
theorem dX12_go_33 : decode cX12_go 33 = .ok (.invokestatic 66, 3) := by decide +kernel
theorem dX12_go_36 : decode cX12_go 36 = .ok (.ifCond .ne 6, 3) := by decide +kernel
theorem dX12_go_39 : decode cX12_go 39 = .ok (.ldc 76, 2) := by decide +kernel
theorem dX12_go_41 : decode cX12_go 41 = .ok (.ireturn, 1) := by decide +kernel
theorem dX12_go_42 : decode cX12_go 42 = .ok (.aload_n 0, 1) := by decide +kernel
theorem dX12_go_43 : decode cX12_go 43 = .ok (.iload_n 2, 1) := by decide +kernel
theorem dX12_go_44 : decode cX12_go 44 = .ok (.i2l, 1) := by decide +kernel
theorem dX12_go_45 : decode cX12_go 45 = .ok (.putfield 246, 3) := by decide +kernel
theorem dX12_go_48 : decode cX12_go 48 = .ok (.iconst 0, 1) := by decide +kernel
theorem dX12_go_49 : decode cX12_go 49 = .ok (.istore_n 3, 1) := by decide +kernel
theorem dX12_go_50 : decode cX12_go 50 = .ok (.iload_n 3, 1) := by decide +kernel
theorem dX12_go_51 : decode cX12_go 51 = .ok (.iload_n 1, 1) := by decide +kernel
theorem dX12_go_52 : decode cX12_go 52 = .ok (.if_icmp .ge 19, 3) := by decide +kernel
theorem dX12_go_55 : decode cX12_go 55 = .ok (.aload_n 0, 1) := by decide +kernel
theorem dX12_go_56 : decode cX12_go 56 = .ok (.aload_n 0, 1) := by decide +kernel
theorem dX12_go_57 : decode cX12_go 57 = .ok (.getfield 19, 3) := by decide +kernel
theorem dX12_go_60 : decode cX12_go 60 = .ok (.iconst 5, 1) := by decide +kernel
theorem dX12_go_61 : decode cX12_go 61 = .ok (.iaload, 1) := by decide +kernel
theorem dX12_go_62 : decode cX12_go 62 = .ok (.invokevirtual 260, 3) := by decide +kernel
theorem dX12_go_65 : decode cX12_go 65 = .ok (.iinc 3 1, 3) := by decide +kernel
theorem dX12_go_68 : decode cX12_go 68 = .ok (.goto (-18), 3) := by decide +kernel
theorem dX12_go_71 : decode cX12_go 71 = .ok (.aload_n 0, 1) := by decide +kernel
theorem dX12_go_72 : decode cX12_go 72 = .ok (.getfield 25, 3) := by decide +kernel
theorem dX12_go_75 : decode cX12_go 75 = .ok (.iconst 0, 1) := by decide +kernel
theorem dX12_go_76 : decode cX12_go 76 = .ok (.iaload, 1) := by decide +kernel
theorem dX12_go_77 : decode cX12_go 77 = .ok (.ireturn, 1) := by decide +kernel
theorem dX12_tell_0 : decode cX12_tell 0 = .ok (.aload_n 0, 1) := by decide +kernel
theorem dX12_tell_1 : decode cX12_tell 1 = .ok (.iconst 0, 1) := by decide +kernel
theorem dX12_tell_2 : decode cX12_tell 2 = .ok (.putfield 56, 3) := by decide +kernel
theorem dX12_tell_5 : decode cX12_tell 5 = .ok (.aload_n 0, 1) := by decide +kernel
theorem dX12_tell_6 : decode cX12_tell 6 = .ok (.iload_n 1, 1) := by decide +kernel
theorem dX12_tell_7 : decode cX12_tell 7 = .ok (.invokevirtual 263, 3) := by decide +kernel
theorem dX12_tell_10 : decode cX12_tell 10 = .ok (.ifCond .eq 24, 3) := by decide +kernel
theorem dX12_tell_13 : decode cX12_tell 13 = .ok (.aload_n 0, 1) := by decide +kernel
theorem dX12_tell_14 : decode cX12_tell 14 = .ok (.iload_n 2, 1) := by decide +kernel
theorem dX12_tell_15 : decode cX12_tell 15 = .ok (.invokevirtual 266, 3) := by decide +kernel
theorem dX12_tell_18 : decode cX12_tell 18 = .ok (.ifCond .eq 16, 3) := by decide +kernel
theorem dX12_tell_21 : decode cX12_tell 21 = .ok (.aload_n 0, 1) := by decide +kernel
theorem dX12_tell_22 : decode cX12_tell 22 = .ok (.iload_n 3, 1) := by decide +kernel
theorem dX12_tell_23 : decode cX12_tell 23 = .ok (.invokevirtual 263, 3) := by decide +kernel
theorem dX12_tell_26 : decode cX12_tell 26 = .ok (.ifCond .eq 8, 3) := by decide +kernel
theorem dX12_tell_29 : decode cX12_tell 29 = .ok (.iload_n 1, 1) := by decide +kernel
theorem dX12_tell_30 : decode cX12_tell 30 = .ok (.iload_n 3, 1) := by decide +kernel
theorem dX12_tell_31 : decode cX12_tell 31 = .ok (.if_icmp .ne 6, 3) := by decide +kernel
theorem dX12_tell_34 : decode cX12_tell 34 = .ok (.ldc 76, 2) := by decide +kernel
theorem dX12_tell_36 : decode cX12_tell 36 = .ok (.ireturn, 1) := by decide +kernel
theorem dX12_tell_37 : decode cX12_tell 37 = .ok (.aload_n 0, 1) := by decide +kernel
theorem dX12_tell_38 : decode cX12_tell 38 = .ok (.iload_n 1, 1) := by decide +kernel
theorem dX12_tell_39 : decode cX12_tell 39 = .ok (.iload_n 2, 1) := by decide +kernel
theorem dX12_tell_40 : decode cX12_tell 40 = .ok (.invokevirtual 220, 3) := by decide +kernel
theorem dX12_tell_43 : decode cX12_tell 43 = .ok (.ifCond .ne 6, 3) := by decide +kernel
theorem dX12_tell_46 : decode cX12_tell 46 = .ok (.ldc 214, 2) := by decide +kernel
theorem dX12_tell_48 : decode cX12_tell 48 = .ok (.ireturn, 1) := by decide +kernel
theorem dX12_tell_49 : decode cX12_tell 49 = .ok (.aload_n 0, 1) := by decide +kernel
theorem dX12_tell_50 : decode cX12_tell 50 = .ok (.getfield 25, 3) := by decide +kernel
theorem dX12_tell_53 : decode cX12_tell 53 = .ok (.bipush 29, 2) := by decide +kernel
theorem dX12_tell_55 : decode cX12_tell 55 = .ok (.bipush 8, 2) := by decide +kernel
theorem dX12_tell_57 : decode cX12_tell 57 = .ok (.iload_n 3, 1) := by decide +kernel
theorem dX12_tell_58 : decode cX12_tell 58 = .ok (.imul, 1) := by decide +kernel
theorem dX12_tell_59 : decode cX12_tell 59 = .ok (.iadd, 1) := by decide +kernel
theorem dX12_tell_60 : decode cX12_tell 60 = .ok (.iload_n 2, 1) := by decide +kernel
theorem dX12_tell_61 : decode cX12_tell 61 = .ok (.iadd, 1) := by decide +kernel
theorem dX12_tell_62 : decode cX12_tell 62 = .ok (.iaload, 1) := by decide +kernel
theorem dX12_tell_63 : decode cX12_tell 63 = .ok (.bipush 8, 2) := by decide +kernel
theorem dX12_tell_65 : decode cX12_tell 65 = .ok (.if_icmp .le 6, 3) := by decide +kernel
theorem dX12_tell_68 : decode cX12_tell 68 = .ok (.ldc 86, 2) := by decide +kernel
theorem dX12_tell_70 : decode cX12_tell 70 = .ok (.ireturn, 1) := by decide +kernel
theorem dX12_tell_71 : decode cX12_tell 71 = .ok (.aload_n 0, 1) := by decide +kernel
theorem dX12_tell_72 : decode cX12_tell 72 = .ok (.getfield 25, 3) := by decide +kernel
theorem dX12_tell_75 : decode cX12_tell 75 = .ok (.bipush 29, 2) := by decide +kernel
theorem dX12_tell_77 : decode cX12_tell 77 = .ok (.bipush 8, 2) := by decide +kernel
theorem dX12_tell_79 : decode cX12_tell 79 = .ok (.iload_n 3, 1) := by decide +kernel
theorem dX12_tell_80 : decode cX12_tell 80 = .ok (.imul, 1) := by decide +kernel
theorem dX12_tell_81 : decode cX12_tell 81 = .ok (.iadd, 1) := by decide +kernel
theorem dX12_tell_82 : decode cX12_tell 82 = .ok (.iload_n 2, 1) := by decide +kernel
theorem dX12_tell_83 : decode cX12_tell 83 = .ok (.iadd, 1) := by decide +kernel
theorem dX12_tell_84 : decode cX12_tell 84 = .ok (.dup2, 1) := by decide +kernel
theorem dX12_tell_85 : decode cX12_tell 85 = .ok (.iaload, 1) := by decide +kernel
theorem dX12_tell_86 : decode cX12_tell 86 = .ok (.iconst 1, 1) := by decide +kernel
theorem dX12_tell_87 : decode cX12_tell 87 = .ok (.iadd, 1) := by decide +kernel
theorem dX12_tell_88 : decode cX12_tell 88 = .ok (.iastore, 1) := by decide +kernel
theorem dX12_tell_89 : decode cX12_tell 89 = .ok (.aload_n 0, 1) := by decide +kernel
theorem dX12_tell_90 : decode cX12_tell 90 = .ok (.getfield 25, 3) := by decide +kernel
theorem dX12_tell_93 : decode cX12_tell 93 = .ok (.bipush 29, 2) := by decide +kernel
theorem dX12_tell_95 : decode cX12_tell 95 = .ok (.bipush 8, 2) := by decide +kernel
theorem dX12_tell_97 : decode cX12_tell 97 = .ok (.iload_n 3, 1) := by decide +kernel
theorem dX12_tell_98 : decode cX12_tell 98 = .ok (.imul, 1) := by decide +kernel
theorem dX12_tell_99 : decode cX12_tell 99 = .ok (.iadd, 1) := by decide +kernel
theorem dX12_tell_100 : decode cX12_tell 100 = .ok (.iload_n 2, 1) := by decide +kernel
theorem dX12_tell_101 : decode cX12_tell 101 = .ok (.iadd, 1) := by decide +kernel
theorem dX12_tell_102 : decode cX12_tell 102 = .ok (.iaload, 1) := by decide +kernel
theorem dX12_tell_103 : decode cX12_tell 103 = .ok (.ireturn, 1) := by decide +kernel
theorem dX12_piecesOf_0 : decode cX12_piecesOf 0 = .ok (.iconst 0, 1) := by decide +kernel
theorem dX12_piecesOf_1 : decode cX12_piecesOf 1 = .ok (.istore_n 2, 1) := by decide +kernel
theorem dX12_piecesOf_2 : decode cX12_piecesOf 2 = .ok (.iconst 0, 1) := by decide +kernel
theorem dX12_piecesOf_3 : decode cX12_piecesOf 3 = .ok (.istore_n 3, 1) := by decide +kernel
theorem dX12_piecesOf_4 : decode cX12_piecesOf 4 = .ok (.iload_n 3, 1) := by decide +kernel
theorem dX12_piecesOf_5 : decode cX12_piecesOf 5 = .ok (.bipush 8, 2) := by decide +kernel
theorem dX12_piecesOf_7 : decode cX12_piecesOf 7 = .ok (.if_icmp .ge 26, 3) := by decide +kernel
theorem dX12_piecesOf_10 : decode cX12_piecesOf 10 = .ok (.iload_n 2, 1) := by decide +kernel
theorem dX12_piecesOf_11 : decode cX12_piecesOf 11 = .ok (.aload_n 0, 1) := by decide +kernel
theorem dX12_piecesOf_12 : decode cX12_piecesOf 12 = .ok (.getfield 25, 3) := by decide +kernel
theorem dX12_piecesOf_15 : decode cX12_piecesOf 15 = .ok (.bipush 29, 2) := by decide +kernel
theorem dX12_piecesOf_17 : decode cX12_piecesOf 17 = .ok (.bipush 8, 2) := by decide +kernel
theorem dX12_piecesOf_19 : decode cX12_piecesOf 19 = .ok (.iload_n 1, 1) := by decide +kernel
theorem dX12_piecesOf_20 : decode cX12_piecesOf 20 = .ok (.imul, 1) := by decide +kernel
theorem dX12_piecesOf_21 : decode cX12_piecesOf 21 = .ok (.iadd, 1) := by decide +kernel
theorem dX12_piecesOf_22 : decode cX12_piecesOf 22 = .ok (.iload_n 3, 1) := by decide +kernel
theorem dX12_piecesOf_23 : decode cX12_piecesOf 23 = .ok (.iadd, 1) := by decide +kernel
theorem dX12_piecesOf_24 : decode cX12_piecesOf 24 = .ok (.iaload, 1) := by decide +kernel
theorem dX12_piecesOf_25 : decode cX12_piecesOf 25 = .ok (.iadd, 1) := by decide +kernel
theorem dX12_piecesOf_26 : decode cX12_piecesOf 26 = .ok (.istore_n 2, 1) := by decide +kernel
theorem dX12_piecesOf_27 : decode cX12_piecesOf 27 = .ok (.iinc 3 1, 3) := by decide +kernel
theorem dX12_piecesOf_30 : decode cX12_piecesOf 30 = .ok (.goto (-26), 3) := by decide +kernel
theorem dX12_piecesOf_33 : decode cX12_piecesOf 33 = .ok (.iload_n 2, 1) := by decide +kernel
theorem dX12_piecesOf_34 : decode cX12_piecesOf 34 = .ok (.ireturn, 1) := by decide +kernel
theorem dX12_keeper_0 : decode cX12_keeper 0 = .ok (.aload_n 0, 1) := by decide +kernel
theorem dX12_keeper_1 : decode cX12_keeper 1 = .ok (.iconst 0, 1) := by decide +kernel
theorem dX12_keeper_2 : decode cX12_keeper 2 = .ok (.putfield 56, 3) := by decide +kernel
theorem dX12_keeper_5 : decode cX12_keeper 5 = .ok (.aload_n 0, 1) := by decide +kernel
theorem dX12_keeper_6 : decode cX12_keeper 6 = .ok (.iload_n 1, 1) := by decide +kernel
theorem dX12_keeper_7 : decode cX12_keeper 7 = .ok (.invokevirtual 263, 3) := by decide +kernel
theorem dX12_keeper_10 : decode cX12_keeper 10 = .ok (.ifCond .ne 6, 3) := by decide +kernel
theorem dX12_keeper_13 : decode cX12_keeper 13 = .ok (.ldc 76, 2) := by decide +kernel
theorem dX12_keeper_15 : decode cX12_keeper 15 = .ok (.ireturn, 1) := by decide +kernel
theorem dX12_keeper_16 : decode cX12_keeper 16 = .ok (.aload_n 0, 1) := by decide +kernel
theorem dX12_keeper_17 : decode cX12_keeper 17 = .ok (.iload_n 2, 1) := by decide +kernel
theorem dX12_keeper_18 : decode cX12_keeper 18 = .ok (.bipush 10, 2) := by decide +kernel
theorem dX12_keeper_20 : decode cX12_keeper 20 = .ok (.isub, 1) := by decide +kernel
theorem dX12_keeper_21 : decode cX12_keeper 21 = .ok (.invokevirtual 266, 3) := by decide +kernel
theorem dX12_keeper_24 : decode cX12_keeper 24 = .ok (.ifCond .eq 21, 3) := by decide +kernel
theorem dX12_keeper_27 : decode cX12_keeper 27 = .ok (.aload_n 0, 1) := by decide +kernel
theorem dX12_keeper_28 : decode cX12_keeper 28 = .ok (.getfield 25, 3) := by decide +kernel
theorem dX12_keeper_31 : decode cX12_keeper 31 = .ok (.bipush 29, 2) := by decide +kernel
theorem dX12_keeper_33 : decode cX12_keeper 33 = .ok (.bipush 8, 2) := by decide +kernel
theorem dX12_keeper_35 : decode cX12_keeper 35 = .ok (.iload_n 1, 1) := by decide +kernel
theorem dX12_keeper_36 : decode cX12_keeper 36 = .ok (.imul, 1) := by decide +kernel
theorem dX12_keeper_37 : decode cX12_keeper 37 = .ok (.iadd, 1) := by decide +kernel
theorem dX12_keeper_38 : decode cX12_keeper 38 = .ok (.iload_n 2, 1) := by decide +kernel
theorem dX12_keeper_39 : decode cX12_keeper 39 = .ok (.iadd, 1) := by decide +kernel
theorem dX12_keeper_40 : decode cX12_keeper 40 = .ok (.bipush 10, 2) := by decide +kernel
theorem dX12_keeper_42 : decode cX12_keeper 42 = .ok (.isub, 1) := by decide +kernel
theorem dX12_keeper_43 : decode cX12_keeper 43 = .ok (.iaload, 1) := by decide +kernel
theorem dX12_keeper_44 : decode cX12_keeper 44 = .ok (.ireturn, 1) := by decide +kernel
theorem dX12_keeper_45 : decode cX12_keeper 45 = .ok (.iload_n 2, 1) := by decide +kernel
theorem dX12_keeper_46 : decode cX12_keeper 46 = .ok (.ifCond .ne 14, 3) := by decide +kernel
theorem dX12_keeper_49 : decode cX12_keeper 49 = .ok (.aload_n 0, 1) := by decide +kernel
theorem dX12_keeper_50 : decode cX12_keeper 50 = .ok (.getfield 25, 3) := by decide +kernel
theorem dX12_keeper_53 : decode cX12_keeper 53 = .ok (.iconst 1, 1) := by decide +kernel
theorem dX12_keeper_54 : decode cX12_keeper 54 = .ok (.iload_n 1, 1) := by decide +kernel
theorem dX12_keeper_55 : decode cX12_keeper 55 = .ok (.iadd, 1) := by decide +kernel
theorem dX12_keeper_56 : decode cX12_keeper 56 = .ok (.iaload, 1) := by decide +kernel
theorem dX12_keeper_57 : decode cX12_keeper 57 = .ok (.goto 35, 3) := by decide +kernel
theorem dX12_keeper_60 : decode cX12_keeper 60 = .ok (.iload_n 2, 1) := by decide +kernel
theorem dX12_keeper_61 : decode cX12_keeper 61 = .ok (.iconst 1, 1) := by decide +kernel
theorem dX12_keeper_62 : decode cX12_keeper 62 = .ok (.if_icmp .ne 11, 3) := by decide +kernel
theorem dX12_keeper_65 : decode cX12_keeper 65 = .ok (.aload_n 0, 1) := by decide +kernel
theorem dX12_keeper_66 : decode cX12_keeper 66 = .ok (.iload_n 1, 1) := by decide +kernel
theorem dX12_keeper_67 : decode cX12_keeper 67 = .ok (.invokevirtual 269, 3) := by decide +kernel
theorem dX12_keeper_70 : decode cX12_keeper 70 = .ok (.goto 22, 3) := by decide +kernel
theorem dX12_keeper_73 : decode cX12_keeper 73 = .ok (.iload_n 2, 1) := by decide +kernel
theorem dX12_keeper_74 : decode cX12_keeper 74 = .ok (.iconst 2, 1) := by decide +kernel
theorem dX12_keeper_75 : decode cX12_keeper 75 = .ok (.if_icmp .ne 15, 3) := by decide +kernel
theorem dX12_keeper_78 : decode cX12_keeper 78 = .ok (.aload_n 0, 1) := by decide +kernel
theorem dX12_keeper_79 : decode cX12_keeper 79 = .ok (.getfield 25, 3) := by decide +kernel
theorem dX12_keeper_82 : decode cX12_keeper 82 = .ok (.bipush 7, 2) := by decide +kernel
theorem dX12_keeper_84 : decode cX12_keeper 84 = .ok (.iload_n 1, 1) := by decide +kernel
theorem dX12_keeper_85 : decode cX12_keeper 85 = .ok (.iadd, 1) := by decide +kernel
theorem dX12_keeper_86 : decode cX12_keeper 86 = .ok (.iaload, 1) := by decide +kernel
theorem dX12_keeper_87 : decode cX12_keeper 87 = .ok (.goto 5, 3) := by decide +kernel
theorem dX12_keeper_90 : decode cX12_keeper 90 = .ok (.ldc 76, 2) := by decide +kernel
theorem dX12_keeper_92 : decode cX12_keeper 92 = .ok (.ireturn, 1) := by decide +kernel
theorem dX12_piece_0 : decode cX12_piece 0 = .ok (.aload_n 0, 1) := by decide +kernel
theorem dX12_piece_1 : decode cX12_piece 1 = .ok (.iconst 0, 1) := by decide +kernel
theorem dX12_piece_2 : decode cX12_piece 2 = .ok (.putfield 56, 3) := by decide +kernel
theorem dX12_piece_5 : decode cX12_piece 5 = .ok (.aload_n 0, 1) := by decide +kernel
theorem dX12_piece_6 : decode cX12_piece 6 = .ok (.iload_n 1, 1) := by decide +kernel
theorem dX12_piece_7 : decode cX12_piece 7 = .ok (.invokevirtual 266, 3) := by decide +kernel
theorem dX12_piece_10 : decode cX12_piece 10 = .ok (.ifCond .ne 6, 3) := by decide +kernel
theorem dX12_piece_13 : decode cX12_piece 13 = .ok (.ldc 76, 2) := by decide +kernel
theorem dX12_piece_15 : decode cX12_piece 15 = .ok (.ireturn, 1) := by decide +kernel
theorem dX12_piece_16 : decode cX12_piece 16 = .ok (.iload_n 2, 1) := by decide +kernel
theorem dX12_piece_17 : decode cX12_piece 17 = .ok (.tableswitch 87 0 4 #[35, 45, 51, 61, 71], 35) := by decide +kernel
theorem dX12_piece_52 : decode cX12_piece 52 = .ok (.aload_n 0, 1) := by decide +kernel
theorem dX12_piece_53 : decode cX12_piece 53 = .ok (.getfield 19, 3) := by decide +kernel
theorem dX12_piece_56 : decode cX12_piece 56 = .ok (.bipush 42, 2) := by decide +kernel
theorem dX12_piece_58 : decode cX12_piece 58 = .ok (.iload_n 1, 1) := by decide +kernel
theorem dX12_piece_59 : decode cX12_piece 59 = .ok (.iadd, 1) := by decide +kernel
theorem dX12_piece_60 : decode cX12_piece 60 = .ok (.iaload, 1) := by decide +kernel
theorem dX12_piece_61 : decode cX12_piece 61 = .ok (.ireturn, 1) := by decide +kernel
theorem dX12_piece_62 : decode cX12_piece 62 = .ok (.aload_n 0, 1) := by decide +kernel
theorem dX12_piece_63 : decode cX12_piece 63 = .ok (.iload_n 1, 1) := by decide +kernel
theorem dX12_piece_64 : decode cX12_piece 64 = .ok (.invokevirtual 224, 3) := by decide +kernel
theorem dX12_piece_67 : decode cX12_piece 67 = .ok (.ireturn, 1) := by decide +kernel
theorem dX12_piece_68 : decode cX12_piece 68 = .ok (.aload_n 0, 1) := by decide +kernel
theorem dX12_piece_69 : decode cX12_piece 69 = .ok (.getfield 25, 3) := by decide +kernel
theorem dX12_piece_72 : decode cX12_piece 72 = .ok (.bipush 13, 2) := by decide +kernel
theorem dX12_piece_74 : decode cX12_piece 74 = .ok (.iload_n 1, 1) := by decide +kernel
theorem dX12_piece_75 : decode cX12_piece 75 = .ok (.iadd, 1) := by decide +kernel
theorem dX12_piece_76 : decode cX12_piece 76 = .ok (.iaload, 1) := by decide +kernel
theorem dX12_piece_77 : decode cX12_piece 77 = .ok (.ireturn, 1) := by decide +kernel
theorem dX12_piece_78 : decode cX12_piece 78 = .ok (.aload_n 0, 1) := by decide +kernel
theorem dX12_piece_79 : decode cX12_piece 79 = .ok (.getfield 25, 3) := by decide +kernel
theorem dX12_piece_82 : decode cX12_piece 82 = .ok (.bipush 21, 2) := by decide +kernel
theorem dX12_piece_84 : decode cX12_piece 84 = .ok (.iload_n 1, 1) := by decide +kernel
theorem dX12_piece_85 : decode cX12_piece 85 = .ok (.iadd, 1) := by decide +kernel
theorem dX12_piece_86 : decode cX12_piece 86 = .ok (.iaload, 1) := by decide +kernel
theorem dX12_piece_87 : decode cX12_piece 87 = .ok (.ireturn, 1) := by decide +kernel
theorem dX12_piece_88 : decode cX12_piece 88 = .ok (.aload_n 0, 1) := by decide +kernel
theorem dX12_piece_89 : decode cX12_piece 89 = .ok (.aload_n 0, 1) := by decide +kernel
theorem dX12_piece_90 : decode cX12_piece 90 = .ok (.getfield 25, 3) := by decide +kernel
theorem dX12_piece_93 : decode cX12_piece 93 = .ok (.iconst 0, 1) := by decide +kernel
theorem dX12_piece_94 : decode cX12_piece 94 = .ok (.iaload, 1) := by decide +kernel
theorem dX12_piece_95 : decode cX12_piece 95 = .ok (.aload_n 0, 1) := by decide +kernel
theorem dX12_piece_96 : decode cX12_piece 96 = .ok (.iload_n 1, 1) := by decide +kernel
theorem dX12_piece_97 : decode cX12_piece 97 = .ok (.invokevirtual 237, 3) := by decide +kernel
theorem dX12_piece_100 : decode cX12_piece 100 = .ok (.invokevirtual 240, 3) := by decide +kernel
theorem dX12_piece_103 : decode cX12_piece 103 = .ok (.ireturn, 1) := by decide +kernel
theorem dX12_piece_104 : decode cX12_piece 104 = .ok (.ldc 76, 2) := by decide +kernel
theorem dX12_piece_106 : decode cX12_piece 106 = .ok (.ireturn, 1) := by decide +kernel
theorem dX12_layAlone_0 : decode cX12_layAlone 0 = .ok (.sipush 1000, 3) := by decide +kernel
theorem dX12_layAlone_3 : decode cX12_layAlone 3 = .ok (.istore_n 3, 1) := by decide +kernel
theorem dX12_layAlone_4 : decode cX12_layAlone 4 = .ok (.iconst 0, 1) := by decide +kernel
theorem dX12_layAlone_5 : decode cX12_layAlone 5 = .ok (.istore 4, 2) := by decide +kernel
theorem dX12_layAlone_7 : decode cX12_layAlone 7 = .ok (.iload 4, 2) := by decide +kernel
theorem dX12_layAlone_9 : decode cX12_layAlone 9 = .ok (.iload_n 2, 1) := by decide +kernel
theorem dX12_layAlone_10 : decode cX12_layAlone 10 = .ok (.if_icmp .ge 22, 3) := by decide +kernel
theorem dX12_layAlone_13 : decode cX12_layAlone 13 = .ok (.iload_n 3, 1) := by decide +kernel
theorem dX12_layAlone_14 : decode cX12_layAlone 14 = .ok (.aload_n 0, 1) := by decide +kernel
theorem dX12_layAlone_15 : decode cX12_layAlone 15 = .ok (.getfield 19, 3) := by decide +kernel
theorem dX12_layAlone_18 : decode cX12_layAlone 18 = .ok (.iconst 5, 1) := by decide +kernel
theorem dX12_layAlone_19 : decode cX12_layAlone 19 = .ok (.iaload, 1) := by decide +kernel
theorem dX12_layAlone_20 : decode cX12_layAlone 20 = .ok (.imul, 1) := by decide +kernel
theorem dX12_layAlone_21 : decode cX12_layAlone 21 = .ok (.sipush 1000, 3) := by decide +kernel
theorem dX12_layAlone_24 : decode cX12_layAlone 24 = .ok (.idiv, 1) := by decide +kernel
theorem dX12_layAlone_25 : decode cX12_layAlone 25 = .ok (.istore_n 3, 1) := by decide +kernel
theorem dX12_layAlone_26 : decode cX12_layAlone 26 = .ok (.iinc 4 1, 3) := by decide +kernel
theorem dX12_layAlone_29 : decode cX12_layAlone 29 = .ok (.goto (-22), 3) := by decide +kernel
theorem dX12_layAlone_32 : decode cX12_layAlone 32 = .ok (.aload_n 0, 1) := by decide +kernel
theorem dX12_layAlone_33 : decode cX12_layAlone 33 = .ok (.aload_n 0, 1) := by decide +kernel
theorem dX12_layAlone_34 : decode cX12_layAlone 34 = .ok (.aload_n 0, 1) := by decide +kernel
theorem dX12_layAlone_35 : decode cX12_layAlone 35 = .ok (.getfield 19, 3) := by decide +kernel
theorem dX12_layAlone_38 : decode cX12_layAlone 38 = .ok (.iconst 1, 1) := by decide +kernel
theorem dX12_layAlone_39 : decode cX12_layAlone 39 = .ok (.iaload, 1) := by decide +kernel
theorem dX12_layAlone_40 : decode cX12_layAlone 40 = .ok (.invokevirtual 217, 3) := by decide +kernel
theorem dX12_layAlone_43 : decode cX12_layAlone 43 = .ok (.putfield 272, 3) := by decide +kernel
theorem dX12_layAlone_46 : decode cX12_layAlone 46 = .ok (.aload_n 0, 1) := by decide +kernel
theorem dX12_layAlone_47 : decode cX12_layAlone 47 = .ok (.aload_n 0, 1) := by decide +kernel
theorem dX12_layAlone_48 : decode cX12_layAlone 48 = .ok (.getfield 19, 3) := by decide +kernel
theorem dX12_layAlone_51 : decode cX12_layAlone 51 = .ok (.iconst 1, 1) := by decide +kernel
theorem dX12_layAlone_52 : decode cX12_layAlone 52 = .ok (.iaload, 1) := by decide +kernel
theorem dX12_layAlone_53 : decode cX12_layAlone 53 = .ok (.putfield 275, 3) := by decide +kernel
theorem dX12_layAlone_56 : decode cX12_layAlone 56 = .ok (.aload_n 0, 1) := by decide +kernel
theorem dX12_layAlone_57 : decode cX12_layAlone 57 = .ok (.getfield 19, 3) := by decide +kernel
theorem dX12_layAlone_60 : decode cX12_layAlone 60 = .ok (.iconst 1, 1) := by decide +kernel
theorem dX12_layAlone_61 : decode cX12_layAlone 61 = .ok (.iaload, 1) := by decide +kernel
theorem dX12_layAlone_62 : decode cX12_layAlone 62 = .ok (.iconst 1, 1) := by decide +kernel
theorem dX12_layAlone_63 : decode cX12_layAlone 63 = .ok (.isub, 1) := by decide +kernel
theorem dX12_layAlone_64 : decode cX12_layAlone 64 = .ok (.istore 4, 2) := by decide +kernel
theorem dX12_layAlone_66 : decode cX12_layAlone 66 = .ok (.iload 4, 2) := by decide +kernel
theorem dX12_layAlone_68 : decode cX12_layAlone 68 = .ok (.iload_n 1, 1) := by decide +kernel
theorem dX12_layAlone_69 : decode cX12_layAlone 69 = .ok (.if_icmp .lt 93, 3) := by decide +kernel
theorem dX12_layAlone_72 : decode cX12_layAlone 72 = .ok (.aload_n 0, 1) := by decide +kernel
theorem dX12_layAlone_73 : decode cX12_layAlone 73 = .ok (.getfield 272, 3) := by decide +kernel
theorem dX12_layAlone_76 : decode cX12_layAlone 76 = .ok (.sipush 1000, 3) := by decide +kernel
theorem dX12_layAlone_79 : decode cX12_layAlone 79 = .ok (.iload_n 3, 1) := by decide +kernel
theorem dX12_layAlone_80 : decode cX12_layAlone 80 = .ok (.isub, 1) := by decide +kernel
theorem dX12_layAlone_81 : decode cX12_layAlone 81 = .ok (.imul, 1) := by decide +kernel
theorem dX12_layAlone_82 : decode cX12_layAlone 82 = .ok (.sipush 1000, 3) := by decide +kernel
theorem dX12_layAlone_85 : decode cX12_layAlone 85 = .ok (.idiv, 1) := by decide +kernel
theorem dX12_layAlone_86 : decode cX12_layAlone 86 = .ok (.aload_n 0, 1) := by decide +kernel
theorem dX12_layAlone_87 : decode cX12_layAlone 87 = .ok (.getfield 19, 3) := by decide +kernel
theorem dX12_layAlone_90 : decode cX12_layAlone 90 = .ok (.bipush 7, 2) := by decide +kernel
theorem dX12_layAlone_92 : decode cX12_layAlone 92 = .ok (.iaload, 1) := by decide +kernel
theorem dX12_layAlone_93 : decode cX12_layAlone 93 = .ok (.iload_n 2, 1) := by decide +kernel
theorem dX12_layAlone_94 : decode cX12_layAlone 94 = .ok (.iconst 1, 1) := by decide +kernel
theorem dX12_layAlone_95 : decode cX12_layAlone 95 = .ok (.isub, 1) := by decide +kernel
theorem dX12_layAlone_96 : decode cX12_layAlone 96 = .ok (.imul, 1) := by decide +kernel
theorem dX12_layAlone_97 : decode cX12_layAlone 97 = .ok (.isub, 1) := by decide +kernel
theorem dX12_layAlone_98 : decode cX12_layAlone 98 = .ok (.istore 5, 2) := by decide +kernel
theorem dX12_layAlone_100 : decode cX12_layAlone 100 = .ok (.aload_n 0, 1) := by decide +kernel
theorem dX12_layAlone_101 : decode cX12_layAlone 101 = .ok (.iload 4, 2) := by decide +kernel
theorem dX12_layAlone_103 : decode cX12_layAlone 103 = .ok (.invokevirtual 217, 3) := by decide +kernel
theorem dX12_layAlone_106 : decode cX12_layAlone 106 = .ok (.iload 5, 2) := by decide +kernel
theorem dX12_layAlone_108 : decode cX12_layAlone 108 = .ok (.if_icmp .lt 7, 3) := by decide +kernel
theorem dX12_layAlone_111 : decode cX12_layAlone 111 = .ok (.iconst 1, 1) := by decide +kernel
theorem dX12_layAlone_112 : decode cX12_layAlone 112 = .ok (.goto 4, 3) := by decide +kernel
theorem dX12_layAlone_115 : decode cX12_layAlone 115 = .ok (.iconst 0, 1) := by decide +kernel
theorem dX12_layAlone_116 : decode cX12_layAlone 116 = .ok (.istore 6, 2) := by decide +kernel
theorem dX12_layAlone_118 : decode cX12_layAlone 118 = .ok (.aload_n 0, 1) := by decide +kernel
theorem dX12_layAlone_119 : decode cX12_layAlone 119 = .ok (.iload 6, 2) := by decide +kernel
theorem dX12_layAlone_121 : decode cX12_layAlone 121 = .ok (.ifCond .eq 8, 3) := by decide +kernel
theorem dX12_layAlone_124 : decode cX12_layAlone 124 = .ok (.iload 4, 2) := by decide +kernel
theorem dX12_layAlone_126 : decode cX12_layAlone 126 = .ok (.goto 7, 3) := by decide +kernel
theorem dX12_layAlone_129 : decode cX12_layAlone 129 = .ok (.aload_n 0, 1) := by decide +kernel
theorem dX12_layAlone_130 : decode cX12_layAlone 130 = .ok (.getfield 275, 3) := by decide +kernel
theorem dX12_layAlone_133 : decode cX12_layAlone 133 = .ok (.putfield 275, 3) := by decide +kernel
theorem dX12_layAlone_136 : decode cX12_layAlone 136 = .ok (.aload_n 0, 1) := by decide +kernel
theorem dX12_layAlone_137 : decode cX12_layAlone 137 = .ok (.iload 6, 2) := by decide +kernel
theorem dX12_layAlone_139 : decode cX12_layAlone 139 = .ok (.ifCond .eq 12, 3) := by decide +kernel
theorem dX12_layAlone_142 : decode cX12_layAlone 142 = .ok (.aload_n 0, 1) := by decide +kernel
theorem dX12_layAlone_143 : decode cX12_layAlone 143 = .ok (.iload 4, 2) := by decide +kernel
theorem dX12_layAlone_145 : decode cX12_layAlone 145 = .ok (.invokevirtual 217, 3) := by decide +kernel
theorem dX12_layAlone_148 : decode cX12_layAlone 148 = .ok (.goto 5, 3) := by decide +kernel
theorem dX12_layAlone_151 : decode cX12_layAlone 151 = .ok (.iload 5, 2) := by decide +kernel
theorem dX12_layAlone_153 : decode cX12_layAlone 153 = .ok (.putfield 272, 3) := by decide +kernel
theorem dX12_layAlone_156 : decode cX12_layAlone 156 = .ok (.iinc 4 (-1), 3) := by decide +kernel
theorem dX12_layAlone_159 : decode cX12_layAlone 159 = .ok (.goto (-93), 3) := by decide +kernel
theorem dX12_layAlone_162 : decode cX12_layAlone 162 = .ok (.return_, 1) := by decide +kernel
theorem dX12_alone_0 : decode cX12_alone 0 = .ok (.aload_n 0, 1) := by decide +kernel
theorem dX12_alone_1 : decode cX12_alone 1 = .ok (.iconst 0, 1) := by decide +kernel
theorem dX12_alone_2 : decode cX12_alone 2 = .ok (.putfield 56, 3) := by decide +kernel
theorem dX12_alone_5 : decode cX12_alone 5 = .ok (.aload_n 0, 1) := by decide +kernel
theorem dX12_alone_6 : decode cX12_alone 6 = .ok (.getfield 200, 3) := by decide +kernel
theorem dX12_alone_9 : decode cX12_alone 9 = .ok (.ifCond .ne 6, 3) := by decide +kernel
theorem dX12_alone_12 : decode cX12_alone 12 = .ok (.ldc 214, 2) := by decide +kernel
theorem dX12_alone_14 : decode cX12_alone 14 = .ok (.ireturn, 1) := by decide +kernel
theorem dX12_alone_15 : decode cX12_alone 15 = .ok (.iload_n 1, 1) := by decide +kernel
theorem dX12_alone_16 : decode cX12_alone 16 = .ok (.i2l, 1) := by decide +kernel
theorem dX12_alone_17 : decode cX12_alone 17 = .ok (.lconst 0, 1) := by decide +kernel
theorem dX12_alone_18 : decode cX12_alone 18 = .ok (.aload_n 0, 1) := by decide +kernel
theorem dX12_alone_19 : decode cX12_alone 19 = .ok (.getfield 19, 3) := by decide +kernel
theorem dX12_alone_22 : decode cX12_alone 22 = .ok (.iconst 1, 1) := by decide +kernel
theorem dX12_alone_23 : decode cX12_alone 23 = .ok (.iaload, 1) := by decide +kernel
theorem dX12_alone_24 : decode cX12_alone 24 = .ok (.i2l, 1) := by decide +kernel
theorem dX12_alone_25 : decode cX12_alone 25 = .ok (.invokestatic 66, 3) := by decide +kernel
theorem dX12_alone_28 : decode cX12_alone 28 = .ok (.ifCond .eq 25, 3) := by decide +kernel
theorem dX12_alone_31 : decode cX12_alone 31 = .ok (.iload_n 2, 1) := by decide +kernel
theorem dX12_alone_32 : decode cX12_alone 32 = .ok (.i2l, 1) := by decide +kernel
theorem dX12_alone_33 : decode cX12_alone 33 = .ok (.lconst 1, 1) := by decide +kernel
theorem dX12_alone_34 : decode cX12_alone 34 = .ok (.ldc2_w 278, 3) := by decide +kernel
theorem dX12_alone_37 : decode cX12_alone 37 = .ok (.invokestatic 66, 3) := by decide +kernel
theorem dX12_alone_40 : decode cX12_alone 40 = .ok (.ifCond .eq 13, 3) := by decide +kernel
theorem dX12_alone_43 : decode cX12_alone 43 = .ok (.iload_n 3, 1) := by decide +kernel
theorem dX12_alone_44 : decode cX12_alone 44 = .ok (.i2l, 1) := by decide +kernel
theorem dX12_alone_45 : decode cX12_alone 45 = .ok (.lconst 0, 1) := by decide +kernel
theorem dX12_alone_46 : decode cX12_alone 46 = .ok (.lconst 1, 1) := by decide +kernel
theorem dX12_alone_47 : decode cX12_alone 47 = .ok (.invokestatic 66, 3) := by decide +kernel
theorem dX12_alone_50 : decode cX12_alone 50 = .ok (.ifCond .ne 6, 3) := by decide +kernel
theorem dX12_alone_53 : decode cX12_alone 53 = .ok (.ldc 76, 2) := by decide +kernel
theorem dX12_alone_55 : decode cX12_alone 55 = .ok (.ireturn, 1) := by decide +kernel
theorem dX12_alone_56 : decode cX12_alone 56 = .ok (.aload_n 0, 1) := by decide +kernel
theorem dX12_alone_57 : decode cX12_alone 57 = .ok (.iload_n 1, 1) := by decide +kernel
theorem dX12_alone_58 : decode cX12_alone 58 = .ok (.iload_n 2, 1) := by decide +kernel
theorem dX12_alone_59 : decode cX12_alone 59 = .ok (.invokevirtual 280, 3) := by decide +kernel
theorem dX12_alone_62 : decode cX12_alone 62 = .ok (.iload_n 3, 1) := by decide +kernel
theorem dX12_alone_63 : decode cX12_alone 63 = .ok (.ifCond .ne 10, 3) := by decide +kernel
theorem dX12_alone_66 : decode cX12_alone 66 = .ok (.aload_n 0, 1) := by decide +kernel
theorem dX12_alone_67 : decode cX12_alone 67 = .ok (.getfield 272, 3) := by decide +kernel
theorem dX12_alone_70 : decode cX12_alone 70 = .ok (.goto 7, 3) := by decide +kernel
theorem dX12_alone_73 : decode cX12_alone 73 = .ok (.aload_n 0, 1) := by decide +kernel
theorem dX12_alone_74 : decode cX12_alone 74 = .ok (.getfield 275, 3) := by decide +kernel
theorem dX12_alone_77 : decode cX12_alone 77 = .ok (.ireturn, 1) := by decide +kernel
theorem dX12_best_0 : decode cX12_best 0 = .ok (.aload_n 0, 1) := by decide +kernel
theorem dX12_best_1 : decode cX12_best 1 = .ok (.iconst 0, 1) := by decide +kernel
theorem dX12_best_2 : decode cX12_best 2 = .ok (.putfield 56, 3) := by decide +kernel
theorem dX12_best_5 : decode cX12_best 5 = .ok (.aload_n 0, 1) := by decide +kernel
theorem dX12_best_6 : decode cX12_best 6 = .ok (.getfield 200, 3) := by decide +kernel
theorem dX12_best_9 : decode cX12_best 9 = .ok (.ifCond .ne 6, 3) := by decide +kernel
theorem dX12_best_12 : decode cX12_best 12 = .ok (.ldc 214, 2) := by decide +kernel
theorem dX12_best_14 : decode cX12_best 14 = .ok (.ireturn, 1) := by decide +kernel
theorem dX12_best_15 : decode cX12_best 15 = .ok (.iload_n 1, 1) := by decide +kernel
theorem dX12_best_16 : decode cX12_best 16 = .ok (.i2l, 1) := by decide +kernel
theorem dX12_best_17 : decode cX12_best 17 = .ok (.lconst 0, 1) := by decide +kernel
theorem dX12_best_18 : decode cX12_best 18 = .ok (.aload_n 0, 1) := by decide +kernel
theorem dX12_best_19 : decode cX12_best 19 = .ok (.getfield 19, 3) := by decide +kernel
theorem dX12_best_22 : decode cX12_best 22 = .ok (.iconst 1, 1) := by decide +kernel
theorem dX12_best_23 : decode cX12_best 23 = .ok (.iaload, 1) := by decide +kernel
theorem dX12_best_24 : decode cX12_best 24 = .ok (.i2l, 1) := by decide +kernel
theorem dX12_best_25 : decode cX12_best 25 = .ok (.invokestatic 66, 3) := by decide +kernel
theorem dX12_best_28 : decode cX12_best 28 = .ok (.ifCond .ne 6, 3) := by decide +kernel
theorem dX12_best_31 : decode cX12_best 31 = .ok (.ldc 76, 2) := by decide +kernel
theorem dX12_best_33 : decode cX12_best 33 = .ok (.ireturn, 1) := by decide +kernel
theorem dX12_best_34 : decode cX12_best 34 = .ok (.iconst 0, 1) := by decide +kernel
theorem dX12_best_35 : decode cX12_best 35 = .ok (.istore_n 2, 1) := by decide +kernel
theorem dX12_best_36 : decode cX12_best 36 = .ok (.iconst 0, 1) := by decide +kernel
theorem dX12_best_37 : decode cX12_best 37 = .ok (.istore_n 3, 1) := by decide +kernel
theorem dX12_best_38 : decode cX12_best 38 = .ok (.iconst 1, 1) := by decide +kernel
theorem dX12_best_39 : decode cX12_best 39 = .ok (.istore 4, 2) := by decide +kernel
theorem dX12_best_41 : decode cX12_best 41 = .ok (.iload 4, 2) := by decide +kernel
theorem dX12_best_43 : decode cX12_best 43 = .ok (.bipush 10, 2) := by decide +kernel
theorem dX12_best_45 : decode cX12_best 45 = .ok (.if_icmp .ge 61, 3) := by decide +kernel
theorem dX12_best_48 : decode cX12_best 48 = .ok (.aload_n 0, 1) := by decide +kernel
theorem dX12_best_49 : decode cX12_best 49 = .ok (.iload_n 1, 1) := by decide +kernel
theorem dX12_best_50 : decode cX12_best 50 = .ok (.iload 4, 2) := by decide +kernel
theorem dX12_best_52 : decode cX12_best 52 = .ok (.invokevirtual 280, 3) := by decide +kernel
theorem dX12_best_55 : decode cX12_best 55 = .ok (.iload_n 2, 1) := by decide +kernel
theorem dX12_best_56 : decode cX12_best 56 = .ok (.ifCond .eq 11, 3) := by decide +kernel
theorem dX12_best_59 : decode cX12_best 59 = .ok (.aload_n 0, 1) := by decide +kernel
theorem dX12_best_60 : decode cX12_best 60 = .ok (.getfield 272, 3) := by decide +kernel
theorem dX12_best_63 : decode cX12_best 63 = .ok (.iload_n 3, 1) := by decide +kernel
theorem dX12_best_64 : decode cX12_best 64 = .ok (.if_icmp .le 7, 3) := by decide +kernel
theorem dX12_best_67 : decode cX12_best 67 = .ok (.iconst 1, 1) := by decide +kernel
theorem dX12_best_68 : decode cX12_best 68 = .ok (.goto 4, 3) := by decide +kernel
theorem dX12_best_71 : decode cX12_best 71 = .ok (.iconst 0, 1) := by decide +kernel
theorem dX12_best_72 : decode cX12_best 72 = .ok (.istore 5, 2) := by decide +kernel
theorem dX12_best_74 : decode cX12_best 74 = .ok (.iload 5, 2) := by decide +kernel
theorem dX12_best_76 : decode cX12_best 76 = .ok (.ifCond .eq 8, 3) := by decide +kernel
theorem dX12_best_79 : decode cX12_best 79 = .ok (.iload 4, 2) := by decide +kernel
theorem dX12_best_81 : decode cX12_best 81 = .ok (.goto 4, 3) := by decide +kernel
theorem dX12_best_84 : decode cX12_best 84 = .ok (.iload_n 2, 1) := by decide +kernel
theorem dX12_best_85 : decode cX12_best 85 = .ok (.istore_n 2, 1) := by decide +kernel
theorem dX12_best_86 : decode cX12_best 86 = .ok (.iload 5, 2) := by decide +kernel
theorem dX12_best_88 : decode cX12_best 88 = .ok (.ifCond .eq 10, 3) := by decide +kernel
theorem dX12_best_91 : decode cX12_best 91 = .ok (.aload_n 0, 1) := by decide +kernel
theorem dX12_best_92 : decode cX12_best 92 = .ok (.getfield 272, 3) := by decide +kernel
theorem dX12_best_95 : decode cX12_best 95 = .ok (.goto 4, 3) := by decide +kernel
theorem dX12_best_98 : decode cX12_best 98 = .ok (.iload_n 3, 1) := by decide +kernel
theorem dX12_best_99 : decode cX12_best 99 = .ok (.istore_n 3, 1) := by decide +kernel
theorem dX12_best_100 : decode cX12_best 100 = .ok (.iinc 4 1, 3) := by decide +kernel
theorem dX12_best_103 : decode cX12_best 103 = .ok (.goto (-62), 3) := by decide +kernel
theorem dX12_best_106 : decode cX12_best 106 = .ok (.iload_n 2, 1) := by decide +kernel
theorem dX12_best_107 : decode cX12_best 107 = .ok (.ireturn, 1) := by decide +kernel
theorem dX12_two_0 : decode cX12_two 0 = .ok (.aload_n 0, 1) := by decide +kernel
theorem dX12_two_1 : decode cX12_two 1 = .ok (.iconst 0, 1) := by decide +kernel
theorem dX12_two_2 : decode cX12_two 2 = .ok (.putfield 56, 3) := by decide +kernel
theorem dX12_two_5 : decode cX12_two 5 = .ok (.aload_n 0, 1) := by decide +kernel
theorem dX12_two_6 : decode cX12_two 6 = .ok (.getfield 200, 3) := by decide +kernel
theorem dX12_two_9 : decode cX12_two 9 = .ok (.ifCond .ne 6, 3) := by decide +kernel
theorem dX12_two_12 : decode cX12_two 12 = .ok (.ldc 214, 2) := by decide +kernel
theorem dX12_two_14 : decode cX12_two 14 = .ok (.ireturn, 1) := by decide +kernel
theorem dX12_two_15 : decode cX12_two 15 = .ok (.iload_n 1, 1) := by decide +kernel
theorem dX12_two_16 : decode cX12_two 16 = .ok (.i2l, 1) := by decide +kernel
theorem dX12_two_17 : decode cX12_two 17 = .ok (.lconst 0, 1) := by decide +kernel
theorem dX12_two_18 : decode cX12_two 18 = .ok (.aload_n 0, 1) := by decide +kernel
theorem dX12_two_19 : decode cX12_two 19 = .ok (.getfield 19, 3) := by decide +kernel
theorem dX12_two_22 : decode cX12_two 22 = .ok (.iconst 1, 1) := by decide +kernel
theorem dX12_two_23 : decode cX12_two 23 = .ok (.iaload, 1) := by decide +kernel
theorem dX12_two_24 : decode cX12_two 24 = .ok (.i2l, 1) := by decide +kernel
theorem dX12_two_25 : decode cX12_two 25 = .ok (.invokestatic 66, 3) := by decide +kernel
theorem dX12_two_28 : decode cX12_two 28 = .ok (.ifCond .eq 25, 3) := by decide +kernel
theorem dX12_two_31 : decode cX12_two 31 = .ok (.iload_n 2, 1) := by decide +kernel
theorem dX12_two_32 : decode cX12_two 32 = .ok (.i2l, 1) := by decide +kernel
theorem dX12_two_33 : decode cX12_two 33 = .ok (.lconst 0, 1) := by decide +kernel
theorem dX12_two_34 : decode cX12_two 34 = .ok (.ldc2_w 283, 3) := by decide +kernel
theorem dX12_two_37 : decode cX12_two 37 = .ok (.invokestatic 66, 3) := by decide +kernel
theorem dX12_two_40 : decode cX12_two 40 = .ok (.ifCond .eq 13, 3) := by decide +kernel
theorem dX12_two_43 : decode cX12_two 43 = .ok (.iload_n 3, 1) := by decide +kernel
theorem dX12_two_44 : decode cX12_two 44 = .ok (.i2l, 1) := by decide +kernel
theorem dX12_two_45 : decode cX12_two 45 = .ok (.lconst 0, 1) := by decide +kernel
theorem dX12_two_46 : decode cX12_two 46 = .ok (.lconst 1, 1) := by decide +kernel
theorem dX12_two_47 : decode cX12_two 47 = .ok (.invokestatic 66, 3) := by decide +kernel
theorem dX12_two_50 : decode cX12_two 50 = .ok (.ifCond .ne 6, 3) := by decide +kernel
theorem dX12_two_53 : decode cX12_two 53 = .ok (.ldc 76, 2) := by decide +kernel
theorem dX12_two_55 : decode cX12_two 55 = .ok (.ireturn, 1) := by decide +kernel
theorem dX12_two_56 : decode cX12_two 56 = .ok (.sipush 1000, 3) := by decide +kernel
theorem dX12_two_59 : decode cX12_two 59 = .ok (.istore 4, 2) := by decide +kernel
theorem dX12_two_61 : decode cX12_two 61 = .ok (.aload_n 0, 1) := by decide +kernel
theorem dX12_two_62 : decode cX12_two 62 = .ok (.aload_n 0, 1) := by decide +kernel
theorem dX12_two_63 : decode cX12_two 63 = .ok (.getfield 19, 3) := by decide +kernel
theorem dX12_two_66 : decode cX12_two 66 = .ok (.iconst 1, 1) := by decide +kernel
theorem dX12_two_67 : decode cX12_two 67 = .ok (.iaload, 1) := by decide +kernel
theorem dX12_two_68 : decode cX12_two 68 = .ok (.invokevirtual 217, 3) := by decide +kernel
theorem dX12_two_71 : decode cX12_two 71 = .ok (.iconst 2, 1) := by decide +kernel
theorem dX12_two_72 : decode cX12_two 72 = .ok (.idiv, 1) := by decide +kernel
theorem dX12_two_73 : decode cX12_two 73 = .ok (.istore 5, 2) := by decide +kernel
theorem dX12_two_75 : decode cX12_two 75 = .ok (.aload_n 0, 1) := by decide +kernel
theorem dX12_two_76 : decode cX12_two 76 = .ok (.getfield 19, 3) := by decide +kernel
theorem dX12_two_79 : decode cX12_two 79 = .ok (.iconst 1, 1) := by decide +kernel
theorem dX12_two_80 : decode cX12_two 80 = .ok (.iaload, 1) := by decide +kernel
theorem dX12_two_81 : decode cX12_two 81 = .ok (.iconst 1, 1) := by decide +kernel
theorem dX12_two_82 : decode cX12_two 82 = .ok (.isub, 1) := by decide +kernel
theorem dX12_two_83 : decode cX12_two 83 = .ok (.istore 6, 2) := by decide +kernel
theorem dX12_two_85 : decode cX12_two 85 = .ok (.iload 6, 2) := by decide +kernel
theorem dX12_two_87 : decode cX12_two 87 = .ok (.iload_n 1, 1) := by decide +kernel
theorem dX12_two_88 : decode cX12_two 88 = .ok (.if_icmp .lt 128, 3) := by decide +kernel
theorem dX12_two_91 : decode cX12_two 91 = .ok (.aload_n 0, 1) := by decide +kernel
theorem dX12_two_92 : decode cX12_two 92 = .ok (.iload 6, 2) := by decide +kernel
theorem dX12_two_94 : decode cX12_two 94 = .ok (.invokevirtual 217, 3) := by decide +kernel
theorem dX12_two_97 : decode cX12_two 97 = .ok (.istore 7, 2) := by decide +kernel
theorem dX12_two_99 : decode cX12_two 99 = .ok (.iload 5, 2) := by decide +kernel
theorem dX12_two_101 : decode cX12_two 101 = .ok (.sipush 1000, 3) := by decide +kernel
theorem dX12_two_104 : decode cX12_two 104 = .ok (.aload_n 0, 1) := by decide +kernel
theorem dX12_two_105 : decode cX12_two 105 = .ok (.getfield 19, 3) := by decide +kernel
theorem dX12_two_108 : decode cX12_two 108 = .ok (.iconst 5, 1) := by decide +kernel
theorem dX12_two_109 : decode cX12_two 109 = .ok (.iaload, 1) := by decide +kernel
theorem dX12_two_110 : decode cX12_two 110 = .ok (.isub, 1) := by decide +kernel
theorem dX12_two_111 : decode cX12_two 111 = .ok (.imul, 1) := by decide +kernel
theorem dX12_two_112 : decode cX12_two 112 = .ok (.sipush 1000, 3) := by decide +kernel
theorem dX12_two_115 : decode cX12_two 115 = .ok (.idiv, 1) := by decide +kernel
theorem dX12_two_116 : decode cX12_two 116 = .ok (.istore 8, 2) := by decide +kernel
theorem dX12_two_118 : decode cX12_two 118 = .ok (.iload 7, 2) := by decide +kernel
theorem dX12_two_120 : decode cX12_two 120 = .ok (.iload 8, 2) := by decide +kernel
theorem dX12_two_122 : decode cX12_two 122 = .ok (.isub, 1) := by decide +kernel
theorem dX12_two_123 : decode cX12_two 123 = .ok (.istore 9, 2) := by decide +kernel
theorem dX12_two_125 : decode cX12_two 125 = .ok (.iload 7, 2) := by decide +kernel
theorem dX12_two_127 : decode cX12_two 127 = .ok (.iload_n 2, 1) := by decide +kernel
theorem dX12_two_128 : decode cX12_two 128 = .ok (.imul, 1) := by decide +kernel
theorem dX12_two_129 : decode cX12_two 129 = .ok (.bipush 100, 2) := by decide +kernel
theorem dX12_two_131 : decode cX12_two 131 = .ok (.idiv, 1) := by decide +kernel
theorem dX12_two_132 : decode cX12_two 132 = .ok (.iload 7, 2) := by decide +kernel
theorem dX12_two_134 : decode cX12_two 134 = .ok (.iconst 2, 1) := by decide +kernel
theorem dX12_two_135 : decode cX12_two 135 = .ok (.idiv, 1) := by decide +kernel
theorem dX12_two_136 : decode cX12_two 136 = .ok (.isub, 1) := by decide +kernel
theorem dX12_two_137 : decode cX12_two 137 = .ok (.istore 10, 2) := by decide +kernel
theorem dX12_two_139 : decode cX12_two 139 = .ok (.iload 9, 2) := by decide +kernel
theorem dX12_two_141 : decode cX12_two 141 = .ok (.ifCond .gt 13, 3) := by decide +kernel
theorem dX12_two_144 : decode cX12_two 144 = .ok (.iconst 0, 1) := by decide +kernel
theorem dX12_two_145 : decode cX12_two 145 = .ok (.istore 4, 2) := by decide +kernel
theorem dX12_two_147 : decode cX12_two 147 = .ok (.iload 8, 2) := by decide +kernel
theorem dX12_two_149 : decode cX12_two 149 = .ok (.istore 5, 2) := by decide +kernel
theorem dX12_two_151 : decode cX12_two 151 = .ok (.goto 59, 3) := by decide +kernel
theorem dX12_two_154 : decode cX12_two 154 = .ok (.iload 10, 2) := by decide +kernel
theorem dX12_two_156 : decode cX12_two 156 = .ok (.ifCond .gt 17, 3) := by decide +kernel
theorem dX12_two_159 : decode cX12_two 159 = .ok (.sipush 1000, 3) := by decide +kernel
theorem dX12_two_162 : decode cX12_two 162 = .ok (.istore 4, 2) := by decide +kernel
theorem dX12_two_164 : decode cX12_two 164 = .ok (.iload 7, 2) := by decide +kernel
theorem dX12_two_166 : decode cX12_two 166 = .ok (.iconst 2, 1) := by decide +kernel
theorem dX12_two_167 : decode cX12_two 167 = .ok (.idiv, 1) := by decide +kernel
theorem dX12_two_168 : decode cX12_two 168 = .ok (.istore 5, 2) := by decide +kernel
theorem dX12_two_170 : decode cX12_two 170 = .ok (.goto 40, 3) := by decide +kernel
theorem dX12_two_173 : decode cX12_two 173 = .ok (.sipush 1000, 3) := by decide +kernel
theorem dX12_two_176 : decode cX12_two 176 = .ok (.iload 9, 2) := by decide +kernel
theorem dX12_two_178 : decode cX12_two 178 = .ok (.imul, 1) := by decide +kernel
theorem dX12_two_179 : decode cX12_two 179 = .ok (.iload 9, 2) := by decide +kernel
theorem dX12_two_181 : decode cX12_two 181 = .ok (.iload 10, 2) := by decide +kernel
theorem dX12_two_183 : decode cX12_two 183 = .ok (.iadd, 1) := by decide +kernel
theorem dX12_two_184 : decode cX12_two 184 = .ok (.idiv, 1) := by decide +kernel
theorem dX12_two_185 : decode cX12_two 185 = .ok (.istore 4, 2) := by decide +kernel
theorem dX12_two_187 : decode cX12_two 187 = .ok (.iload 4, 2) := by decide +kernel
theorem dX12_two_189 : decode cX12_two 189 = .ok (.iload 7, 2) := by decide +kernel
theorem dX12_two_191 : decode cX12_two 191 = .ok (.iconst 2, 1) := by decide +kernel
theorem dX12_two_192 : decode cX12_two 192 = .ok (.idiv, 1) := by decide +kernel
theorem dX12_two_193 : decode cX12_two 193 = .ok (.imul, 1) := by decide +kernel
theorem dX12_two_194 : decode cX12_two 194 = .ok (.sipush 1000, 3) := by decide +kernel
theorem dX12_two_197 : decode cX12_two 197 = .ok (.iload 4, 2) := by decide +kernel
theorem dX12_two_199 : decode cX12_two 199 = .ok (.isub, 1) := by decide +kernel
theorem dX12_two_200 : decode cX12_two 200 = .ok (.iload 7, 2) := by decide +kernel
theorem dX12_two_202 : decode cX12_two 202 = .ok (.imul, 1) := by decide +kernel
theorem dX12_two_203 : decode cX12_two 203 = .ok (.iadd, 1) := by decide +kernel
theorem dX12_two_204 : decode cX12_two 204 = .ok (.sipush 1000, 3) := by decide +kernel
theorem dX12_two_207 : decode cX12_two 207 = .ok (.idiv, 1) := by decide +kernel
theorem dX12_two_208 : decode cX12_two 208 = .ok (.istore 5, 2) := by decide +kernel
theorem dX12_two_210 : decode cX12_two 210 = .ok (.iinc 6 (-1), 3) := by decide +kernel
theorem dX12_two_213 : decode cX12_two 213 = .ok (.goto (-128), 3) := by decide +kernel
theorem dX12_two_216 : decode cX12_two 216 = .ok (.iload_n 3, 1) := by decide +kernel
theorem dX12_two_217 : decode cX12_two 217 = .ok (.ifCond .ne 8, 3) := by decide +kernel
theorem dX12_two_220 : decode cX12_two 220 = .ok (.iload 4, 2) := by decide +kernel
theorem dX12_two_222 : decode cX12_two 222 = .ok (.goto 5, 3) := by decide +kernel
theorem dX12_two_225 : decode cX12_two 225 = .ok (.iload 5, 2) := by decide +kernel
theorem dX12_two_227 : decode cX12_two 227 = .ok (.ireturn, 1) := by decide +kernel
theorem dX12_think_0 : decode cX12_think 0 = .ok (.aload_n 0, 1) := by decide +kernel
theorem dX12_think_1 : decode cX12_think 1 = .ok (.iconst 0, 1) := by decide +kernel
theorem dX12_think_2 : decode cX12_think 2 = .ok (.putfield 56, 3) := by decide +kernel
theorem dX12_think_5 : decode cX12_think 5 = .ok (.iload_n 1, 1) := by decide +kernel
theorem dX12_think_6 : decode cX12_think 6 = .ok (.i2l, 1) := by decide +kernel
theorem dX12_think_7 : decode cX12_think 7 = .ok (.lconst 0, 1) := by decide +kernel
theorem dX12_think_8 : decode cX12_think 8 = .ok (.ldc2_w 254, 3) := by decide +kernel
theorem dX12_think_11 : decode cX12_think 11 = .ok (.invokestatic 66, 3) := by decide +kernel
theorem dX12_think_14 : decode cX12_think 14 = .ok (.ifCond .eq 27, 3) := by decide +kernel
theorem dX12_think_17 : decode cX12_think 17 = .ok (.iload_n 2, 1) := by decide +kernel
theorem dX12_think_18 : decode cX12_think 18 = .ok (.i2l, 1) := by decide +kernel
theorem dX12_think_19 : decode cX12_think 19 = .ok (.lconst 0, 1) := by decide +kernel
theorem dX12_think_20 : decode cX12_think 20 = .ok (.ldc2_w 254, 3) := by decide +kernel
theorem dX12_think_23 : decode cX12_think 23 = .ok (.invokestatic 66, 3) := by decide +kernel
theorem dX12_think_26 : decode cX12_think 26 = .ok (.ifCond .eq 15, 3) := by decide +kernel
theorem dX12_think_29 : decode cX12_think 29 = .ok (.iload_n 3, 1) := by decide +kernel
theorem dX12_think_30 : decode cX12_think 30 = .ok (.i2l, 1) := by decide +kernel
theorem dX12_think_31 : decode cX12_think 31 = .ok (.lconst 0, 1) := by decide +kernel
theorem dX12_think_32 : decode cX12_think 32 = .ok (.ldc2_w 256, 3) := by decide +kernel
theorem dX12_think_35 : decode cX12_think 35 = .ok (.invokestatic 66, 3) := by decide +kernel
theorem dX12_think_38 : decode cX12_think 38 = .ok (.ifCond .ne 6, 3) := by decide +kernel
theorem dX12_think_41 : decode cX12_think 41 = .ok (.ldc 76, 2) := by decide +kernel
theorem dX12_think_43 : decode cX12_think 43 = .ok (.ireturn, 1) := by decide +kernel
theorem dX12_think_44 : decode cX12_think 44 = .ok (.iload_n 1, 1) := by decide +kernel
theorem dX12_think_45 : decode cX12_think 45 = .ok (.istore 4, 2) := by decide +kernel
theorem dX12_think_47 : decode cX12_think 47 = .ok (.iconst 0, 1) := by decide +kernel
theorem dX12_think_48 : decode cX12_think 48 = .ok (.istore 5, 2) := by decide +kernel
theorem dX12_think_50 : decode cX12_think 50 = .ok (.iload 5, 2) := by decide +kernel
theorem dX12_think_52 : decode cX12_think 52 = .ok (.iload_n 3, 1) := by decide +kernel
theorem dX12_think_53 : decode cX12_think 53 = .ok (.if_icmp .ge 45, 3) := by decide +kernel
theorem dX12_think_56 : decode cX12_think 56 = .ok (.sipush 1000, 3) := by decide +kernel
theorem dX12_think_59 : decode cX12_think 59 = .ok (.iload 4, 2) := by decide +kernel
theorem dX12_think_61 : decode cX12_think 61 = .ok (.iload_n 2, 1) := by decide +kernel
theorem dX12_think_62 : decode cX12_think 62 = .ok (.imul, 1) := by decide +kernel
theorem dX12_think_63 : decode cX12_think 63 = .ok (.sipush 1000, 3) := by decide +kernel
theorem dX12_think_66 : decode cX12_think 66 = .ok (.idiv, 1) := by decide +kernel
theorem dX12_think_67 : decode cX12_think 67 = .ok (.isub, 1) := by decide +kernel
theorem dX12_think_68 : decode cX12_think 68 = .ok (.istore 6, 2) := by decide +kernel
theorem dX12_think_70 : decode cX12_think 70 = .ok (.iload 6, 2) := by decide +kernel
theorem dX12_think_72 : decode cX12_think 72 = .ok (.ifCond .ne 7, 3) := by decide +kernel
theorem dX12_think_75 : decode cX12_think 75 = .ok (.iconst 0, 1) := by decide +kernel
theorem dX12_think_76 : decode cX12_think 76 = .ok (.goto 14, 3) := by decide +kernel
theorem dX12_think_79 : decode cX12_think 79 = .ok (.iload 4, 2) := by decide +kernel
theorem dX12_think_81 : decode cX12_think 81 = .ok (.sipush 1000, 3) := by decide +kernel
theorem dX12_think_84 : decode cX12_think 84 = .ok (.iload_n 2, 1) := by decide +kernel
theorem dX12_think_85 : decode cX12_think 85 = .ok (.isub, 1) := by decide +kernel
theorem dX12_think_86 : decode cX12_think 86 = .ok (.imul, 1) := by decide +kernel
theorem dX12_think_87 : decode cX12_think 87 = .ok (.iload 6, 2) := by decide +kernel
theorem dX12_think_89 : decode cX12_think 89 = .ok (.idiv, 1) := by decide +kernel
theorem dX12_think_90 : decode cX12_think 90 = .ok (.istore 4, 2) := by decide +kernel
theorem dX12_think_92 : decode cX12_think 92 = .ok (.iinc 5 1, 3) := by decide +kernel
theorem dX12_think_95 : decode cX12_think 95 = .ok (.goto (-45), 3) := by decide +kernel
theorem dX12_think_98 : decode cX12_think 98 = .ok (.iload 4, 2) := by decide +kernel
theorem dX12_think_100 : decode cX12_think 100 = .ok (.ireturn, 1) := by decide +kernel
theorem dX12_isYear_0 : decode cX12_isYear 0 = .ok (.iload_n 0, 1) := by decide +kernel
theorem dX12_isYear_1 : decode cX12_isYear 1 = .ok (.i2l, 1) := by decide +kernel
theorem dX12_isYear_2 : decode cX12_isYear 2 = .ok (.lconst 0, 1) := by decide +kernel
theorem dX12_isYear_3 : decode cX12_isYear 3 = .ok (.ldc2_w 215, 3) := by decide +kernel
theorem dX12_isYear_6 : decode cX12_isYear 6 = .ok (.invokestatic 66, 3) := by decide +kernel
theorem dX12_isYear_9 : decode cX12_isYear 9 = .ok (.ireturn, 1) := by decide +kernel
theorem dX12_lostUse_0 : decode cX12_lostUse 0 = .ok (.aload_n 0, 1) := by decide +kernel
theorem dX12_lostUse_1 : decode cX12_lostUse 1 = .ok (.iconst 0, 1) := by decide +kernel
theorem dX12_lostUse_2 : decode cX12_lostUse 2 = .ok (.putfield 56, 3) := by decide +kernel
theorem dX12_lostUse_5 : decode cX12_lostUse 5 = .ok (.aload_n 0, 1) := by decide +kernel
theorem dX12_lostUse_6 : decode cX12_lostUse 6 = .ok (.iload_n 1, 1) := by decide +kernel
theorem dX12_lostUse_7 : decode cX12_lostUse 7 = .ok (.invokevirtual 266, 3) := by decide +kernel
theorem dX12_lostUse_10 : decode cX12_lostUse 10 = .ok (.ifCond .eq 38, 3) := by decide +kernel
theorem dX12_lostUse_13 : decode cX12_lostUse 13 = .ok (.iload_n 2, 1) := by decide +kernel
theorem dX12_lostUse_14 : decode cX12_lostUse 14 = .ok (.invokestatic 285, 3) := by decide +kernel
theorem dX12_lostUse_17 : decode cX12_lostUse 17 = .ok (.ifCond .eq 31, 3) := by decide +kernel
theorem dX12_lostUse_20 : decode cX12_lostUse 20 = .ok (.iload_n 3, 1) := by decide +kernel
theorem dX12_lostUse_21 : decode cX12_lostUse 21 = .ok (.invokestatic 285, 3) := by decide +kernel
theorem dX12_lostUse_24 : decode cX12_lostUse 24 = .ok (.ifCond .eq 24, 3) := by decide +kernel
theorem dX12_lostUse_27 : decode cX12_lostUse 27 = .ok (.iload_n 3, 1) := by decide +kernel
theorem dX12_lostUse_28 : decode cX12_lostUse 28 = .ok (.iload_n 2, 1) := by decide +kernel
theorem dX12_lostUse_29 : decode cX12_lostUse 29 = .ok (.if_icmp .lt 19, 3) := by decide +kernel
theorem dX12_lostUse_32 : decode cX12_lostUse 32 = .ok (.aload_n 0, 1) := by decide +kernel
theorem dX12_lostUse_33 : decode cX12_lostUse 33 = .ok (.getfield 19, 3) := by decide +kernel
theorem dX12_lostUse_36 : decode cX12_lostUse 36 = .ok (.bipush 42, 2) := by decide +kernel
theorem dX12_lostUse_38 : decode cX12_lostUse 38 = .ok (.iload_n 1, 1) := by decide +kernel
theorem dX12_lostUse_39 : decode cX12_lostUse 39 = .ok (.iadd, 1) := by decide +kernel
theorem dX12_lostUse_40 : decode cX12_lostUse 40 = .ok (.iaload, 1) := by decide +kernel
theorem dX12_lostUse_41 : decode cX12_lostUse 41 = .ok (.iload_n 3, 1) := by decide +kernel
theorem dX12_lostUse_42 : decode cX12_lostUse 42 = .ok (.iload_n 2, 1) := by decide +kernel
theorem dX12_lostUse_43 : decode cX12_lostUse 43 = .ok (.isub, 1) := by decide +kernel
theorem dX12_lostUse_44 : decode cX12_lostUse 44 = .ok (.imul, 1) := by decide +kernel
theorem dX12_lostUse_45 : decode cX12_lostUse 45 = .ok (.goto 5, 3) := by decide +kernel
theorem dX12_lostUse_48 : decode cX12_lostUse 48 = .ok (.ldc 76, 2) := by decide +kernel
theorem dX12_lostUse_50 : decode cX12_lostUse 50 = .ok (.ireturn, 1) := by decide +kernel
theorem dX12_silence_0 : decode cX12_silence 0 = .ok (.aload_n 0, 1) := by decide +kernel
theorem dX12_silence_1 : decode cX12_silence 1 = .ok (.iconst 0, 1) := by decide +kernel
theorem dX12_silence_2 : decode cX12_silence 2 = .ok (.putfield 56, 3) := by decide +kernel
theorem dX12_silence_5 : decode cX12_silence 5 = .ok (.aload_n 0, 1) := by decide +kernel
theorem dX12_silence_6 : decode cX12_silence 6 = .ok (.iload_n 1, 1) := by decide +kernel
theorem dX12_silence_7 : decode cX12_silence 7 = .ok (.invokevirtual 263, 3) := by decide +kernel
theorem dX12_silence_10 : decode cX12_silence 10 = .ok (.ifCond .eq 43, 3) := by decide +kernel
theorem dX12_silence_13 : decode cX12_silence 13 = .ok (.aload_n 0, 1) := by decide +kernel
theorem dX12_silence_14 : decode cX12_silence 14 = .ok (.iload_n 2, 1) := by decide +kernel
theorem dX12_silence_15 : decode cX12_silence 15 = .ok (.invokevirtual 263, 3) := by decide +kernel
theorem dX12_silence_18 : decode cX12_silence 18 = .ok (.ifCond .eq 35, 3) := by decide +kernel
theorem dX12_silence_21 : decode cX12_silence 21 = .ok (.iload_n 1, 1) := by decide +kernel
theorem dX12_silence_22 : decode cX12_silence 22 = .ok (.iload_n 2, 1) := by decide +kernel
theorem dX12_silence_23 : decode cX12_silence 23 = .ok (.if_icmp .eq 30, 3) := by decide +kernel
theorem dX12_silence_26 : decode cX12_silence 26 = .ok (.aload_n 0, 1) := by decide +kernel
theorem dX12_silence_27 : decode cX12_silence 27 = .ok (.iload_n 3, 1) := by decide +kernel
theorem dX12_silence_28 : decode cX12_silence 28 = .ok (.invokevirtual 266, 3) := by decide +kernel
theorem dX12_silence_31 : decode cX12_silence 31 = .ok (.ifCond .eq 22, 3) := by decide +kernel
theorem dX12_silence_34 : decode cX12_silence 34 = .ok (.iload 4, 2) := by decide +kernel
theorem dX12_silence_36 : decode cX12_silence 36 = .ok (.invokestatic 285, 3) := by decide +kernel
theorem dX12_silence_39 : decode cX12_silence 39 = .ok (.ifCond .eq 14, 3) := by decide +kernel
theorem dX12_silence_42 : decode cX12_silence 42 = .ok (.iload 5, 2) := by decide +kernel
theorem dX12_silence_44 : decode cX12_silence 44 = .ok (.i2l, 1) := by decide +kernel
theorem dX12_silence_45 : decode cX12_silence 45 = .ok (.lconst 0, 1) := by decide +kernel
theorem dX12_silence_46 : decode cX12_silence 46 = .ok (.lconst 1, 1) := by decide +kernel
theorem dX12_silence_47 : decode cX12_silence 47 = .ok (.invokestatic 66, 3) := by decide +kernel
theorem dX12_silence_50 : decode cX12_silence 50 = .ok (.ifCond .ne 6, 3) := by decide +kernel
theorem dX12_silence_53 : decode cX12_silence 53 = .ok (.ldc 76, 2) := by decide +kernel
theorem dX12_silence_55 : decode cX12_silence 55 = .ok (.ireturn, 1) := by decide +kernel
theorem dX12_silence_56 : decode cX12_silence 56 = .ok (.aload_n 0, 1) := by decide +kernel
theorem dX12_silence_57 : decode cX12_silence 57 = .ok (.iload_n 1, 1) := by decide +kernel
theorem dX12_silence_58 : decode cX12_silence 58 = .ok (.iload_n 3, 1) := by decide +kernel
theorem dX12_silence_59 : decode cX12_silence 59 = .ok (.invokevirtual 220, 3) := by decide +kernel
theorem dX12_silence_62 : decode cX12_silence 62 = .ok (.ifCond .eq 12, 3) := by decide +kernel
theorem dX12_silence_65 : decode cX12_silence 65 = .ok (.aload_n 0, 1) := by decide +kernel
theorem dX12_silence_66 : decode cX12_silence 66 = .ok (.iload_n 2, 1) := by decide +kernel
theorem dX12_silence_67 : decode cX12_silence 67 = .ok (.iload_n 3, 1) := by decide +kernel
theorem dX12_silence_68 : decode cX12_silence 68 = .ok (.invokevirtual 220, 3) := by decide +kernel
theorem dX12_silence_71 : decode cX12_silence 71 = .ok (.ifCond .ne 6, 3) := by decide +kernel
theorem dX12_silence_74 : decode cX12_silence 74 = .ok (.ldc 214, 2) := by decide +kernel
theorem dX12_silence_76 : decode cX12_silence 76 = .ok (.ireturn, 1) := by decide +kernel
theorem dX12_silence_77 : decode cX12_silence 77 = .ok (.aload_n 0, 1) := by decide +kernel
theorem dX12_silence_78 : decode cX12_silence 78 = .ok (.iload_n 3, 1) := by decide +kernel
theorem dX12_silence_79 : decode cX12_silence 79 = .ok (.invokevirtual 237, 3) := by decide +kernel
theorem dX12_silence_82 : decode cX12_silence 82 = .ok (.istore 6, 2) := by decide +kernel
theorem dX12_silence_84 : decode cX12_silence 84 = .ok (.iload 5, 2) := by decide +kernel
theorem dX12_silence_86 : decode cX12_silence 86 = .ok (.ifCond .ne 14, 3) := by decide +kernel
theorem dX12_silence_89 : decode cX12_silence 89 = .ok (.aload_n 0, 1) := by decide +kernel
theorem dX12_silence_90 : decode cX12_silence 90 = .ok (.iload 4, 2) := by decide +kernel
theorem dX12_silence_92 : decode cX12_silence 92 = .ok (.iload 6, 2) := by decide +kernel
theorem dX12_silence_94 : decode cX12_silence 94 = .ok (.invokevirtual 240, 3) := by decide +kernel
theorem dX12_silence_97 : decode cX12_silence 97 = .ok (.goto 22, 3) := by decide +kernel
theorem dX12_silence_100 : decode cX12_silence 100 = .ok (.aload_n 0, 1) := by decide +kernel
theorem dX12_silence_101 : decode cX12_silence 101 = .ok (.iload 4, 2) := by decide +kernel
theorem dX12_silence_103 : decode cX12_silence 103 = .ok (.iload 6, 2) := by decide +kernel
theorem dX12_silence_105 : decode cX12_silence 105 = .ok (.iconst 1, 1) := by decide +kernel
theorem dX12_silence_106 : decode cX12_silence 106 = .ok (.isub, 1) := by decide +kernel
theorem dX12_silence_107 : decode cX12_silence 107 = .ok (.invokevirtual 240, 3) := by decide +kernel
theorem dX12_silence_110 : decode cX12_silence 110 = .ok (.aload_n 0, 1) := by decide +kernel
theorem dX12_silence_111 : decode cX12_silence 111 = .ok (.iload 4, 2) := by decide +kernel
theorem dX12_silence_113 : decode cX12_silence 113 = .ok (.iload 6, 2) := by decide +kernel
theorem dX12_silence_115 : decode cX12_silence 115 = .ok (.invokevirtual 240, 3) := by decide +kernel
theorem dX12_silence_118 : decode cX12_silence 118 = .ok (.isub, 1) := by decide +kernel
theorem dX12_silence_119 : decode cX12_silence 119 = .ok (.ireturn, 1) := by decide +kernel
theorem dX12_nextRow_0 : decode cX12_nextRow 0 = .ok (.iload_n 1, 1) := by decide +kernel
theorem dX12_nextRow_1 : decode cX12_nextRow 1 = .ok (.iconst 2, 1) := by decide +kernel
theorem dX12_nextRow_2 : decode cX12_nextRow 2 = .ok (.isub, 1) := by decide +kernel
theorem dX12_nextRow_3 : decode cX12_nextRow 3 = .ok (.istore_n 2, 1) := by decide +kernel
theorem dX12_nextRow_4 : decode cX12_nextRow 4 = .ok (.iload_n 2, 1) := by decide +kernel
theorem dX12_nextRow_5 : decode cX12_nextRow 5 = .ok (.ifCond .lt 26, 3) := by decide +kernel
theorem dX12_nextRow_8 : decode cX12_nextRow 8 = .ok (.aload_n 0, 1) := by decide +kernel
theorem dX12_nextRow_9 : decode cX12_nextRow 9 = .ok (.getfield 31, 3) := by decide +kernel
theorem dX12_nextRow_12 : decode cX12_nextRow 12 = .ok (.iload_n 2, 1) := by decide +kernel
theorem dX12_nextRow_13 : decode cX12_nextRow 13 = .ok (.iaload, 1) := by decide +kernel
theorem dX12_nextRow_14 : decode cX12_nextRow 14 = .ok (.aload_n 0, 1) := by decide +kernel
theorem dX12_nextRow_15 : decode cX12_nextRow 15 = .ok (.getfield 31, 3) := by decide +kernel
theorem dX12_nextRow_18 : decode cX12_nextRow 18 = .ok (.iload_n 2, 1) := by decide +kernel
theorem dX12_nextRow_19 : decode cX12_nextRow 19 = .ok (.iconst 1, 1) := by decide +kernel
theorem dX12_nextRow_20 : decode cX12_nextRow 20 = .ok (.iadd, 1) := by decide +kernel
theorem dX12_nextRow_21 : decode cX12_nextRow 21 = .ok (.iaload, 1) := by decide +kernel
theorem dX12_nextRow_22 : decode cX12_nextRow 22 = .ok (.if_icmp .le 9, 3) := by decide +kernel
theorem dX12_nextRow_25 : decode cX12_nextRow 25 = .ok (.iinc 2 (-1), 3) := by decide +kernel
theorem dX12_nextRow_28 : decode cX12_nextRow 28 = .ok (.goto (-24), 3) := by decide +kernel
theorem dX12_nextRow_31 : decode cX12_nextRow 31 = .ok (.iload_n 2, 1) := by decide +kernel
theorem dX12_nextRow_32 : decode cX12_nextRow 32 = .ok (.ifCond .ge 5, 3) := by decide +kernel
theorem dX12_nextRow_35 : decode cX12_nextRow 35 = .ok (.iconst 0, 1) := by decide +kernel
theorem dX12_nextRow_36 : decode cX12_nextRow 36 = .ok (.ireturn, 1) := by decide +kernel
theorem dX12_nextRow_37 : decode cX12_nextRow 37 = .ok (.iload_n 1, 1) := by decide +kernel
theorem dX12_nextRow_38 : decode cX12_nextRow 38 = .ok (.iconst 1, 1) := by decide +kernel
theorem dX12_nextRow_39 : decode cX12_nextRow 39 = .ok (.isub, 1) := by decide +kernel
theorem dX12_nextRow_40 : decode cX12_nextRow 40 = .ok (.istore_n 3, 1) := by decide +kernel
theorem dX12_nextRow_41 : decode cX12_nextRow 41 = .ok (.aload_n 0, 1) := by decide +kernel
theorem dX12_nextRow_42 : decode cX12_nextRow 42 = .ok (.getfield 31, 3) := by decide +kernel
theorem dX12_nextRow_45 : decode cX12_nextRow 45 = .ok (.iload_n 3, 1) := by decide +kernel
theorem dX12_nextRow_46 : decode cX12_nextRow 46 = .ok (.iaload, 1) := by decide +kernel
theorem dX12_nextRow_47 : decode cX12_nextRow 47 = .ok (.aload_n 0, 1) := by decide +kernel
theorem dX12_nextRow_48 : decode cX12_nextRow 48 = .ok (.getfield 31, 3) := by decide +kernel
theorem dX12_nextRow_51 : decode cX12_nextRow 51 = .ok (.iload_n 2, 1) := by decide +kernel
theorem dX12_nextRow_52 : decode cX12_nextRow 52 = .ok (.iaload, 1) := by decide +kernel
theorem dX12_nextRow_53 : decode cX12_nextRow 53 = .ok (.if_icmp .ge 9, 3) := by decide +kernel
theorem dX12_nextRow_56 : decode cX12_nextRow 56 = .ok (.iinc 3 (-1), 3) := by decide +kernel
theorem dX12_nextRow_59 : decode cX12_nextRow 59 = .ok (.goto (-18), 3) := by decide +kernel
theorem dX12_nextRow_62 : decode cX12_nextRow 62 = .ok (.aload_n 0, 1) := by decide +kernel
theorem dX12_nextRow_63 : decode cX12_nextRow 63 = .ok (.iload_n 2, 1) := by decide +kernel
theorem dX12_nextRow_64 : decode cX12_nextRow 64 = .ok (.iload_n 3, 1) := by decide +kernel
theorem dX12_nextRow_65 : decode cX12_nextRow 65 = .ok (.invokevirtual 288, 3) := by decide +kernel
theorem dX12_nextRow_68 : decode cX12_nextRow 68 = .ok (.iload_n 1, 1) := by decide +kernel
theorem dX12_nextRow_69 : decode cX12_nextRow 69 = .ok (.iconst 1, 1) := by decide +kernel
theorem dX12_nextRow_70 : decode cX12_nextRow 70 = .ok (.isub, 1) := by decide +kernel
theorem dX12_nextRow_71 : decode cX12_nextRow 71 = .ok (.istore 4, 2) := by decide +kernel
theorem dX12_nextRow_73 : decode cX12_nextRow 73 = .ok (.iload_n 2, 1) := by decide +kernel
theorem dX12_nextRow_74 : decode cX12_nextRow 74 = .ok (.iconst 1, 1) := by decide +kernel
theorem dX12_nextRow_75 : decode cX12_nextRow 75 = .ok (.iadd, 1) := by decide +kernel
theorem dX12_nextRow_76 : decode cX12_nextRow 76 = .ok (.istore 5, 2) := by decide +kernel
theorem dX12_nextRow_78 : decode cX12_nextRow 78 = .ok (.iload 5, 2) := by decide +kernel
theorem dX12_nextRow_80 : decode cX12_nextRow 80 = .ok (.iload 4, 2) := by decide +kernel
theorem dX12_nextRow_82 : decode cX12_nextRow 82 = .ok (.if_icmp .ge 20, 3) := by decide +kernel
theorem dX12_nextRow_85 : decode cX12_nextRow 85 = .ok (.aload_n 0, 1) := by decide +kernel
theorem dX12_nextRow_86 : decode cX12_nextRow 86 = .ok (.iload 5, 2) := by decide +kernel
theorem dX12_nextRow_88 : decode cX12_nextRow 88 = .ok (.iload 4, 2) := by decide +kernel
theorem dX12_nextRow_90 : decode cX12_nextRow 90 = .ok (.invokevirtual 288, 3) := by decide +kernel
theorem dX12_nextRow_93 : decode cX12_nextRow 93 = .ok (.iinc 4 (-1), 3) := by decide +kernel
theorem dX12_nextRow_96 : decode cX12_nextRow 96 = .ok (.iinc 5 1, 3) := by decide +kernel
theorem dX12_nextRow_99 : decode cX12_nextRow 99 = .ok (.goto (-21), 3) := by decide +kernel
theorem dX12_nextRow_102 : decode cX12_nextRow 102 = .ok (.iconst 1, 1) := by decide +kernel
theorem dX12_nextRow_103 : decode cX12_nextRow 103 = .ok (.ireturn, 1) := by decide +kernel
theorem dX12_swap_0 : decode cX12_swap 0 = .ok (.aload_n 0, 1) := by decide +kernel
theorem dX12_swap_1 : decode cX12_swap 1 = .ok (.getfield 31, 3) := by decide +kernel
theorem dX12_swap_4 : decode cX12_swap 4 = .ok (.iload_n 1, 1) := by decide +kernel
theorem dX12_swap_5 : decode cX12_swap 5 = .ok (.iaload, 1) := by decide +kernel
theorem dX12_swap_6 : decode cX12_swap 6 = .ok (.istore_n 3, 1) := by decide +kernel
theorem dX12_swap_7 : decode cX12_swap 7 = .ok (.aload_n 0, 1) := by decide +kernel
theorem dX12_swap_8 : decode cX12_swap 8 = .ok (.getfield 31, 3) := by decide +kernel
theorem dX12_swap_11 : decode cX12_swap 11 = .ok (.iload_n 1, 1) := by decide +kernel
theorem dX12_swap_12 : decode cX12_swap 12 = .ok (.aload_n 0, 1) := by decide +kernel
theorem dX12_swap_13 : decode cX12_swap 13 = .ok (.getfield 31, 3) := by decide +kernel
theorem dX12_swap_16 : decode cX12_swap 16 = .ok (.iload_n 2, 1) := by decide +kernel
theorem dX12_swap_17 : decode cX12_swap 17 = .ok (.iaload, 1) := by decide +kernel
theorem dX12_swap_18 : decode cX12_swap 18 = .ok (.iastore, 1) := by decide +kernel
theorem dX12_swap_19 : decode cX12_swap 19 = .ok (.aload_n 0, 1) := by decide +kernel
theorem dX12_swap_20 : decode cX12_swap 20 = .ok (.getfield 31, 3) := by decide +kernel
theorem dX12_swap_23 : decode cX12_swap 23 = .ok (.iload_n 2, 1) := by decide +kernel
theorem dX12_swap_24 : decode cX12_swap 24 = .ok (.iload_n 3, 1) := by decide +kernel
theorem dX12_swap_25 : decode cX12_swap 25 = .ok (.iastore, 1) := by decide +kernel
theorem dX12_swap_26 : decode cX12_swap 26 = .ok (.return_, 1) := by decide +kernel
theorem dX12_askedSum_0 : decode cX12_askedSum 0 = .ok (.iconst 0, 1) := by decide +kernel
theorem dX12_askedSum_1 : decode cX12_askedSum 1 = .ok (.istore_n 3, 1) := by decide +kernel
theorem dX12_askedSum_2 : decode cX12_askedSum 2 = .ok (.iconst 0, 1) := by decide +kernel
theorem dX12_askedSum_3 : decode cX12_askedSum 3 = .ok (.istore 4, 2) := by decide +kernel
theorem dX12_askedSum_5 : decode cX12_askedSum 5 = .ok (.iload 4, 2) := by decide +kernel
theorem dX12_askedSum_7 : decode cX12_askedSum 7 = .ok (.iload_n 1, 1) := by decide +kernel
theorem dX12_askedSum_8 : decode cX12_askedSum 8 = .ok (.if_icmp .ge 45, 3) := by decide +kernel
theorem dX12_askedSum_11 : decode cX12_askedSum 11 = .ok (.iload_n 3, 1) := by decide +kernel
theorem dX12_askedSum_12 : decode cX12_askedSum 12 = .ok (.iload_n 2, 1) := by decide +kernel
theorem dX12_askedSum_13 : decode cX12_askedSum 13 = .ok (.bipush 100, 2) := by decide +kernel
theorem dX12_askedSum_15 : decode cX12_askedSum 15 = .ok (.bipush 10, 2) := by decide +kernel
theorem dX12_askedSum_17 : decode cX12_askedSum 17 = .ok (.iload 4, 2) := by decide +kernel
theorem dX12_askedSum_19 : decode cX12_askedSum 19 = .ok (.imul, 1) := by decide +kernel
theorem dX12_askedSum_20 : decode cX12_askedSum 20 = .ok (.iadd, 1) := by decide +kernel
theorem dX12_askedSum_21 : decode cX12_askedSum 21 = .ok (.imul, 1) := by decide +kernel
theorem dX12_askedSum_22 : decode cX12_askedSum 22 = .ok (.bipush 100, 2) := by decide +kernel
theorem dX12_askedSum_24 : decode cX12_askedSum 24 = .ok (.aload_n 0, 1) := by decide +kernel
theorem dX12_askedSum_25 : decode cX12_askedSum 25 = .ok (.getfield 19, 3) := by decide +kernel
theorem dX12_askedSum_28 : decode cX12_askedSum 28 = .ok (.bipush 30, 2) := by decide +kernel
theorem dX12_askedSum_30 : decode cX12_askedSum 30 = .ok (.aload_n 0, 1) := by decide +kernel
theorem dX12_askedSum_31 : decode cX12_askedSum 31 = .ok (.getfield 31, 3) := by decide +kernel
theorem dX12_askedSum_34 : decode cX12_askedSum 34 = .ok (.iload 4, 2) := by decide +kernel
theorem dX12_askedSum_36 : decode cX12_askedSum 36 = .ok (.iaload, 1) := by decide +kernel
theorem dX12_askedSum_37 : decode cX12_askedSum 37 = .ok (.iadd, 1) := by decide +kernel
theorem dX12_askedSum_38 : decode cX12_askedSum 38 = .ok (.iaload, 1) := by decide +kernel
theorem dX12_askedSum_39 : decode cX12_askedSum 39 = .ok (.iadd, 1) := by decide +kernel
theorem dX12_askedSum_40 : decode cX12_askedSum 40 = .ok (.imul, 1) := by decide +kernel
theorem dX12_askedSum_41 : decode cX12_askedSum 41 = .ok (.sipush 10000, 3) := by decide +kernel
theorem dX12_askedSum_44 : decode cX12_askedSum 44 = .ok (.idiv, 1) := by decide +kernel
theorem dX12_askedSum_45 : decode cX12_askedSum 45 = .ok (.iadd, 1) := by decide +kernel
theorem dX12_askedSum_46 : decode cX12_askedSum 46 = .ok (.istore_n 3, 1) := by decide +kernel
theorem dX12_askedSum_47 : decode cX12_askedSum 47 = .ok (.iinc 4 1, 3) := by decide +kernel
theorem dX12_askedSum_50 : decode cX12_askedSum 50 = .ok (.goto (-45), 3) := by decide +kernel
theorem dX12_askedSum_53 : decode cX12_askedSum 53 = .ok (.iload_n 3, 1) := by decide +kernel
theorem dX12_askedSum_54 : decode cX12_askedSum 54 = .ok (.ireturn, 1) := by decide +kernel
theorem dX12_corner_0 : decode cX12_corner 0 = .ok (.aload_n 0, 1) := by decide +kernel
theorem dX12_corner_1 : decode cX12_corner 1 = .ok (.iconst 0, 1) := by decide +kernel
theorem dX12_corner_2 : decode cX12_corner 2 = .ok (.putfield 56, 3) := by decide +kernel
theorem dX12_corner_5 : decode cX12_corner 5 = .ok (.aload_n 0, 1) := by decide +kernel
theorem dX12_corner_6 : decode cX12_corner 6 = .ok (.iload_n 1, 1) := by decide +kernel
theorem dX12_corner_7 : decode cX12_corner 7 = .ok (.invokevirtual 263, 3) := by decide +kernel
theorem dX12_corner_10 : decode cX12_corner 10 = .ok (.ifCond .eq 24, 3) := by decide +kernel
theorem dX12_corner_13 : decode cX12_corner 13 = .ok (.aload_n 0, 1) := by decide +kernel
theorem dX12_corner_14 : decode cX12_corner 14 = .ok (.iload_n 2, 1) := by decide +kernel
theorem dX12_corner_15 : decode cX12_corner 15 = .ok (.invokevirtual 266, 3) := by decide +kernel
theorem dX12_corner_18 : decode cX12_corner 18 = .ok (.ifCond .eq 16, 3) := by decide +kernel
theorem dX12_corner_21 : decode cX12_corner 21 = .ok (.iload_n 3, 1) := by decide +kernel
theorem dX12_corner_22 : decode cX12_corner 22 = .ok (.invokestatic 285, 3) := by decide +kernel
theorem dX12_corner_25 : decode cX12_corner 25 = .ok (.ifCond .eq 9, 3) := by decide +kernel
theorem dX12_corner_28 : decode cX12_corner 28 = .ok (.iload 4, 2) := by decide +kernel
theorem dX12_corner_30 : decode cX12_corner 30 = .ok (.iconst (-1), 1) := by decide +kernel
theorem dX12_corner_31 : decode cX12_corner 31 = .ok (.if_icmp .ge 6, 3) := by decide +kernel
theorem dX12_corner_34 : decode cX12_corner 34 = .ok (.ldc 76, 2) := by decide +kernel
theorem dX12_corner_36 : decode cX12_corner 36 = .ok (.ireturn, 1) := by decide +kernel
theorem dX12_corner_37 : decode cX12_corner 37 = .ok (.aload_n 0, 1) := by decide +kernel
theorem dX12_corner_38 : decode cX12_corner 38 = .ok (.iload_n 1, 1) := by decide +kernel
theorem dX12_corner_39 : decode cX12_corner 39 = .ok (.iload_n 2, 1) := by decide +kernel
theorem dX12_corner_40 : decode cX12_corner 40 = .ok (.invokevirtual 220, 3) := by decide +kernel
theorem dX12_corner_43 : decode cX12_corner 43 = .ok (.ifCond .ne 6, 3) := by decide +kernel
theorem dX12_corner_46 : decode cX12_corner 46 = .ok (.ldc 214, 2) := by decide +kernel
theorem dX12_corner_48 : decode cX12_corner 48 = .ok (.ireturn, 1) := by decide +kernel
theorem dX12_corner_49 : decode cX12_corner 49 = .ok (.iconst 0, 1) := by decide +kernel
theorem dX12_corner_50 : decode cX12_corner 50 = .ok (.istore 5, 2) := by decide +kernel
theorem dX12_corner_52 : decode cX12_corner 52 = .ok (.iconst 0, 1) := by decide +kernel
theorem dX12_corner_53 : decode cX12_corner 53 = .ok (.istore 6, 2) := by decide +kernel
theorem dX12_corner_55 : decode cX12_corner 55 = .ok (.iload 6, 2) := by decide +kernel
theorem dX12_corner_57 : decode cX12_corner 57 = .ok (.aload_n 0, 1) := by decide +kernel
theorem dX12_corner_58 : decode cX12_corner 58 = .ok (.getfield 19, 3) := by decide +kernel
theorem dX12_corner_61 : decode cX12_corner 61 = .ok (.iconst 3, 1) := by decide +kernel
theorem dX12_corner_62 : decode cX12_corner 62 = .ok (.iaload, 1) := by decide +kernel
theorem dX12_corner_63 : decode cX12_corner 63 = .ok (.if_icmp .ge 37, 3) := by decide +kernel
theorem dX12_corner_66 : decode cX12_corner 66 = .ok (.iload 6, 2) := by decide +kernel
theorem dX12_corner_68 : decode cX12_corner 68 = .ok (.iload_n 1, 1) := by decide +kernel
theorem dX12_corner_69 : decode cX12_corner 69 = .ok (.if_icmp .eq 25, 3) := by decide +kernel
theorem dX12_corner_72 : decode cX12_corner 72 = .ok (.aload_n 0, 1) := by decide +kernel
theorem dX12_corner_73 : decode cX12_corner 73 = .ok (.iload 6, 2) := by decide +kernel
theorem dX12_corner_75 : decode cX12_corner 75 = .ok (.iload_n 2, 1) := by decide +kernel
theorem dX12_corner_76 : decode cX12_corner 76 = .ok (.invokevirtual 220, 3) := by decide +kernel
theorem dX12_corner_79 : decode cX12_corner 79 = .ok (.ifCond .eq 15, 3) := by decide +kernel
theorem dX12_corner_82 : decode cX12_corner 82 = .ok (.aload_n 0, 1) := by decide +kernel
theorem dX12_corner_83 : decode cX12_corner 83 = .ok (.getfield 31, 3) := by decide +kernel
theorem dX12_corner_86 : decode cX12_corner 86 = .ok (.iload 5, 2) := by decide +kernel
theorem dX12_corner_88 : decode cX12_corner 88 = .ok (.iload 6, 2) := by decide +kernel
theorem dX12_corner_90 : decode cX12_corner 90 = .ok (.iastore, 1) := by decide +kernel
theorem dX12_corner_91 : decode cX12_corner 91 = .ok (.iinc 5 1, 3) := by decide +kernel
theorem dX12_corner_94 : decode cX12_corner 94 = .ok (.iinc 6 1, 3) := by decide +kernel
theorem dX12_corner_97 : decode cX12_corner 97 = .ok (.goto (-42), 3) := by decide +kernel
theorem dX12_corner_100 : decode cX12_corner 100 = .ok (.aload_n 0, 1) := by decide +kernel
theorem dX12_corner_101 : decode cX12_corner 101 = .ok (.iload_n 3, 1) := by decide +kernel
theorem dX12_corner_102 : decode cX12_corner 102 = .ok (.aload_n 0, 1) := by decide +kernel
theorem dX12_corner_103 : decode cX12_corner 103 = .ok (.iload_n 2, 1) := by decide +kernel
theorem dX12_corner_104 : decode cX12_corner 104 = .ok (.invokevirtual 237, 3) := by decide +kernel
theorem dX12_corner_107 : decode cX12_corner 107 = .ok (.invokevirtual 240, 3) := by decide +kernel
theorem dX12_corner_110 : decode cX12_corner 110 = .ok (.istore 6, 2) := by decide +kernel
theorem dX12_corner_112 : decode cX12_corner 112 = .ok (.iconst (-1), 1) := by decide +kernel
theorem dX12_corner_113 : decode cX12_corner 113 = .ok (.istore 7, 2) := by decide +kernel
theorem dX12_corner_115 : decode cX12_corner 115 = .ok (.iconst 1, 1) := by decide +kernel
theorem dX12_corner_116 : decode cX12_corner 116 = .ok (.istore 8, 2) := by decide +kernel
theorem dX12_corner_118 : decode cX12_corner 118 = .ok (.iload 8, 2) := by decide +kernel
theorem dX12_corner_120 : decode cX12_corner 120 = .ok (.ifCond .eq 87, 3) := by decide +kernel
theorem dX12_corner_123 : decode cX12_corner 123 = .ok (.aload_n 0, 1) := by decide +kernel
theorem dX12_corner_124 : decode cX12_corner 124 = .ok (.iload 5, 2) := by decide +kernel
theorem dX12_corner_126 : decode cX12_corner 126 = .ok (.iload 6, 2) := by decide +kernel
theorem dX12_corner_128 : decode cX12_corner 128 = .ok (.invokevirtual 291, 3) := by decide +kernel
theorem dX12_corner_131 : decode cX12_corner 131 = .ok (.istore 9, 2) := by decide +kernel
theorem dX12_corner_133 : decode cX12_corner 133 = .ok (.iconst 0, 1) := by decide +kernel
theorem dX12_corner_134 : decode cX12_corner 134 = .ok (.istore 10, 2) := by decide +kernel
theorem dX12_corner_136 : decode cX12_corner 136 = .ok (.iload 10, 2) := by decide +kernel
theorem dX12_corner_138 : decode cX12_corner 138 = .ok (.iload 5, 2) := by decide +kernel
theorem dX12_corner_140 : decode cX12_corner 140 = .ok (.if_icmp .ge 35, 3) := by decide +kernel
theorem dX12_corner_143 : decode cX12_corner 143 = .ok (.iload 7, 2) := by decide +kernel
theorem dX12_corner_145 : decode cX12_corner 145 = .ok (.ifCond .lt 10, 3) := by decide +kernel
theorem dX12_corner_148 : decode cX12_corner 148 = .ok (.iload 9, 2) := by decide +kernel
theorem dX12_corner_150 : decode cX12_corner 150 = .ok (.iload 7, 2) := by decide +kernel
theorem dX12_corner_152 : decode cX12_corner 152 = .ok (.if_icmp .ge 23, 3) := by decide +kernel
theorem dX12_corner_155 : decode cX12_corner 155 = .ok (.aload_n 0, 1) := by decide +kernel
theorem dX12_corner_156 : decode cX12_corner 156 = .ok (.getfield 34, 3) := by decide +kernel
theorem dX12_corner_159 : decode cX12_corner 159 = .ok (.iload 10, 2) := by decide +kernel
theorem dX12_corner_161 : decode cX12_corner 161 = .ok (.aload_n 0, 1) := by decide +kernel
theorem dX12_corner_162 : decode cX12_corner 162 = .ok (.getfield 31, 3) := by decide +kernel
theorem dX12_corner_165 : decode cX12_corner 165 = .ok (.iload 10, 2) := by decide +kernel
theorem dX12_corner_167 : decode cX12_corner 167 = .ok (.iaload, 1) := by decide +kernel
theorem dX12_corner_168 : decode cX12_corner 168 = .ok (.iastore, 1) := by decide +kernel
theorem dX12_corner_169 : decode cX12_corner 169 = .ok (.iinc 10 1, 3) := by decide +kernel
theorem dX12_corner_172 : decode cX12_corner 172 = .ok (.goto (-36), 3) := by decide +kernel
theorem dX12_corner_175 : decode cX12_corner 175 = .ok (.iload 7, 2) := by decide +kernel
theorem dX12_corner_177 : decode cX12_corner 177 = .ok (.ifCond .lt 10, 3) := by decide +kernel
theorem dX12_corner_180 : decode cX12_corner 180 = .ok (.iload 9, 2) := by decide +kernel
theorem dX12_corner_182 : decode cX12_corner 182 = .ok (.iload 7, 2) := by decide +kernel
theorem dX12_corner_184 : decode cX12_corner 184 = .ok (.if_icmp .ge 8, 3) := by decide +kernel
theorem dX12_corner_187 : decode cX12_corner 187 = .ok (.iload 9, 2) := by decide +kernel
theorem dX12_corner_189 : decode cX12_corner 189 = .ok (.goto 5, 3) := by decide +kernel
theorem dX12_corner_192 : decode cX12_corner 192 = .ok (.iload 7, 2) := by decide +kernel
theorem dX12_corner_194 : decode cX12_corner 194 = .ok (.istore 7, 2) := by decide +kernel
theorem dX12_corner_196 : decode cX12_corner 196 = .ok (.aload_n 0, 1) := by decide +kernel
theorem dX12_corner_197 : decode cX12_corner 197 = .ok (.iload 5, 2) := by decide +kernel
theorem dX12_corner_199 : decode cX12_corner 199 = .ok (.invokevirtual 294, 3) := by decide +kernel
theorem dX12_corner_202 : decode cX12_corner 202 = .ok (.istore 8, 2) := by decide +kernel
theorem dX12_corner_204 : decode cX12_corner 204 = .ok (.goto (-86), 3) := by decide +kernel
theorem dX12_corner_207 : decode cX12_corner 207 = .ok (.iload 4, 2) := by decide +kernel
theorem dX12_corner_209 : decode cX12_corner 209 = .ok (.ifCond .ge 8, 3) := by decide +kernel
theorem dX12_corner_212 : decode cX12_corner 212 = .ok (.iload 7, 2) := by decide +kernel
theorem dX12_corner_214 : decode cX12_corner 214 = .ok (.goto 22, 3) := by decide +kernel
theorem dX12_corner_217 : decode cX12_corner 217 = .ok (.iload 4, 2) := by decide +kernel
theorem dX12_corner_219 : decode cX12_corner 219 = .ok (.iload 5, 2) := by decide +kernel
theorem dX12_corner_221 : decode cX12_corner 221 = .ok (.if_icmp .ge 13, 3) := by decide +kernel
theorem dX12_corner_224 : decode cX12_corner 224 = .ok (.aload_n 0, 1) := by decide +kernel
theorem dX12_corner_225 : decode cX12_corner 225 = .ok (.getfield 34, 3) := by decide +kernel
theorem dX12_corner_228 : decode cX12_corner 228 = .ok (.iload 4, 2) := by decide +kernel
theorem dX12_corner_230 : decode cX12_corner 230 = .ok (.iaload, 1) := by decide +kernel
theorem dX12_corner_231 : decode cX12_corner 231 = .ok (.goto 5, 3) := by decide +kernel
theorem dX12_corner_234 : decode cX12_corner 234 = .ok (.ldc 92, 2) := by decide +kernel
theorem dX12_corner_236 : decode cX12_corner 236 = .ok (.ireturn, 1) := by decide +kernel
theorem dX12_pays_0 : decode cX12_pays 0 = .ok (.aload_n 0, 1) := by decide +kernel
theorem dX12_pays_1 : decode cX12_pays 1 = .ok (.aload_n 0, 1) := by decide +kernel
theorem dX12_pays_2 : decode cX12_pays 2 = .ok (.getfield 19, 3) := by decide +kernel
theorem dX12_pays_5 : decode cX12_pays 5 = .ok (.iconst 1, 1) := by decide +kernel
theorem dX12_pays_6 : decode cX12_pays 6 = .ok (.iaload, 1) := by decide +kernel
theorem dX12_pays_7 : decode cX12_pays 7 = .ok (.invokevirtual 217, 3) := by decide +kernel
theorem dX12_pays_10 : decode cX12_pays 10 = .ok (.iload_n 1, 1) := by decide +kernel
theorem dX12_pays_11 : decode cX12_pays 11 = .ok (.isub, 1) := by decide +kernel
theorem dX12_pays_12 : decode cX12_pays 12 = .ok (.iload_n 2, 1) := by decide +kernel
theorem dX12_pays_13 : decode cX12_pays 13 = .ok (.iload_n 3, 1) := by decide +kernel
theorem dX12_pays_14 : decode cX12_pays 14 = .ok (.imul, 1) := by decide +kernel
theorem dX12_pays_15 : decode cX12_pays 15 = .ok (.sipush 1000, 3) := by decide +kernel
theorem dX12_pays_18 : decode cX12_pays 18 = .ok (.idiv, 1) := by decide +kernel
theorem dX12_pays_19 : decode cX12_pays 19 = .ok (.if_icmp .le 7, 3) := by decide +kernel
theorem dX12_pays_22 : decode cX12_pays 22 = .ok (.iconst 1, 1) := by decide +kernel
theorem dX12_pays_23 : decode cX12_pays 23 = .ok (.goto 4, 3) := by decide +kernel
theorem dX12_pays_26 : decode cX12_pays 26 = .ok (.iconst 0, 1) := by decide +kernel
theorem dX12_pays_27 : decode cX12_pays 27 = .ok (.ireturn, 1) := by decide +kernel
theorem dX12_make_0 : decode cX12_make 0 = .ok (.aload_n 0, 1) := by decide +kernel
theorem dX12_make_1 : decode cX12_make 1 = .ok (.iconst 0, 1) := by decide +kernel
theorem dX12_make_2 : decode cX12_make 2 = .ok (.putfield 56, 3) := by decide +kernel
theorem dX12_make_5 : decode cX12_make 5 = .ok (.aload_n 0, 1) := by decide +kernel
theorem dX12_make_6 : decode cX12_make 6 = .ok (.getfield 200, 3) := by decide +kernel
theorem dX12_make_9 : decode cX12_make 9 = .ok (.ifCond .ne 6, 3) := by decide +kernel
theorem dX12_make_12 : decode cX12_make 12 = .ok (.ldc 214, 2) := by decide +kernel
theorem dX12_make_14 : decode cX12_make 14 = .ok (.ireturn, 1) := by decide +kernel
theorem dX12_make_15 : decode cX12_make 15 = .ok (.iload_n 1, 1) := by decide +kernel
theorem dX12_make_16 : decode cX12_make 16 = .ok (.i2l, 1) := by decide +kernel
theorem dX12_make_17 : decode cX12_make 17 = .ok (.lconst 0, 1) := by decide +kernel
theorem dX12_make_18 : decode cX12_make 18 = .ok (.ldc2_w 297, 3) := by decide +kernel
theorem dX12_make_21 : decode cX12_make 21 = .ok (.invokestatic 66, 3) := by decide +kernel
theorem dX12_make_24 : decode cX12_make 24 = .ok (.ifCond .eq 29, 3) := by decide +kernel
theorem dX12_make_27 : decode cX12_make 27 = .ok (.iload_n 2, 1) := by decide +kernel
theorem dX12_make_28 : decode cX12_make 28 = .ok (.i2l, 1) := by decide +kernel
theorem dX12_make_29 : decode cX12_make 29 = .ok (.lconst 0, 1) := by decide +kernel
theorem dX12_make_30 : decode cX12_make 30 = .ok (.ldc2_w 254, 3) := by decide +kernel
theorem dX12_make_33 : decode cX12_make 33 = .ok (.invokestatic 66, 3) := by decide +kernel
theorem dX12_make_36 : decode cX12_make 36 = .ok (.ifCond .eq 17, 3) := by decide +kernel
theorem dX12_make_39 : decode cX12_make 39 = .ok (.iload_n 3, 1) := by decide +kernel
theorem dX12_make_40 : decode cX12_make 40 = .ok (.i2l, 1) := by decide +kernel
theorem dX12_make_41 : decode cX12_make 41 = .ok (.ldc2_w 299, 3) := by decide +kernel
theorem dX12_make_44 : decode cX12_make 44 = .ok (.ldc2_w 297, 3) := by decide +kernel
theorem dX12_make_47 : decode cX12_make 47 = .ok (.invokestatic 66, 3) := by decide +kernel
theorem dX12_make_50 : decode cX12_make 50 = .ok (.ifCond .ne 6, 3) := by decide +kernel
theorem dX12_make_53 : decode cX12_make 53 = .ok (.ldc 76, 2) := by decide +kernel
theorem dX12_make_55 : decode cX12_make 55 = .ok (.ireturn, 1) := by decide +kernel
theorem dX12_make_56 : decode cX12_make 56 = .ok (.iload_n 3, 1) := by decide +kernel
theorem dX12_make_57 : decode cX12_make 57 = .ok (.ifCond .lt 19, 3) := by decide +kernel
theorem dX12_make_60 : decode cX12_make 60 = .ok (.aload_n 0, 1) := by decide +kernel
theorem dX12_make_61 : decode cX12_make 61 = .ok (.iload_n 1, 1) := by decide +kernel
theorem dX12_make_62 : decode cX12_make 62 = .ok (.iload_n 2, 1) := by decide +kernel
theorem dX12_make_63 : decode cX12_make 63 = .ok (.iload_n 3, 1) := by decide +kernel
theorem dX12_make_64 : decode cX12_make 64 = .ok (.invokevirtual 301, 3) := by decide +kernel
theorem dX12_make_67 : decode cX12_make 67 = .ok (.ifCond .eq 7, 3) := by decide +kernel
theorem dX12_make_70 : decode cX12_make 70 = .ok (.iconst 1, 1) := by decide +kernel
theorem dX12_make_71 : decode cX12_make 71 = .ok (.goto 4, 3) := by decide +kernel
theorem dX12_make_74 : decode cX12_make 74 = .ok (.iconst 0, 1) := by decide +kernel
theorem dX12_make_75 : decode cX12_make 75 = .ok (.ireturn, 1) := by decide +kernel
theorem dX12_make_76 : decode cX12_make 76 = .ok (.iconst 0, 1) := by decide +kernel
theorem dX12_make_77 : decode cX12_make 77 = .ok (.istore 4, 2) := by decide +kernel
theorem dX12_make_79 : decode cX12_make 79 = .ok (.iload 4, 2) := by decide +kernel
theorem dX12_make_81 : decode cX12_make 81 = .ok (.ldc_w 304, 3) := by decide +kernel
theorem dX12_make_84 : decode cX12_make 84 = .ok (.if_icmp .gt 20, 3) := by decide +kernel
theorem dX12_make_87 : decode cX12_make 87 = .ok (.aload_n 0, 1) := by decide +kernel
theorem dX12_make_88 : decode cX12_make 88 = .ok (.iload_n 1, 1) := by decide +kernel
theorem dX12_make_89 : decode cX12_make 89 = .ok (.iload_n 2, 1) := by decide +kernel
theorem dX12_make_90 : decode cX12_make 90 = .ok (.iload 4, 2) := by decide +kernel
theorem dX12_make_92 : decode cX12_make 92 = .ok (.invokevirtual 301, 3) := by decide +kernel
theorem dX12_make_95 : decode cX12_make 95 = .ok (.ifCond .eq 9, 3) := by decide +kernel
theorem dX12_make_98 : decode cX12_make 98 = .ok (.iinc 4 1, 3) := by decide +kernel
theorem dX12_make_101 : decode cX12_make 101 = .ok (.goto (-22), 3) := by decide +kernel
theorem dX12_make_104 : decode cX12_make 104 = .ok (.iload 4, 2) := by decide +kernel
theorem dX12_make_106 : decode cX12_make 106 = .ok (.ldc_w 304, 3) := by decide +kernel
theorem dX12_make_109 : decode cX12_make 109 = .ok (.if_icmp .le 8, 3) := by decide +kernel
theorem dX12_make_112 : decode cX12_make 112 = .ok (.ldc 92, 2) := by decide +kernel
theorem dX12_make_114 : decode cX12_make 114 = .ok (.goto 5, 3) := by decide +kernel
theorem dX12_make_117 : decode cX12_make 117 = .ok (.iload 4, 2) := by decide +kernel
theorem dX12_make_119 : decode cX12_make 119 = .ok (.ireturn, 1) := by decide +kernel
theorem dX12_isNear_0 : decode cX12_isNear 0 = .ok (.iconst 0, 1) := by decide +kernel
theorem dX12_isNear_1 : decode cX12_isNear 1 = .ok (.istore 4, 2) := by decide +kernel
theorem dX12_isNear_3 : decode cX12_isNear 3 = .ok (.iconst 0, 1) := by decide +kernel
theorem dX12_isNear_4 : decode cX12_isNear 4 = .ok (.istore 5, 2) := by decide +kernel
theorem dX12_isNear_6 : decode cX12_isNear 6 = .ok (.iload 5, 2) := by decide +kernel
theorem dX12_isNear_8 : decode cX12_isNear 8 = .ok (.aload_n 0, 1) := by decide +kernel
theorem dX12_isNear_9 : decode cX12_isNear 9 = .ok (.getfield 19, 3) := by decide +kernel
theorem dX12_isNear_12 : decode cX12_isNear 12 = .ok (.iconst 3, 1) := by decide +kernel
theorem dX12_isNear_13 : decode cX12_isNear 13 = .ok (.iaload, 1) := by decide +kernel
theorem dX12_isNear_14 : decode cX12_isNear 14 = .ok (.if_icmp .ge 80, 3) := by decide +kernel
theorem dX12_isNear_17 : decode cX12_isNear 17 = .ok (.iload 4, 2) := by decide +kernel
theorem dX12_isNear_19 : decode cX12_isNear 19 = .ok (.ifCond .ne 62, 3) := by decide +kernel
theorem dX12_isNear_22 : decode cX12_isNear 22 = .ok (.iload 5, 2) := by decide +kernel
theorem dX12_isNear_24 : decode cX12_isNear 24 = .ok (.iload_n 2, 1) := by decide +kernel
theorem dX12_isNear_25 : decode cX12_isNear 25 = .ok (.if_icmp .eq 60, 3) := by decide +kernel
theorem dX12_isNear_28 : decode cX12_isNear 28 = .ok (.iload_n 1, 1) := by decide +kernel
theorem dX12_isNear_29 : decode cX12_isNear 29 = .ok (.iload 5, 2) := by decide +kernel
theorem dX12_isNear_31 : decode cX12_isNear 31 = .ok (.ishr, 1) := by decide +kernel
theorem dX12_isNear_32 : decode cX12_isNear 32 = .ok (.iconst 1, 1) := by decide +kernel
theorem dX12_isNear_33 : decode cX12_isNear 33 = .ok (.iand, 1) := by decide +kernel
theorem dX12_isNear_34 : decode cX12_isNear 34 = .ok (.iconst 1, 1) := by decide +kernel
theorem dX12_isNear_35 : decode cX12_isNear 35 = .ok (.if_icmp .ne 50, 3) := by decide +kernel
theorem dX12_isNear_38 : decode cX12_isNear 38 = .ok (.aload_n 0, 1) := by decide +kernel
theorem dX12_isNear_39 : decode cX12_isNear 39 = .ok (.getfield 37, 3) := by decide +kernel
theorem dX12_isNear_42 : decode cX12_isNear 42 = .ok (.iload 5, 2) := by decide +kernel
theorem dX12_isNear_44 : decode cX12_isNear 44 = .ok (.iaload, 1) := by decide +kernel
theorem dX12_isNear_45 : decode cX12_isNear 45 = .ok (.ifCond .ge 40, 3) := by decide +kernel
theorem dX12_isNear_48 : decode cX12_isNear 48 = .ok (.aload_n 0, 1) := by decide +kernel
theorem dX12_isNear_49 : decode cX12_isNear 49 = .ok (.getfield 19, 3) := by decide +kernel
theorem dX12_isNear_52 : decode cX12_isNear 52 = .ok (.bipush 24, 2) := by decide +kernel
theorem dX12_isNear_54 : decode cX12_isNear 54 = .ok (.iload 5, 2) := by decide +kernel
theorem dX12_isNear_56 : decode cX12_isNear 56 = .ok (.iadd, 1) := by decide +kernel
theorem dX12_isNear_57 : decode cX12_isNear 57 = .ok (.iaload, 1) := by decide +kernel
theorem dX12_isNear_58 : decode cX12_isNear 58 = .ok (.iconst 2, 1) := by decide +kernel
theorem dX12_isNear_59 : decode cX12_isNear 59 = .ok (.invokestatic 227, 3) := by decide +kernel
theorem dX12_isNear_62 : decode cX12_isNear 62 = .ok (.ifCond .eq 23, 3) := by decide +kernel
theorem dX12_isNear_65 : decode cX12_isNear 65 = .ok (.aload_n 0, 1) := by decide +kernel
theorem dX12_isNear_66 : decode cX12_isNear 66 = .ok (.getfield 19, 3) := by decide +kernel
theorem dX12_isNear_69 : decode cX12_isNear 69 = .ok (.bipush 30, 2) := by decide +kernel
theorem dX12_isNear_71 : decode cX12_isNear 71 = .ok (.iload 5, 2) := by decide +kernel
theorem dX12_isNear_73 : decode cX12_isNear 73 = .ok (.iadd, 1) := by decide +kernel
theorem dX12_isNear_74 : decode cX12_isNear 74 = .ok (.iaload, 1) := by decide +kernel
theorem dX12_isNear_75 : decode cX12_isNear 75 = .ok (.iload_n 3, 1) := by decide +kernel
theorem dX12_isNear_76 : decode cX12_isNear 76 = .ok (.iconst 1, 1) := by decide +kernel
theorem dX12_isNear_77 : decode cX12_isNear 77 = .ok (.iadd, 1) := by decide +kernel
theorem dX12_isNear_78 : decode cX12_isNear 78 = .ok (.if_icmp .gt 7, 3) := by decide +kernel
theorem dX12_isNear_81 : decode cX12_isNear 81 = .ok (.iconst 1, 1) := by decide +kernel
theorem dX12_isNear_82 : decode cX12_isNear 82 = .ok (.goto 4, 3) := by decide +kernel
theorem dX12_isNear_85 : decode cX12_isNear 85 = .ok (.iconst 0, 1) := by decide +kernel
theorem dX12_isNear_86 : decode cX12_isNear 86 = .ok (.istore 4, 2) := by decide +kernel
theorem dX12_isNear_88 : decode cX12_isNear 88 = .ok (.iinc 5 1, 3) := by decide +kernel
theorem dX12_isNear_91 : decode cX12_isNear 91 = .ok (.goto (-85), 3) := by decide +kernel
theorem dX12_isNear_94 : decode cX12_isNear 94 = .ok (.iload 4, 2) := by decide +kernel
theorem dX12_isNear_96 : decode cX12_isNear 96 = .ok (.ireturn, 1) := by decide +kernel
theorem dX12_sellsIn_0 : decode cX12_sellsIn 0 = .ok (.aload_n 0, 1) := by decide +kernel
theorem dX12_sellsIn_1 : decode cX12_sellsIn 1 = .ok (.getfield 19, 3) := by decide +kernel
theorem dX12_sellsIn_4 : decode cX12_sellsIn 4 = .ok (.bipush 24, 2) := by decide +kernel
theorem dX12_sellsIn_6 : decode cX12_sellsIn 6 = .ok (.iload_n 2, 1) := by decide +kernel
theorem dX12_sellsIn_7 : decode cX12_sellsIn 7 = .ok (.iadd, 1) := by decide +kernel
theorem dX12_sellsIn_8 : decode cX12_sellsIn 8 = .ok (.iaload, 1) := by decide +kernel
theorem dX12_sellsIn_9 : decode cX12_sellsIn 9 = .ok (.istore 4, 2) := by decide +kernel
theorem dX12_sellsIn_11 : decode cX12_sellsIn 11 = .ok (.iload 4, 2) := by decide +kernel
theorem dX12_sellsIn_13 : decode cX12_sellsIn 13 = .ok (.iconst 2, 1) := by decide +kernel
theorem dX12_sellsIn_14 : decode cX12_sellsIn 14 = .ok (.invokestatic 227, 3) := by decide +kernel
theorem dX12_sellsIn_17 : decode cX12_sellsIn 17 = .ok (.ifCond .eq 20, 3) := by decide +kernel
theorem dX12_sellsIn_20 : decode cX12_sellsIn 20 = .ok (.iload_n 3, 1) := by decide +kernel
theorem dX12_sellsIn_21 : decode cX12_sellsIn 21 = .ok (.aload_n 0, 1) := by decide +kernel
theorem dX12_sellsIn_22 : decode cX12_sellsIn 22 = .ok (.getfield 19, 3) := by decide +kernel
theorem dX12_sellsIn_25 : decode cX12_sellsIn 25 = .ok (.bipush 30, 2) := by decide +kernel
theorem dX12_sellsIn_27 : decode cX12_sellsIn 27 = .ok (.iload_n 2, 1) := by decide +kernel
theorem dX12_sellsIn_28 : decode cX12_sellsIn 28 = .ok (.iadd, 1) := by decide +kernel
theorem dX12_sellsIn_29 : decode cX12_sellsIn 29 = .ok (.iaload, 1) := by decide +kernel
theorem dX12_sellsIn_30 : decode cX12_sellsIn 30 = .ok (.if_icmp .lt 7, 3) := by decide +kernel
theorem dX12_sellsIn_33 : decode cX12_sellsIn 33 = .ok (.iconst 1, 1) := by decide +kernel
theorem dX12_sellsIn_34 : decode cX12_sellsIn 34 = .ok (.goto 4, 3) := by decide +kernel
theorem dX12_sellsIn_37 : decode cX12_sellsIn 37 = .ok (.iconst 0, 1) := by decide +kernel
theorem dX12_sellsIn_38 : decode cX12_sellsIn 38 = .ok (.istore 5, 2) := by decide +kernel
theorem dX12_sellsIn_40 : decode cX12_sellsIn 40 = .ok (.iload 4, 2) := by decide +kernel
theorem dX12_sellsIn_42 : decode cX12_sellsIn 42 = .ok (.iconst 1, 1) := by decide +kernel
theorem dX12_sellsIn_43 : decode cX12_sellsIn 43 = .ok (.if_icmp .eq 43, 3) := by decide +kernel
theorem dX12_sellsIn_46 : decode cX12_sellsIn 46 = .ok (.iload 5, 2) := by decide +kernel
theorem dX12_sellsIn_48 : decode cX12_sellsIn 48 = .ok (.ifCond .ne 38, 3) := by decide +kernel
theorem dX12_sellsIn_51 : decode cX12_sellsIn 51 = .ok (.iload 4, 2) := by decide +kernel
theorem dX12_sellsIn_53 : decode cX12_sellsIn 53 = .ok (.iconst 4, 1) := by decide +kernel
theorem dX12_sellsIn_54 : decode cX12_sellsIn 54 = .ok (.if_icmp .ne 16, 3) := by decide +kernel
theorem dX12_sellsIn_57 : decode cX12_sellsIn 57 = .ok (.aload_n 0, 1) := by decide +kernel
theorem dX12_sellsIn_58 : decode cX12_sellsIn 58 = .ok (.getfield 19, 3) := by decide +kernel
theorem dX12_sellsIn_61 : decode cX12_sellsIn 61 = .ok (.bipush 36, 2) := by decide +kernel
theorem dX12_sellsIn_63 : decode cX12_sellsIn 63 = .ok (.iload_n 2, 1) := by decide +kernel
theorem dX12_sellsIn_64 : decode cX12_sellsIn 64 = .ok (.iadd, 1) := by decide +kernel
theorem dX12_sellsIn_65 : decode cX12_sellsIn 65 = .ok (.iaload, 1) := by decide +kernel
theorem dX12_sellsIn_66 : decode cX12_sellsIn 66 = .ok (.iconst 1, 1) := by decide +kernel
theorem dX12_sellsIn_67 : decode cX12_sellsIn 67 = .ok (.if_icmp .eq 19, 3) := by decide +kernel
theorem dX12_sellsIn_70 : decode cX12_sellsIn 70 = .ok (.iload 4, 2) := by decide +kernel
theorem dX12_sellsIn_72 : decode cX12_sellsIn 72 = .ok (.iconst 3, 1) := by decide +kernel
theorem dX12_sellsIn_73 : decode cX12_sellsIn 73 = .ok (.if_icmp .ne 17, 3) := by decide +kernel
theorem dX12_sellsIn_76 : decode cX12_sellsIn 76 = .ok (.aload_n 0, 1) := by decide +kernel
theorem dX12_sellsIn_77 : decode cX12_sellsIn 77 = .ok (.iload_n 1, 1) := by decide +kernel
theorem dX12_sellsIn_78 : decode cX12_sellsIn 78 = .ok (.iload_n 2, 1) := by decide +kernel
theorem dX12_sellsIn_79 : decode cX12_sellsIn 79 = .ok (.iload_n 3, 1) := by decide +kernel
theorem dX12_sellsIn_80 : decode cX12_sellsIn 80 = .ok (.invokevirtual 305, 3) := by decide +kernel
theorem dX12_sellsIn_83 : decode cX12_sellsIn 83 = .ok (.ifCond .eq 7, 3) := by decide +kernel
theorem dX12_sellsIn_86 : decode cX12_sellsIn 86 = .ok (.iconst 1, 1) := by decide +kernel
theorem dX12_sellsIn_87 : decode cX12_sellsIn 87 = .ok (.goto 4, 3) := by decide +kernel
theorem dX12_sellsIn_90 : decode cX12_sellsIn 90 = .ok (.iconst 0, 1) := by decide +kernel
theorem dX12_sellsIn_91 : decode cX12_sellsIn 91 = .ok (.ireturn, 1) := by decide +kernel
theorem dX12_fits_0 : decode cX12_fits 0 = .ok (.iconst 0, 1) := by decide +kernel
theorem dX12_fits_1 : decode cX12_fits 1 = .ok (.istore_n 3, 1) := by decide +kernel
theorem dX12_fits_2 : decode cX12_fits 2 = .ok (.iload_n 3, 1) := by decide +kernel
theorem dX12_fits_3 : decode cX12_fits 3 = .ok (.bipush 6, 2) := by decide +kernel
theorem dX12_fits_5 : decode cX12_fits 5 = .ok (.if_icmp .ge 16, 3) := by decide +kernel
theorem dX12_fits_8 : decode cX12_fits 8 = .ok (.aload_n 0, 1) := by decide +kernel
theorem dX12_fits_9 : decode cX12_fits 9 = .ok (.getfield 37, 3) := by decide +kernel
theorem dX12_fits_12 : decode cX12_fits 12 = .ok (.iload_n 3, 1) := by decide +kernel
theorem dX12_fits_13 : decode cX12_fits 13 = .ok (.iconst (-1), 1) := by decide +kernel
theorem dX12_fits_14 : decode cX12_fits 14 = .ok (.iastore, 1) := by decide +kernel
theorem dX12_fits_15 : decode cX12_fits 15 = .ok (.iinc 3 1, 3) := by decide +kernel
theorem dX12_fits_18 : decode cX12_fits 18 = .ok (.goto (-16), 3) := by decide +kernel
theorem dX12_fits_21 : decode cX12_fits 21 = .ok (.iconst 0, 1) := by decide +kernel
theorem dX12_fits_22 : decode cX12_fits 22 = .ok (.istore_n 3, 1) := by decide +kernel
theorem dX12_fits_23 : decode cX12_fits 23 = .ok (.iload_n 3, 1) := by decide +kernel
theorem dX12_fits_24 : decode cX12_fits 24 = .ok (.aload_n 0, 1) := by decide +kernel
theorem dX12_fits_25 : decode cX12_fits 25 = .ok (.getfield 19, 3) := by decide +kernel
theorem dX12_fits_28 : decode cX12_fits 28 = .ok (.iconst 1, 1) := by decide +kernel
theorem dX12_fits_29 : decode cX12_fits 29 = .ok (.iaload, 1) := by decide +kernel
theorem dX12_fits_30 : decode cX12_fits 30 = .ok (.if_icmp .gt 90, 3) := by decide +kernel
theorem dX12_fits_33 : decode cX12_fits 33 = .ok (.iconst 0, 1) := by decide +kernel
theorem dX12_fits_34 : decode cX12_fits 34 = .ok (.istore 4, 2) := by decide +kernel
theorem dX12_fits_36 : decode cX12_fits 36 = .ok (.iload 4, 2) := by decide +kernel
theorem dX12_fits_38 : decode cX12_fits 38 = .ok (.aload_n 0, 1) := by decide +kernel
theorem dX12_fits_39 : decode cX12_fits 39 = .ok (.getfield 19, 3) := by decide +kernel
theorem dX12_fits_42 : decode cX12_fits 42 = .ok (.iconst 3, 1) := by decide +kernel
theorem dX12_fits_43 : decode cX12_fits 43 = .ok (.iaload, 1) := by decide +kernel
theorem dX12_fits_44 : decode cX12_fits 44 = .ok (.if_icmp .ge 70, 3) := by decide +kernel
theorem dX12_fits_47 : decode cX12_fits 47 = .ok (.iload_n 1, 1) := by decide +kernel
theorem dX12_fits_48 : decode cX12_fits 48 = .ok (.iload 4, 2) := by decide +kernel
theorem dX12_fits_50 : decode cX12_fits 50 = .ok (.ishr, 1) := by decide +kernel
theorem dX12_fits_51 : decode cX12_fits 51 = .ok (.iconst 1, 1) := by decide +kernel
theorem dX12_fits_52 : decode cX12_fits 52 = .ok (.iand, 1) := by decide +kernel
theorem dX12_fits_53 : decode cX12_fits 53 = .ok (.iconst 1, 1) := by decide +kernel
theorem dX12_fits_54 : decode cX12_fits 54 = .ok (.if_icmp .ne 28, 3) := by decide +kernel
theorem dX12_fits_57 : decode cX12_fits 57 = .ok (.aload_n 0, 1) := by decide +kernel
theorem dX12_fits_58 : decode cX12_fits 58 = .ok (.getfield 37, 3) := by decide +kernel
theorem dX12_fits_61 : decode cX12_fits 61 = .ok (.iload 4, 2) := by decide +kernel
theorem dX12_fits_63 : decode cX12_fits 63 = .ok (.iaload, 1) := by decide +kernel
theorem dX12_fits_64 : decode cX12_fits 64 = .ok (.ifCond .ge 18, 3) := by decide +kernel
theorem dX12_fits_67 : decode cX12_fits 67 = .ok (.aload_n 0, 1) := by decide +kernel
theorem dX12_fits_68 : decode cX12_fits 68 = .ok (.iload_n 1, 1) := by decide +kernel
theorem dX12_fits_69 : decode cX12_fits 69 = .ok (.iload 4, 2) := by decide +kernel
theorem dX12_fits_71 : decode cX12_fits 71 = .ok (.iload_n 3, 1) := by decide +kernel
theorem dX12_fits_72 : decode cX12_fits 72 = .ok (.invokevirtual 308, 3) := by decide +kernel
theorem dX12_fits_75 : decode cX12_fits 75 = .ok (.ifCond .eq 7, 3) := by decide +kernel
theorem dX12_fits_78 : decode cX12_fits 78 = .ok (.iconst 1, 1) := by decide +kernel
theorem dX12_fits_79 : decode cX12_fits 79 = .ok (.goto 4, 3) := by decide +kernel
theorem dX12_fits_82 : decode cX12_fits 82 = .ok (.iconst 0, 1) := by decide +kernel
theorem dX12_fits_83 : decode cX12_fits 83 = .ok (.istore 5, 2) := by decide +kernel
theorem dX12_fits_85 : decode cX12_fits 85 = .ok (.aload_n 0, 1) := by decide +kernel
theorem dX12_fits_86 : decode cX12_fits 86 = .ok (.getfield 37, 3) := by decide +kernel
theorem dX12_fits_89 : decode cX12_fits 89 = .ok (.iload 4, 2) := by decide +kernel
theorem dX12_fits_91 : decode cX12_fits 91 = .ok (.iload 5, 2) := by decide +kernel
theorem dX12_fits_93 : decode cX12_fits 93 = .ok (.ifCond .eq 7, 3) := by decide +kernel
theorem dX12_fits_96 : decode cX12_fits 96 = .ok (.iload_n 3, 1) := by decide +kernel
theorem dX12_fits_97 : decode cX12_fits 97 = .ok (.goto 10, 3) := by decide +kernel
theorem dX12_fits_100 : decode cX12_fits 100 = .ok (.aload_n 0, 1) := by decide +kernel
theorem dX12_fits_101 : decode cX12_fits 101 = .ok (.getfield 37, 3) := by decide +kernel
theorem dX12_fits_104 : decode cX12_fits 104 = .ok (.iload 4, 2) := by decide +kernel
theorem dX12_fits_106 : decode cX12_fits 106 = .ok (.iaload, 1) := by decide +kernel
theorem dX12_fits_107 : decode cX12_fits 107 = .ok (.iastore, 1) := by decide +kernel
theorem dX12_fits_108 : decode cX12_fits 108 = .ok (.iinc 4 1, 3) := by decide +kernel
theorem dX12_fits_111 : decode cX12_fits 111 = .ok (.goto (-75), 3) := by decide +kernel
theorem dX12_fits_114 : decode cX12_fits 114 = .ok (.iinc 3 1, 3) := by decide +kernel
theorem dX12_fits_117 : decode cX12_fits 117 = .ok (.goto (-94), 3) := by decide +kernel
theorem dX12_fits_120 : decode cX12_fits 120 = .ok (.iconst 1, 1) := by decide +kernel
theorem dX12_fits_121 : decode cX12_fits 121 = .ok (.istore_n 3, 1) := by decide +kernel
theorem dX12_fits_122 : decode cX12_fits 122 = .ok (.iconst 0, 1) := by decide +kernel
theorem dX12_fits_123 : decode cX12_fits 123 = .ok (.istore 4, 2) := by decide +kernel
theorem dX12_fits_125 : decode cX12_fits 125 = .ok (.iload 4, 2) := by decide +kernel
theorem dX12_fits_127 : decode cX12_fits 127 = .ok (.aload_n 0, 1) := by decide +kernel
theorem dX12_fits_128 : decode cX12_fits 128 = .ok (.getfield 19, 3) := by decide +kernel
theorem dX12_fits_131 : decode cX12_fits 131 = .ok (.iconst 3, 1) := by decide +kernel
theorem dX12_fits_132 : decode cX12_fits 132 = .ok (.iaload, 1) := by decide +kernel
theorem dX12_fits_133 : decode cX12_fits 133 = .ok (.if_icmp .ge 38, 3) := by decide +kernel
theorem dX12_fits_136 : decode cX12_fits 136 = .ok (.iload_n 3, 1) := by decide +kernel
theorem dX12_fits_137 : decode cX12_fits 137 = .ok (.ifCond .eq 26, 3) := by decide +kernel
theorem dX12_fits_140 : decode cX12_fits 140 = .ok (.aload_n 0, 1) := by decide +kernel
theorem dX12_fits_141 : decode cX12_fits 141 = .ok (.getfield 37, 3) := by decide +kernel
theorem dX12_fits_144 : decode cX12_fits 144 = .ok (.iload 4, 2) := by decide +kernel
theorem dX12_fits_146 : decode cX12_fits 146 = .ok (.iaload, 1) := by decide +kernel
theorem dX12_fits_147 : decode cX12_fits 147 = .ok (.aload_n 0, 1) := by decide +kernel
theorem dX12_fits_148 : decode cX12_fits 148 = .ok (.getfield 16, 3) := by decide +kernel
theorem dX12_fits_151 : decode cX12_fits 151 = .ok (.iload_n 2, 1) := by decide +kernel
theorem dX12_fits_152 : decode cX12_fits 152 = .ok (.iload 4, 2) := by decide +kernel
theorem dX12_fits_154 : decode cX12_fits 154 = .ok (.iadd, 1) := by decide +kernel
theorem dX12_fits_155 : decode cX12_fits 155 = .ok (.iaload, 1) := by decide +kernel
theorem dX12_fits_156 : decode cX12_fits 156 = .ok (.if_icmp .ne 7, 3) := by decide +kernel
theorem dX12_fits_159 : decode cX12_fits 159 = .ok (.iconst 1, 1) := by decide +kernel
theorem dX12_fits_160 : decode cX12_fits 160 = .ok (.goto 4, 3) := by decide +kernel
theorem dX12_fits_163 : decode cX12_fits 163 = .ok (.iconst 0, 1) := by decide +kernel
theorem dX12_fits_164 : decode cX12_fits 164 = .ok (.istore_n 3, 1) := by decide +kernel
theorem dX12_fits_165 : decode cX12_fits 165 = .ok (.iinc 4 1, 3) := by decide +kernel
theorem dX12_fits_168 : decode cX12_fits 168 = .ok (.goto (-43), 3) := by decide +kernel
theorem dX12_fits_171 : decode cX12_fits 171 = .ok (.iload_n 3, 1) := by decide +kernel
theorem dX12_fits_172 : decode cX12_fits 172 = .ok (.ireturn, 1) := by decide +kernel
theorem dX12_fit_0 : decode cX12_fit 0 = .ok (.aload_n 0, 1) := by decide +kernel
theorem dX12_fit_1 : decode cX12_fit 1 = .ok (.iconst 0, 1) := by decide +kernel
theorem dX12_fit_2 : decode cX12_fit 2 = .ok (.putfield 56, 3) := by decide +kernel
theorem dX12_fit_5 : decode cX12_fit 5 = .ok (.aload_n 0, 1) := by decide +kernel
theorem dX12_fit_6 : decode cX12_fit 6 = .ok (.getfield 200, 3) := by decide +kernel
theorem dX12_fit_9 : decode cX12_fit 9 = .ok (.ifCond .ne 6, 3) := by decide +kernel
theorem dX12_fit_12 : decode cX12_fit 12 = .ok (.ldc 214, 2) := by decide +kernel
theorem dX12_fit_14 : decode cX12_fit 14 = .ok (.ireturn, 1) := by decide +kernel
theorem dX12_fit_15 : decode cX12_fit 15 = .ok (.iload_n 1, 1) := by decide +kernel
theorem dX12_fit_16 : decode cX12_fit 16 = .ok (.invokestatic 70, 3) := by decide +kernel
theorem dX12_fit_19 : decode cX12_fit 19 = .ok (.ifCond .eq 8, 3) := by decide +kernel
theorem dX12_fit_22 : decode cX12_fit 22 = .ok (.iload_n 2, 1) := by decide +kernel
theorem dX12_fit_23 : decode cX12_fit 23 = .ok (.iconst (-1), 1) := by decide +kernel
theorem dX12_fit_24 : decode cX12_fit 24 = .ok (.if_icmp .ge 6, 3) := by decide +kernel
theorem dX12_fit_27 : decode cX12_fit 27 = .ok (.ldc 76, 2) := by decide +kernel
theorem dX12_fit_29 : decode cX12_fit 29 = .ok (.ireturn, 1) := by decide +kernel
theorem dX12_fit_30 : decode cX12_fit 30 = .ok (.aload_n 0, 1) := by decide +kernel
theorem dX12_fit_31 : decode cX12_fit 31 = .ok (.getfield 7, 3) := by decide +kernel
theorem dX12_fit_34 : decode cX12_fit 34 = .ok (.iload_n 1, 1) := by decide +kernel
theorem dX12_fit_35 : decode cX12_fit 35 = .ok (.iaload, 1) := by decide +kernel
theorem dX12_fit_36 : decode cX12_fit 36 = .ok (.ifCond .ge 9, 3) := by decide +kernel
theorem dX12_fit_39 : decode cX12_fit 39 = .ok (.aload_n 0, 1) := by decide +kernel
theorem dX12_fit_40 : decode cX12_fit 40 = .ok (.iconst 1, 1) := by decide +kernel
theorem dX12_fit_41 : decode cX12_fit 41 = .ok (.invokevirtual 77, 3) := by decide +kernel
theorem dX12_fit_44 : decode cX12_fit 44 = .ok (.ireturn, 1) := by decide +kernel
theorem dX12_fit_45 : decode cX12_fit 45 = .ok (.aload_n 0, 1) := by decide +kernel
theorem dX12_fit_46 : decode cX12_fit 46 = .ok (.getfield 19, 3) := by decide +kernel
theorem dX12_fit_49 : decode cX12_fit 49 = .ok (.iconst 3, 1) := by decide +kernel
theorem dX12_fit_50 : decode cX12_fit 50 = .ok (.iaload, 1) := by decide +kernel
theorem dX12_fit_51 : decode cX12_fit 51 = .ok (.aload_n 0, 1) := by decide +kernel
theorem dX12_fit_52 : decode cX12_fit 52 = .ok (.getfield 13, 3) := by decide +kernel
theorem dX12_fit_55 : decode cX12_fit 55 = .ok (.iload_n 1, 1) := by decide +kernel
theorem dX12_fit_56 : decode cX12_fit 56 = .ok (.iaload, 1) := by decide +kernel
theorem dX12_fit_57 : decode cX12_fit 57 = .ok (.if_icmp .le 9, 3) := by decide +kernel
theorem dX12_fit_60 : decode cX12_fit 60 = .ok (.aload_n 0, 1) := by decide +kernel
theorem dX12_fit_61 : decode cX12_fit 61 = .ok (.iconst 2, 1) := by decide +kernel
theorem dX12_fit_62 : decode cX12_fit 62 = .ok (.invokevirtual 77, 3) := by decide +kernel
theorem dX12_fit_65 : decode cX12_fit 65 = .ok (.ireturn, 1) := by decide +kernel
theorem dX12_fit_66 : decode cX12_fit 66 = .ok (.iconst 0, 1) := by decide +kernel
theorem dX12_fit_67 : decode cX12_fit 67 = .ok (.istore_n 3, 1) := by decide +kernel
theorem dX12_fit_68 : decode cX12_fit 68 = .ok (.iload_n 3, 1) := by decide +kernel
theorem dX12_fit_69 : decode cX12_fit 69 = .ok (.aload_n 0, 1) := by decide +kernel
theorem dX12_fit_70 : decode cX12_fit 70 = .ok (.getfield 19, 3) := by decide +kernel
theorem dX12_fit_73 : decode cX12_fit 73 = .ok (.iconst 3, 1) := by decide +kernel
theorem dX12_fit_74 : decode cX12_fit 74 = .ok (.iaload, 1) := by decide +kernel
theorem dX12_fit_75 : decode cX12_fit 75 = .ok (.if_icmp .ge 40, 3) := by decide +kernel
theorem dX12_fit_78 : decode cX12_fit 78 = .ok (.aload_n 0, 1) := by decide +kernel
theorem dX12_fit_79 : decode cX12_fit 79 = .ok (.getfield 16, 3) := by decide +kernel
theorem dX12_fit_82 : decode cX12_fit 82 = .ok (.bipush 40, 2) := by decide +kernel
theorem dX12_fit_84 : decode cX12_fit 84 = .ok (.iload_n 1, 1) := by decide +kernel
theorem dX12_fit_85 : decode cX12_fit 85 = .ok (.imul, 1) := by decide +kernel
theorem dX12_fit_86 : decode cX12_fit 86 = .ok (.iload_n 3, 1) := by decide +kernel
theorem dX12_fit_87 : decode cX12_fit 87 = .ok (.iadd, 1) := by decide +kernel
theorem dX12_fit_88 : decode cX12_fit 88 = .ok (.iaload, 1) := by decide +kernel
theorem dX12_fit_89 : decode cX12_fit 89 = .ok (.i2l, 1) := by decide +kernel
theorem dX12_fit_90 : decode cX12_fit 90 = .ok (.ldc2_w 299, 3) := by decide +kernel
theorem dX12_fit_93 : decode cX12_fit 93 = .ok (.aload_n 0, 1) := by decide +kernel
theorem dX12_fit_94 : decode cX12_fit 94 = .ok (.getfield 19, 3) := by decide +kernel
theorem dX12_fit_97 : decode cX12_fit 97 = .ok (.iconst 1, 1) := by decide +kernel
theorem dX12_fit_98 : decode cX12_fit 98 = .ok (.iaload, 1) := by decide +kernel
theorem dX12_fit_99 : decode cX12_fit 99 = .ok (.i2l, 1) := by decide +kernel
theorem dX12_fit_100 : decode cX12_fit 100 = .ok (.invokestatic 66, 3) := by decide +kernel
theorem dX12_fit_103 : decode cX12_fit 103 = .ok (.ifCond .ne 6, 3) := by decide +kernel
theorem dX12_fit_106 : decode cX12_fit 106 = .ok (.ldc 76, 2) := by decide +kernel
theorem dX12_fit_108 : decode cX12_fit 108 = .ok (.ireturn, 1) := by decide +kernel
theorem dX12_fit_109 : decode cX12_fit 109 = .ok (.iinc 3 1, 3) := by decide +kernel
theorem dX12_fit_112 : decode cX12_fit 112 = .ok (.goto (-44), 3) := by decide +kernel
theorem dX12_fit_115 : decode cX12_fit 115 = .ok (.aload_n 0, 1) := by decide +kernel
theorem dX12_fit_116 : decode cX12_fit 116 = .ok (.iconst 0, 1) := by decide +kernel
theorem dX12_fit_117 : decode cX12_fit 117 = .ok (.putfield 60, 3) := by decide +kernel
theorem dX12_fit_120 : decode cX12_fit 120 = .ok (.iconst 0, 1) := by decide +kernel
theorem dX12_fit_121 : decode cX12_fit 121 = .ok (.istore_n 3, 1) := by decide +kernel
theorem dX12_fit_122 : decode cX12_fit 122 = .ok (.iconst 0, 1) := by decide +kernel
theorem dX12_fit_123 : decode cX12_fit 123 = .ok (.istore 4, 2) := by decide +kernel
theorem dX12_fit_125 : decode cX12_fit 125 = .ok (.iload 4, 2) := by decide +kernel
theorem dX12_fit_127 : decode cX12_fit 127 = .ok (.iconst 1, 1) := by decide +kernel
theorem dX12_fit_128 : decode cX12_fit 128 = .ok (.aload_n 0, 1) := by decide +kernel
theorem dX12_fit_129 : decode cX12_fit 129 = .ok (.getfield 19, 3) := by decide +kernel
theorem dX12_fit_132 : decode cX12_fit 132 = .ok (.iconst 3, 1) := by decide +kernel
theorem dX12_fit_133 : decode cX12_fit 133 = .ok (.iaload, 1) := by decide +kernel
theorem dX12_fit_134 : decode cX12_fit 134 = .ok (.ishl, 1) := by decide +kernel
theorem dX12_fit_135 : decode cX12_fit 135 = .ok (.if_icmp .ge 33, 3) := by decide +kernel
theorem dX12_fit_138 : decode cX12_fit 138 = .ok (.aload_n 0, 1) := by decide +kernel
theorem dX12_fit_139 : decode cX12_fit 139 = .ok (.iload 4, 2) := by decide +kernel
theorem dX12_fit_141 : decode cX12_fit 141 = .ok (.bipush 40, 2) := by decide +kernel
theorem dX12_fit_143 : decode cX12_fit 143 = .ok (.iload_n 1, 1) := by decide +kernel
theorem dX12_fit_144 : decode cX12_fit 144 = .ok (.imul, 1) := by decide +kernel
theorem dX12_fit_145 : decode cX12_fit 145 = .ok (.invokevirtual 311, 3) := by decide +kernel
theorem dX12_fit_148 : decode cX12_fit 148 = .ok (.ifCond .eq 14, 3) := by decide +kernel
theorem dX12_fit_151 : decode cX12_fit 151 = .ok (.iload_n 3, 1) := by decide +kernel
theorem dX12_fit_152 : decode cX12_fit 152 = .ok (.iload_n 2, 1) := by decide +kernel
theorem dX12_fit_153 : decode cX12_fit 153 = .ok (.if_icmp .ne 6, 3) := by decide +kernel
theorem dX12_fit_156 : decode cX12_fit 156 = .ok (.iload 4, 2) := by decide +kernel
theorem dX12_fit_158 : decode cX12_fit 158 = .ok (.ireturn, 1) := by decide +kernel
theorem dX12_fit_159 : decode cX12_fit 159 = .ok (.iinc 3 1, 3) := by decide +kernel
theorem dX12_fit_162 : decode cX12_fit 162 = .ok (.iinc 4 1, 3) := by decide +kernel
theorem dX12_fit_165 : decode cX12_fit 165 = .ok (.goto (-40), 3) := by decide +kernel
theorem dX12_fit_168 : decode cX12_fit 168 = .ok (.iload_n 2, 1) := by decide +kernel
theorem dX12_fit_169 : decode cX12_fit 169 = .ok (.ifCond .ge 7, 3) := by decide +kernel
theorem dX12_fit_172 : decode cX12_fit 172 = .ok (.iload_n 3, 1) := by decide +kernel
theorem dX12_fit_173 : decode cX12_fit 173 = .ok (.goto 5, 3) := by decide +kernel
theorem dX12_fit_176 : decode cX12_fit 176 = .ok (.ldc 92, 2) := by decide +kernel
theorem dX12_fit_178 : decode cX12_fit 178 = .ok (.ireturn, 1) := by decide +kernel
theorem dX12_laws_0 : decode cX12_laws 0 = .ok (.aload_n 0, 1) := by decide +kernel
theorem dX12_laws_1 : decode cX12_laws 1 = .ok (.iconst 0, 1) := by decide +kernel
theorem dX12_laws_2 : decode cX12_laws 2 = .ok (.putfield 56, 3) := by decide +kernel
theorem dX12_laws_5 : decode cX12_laws 5 = .ok (.aload_n 0, 1) := by decide +kernel
theorem dX12_laws_6 : decode cX12_laws 6 = .ok (.getfield 200, 3) := by decide +kernel
theorem dX12_laws_9 : decode cX12_laws 9 = .ok (.ifCond .ne 6, 3) := by decide +kernel
theorem dX12_laws_12 : decode cX12_laws 12 = .ok (.ldc 214, 2) := by decide +kernel
theorem dX12_laws_14 : decode cX12_laws 14 = .ok (.ireturn, 1) := by decide +kernel
theorem dX12_laws_15 : decode cX12_laws 15 = .ok (.iload_n 1, 1) := by decide +kernel
theorem dX12_laws_16 : decode cX12_laws 16 = .ok (.i2l, 1) := by decide +kernel
theorem dX12_laws_17 : decode cX12_laws 17 = .ok (.lconst 0, 1) := by decide +kernel
theorem dX12_laws_18 : decode cX12_laws 18 = .ok (.lconst 1, 1) := by decide +kernel
theorem dX12_laws_19 : decode cX12_laws 19 = .ok (.invokestatic 66, 3) := by decide +kernel
theorem dX12_laws_22 : decode cX12_laws 22 = .ok (.ifCond .ne 6, 3) := by decide +kernel
theorem dX12_laws_25 : decode cX12_laws 25 = .ok (.ldc 76, 2) := by decide +kernel
theorem dX12_laws_27 : decode cX12_laws 27 = .ok (.ireturn, 1) := by decide +kernel
theorem dX12_laws_28 : decode cX12_laws 28 = .ok (.iconst 0, 1) := by decide +kernel
theorem dX12_laws_29 : decode cX12_laws 29 = .ok (.istore_n 2, 1) := by decide +kernel
theorem dX12_laws_30 : decode cX12_laws 30 = .ok (.iload_n 2, 1) := by decide +kernel
theorem dX12_laws_31 : decode cX12_laws 31 = .ok (.bipush 77, 2) := by decide +kernel
theorem dX12_laws_33 : decode cX12_laws 33 = .ok (.if_icmp .ge 21, 3) := by decide +kernel
theorem dX12_laws_36 : decode cX12_laws 36 = .ok (.aload_n 0, 1) := by decide +kernel
theorem dX12_laws_37 : decode cX12_laws 37 = .ok (.getfield 40, 3) := by decide +kernel
theorem dX12_laws_40 : decode cX12_laws 40 = .ok (.iload_n 2, 1) := by decide +kernel
theorem dX12_laws_41 : decode cX12_laws 41 = .ok (.aload_n 0, 1) := by decide +kernel
theorem dX12_laws_42 : decode cX12_laws 42 = .ok (.getfield 25, 3) := by decide +kernel
theorem dX12_laws_45 : decode cX12_laws 45 = .ok (.iload_n 2, 1) := by decide +kernel
theorem dX12_laws_46 : decode cX12_laws 46 = .ok (.iaload, 1) := by decide +kernel
theorem dX12_laws_47 : decode cX12_laws 47 = .ok (.iastore, 1) := by decide +kernel
theorem dX12_laws_48 : decode cX12_laws 48 = .ok (.iinc 2 1, 3) := by decide +kernel
theorem dX12_laws_51 : decode cX12_laws 51 = .ok (.goto (-21), 3) := by decide +kernel
theorem dX12_laws_54 : decode cX12_laws 54 = .ok (.aload_n 0, 1) := by decide +kernel
theorem dX12_laws_55 : decode cX12_laws 55 = .ok (.getfield 19, 3) := by decide +kernel
theorem dX12_laws_58 : decode cX12_laws 58 = .ok (.iconst 0, 1) := by decide +kernel
theorem dX12_laws_59 : decode cX12_laws 59 = .ok (.iaload, 1) := by decide +kernel
theorem dX12_laws_60 : decode cX12_laws 60 = .ok (.istore_n 2, 1) := by decide +kernel
theorem dX12_laws_61 : decode cX12_laws 61 = .ok (.aload_n 0, 1) := by decide +kernel
theorem dX12_laws_62 : decode cX12_laws 62 = .ok (.getfield 19, 3) := by decide +kernel
theorem dX12_laws_65 : decode cX12_laws 65 = .ok (.iconst 0, 1) := by decide +kernel
theorem dX12_laws_66 : decode cX12_laws 66 = .ok (.iload_n 1, 1) := by decide +kernel
theorem dX12_laws_67 : decode cX12_laws 67 = .ok (.iastore, 1) := by decide +kernel
theorem dX12_laws_68 : decode cX12_laws 68 = .ok (.aload_n 0, 1) := by decide +kernel
theorem dX12_laws_69 : decode cX12_laws 69 = .ok (.invokevirtual 204, 3) := by decide +kernel
theorem dX12_laws_72 : decode cX12_laws 72 = .ok (.iconst 0, 1) := by decide +kernel
theorem dX12_laws_73 : decode cX12_laws 73 = .ok (.istore_n 3, 1) := by decide +kernel
theorem dX12_laws_74 : decode cX12_laws 74 = .ok (.iload_n 3, 1) := by decide +kernel
theorem dX12_laws_75 : decode cX12_laws 75 = .ok (.aload_n 0, 1) := by decide +kernel
theorem dX12_laws_76 : decode cX12_laws 76 = .ok (.getfield 19, 3) := by decide +kernel
theorem dX12_laws_79 : decode cX12_laws 79 = .ok (.iconst 1, 1) := by decide +kernel
theorem dX12_laws_80 : decode cX12_laws 80 = .ok (.iaload, 1) := by decide +kernel
theorem dX12_laws_81 : decode cX12_laws 81 = .ok (.if_icmp .gt 14, 3) := by decide +kernel
theorem dX12_laws_84 : decode cX12_laws 84 = .ok (.aload_n 0, 1) := by decide +kernel
theorem dX12_laws_85 : decode cX12_laws 85 = .ok (.iconst 0, 1) := by decide +kernel
theorem dX12_laws_86 : decode cX12_laws 86 = .ok (.invokevirtual 260, 3) := by decide +kernel
theorem dX12_laws_89 : decode cX12_laws 89 = .ok (.iinc 3 1, 3) := by decide +kernel
theorem dX12_laws_92 : decode cX12_laws 92 = .ok (.goto (-18), 3) := by decide +kernel
theorem dX12_laws_95 : decode cX12_laws 95 = .ok (.iconst 0, 1) := by decide +kernel
theorem dX12_laws_96 : decode cX12_laws 96 = .ok (.istore_n 3, 1) := by decide +kernel
theorem dX12_laws_97 : decode cX12_laws 97 = .ok (.iconst 0, 1) := by decide +kernel
theorem dX12_laws_98 : decode cX12_laws 98 = .ok (.istore 4, 2) := by decide +kernel
theorem dX12_laws_100 : decode cX12_laws 100 = .ok (.iload 4, 2) := by decide +kernel
theorem dX12_laws_102 : decode cX12_laws 102 = .ok (.aload_n 0, 1) := by decide +kernel
theorem dX12_laws_103 : decode cX12_laws 103 = .ok (.getfield 19, 3) := by decide +kernel
theorem dX12_laws_106 : decode cX12_laws 106 = .ok (.iconst 3, 1) := by decide +kernel
theorem dX12_laws_107 : decode cX12_laws 107 = .ok (.iaload, 1) := by decide +kernel
theorem dX12_laws_108 : decode cX12_laws 108 = .ok (.if_icmp .ge 21, 3) := by decide +kernel
theorem dX12_laws_111 : decode cX12_laws 111 = .ok (.iload_n 3, 1) := by decide +kernel
theorem dX12_laws_112 : decode cX12_laws 112 = .ok (.aload_n 0, 1) := by decide +kernel
theorem dX12_laws_113 : decode cX12_laws 113 = .ok (.getfield 25, 3) := by decide +kernel
theorem dX12_laws_116 : decode cX12_laws 116 = .ok (.iconst 1, 1) := by decide +kernel
theorem dX12_laws_117 : decode cX12_laws 117 = .ok (.iload 4, 2) := by decide +kernel
theorem dX12_laws_119 : decode cX12_laws 119 = .ok (.iadd, 1) := by decide +kernel
theorem dX12_laws_120 : decode cX12_laws 120 = .ok (.iaload, 1) := by decide +kernel
theorem dX12_laws_121 : decode cX12_laws 121 = .ok (.iadd, 1) := by decide +kernel
theorem dX12_laws_122 : decode cX12_laws 122 = .ok (.istore_n 3, 1) := by decide +kernel
theorem dX12_laws_123 : decode cX12_laws 123 = .ok (.iinc 4 1, 3) := by decide +kernel
theorem dX12_laws_126 : decode cX12_laws 126 = .ok (.goto (-26), 3) := by decide +kernel
theorem dX12_laws_129 : decode cX12_laws 129 = .ok (.aload_n 0, 1) := by decide +kernel
theorem dX12_laws_130 : decode cX12_laws 130 = .ok (.getfield 19, 3) := by decide +kernel
theorem dX12_laws_133 : decode cX12_laws 133 = .ok (.iconst 0, 1) := by decide +kernel
theorem dX12_laws_134 : decode cX12_laws 134 = .ok (.iload_n 2, 1) := by decide +kernel
theorem dX12_laws_135 : decode cX12_laws 135 = .ok (.iastore, 1) := by decide +kernel
theorem dX12_laws_136 : decode cX12_laws 136 = .ok (.iconst 0, 1) := by decide +kernel
theorem dX12_laws_137 : decode cX12_laws 137 = .ok (.istore 4, 2) := by decide +kernel
theorem dX12_laws_139 : decode cX12_laws 139 = .ok (.iload 4, 2) := by decide +kernel
theorem dX12_laws_141 : decode cX12_laws 141 = .ok (.bipush 77, 2) := by decide +kernel
theorem dX12_laws_143 : decode cX12_laws 143 = .ok (.if_icmp .ge 23, 3) := by decide +kernel
theorem dX12_laws_146 : decode cX12_laws 146 = .ok (.aload_n 0, 1) := by decide +kernel
theorem dX12_laws_147 : decode cX12_laws 147 = .ok (.getfield 25, 3) := by decide +kernel
theorem dX12_laws_150 : decode cX12_laws 150 = .ok (.iload 4, 2) := by decide +kernel
theorem dX12_laws_152 : decode cX12_laws 152 = .ok (.aload_n 0, 1) := by decide +kernel
theorem dX12_laws_153 : decode cX12_laws 153 = .ok (.getfield 40, 3) := by decide +kernel
theorem dX12_laws_156 : decode cX12_laws 156 = .ok (.iload 4, 2) := by decide +kernel
theorem dX12_laws_158 : decode cX12_laws 158 = .ok (.iaload, 1) := by decide +kernel
theorem dX12_laws_159 : decode cX12_laws 159 = .ok (.iastore, 1) := by decide +kernel
theorem dX12_laws_160 : decode cX12_laws 160 = .ok (.iinc 4 1, 3) := by decide +kernel
theorem dX12_laws_163 : decode cX12_laws 163 = .ok (.goto (-24), 3) := by decide +kernel
theorem dX12_laws_166 : decode cX12_laws 166 = .ok (.iload_n 3, 1) := by decide +kernel
theorem dX12_laws_167 : decode cX12_laws 167 = .ok (.ireturn, 1) := by decide +kernel
theorem dX12_image_0 : decode cX12_image 0 = .ok (.aload_n 0, 1) := by decide +kernel
theorem dX12_image_1 : decode cX12_image 1 = .ok (.iconst 0, 1) := by decide +kernel
theorem dX12_image_2 : decode cX12_image 2 = .ok (.putfield 56, 3) := by decide +kernel
theorem dX12_image_5 : decode cX12_image 5 = .ok (.iload_n 1, 1) := by decide +kernel
theorem dX12_image_6 : decode cX12_image 6 = .ok (.i2l, 1) := by decide +kernel
theorem dX12_image_7 : decode cX12_image 7 = .ok (.lconst 0, 1) := by decide +kernel
theorem dX12_image_8 : decode cX12_image 8 = .ok (.lconst 1, 1) := by decide +kernel
theorem dX12_image_9 : decode cX12_image 9 = .ok (.invokestatic 66, 3) := by decide +kernel
theorem dX12_image_12 : decode cX12_image 12 = .ok (.ifCond .ne 6, 3) := by decide +kernel
theorem dX12_image_15 : decode cX12_image 15 = .ok (.ldc 76, 2) := by decide +kernel
theorem dX12_image_17 : decode cX12_image 17 = .ok (.ireturn, 1) := by decide +kernel
theorem dX12_image_18 : decode cX12_image 18 = .ok (.aload_n 0, 1) := by decide +kernel
theorem dX12_image_19 : decode cX12_image 19 = .ok (.getfield 200, 3) := by decide +kernel
theorem dX12_image_22 : decode cX12_image 22 = .ok (.ifCond .ne 6, 3) := by decide +kernel
theorem dX12_image_25 : decode cX12_image 25 = .ok (.ldc 214, 2) := by decide +kernel
theorem dX12_image_27 : decode cX12_image 27 = .ok (.ireturn, 1) := by decide +kernel
theorem dX12_image_28 : decode cX12_image 28 = .ok (.iconst 0, 1) := by decide +kernel
theorem dX12_image_29 : decode cX12_image 29 = .ok (.istore_n 2, 1) := by decide +kernel
theorem dX12_image_30 : decode cX12_image 30 = .ok (.iload_n 2, 1) := by decide +kernel
theorem dX12_image_31 : decode cX12_image 31 = .ok (.bipush 58, 2) := by decide +kernel
theorem dX12_image_33 : decode cX12_image 33 = .ok (.if_icmp .ge 26, 3) := by decide +kernel
theorem dX12_image_36 : decode cX12_image 36 = .ok (.aload_n 0, 1) := by decide +kernel
theorem dX12_image_37 : decode cX12_image 37 = .ok (.getfield 47, 3) := by decide +kernel
theorem dX12_image_40 : decode cX12_image 40 = .ok (.bipush 58, 2) := by decide +kernel
theorem dX12_image_42 : decode cX12_image 42 = .ok (.iload_n 1, 1) := by decide +kernel
theorem dX12_image_43 : decode cX12_image 43 = .ok (.imul, 1) := by decide +kernel
theorem dX12_image_44 : decode cX12_image 44 = .ok (.iload_n 2, 1) := by decide +kernel
theorem dX12_image_45 : decode cX12_image 45 = .ok (.iadd, 1) := by decide +kernel
theorem dX12_image_46 : decode cX12_image 46 = .ok (.aload_n 0, 1) := by decide +kernel
theorem dX12_image_47 : decode cX12_image 47 = .ok (.getfield 19, 3) := by decide +kernel
theorem dX12_image_50 : decode cX12_image 50 = .ok (.iload_n 2, 1) := by decide +kernel
theorem dX12_image_51 : decode cX12_image 51 = .ok (.iaload, 1) := by decide +kernel
theorem dX12_image_52 : decode cX12_image 52 = .ok (.iastore, 1) := by decide +kernel
theorem dX12_image_53 : decode cX12_image 53 = .ok (.iinc 2 1, 3) := by decide +kernel
theorem dX12_image_56 : decode cX12_image 56 = .ok (.goto (-26), 3) := by decide +kernel
theorem dX12_image_59 : decode cX12_image 59 = .ok (.iconst 0, 1) := by decide +kernel
theorem dX12_image_60 : decode cX12_image 60 = .ok (.istore_n 2, 1) := by decide +kernel
theorem dX12_image_61 : decode cX12_image 61 = .ok (.iload_n 2, 1) := by decide +kernel
theorem dX12_image_62 : decode cX12_image 62 = .ok (.bipush 77, 2) := by decide +kernel
theorem dX12_image_64 : decode cX12_image 64 = .ok (.if_icmp .ge 26, 3) := by decide +kernel
theorem dX12_image_67 : decode cX12_image 67 = .ok (.aload_n 0, 1) := by decide +kernel
theorem dX12_image_68 : decode cX12_image 68 = .ok (.getfield 50, 3) := by decide +kernel
theorem dX12_image_71 : decode cX12_image 71 = .ok (.bipush 77, 2) := by decide +kernel
theorem dX12_image_73 : decode cX12_image 73 = .ok (.iload_n 1, 1) := by decide +kernel
theorem dX12_image_74 : decode cX12_image 74 = .ok (.imul, 1) := by decide +kernel
theorem dX12_image_75 : decode cX12_image 75 = .ok (.iload_n 2, 1) := by decide +kernel
theorem dX12_image_76 : decode cX12_image 76 = .ok (.iadd, 1) := by decide +kernel
theorem dX12_image_77 : decode cX12_image 77 = .ok (.aload_n 0, 1) := by decide +kernel
theorem dX12_image_78 : decode cX12_image 78 = .ok (.getfield 25, 3) := by decide +kernel
theorem dX12_image_81 : decode cX12_image 81 = .ok (.iload_n 2, 1) := by decide +kernel
theorem dX12_image_82 : decode cX12_image 82 = .ok (.iaload, 1) := by decide +kernel
theorem dX12_image_83 : decode cX12_image 83 = .ok (.iastore, 1) := by decide +kernel
theorem dX12_image_84 : decode cX12_image 84 = .ok (.iinc 2 1, 3) := by decide +kernel
theorem dX12_image_87 : decode cX12_image 87 = .ok (.goto (-26), 3) := by decide +kernel
theorem dX12_image_90 : decode cX12_image 90 = .ok (.aload_n 0, 1) := by decide +kernel
theorem dX12_image_91 : decode cX12_image 91 = .ok (.getfield 43, 3) := by decide +kernel
theorem dX12_image_94 : decode cX12_image 94 = .ok (.iload_n 1, 1) := by decide +kernel
theorem dX12_image_95 : decode cX12_image 95 = .ok (.iconst 1, 1) := by decide +kernel
theorem dX12_image_96 : decode cX12_image 96 = .ok (.bastore, 1) := by decide +kernel
theorem dX12_image_97 : decode cX12_image 97 = .ok (.iconst 1, 1) := by decide +kernel
theorem dX12_image_98 : decode cX12_image 98 = .ok (.ireturn, 1) := by decide +kernel
theorem dX12_restore_0 : decode cX12_restore 0 = .ok (.aload_n 0, 1) := by decide +kernel
theorem dX12_restore_1 : decode cX12_restore 1 = .ok (.iconst 0, 1) := by decide +kernel
theorem dX12_restore_2 : decode cX12_restore 2 = .ok (.putfield 56, 3) := by decide +kernel
theorem dX12_restore_5 : decode cX12_restore 5 = .ok (.iload_n 1, 1) := by decide +kernel
theorem dX12_restore_6 : decode cX12_restore 6 = .ok (.i2l, 1) := by decide +kernel
theorem dX12_restore_7 : decode cX12_restore 7 = .ok (.lconst 0, 1) := by decide +kernel
theorem dX12_restore_8 : decode cX12_restore 8 = .ok (.lconst 1, 1) := by decide +kernel
theorem dX12_restore_9 : decode cX12_restore 9 = .ok (.invokestatic 66, 3) := by decide +kernel
theorem dX12_restore_12 : decode cX12_restore 12 = .ok (.ifCond .ne 6, 3) := by decide +kernel
theorem dX12_restore_15 : decode cX12_restore 15 = .ok (.ldc 76, 2) := by decide +kernel
theorem dX12_restore_17 : decode cX12_restore 17 = .ok (.ireturn, 1) := by decide +kernel
theorem dX12_restore_18 : decode cX12_restore 18 = .ok (.aload_n 0, 1) := by decide +kernel
theorem dX12_restore_19 : decode cX12_restore 19 = .ok (.getfield 43, 3) := by decide +kernel
theorem dX12_restore_22 : decode cX12_restore 22 = .ok (.iload_n 1, 1) := by decide +kernel
theorem dX12_restore_23 : decode cX12_restore 23 = .ok (.baload, 1) := by decide +kernel
theorem dX12_restore_24 : decode cX12_restore 24 = .ok (.ifCond .ne 6, 3) := by decide +kernel
theorem dX12_restore_27 : decode cX12_restore 27 = .ok (.ldc 214, 2) := by decide +kernel
theorem dX12_restore_29 : decode cX12_restore 29 = .ok (.ireturn, 1) := by decide +kernel
theorem dX12_restore_30 : decode cX12_restore 30 = .ok (.iconst 0, 1) := by decide +kernel
theorem dX12_restore_31 : decode cX12_restore 31 = .ok (.istore_n 2, 1) := by decide +kernel
theorem dX12_restore_32 : decode cX12_restore 32 = .ok (.iload_n 2, 1) := by decide +kernel
theorem dX12_restore_33 : decode cX12_restore 33 = .ok (.bipush 58, 2) := by decide +kernel
theorem dX12_restore_35 : decode cX12_restore 35 = .ok (.if_icmp .ge 26, 3) := by decide +kernel
theorem dX12_restore_38 : decode cX12_restore 38 = .ok (.aload_n 0, 1) := by decide +kernel
theorem dX12_restore_39 : decode cX12_restore 39 = .ok (.getfield 19, 3) := by decide +kernel
theorem dX12_restore_42 : decode cX12_restore 42 = .ok (.iload_n 2, 1) := by decide +kernel
theorem dX12_restore_43 : decode cX12_restore 43 = .ok (.aload_n 0, 1) := by decide +kernel
theorem dX12_restore_44 : decode cX12_restore 44 = .ok (.getfield 47, 3) := by decide +kernel
theorem dX12_restore_47 : decode cX12_restore 47 = .ok (.bipush 58, 2) := by decide +kernel
theorem dX12_restore_49 : decode cX12_restore 49 = .ok (.iload_n 1, 1) := by decide +kernel
theorem dX12_restore_50 : decode cX12_restore 50 = .ok (.imul, 1) := by decide +kernel
theorem dX12_restore_51 : decode cX12_restore 51 = .ok (.iload_n 2, 1) := by decide +kernel
theorem dX12_restore_52 : decode cX12_restore 52 = .ok (.iadd, 1) := by decide +kernel
theorem dX12_restore_53 : decode cX12_restore 53 = .ok (.iaload, 1) := by decide +kernel
theorem dX12_restore_54 : decode cX12_restore 54 = .ok (.iastore, 1) := by decide +kernel
theorem dX12_restore_55 : decode cX12_restore 55 = .ok (.iinc 2 1, 3) := by decide +kernel
theorem dX12_restore_58 : decode cX12_restore 58 = .ok (.goto (-26), 3) := by decide +kernel
theorem dX12_restore_61 : decode cX12_restore 61 = .ok (.iconst 0, 1) := by decide +kernel
theorem dX12_restore_62 : decode cX12_restore 62 = .ok (.istore_n 2, 1) := by decide +kernel
theorem dX12_restore_63 : decode cX12_restore 63 = .ok (.iload_n 2, 1) := by decide +kernel
theorem dX12_restore_64 : decode cX12_restore 64 = .ok (.bipush 77, 2) := by decide +kernel
theorem dX12_restore_66 : decode cX12_restore 66 = .ok (.if_icmp .ge 26, 3) := by decide +kernel
theorem dX12_restore_69 : decode cX12_restore 69 = .ok (.aload_n 0, 1) := by decide +kernel
theorem dX12_restore_70 : decode cX12_restore 70 = .ok (.getfield 25, 3) := by decide +kernel
theorem dX12_restore_73 : decode cX12_restore 73 = .ok (.iload_n 2, 1) := by decide +kernel
theorem dX12_restore_74 : decode cX12_restore 74 = .ok (.aload_n 0, 1) := by decide +kernel
theorem dX12_restore_75 : decode cX12_restore 75 = .ok (.getfield 50, 3) := by decide +kernel
theorem dX12_restore_78 : decode cX12_restore 78 = .ok (.bipush 77, 2) := by decide +kernel
theorem dX12_restore_80 : decode cX12_restore 80 = .ok (.iload_n 1, 1) := by decide +kernel
theorem dX12_restore_81 : decode cX12_restore 81 = .ok (.imul, 1) := by decide +kernel
theorem dX12_restore_82 : decode cX12_restore 82 = .ok (.iload_n 2, 1) := by decide +kernel
theorem dX12_restore_83 : decode cX12_restore 83 = .ok (.iadd, 1) := by decide +kernel
theorem dX12_restore_84 : decode cX12_restore 84 = .ok (.iaload, 1) := by decide +kernel
theorem dX12_restore_85 : decode cX12_restore 85 = .ok (.iastore, 1) := by decide +kernel
theorem dX12_restore_86 : decode cX12_restore 86 = .ok (.iinc 2 1, 3) := by decide +kernel
theorem dX12_restore_89 : decode cX12_restore 89 = .ok (.goto (-26), 3) := by decide +kernel
theorem dX12_restore_92 : decode cX12_restore 92 = .ok (.iconst 1, 1) := by decide +kernel
theorem dX12_restore_93 : decode cX12_restore 93 = .ok (.ireturn, 1) := by decide +kernel
theorem dX12_isOf_0 : decode cX12_isOf 0 = .ok (.iload_n 1, 1) := by decide +kernel
theorem dX12_isOf_1 : decode cX12_isOf 1 = .ok (.ifCond .eq 23, 3) := by decide +kernel
theorem dX12_isOf_4 : decode cX12_isOf 4 = .ok (.iload_n 0, 1) := by decide +kernel
theorem dX12_isOf_5 : decode cX12_isOf 5 = .ok (.iload_n 1, 1) := by decide +kernel
theorem dX12_isOf_6 : decode cX12_isOf 6 = .ok (.if_icmp .eq 18, 3) := by decide +kernel
theorem dX12_isOf_9 : decode cX12_isOf 9 = .ok (.iload_n 1, 1) := by decide +kernel
theorem dX12_isOf_10 : decode cX12_isOf 10 = .ok (.iconst 2, 1) := by decide +kernel
theorem dX12_isOf_11 : decode cX12_isOf 11 = .ok (.if_icmp .ne 17, 3) := by decide +kernel
theorem dX12_isOf_14 : decode cX12_isOf 14 = .ok (.iload_n 0, 1) := by decide +kernel
theorem dX12_isOf_15 : decode cX12_isOf 15 = .ok (.iconst 3, 1) := by decide +kernel
theorem dX12_isOf_16 : decode cX12_isOf 16 = .ok (.if_icmp .eq 8, 3) := by decide +kernel
theorem dX12_isOf_19 : decode cX12_isOf 19 = .ok (.iload_n 0, 1) := by decide +kernel
theorem dX12_isOf_20 : decode cX12_isOf 20 = .ok (.iconst 4, 1) := by decide +kernel
theorem dX12_isOf_21 : decode cX12_isOf 21 = .ok (.if_icmp .ne 7, 3) := by decide +kernel
theorem dX12_isOf_24 : decode cX12_isOf 24 = .ok (.iconst 1, 1) := by decide +kernel
theorem dX12_isOf_25 : decode cX12_isOf 25 = .ok (.goto 4, 3) := by decide +kernel
theorem dX12_isOf_28 : decode cX12_isOf 28 = .ok (.iconst 0, 1) := by decide +kernel
theorem dX12_isOf_29 : decode cX12_isOf 29 = .ok (.ireturn, 1) := by decide +kernel
theorem dX12_kind_0 : decode cX12_kind 0 = .ok (.aload_n 0, 1) := by decide +kernel
theorem dX12_kind_1 : decode cX12_kind 1 = .ok (.iconst 0, 1) := by decide +kernel
theorem dX12_kind_2 : decode cX12_kind 2 = .ok (.putfield 56, 3) := by decide +kernel
theorem dX12_kind_5 : decode cX12_kind 5 = .ok (.aload_n 0, 1) := by decide +kernel
theorem dX12_kind_6 : decode cX12_kind 6 = .ok (.iload_n 1, 1) := by decide +kernel
theorem dX12_kind_7 : decode cX12_kind 7 = .ok (.invokevirtual 263, 3) := by decide +kernel
theorem dX12_kind_10 : decode cX12_kind 10 = .ok (.ifCond .eq 15, 3) := by decide +kernel
theorem dX12_kind_13 : decode cX12_kind 13 = .ok (.aload_n 0, 1) := by decide +kernel
theorem dX12_kind_14 : decode cX12_kind 14 = .ok (.getfield 19, 3) := by decide +kernel
theorem dX12_kind_17 : decode cX12_kind 17 = .ok (.bipush 24, 2) := by decide +kernel
theorem dX12_kind_19 : decode cX12_kind 19 = .ok (.iload_n 1, 1) := by decide +kernel
theorem dX12_kind_20 : decode cX12_kind 20 = .ok (.iadd, 1) := by decide +kernel
theorem dX12_kind_21 : decode cX12_kind 21 = .ok (.iaload, 1) := by decide +kernel
theorem dX12_kind_22 : decode cX12_kind 22 = .ok (.goto 5, 3) := by decide +kernel
theorem dX12_kind_25 : decode cX12_kind 25 = .ok (.ldc 76, 2) := by decide +kernel
theorem dX12_kind_27 : decode cX12_kind 27 = .ok (.ireturn, 1) := by decide +kernel
theorem dX12_as_0 : decode cX12_as 0 = .ok (.aload_n 0, 1) := by decide +kernel
theorem dX12_as_1 : decode cX12_as 1 = .ok (.iconst 0, 1) := by decide +kernel
theorem dX12_as_2 : decode cX12_as 2 = .ok (.putfield 56, 3) := by decide +kernel
theorem dX12_as_5 : decode cX12_as 5 = .ok (.aload_n 0, 1) := by decide +kernel
theorem dX12_as_6 : decode cX12_as 6 = .ok (.iload_n 1, 1) := by decide +kernel
theorem dX12_as_7 : decode cX12_as 7 = .ok (.invokevirtual 263, 3) := by decide +kernel
theorem dX12_as_10 : decode cX12_as 10 = .ok (.ifCond .eq 15, 3) := by decide +kernel
theorem dX12_as_13 : decode cX12_as 13 = .ok (.iload_n 2, 1) := by decide +kernel
theorem dX12_as_14 : decode cX12_as 14 = .ok (.i2l, 1) := by decide +kernel
theorem dX12_as_15 : decode cX12_as 15 = .ok (.lconst 0, 1) := by decide +kernel
theorem dX12_as_16 : decode cX12_as 16 = .ok (.ldc2_w 314, 3) := by decide +kernel
theorem dX12_as_19 : decode cX12_as 19 = .ok (.invokestatic 66, 3) := by decide +kernel
theorem dX12_as_22 : decode cX12_as 22 = .ok (.ifCond .ne 6, 3) := by decide +kernel
theorem dX12_as_25 : decode cX12_as 25 = .ok (.ldc 76, 2) := by decide +kernel
theorem dX12_as_27 : decode cX12_as 27 = .ok (.ireturn, 1) := by decide +kernel
theorem dX12_as_28 : decode cX12_as 28 = .ok (.aload_n 0, 1) := by decide +kernel
theorem dX12_as_29 : decode cX12_as 29 = .ok (.iconst 0, 1) := by decide +kernel
theorem dX12_as_30 : decode cX12_as 30 = .ok (.putfield 60, 3) := by decide +kernel
theorem dX12_as_33 : decode cX12_as 33 = .ok (.aload_n 0, 1) := by decide +kernel
theorem dX12_as_34 : decode cX12_as 34 = .ok (.getfield 19, 3) := by decide +kernel
theorem dX12_as_37 : decode cX12_as 37 = .ok (.bipush 24, 2) := by decide +kernel
theorem dX12_as_39 : decode cX12_as 39 = .ok (.iload_n 1, 1) := by decide +kernel
theorem dX12_as_40 : decode cX12_as 40 = .ok (.iadd, 1) := by decide +kernel
theorem dX12_as_41 : decode cX12_as 41 = .ok (.iaload, 1) := by decide +kernel
theorem dX12_as_42 : decode cX12_as 42 = .ok (.iload_n 2, 1) := by decide +kernel
theorem dX12_as_43 : decode cX12_as 43 = .ok (.invokestatic 227, 3) := by decide +kernel
theorem dX12_as_46 : decode cX12_as 46 = .ok (.ifCond .eq 7, 3) := by decide +kernel
theorem dX12_as_49 : decode cX12_as 49 = .ok (.iload_n 1, 1) := by decide +kernel
theorem dX12_as_50 : decode cX12_as 50 = .ok (.goto 8, 3) := by decide +kernel
theorem dX12_as_53 : decode cX12_as 53 = .ok (.aload_n 0, 1) := by decide +kernel
theorem dX12_as_54 : decode cX12_as 54 = .ok (.iconst 3, 1) := by decide +kernel
theorem dX12_as_55 : decode cX12_as 55 = .ok (.invokevirtual 77, 3) := by decide +kernel
theorem dX12_as_58 : decode cX12_as 58 = .ok (.ireturn, 1) := by decide +kernel
theorem dX12_began_0 : decode cX12_began 0 = .ok (.aload_n 0, 1) := by decide +kernel
theorem dX12_began_1 : decode cX12_began 1 = .ok (.getfield 316, 3) := by decide +kernel
theorem dX12_began_4 : decode cX12_began 4 = .ok (.bipush 16, 2) := by decide +kernel
theorem dX12_began_6 : decode cX12_began 6 = .ok (.if_icmp .ge 23, 3) := by decide +kernel
theorem dX12_began_9 : decode cX12_began 9 = .ok (.aload_n 0, 1) := by decide +kernel
theorem dX12_began_10 : decode cX12_began 10 = .ok (.getfield 53, 3) := by decide +kernel
theorem dX12_began_13 : decode cX12_began 13 = .ok (.aload_n 0, 1) := by decide +kernel
theorem dX12_began_14 : decode cX12_began 14 = .ok (.getfield 316, 3) := by decide +kernel
theorem dX12_began_17 : decode cX12_began 17 = .ok (.iload_n 1, 1) := by decide +kernel
theorem dX12_began_18 : decode cX12_began 18 = .ok (.iastore, 1) := by decide +kernel
theorem dX12_began_19 : decode cX12_began 19 = .ok (.aload_n 0, 1) := by decide +kernel
theorem dX12_began_20 : decode cX12_began 20 = .ok (.dup, 1) := by decide +kernel
theorem dX12_began_21 : decode cX12_began 21 = .ok (.getfield 316, 3) := by decide +kernel
theorem dX12_began_24 : decode cX12_began 24 = .ok (.iconst 1, 1) := by decide +kernel
theorem dX12_began_25 : decode cX12_began 25 = .ok (.iadd, 1) := by decide +kernel
theorem dX12_began_26 : decode cX12_began 26 = .ok (.putfield 316, 3) := by decide +kernel
theorem dX12_began_29 : decode cX12_began 29 = .ok (.return_, 1) := by decide +kernel
theorem dX12_plainSize_0 : decode cX12_plainSize 0 = .ok (.aload_n 0, 1) := by decide +kernel
theorem dX12_plainSize_1 : decode cX12_plainSize 1 = .ok (.bipush 10, 2) := by decide +kernel
theorem dX12_plainSize_3 : decode cX12_plainSize 3 = .ok (.invokevirtual 319, 3) := by decide +kernel
theorem dX12_plainSize_6 : decode cX12_plainSize 6 = .ok (.aload_n 0, 1) := by decide +kernel
theorem dX12_plainSize_7 : decode cX12_plainSize 7 = .ok (.getfield 25, 3) := by decide +kernel
theorem dX12_plainSize_10 : decode cX12_plainSize 10 = .ok (.iconst 1, 1) := by decide +kernel
theorem dX12_plainSize_11 : decode cX12_plainSize 11 = .ok (.iload_n 1, 1) := by decide +kernel
theorem dX12_plainSize_12 : decode cX12_plainSize 12 = .ok (.iadd, 1) := by decide +kernel
theorem dX12_plainSize_13 : decode cX12_plainSize 13 = .ok (.iaload, 1) := by decide +kernel
theorem dX12_plainSize_14 : decode cX12_plainSize 14 = .ok (.ireturn, 1) := by decide +kernel
theorem dX12_ageMark_0 : decode cX12_ageMark 0 = .ok (.iload_n 2, 1) := by decide +kernel
theorem dX12_ageMark_1 : decode cX12_ageMark 1 = .ok (.iconst 4, 1) := by decide +kernel
theorem dX12_ageMark_2 : decode cX12_ageMark 2 = .ok (.if_icmp .ne 9, 3) := by decide +kernel
theorem dX12_ageMark_5 : decode cX12_ageMark 5 = .ok (.aload_n 0, 1) := by decide +kernel
theorem dX12_ageMark_6 : decode cX12_ageMark 6 = .ok (.bipush 22, 2) := by decide +kernel
theorem dX12_ageMark_8 : decode cX12_ageMark 8 = .ok (.invokevirtual 319, 3) := by decide +kernel
theorem dX12_ageMark_11 : decode cX12_ageMark 11 = .ok (.aload_n 0, 1) := by decide +kernel
theorem dX12_ageMark_12 : decode cX12_ageMark 12 = .ok (.bipush 21, 2) := by decide +kernel
theorem dX12_ageMark_14 : decode cX12_ageMark 14 = .ok (.invokevirtual 319, 3) := by decide +kernel
theorem dX12_ageMark_17 : decode cX12_ageMark 17 = .ok (.aload_n 0, 1) := by decide +kernel
theorem dX12_ageMark_18 : decode cX12_ageMark 18 = .ok (.bipush 20, 2) := by decide +kernel
theorem dX12_ageMark_20 : decode cX12_ageMark 20 = .ok (.invokevirtual 319, 3) := by decide +kernel
theorem dX12_ageMark_23 : decode cX12_ageMark 23 = .ok (.iload_n 1, 1) := by decide +kernel
theorem dX12_ageMark_24 : decode cX12_ageMark 24 = .ok (.bipush 10, 2) := by decide +kernel
theorem dX12_ageMark_26 : decode cX12_ageMark 26 = .ok (.aload_n 0, 1) := by decide +kernel
theorem dX12_ageMark_27 : decode cX12_ageMark 27 = .ok (.getfield 19, 3) := by decide +kernel
theorem dX12_ageMark_30 : decode cX12_ageMark 30 = .ok (.bipush 30, 2) := by decide +kernel
theorem dX12_ageMark_32 : decode cX12_ageMark 32 = .ok (.iload_n 1, 1) := by decide +kernel
theorem dX12_ageMark_33 : decode cX12_ageMark 33 = .ok (.iadd, 1) := by decide +kernel
theorem dX12_ageMark_34 : decode cX12_ageMark 34 = .ok (.iaload, 1) := by decide +kernel
theorem dX12_ageMark_35 : decode cX12_ageMark 35 = .ok (.imul, 1) := by decide +kernel
theorem dX12_ageMark_36 : decode cX12_ageMark 36 = .ok (.iadd, 1) := by decide +kernel
theorem dX12_ageMark_37 : decode cX12_ageMark 37 = .ok (.istore_n 3, 1) := by decide +kernel
theorem dX12_ageMark_38 : decode cX12_ageMark 38 = .ok (.iload_n 2, 1) := by decide +kernel
theorem dX12_ageMark_39 : decode cX12_ageMark 39 = .ok (.iconst 4, 1) := by decide +kernel
theorem dX12_ageMark_40 : decode cX12_ageMark 40 = .ok (.if_icmp .ne 9, 3) := by decide +kernel
theorem dX12_ageMark_43 : decode cX12_ageMark 43 = .ok (.iconst 2, 1) := by decide +kernel
theorem dX12_ageMark_44 : decode cX12_ageMark 44 = .ok (.iload_n 3, 1) := by decide +kernel
theorem dX12_ageMark_45 : decode cX12_ageMark 45 = .ok (.imul, 1) := by decide +kernel
theorem dX12_ageMark_46 : decode cX12_ageMark 46 = .ok (.goto 4, 3) := by decide +kernel
theorem dX12_ageMark_49 : decode cX12_ageMark 49 = .ok (.iload_n 3, 1) := by decide +kernel
theorem dX12_ageMark_50 : decode cX12_ageMark 50 = .ok (.ireturn, 1) := by decide +kernel
theorem dX12_ageSize_0 : decode cX12_ageSize 0 = .ok (.iload_n 2, 1) := by decide +kernel
theorem dX12_ageSize_1 : decode cX12_ageSize 1 = .ok (.iconst 2, 1) := by decide +kernel
theorem dX12_ageSize_2 : decode cX12_ageSize 2 = .ok (.if_icmp .eq 19, 3) := by decide +kernel
theorem dX12_ageSize_5 : decode cX12_ageSize 5 = .ok (.aload_n 0, 1) := by decide +kernel
theorem dX12_ageSize_6 : decode cX12_ageSize 6 = .ok (.iload_n 2, 1) := by decide +kernel
theorem dX12_ageSize_7 : decode cX12_ageSize 7 = .ok (.iconst 3, 1) := by decide +kernel
theorem dX12_ageSize_8 : decode cX12_ageSize 8 = .ok (.if_icmp .ne 8, 3) := by decide +kernel
theorem dX12_ageSize_11 : decode cX12_ageSize 11 = .ok (.bipush 12, 2) := by decide +kernel
theorem dX12_ageSize_13 : decode cX12_ageSize 13 = .ok (.goto 5, 3) := by decide +kernel
theorem dX12_ageSize_16 : decode cX12_ageSize 16 = .ok (.bipush 13, 2) := by decide +kernel
theorem dX12_ageSize_18 : decode cX12_ageSize 18 = .ok (.invokevirtual 319, 3) := by decide +kernel
theorem dX12_ageSize_21 : decode cX12_ageSize 21 = .ok (.aload_n 0, 1) := by decide +kernel
theorem dX12_ageSize_22 : decode cX12_ageSize 22 = .ok (.bipush 11, 2) := by decide +kernel
theorem dX12_ageSize_24 : decode cX12_ageSize 24 = .ok (.invokevirtual 319, 3) := by decide +kernel
theorem dX12_ageSize_27 : decode cX12_ageSize 27 = .ok (.aload_n 0, 1) := by decide +kernel
theorem dX12_ageSize_28 : decode cX12_ageSize 28 = .ok (.iload_n 1, 1) := by decide +kernel
theorem dX12_ageSize_29 : decode cX12_ageSize 29 = .ok (.invokevirtual 322, 3) := by decide +kernel
theorem dX12_ageSize_32 : decode cX12_ageSize 32 = .ok (.istore_n 3, 1) := by decide +kernel
theorem dX12_ageSize_33 : decode cX12_ageSize 33 = .ok (.iload_n 3, 1) := by decide +kernel
theorem dX12_ageSize_34 : decode cX12_ageSize 34 = .ok (.aload_n 0, 1) := by decide +kernel
theorem dX12_ageSize_35 : decode cX12_ageSize 35 = .ok (.iload_n 1, 1) := by decide +kernel
theorem dX12_ageSize_36 : decode cX12_ageSize 36 = .ok (.iload_n 2, 1) := by decide +kernel
theorem dX12_ageSize_37 : decode cX12_ageSize 37 = .ok (.invokevirtual 325, 3) := by decide +kernel
theorem dX12_ageSize_40 : decode cX12_ageSize 40 = .ok (.iadd, 1) := by decide +kernel
theorem dX12_ageSize_41 : decode cX12_ageSize 41 = .ok (.istore_n 3, 1) := by decide +kernel
theorem dX12_ageSize_42 : decode cX12_ageSize 42 = .ok (.iload_n 2, 1) := by decide +kernel
theorem dX12_ageSize_43 : decode cX12_ageSize 43 = .ok (.iconst 3, 1) := by decide +kernel
theorem dX12_ageSize_44 : decode cX12_ageSize 44 = .ok (.if_icmp .ne 8, 3) := by decide +kernel
theorem dX12_ageSize_47 : decode cX12_ageSize 47 = .ok (.iload_n 3, 1) := by decide +kernel
theorem dX12_ageSize_48 : decode cX12_ageSize 48 = .ok (.ineg, 1) := by decide +kernel
theorem dX12_ageSize_49 : decode cX12_ageSize 49 = .ok (.goto 19, 3) := by decide +kernel
theorem dX12_ageSize_52 : decode cX12_ageSize 52 = .ok (.iload_n 2, 1) := by decide +kernel
theorem dX12_ageSize_53 : decode cX12_ageSize 53 = .ok (.iconst 4, 1) := by decide +kernel
theorem dX12_ageSize_54 : decode cX12_ageSize 54 = .ok (.if_icmp .ne 13, 3) := by decide +kernel
theorem dX12_ageSize_57 : decode cX12_ageSize 57 = .ok (.iload_n 3, 1) := by decide +kernel
theorem dX12_ageSize_58 : decode cX12_ageSize 58 = .ok (.aload_n 0, 1) := by decide +kernel
theorem dX12_ageSize_59 : decode cX12_ageSize 59 = .ok (.iload_n 1, 1) := by decide +kernel
theorem dX12_ageSize_60 : decode cX12_ageSize 60 = .ok (.invokevirtual 269, 3) := by decide +kernel
theorem dX12_ageSize_63 : decode cX12_ageSize 63 = .ok (.iadd, 1) := by decide +kernel
theorem dX12_ageSize_64 : decode cX12_ageSize 64 = .ok (.goto 4, 3) := by decide +kernel
theorem dX12_ageSize_67 : decode cX12_ageSize 67 = .ok (.iload_n 3, 1) := by decide +kernel
theorem dX12_ageSize_68 : decode cX12_ageSize 68 = .ok (.ireturn, 1) := by decide +kernel
theorem dX12_otherSize_0 : decode cX12_otherSize 0 = .ok (.iload_n 2, 1) := by decide +kernel
theorem dX12_otherSize_1 : decode cX12_otherSize 1 = .ok (.iconst 1, 1) := by decide +kernel
theorem dX12_otherSize_2 : decode cX12_otherSize 2 = .ok (.if_icmp .ne 9, 3) := by decide +kernel
theorem dX12_otherSize_5 : decode cX12_otherSize 5 = .ok (.aload_n 0, 1) := by decide +kernel
theorem dX12_otherSize_6 : decode cX12_otherSize 6 = .ok (.iload_n 1, 1) := by decide +kernel
theorem dX12_otherSize_7 : decode cX12_otherSize 7 = .ok (.invokevirtual 322, 3) := by decide +kernel
theorem dX12_otherSize_10 : decode cX12_otherSize 10 = .ok (.ireturn, 1) := by decide +kernel
theorem dX12_otherSize_11 : decode cX12_otherSize 11 = .ok (.aload_n 0, 1) := by decide +kernel
theorem dX12_otherSize_12 : decode cX12_otherSize 12 = .ok (.bipush 14, 2) := by decide +kernel
theorem dX12_otherSize_14 : decode cX12_otherSize 14 = .ok (.invokevirtual 319, 3) := by decide +kernel
theorem dX12_otherSize_17 : decode cX12_otherSize 17 = .ok (.aload_n 0, 1) := by decide +kernel
theorem dX12_otherSize_18 : decode cX12_otherSize 18 = .ok (.iload_n 1, 1) := by decide +kernel
theorem dX12_otherSize_19 : decode cX12_otherSize 19 = .ok (.invokevirtual 322, 3) := by decide +kernel
theorem dX12_otherSize_22 : decode cX12_otherSize 22 = .ok (.bipush 100, 2) := by decide +kernel
theorem dX12_otherSize_24 : decode cX12_otherSize 24 = .ok (.isub, 1) := by decide +kernel
theorem dX12_otherSize_25 : decode cX12_otherSize 25 = .ok (.ireturn, 1) := by decide +kernel
theorem dX12_otherMark_0 : decode cX12_otherMark 0 = .ok (.aload_n 0, 1) := by decide +kernel
theorem dX12_otherMark_1 : decode cX12_otherMark 1 = .ok (.iload_n 2, 1) := by decide +kernel
theorem dX12_otherMark_2 : decode cX12_otherMark 2 = .ok (.iconst 1, 1) := by decide +kernel
theorem dX12_otherMark_3 : decode cX12_otherMark 3 = .ok (.if_icmp .ne 8, 3) := by decide +kernel
theorem dX12_otherMark_6 : decode cX12_otherMark 6 = .ok (.bipush 23, 2) := by decide +kernel
theorem dX12_otherMark_8 : decode cX12_otherMark 8 = .ok (.goto 5, 3) := by decide +kernel
theorem dX12_otherMark_11 : decode cX12_otherMark 11 = .ok (.bipush 24, 2) := by decide +kernel
theorem dX12_otherMark_13 : decode cX12_otherMark 13 = .ok (.invokevirtual 319, 3) := by decide +kernel
theorem dX12_otherMark_16 : decode cX12_otherMark 16 = .ok (.aload_n 0, 1) := by decide +kernel
theorem dX12_otherMark_17 : decode cX12_otherMark 17 = .ok (.bipush 20, 2) := by decide +kernel
theorem dX12_otherMark_19 : decode cX12_otherMark 19 = .ok (.invokevirtual 319, 3) := by decide +kernel
theorem dX12_otherMark_22 : decode cX12_otherMark 22 = .ok (.aload_n 0, 1) := by decide +kernel
theorem dX12_otherMark_23 : decode cX12_otherMark 23 = .ok (.iload_n 1, 1) := by decide +kernel
theorem dX12_otherMark_24 : decode cX12_otherMark 24 = .ok (.iload_n 2, 1) := by decide +kernel
theorem dX12_otherMark_25 : decode cX12_otherMark 25 = .ok (.invokevirtual 328, 3) := by decide +kernel
theorem dX12_otherMark_28 : decode cX12_otherMark 28 = .ok (.istore_n 3, 1) := by decide +kernel
theorem dX12_otherMark_29 : decode cX12_otherMark 29 = .ok (.iload_n 2, 1) := by decide +kernel
theorem dX12_otherMark_30 : decode cX12_otherMark 30 = .ok (.iconst 1, 1) := by decide +kernel
theorem dX12_otherMark_31 : decode cX12_otherMark 31 = .ok (.if_icmp .ne 9, 3) := by decide +kernel
theorem dX12_otherMark_34 : decode cX12_otherMark 34 = .ok (.iload_n 1, 1) := by decide +kernel
theorem dX12_otherMark_35 : decode cX12_otherMark 35 = .ok (.iload_n 3, 1) := by decide +kernel
theorem dX12_otherMark_36 : decode cX12_otherMark 36 = .ok (.isub, 1) := by decide +kernel
theorem dX12_otherMark_37 : decode cX12_otherMark 37 = .ok (.goto 6, 3) := by decide +kernel
theorem dX12_otherMark_40 : decode cX12_otherMark 40 = .ok (.iload_n 1, 1) := by decide +kernel
theorem dX12_otherMark_41 : decode cX12_otherMark 41 = .ok (.iload_n 3, 1) := by decide +kernel
theorem dX12_otherMark_42 : decode cX12_otherMark 42 = .ok (.iadd, 1) := by decide +kernel
theorem dX12_otherMark_43 : decode cX12_otherMark 43 = .ok (.ireturn, 1) := by decide +kernel
theorem dX12_ask_0 : decode cX12_ask 0 = .ok (.aload_n 0, 1) := by decide +kernel
theorem dX12_ask_1 : decode cX12_ask 1 = .ok (.iconst 0, 1) := by decide +kernel
theorem dX12_ask_2 : decode cX12_ask 2 = .ok (.putfield 56, 3) := by decide +kernel
theorem dX12_ask_5 : decode cX12_ask 5 = .ok (.aload_n 0, 1) := by decide +kernel
theorem dX12_ask_6 : decode cX12_ask 6 = .ok (.iload_n 1, 1) := by decide +kernel
theorem dX12_ask_7 : decode cX12_ask 7 = .ok (.invokevirtual 263, 3) := by decide +kernel
theorem dX12_ask_10 : decode cX12_ask 10 = .ok (.ifCond .eq 13, 3) := by decide +kernel
theorem dX12_ask_13 : decode cX12_ask 13 = .ok (.iload_n 2, 1) := by decide +kernel
theorem dX12_ask_14 : decode cX12_ask 14 = .ok (.i2l, 1) := by decide +kernel
theorem dX12_ask_15 : decode cX12_ask 15 = .ok (.lconst 0, 1) := by decide +kernel
theorem dX12_ask_16 : decode cX12_ask 16 = .ok (.lconst 1, 1) := by decide +kernel
theorem dX12_ask_17 : decode cX12_ask 17 = .ok (.invokestatic 66, 3) := by decide +kernel
theorem dX12_ask_20 : decode cX12_ask 20 = .ok (.ifCond .ne 6, 3) := by decide +kernel
theorem dX12_ask_23 : decode cX12_ask 23 = .ok (.ldc 76, 2) := by decide +kernel
theorem dX12_ask_25 : decode cX12_ask 25 = .ok (.ireturn, 1) := by decide +kernel
theorem dX12_ask_26 : decode cX12_ask 26 = .ok (.aload_n 0, 1) := by decide +kernel
theorem dX12_ask_27 : decode cX12_ask 27 = .ok (.iconst 0, 1) := by decide +kernel
theorem dX12_ask_28 : decode cX12_ask 28 = .ok (.putfield 316, 3) := by decide +kernel
theorem dX12_ask_31 : decode cX12_ask 31 = .ok (.aload_n 0, 1) := by decide +kernel
theorem dX12_ask_32 : decode cX12_ask 32 = .ok (.getfield 19, 3) := by decide +kernel
theorem dX12_ask_35 : decode cX12_ask 35 = .ok (.bipush 24, 2) := by decide +kernel
theorem dX12_ask_37 : decode cX12_ask 37 = .ok (.iload_n 1, 1) := by decide +kernel
theorem dX12_ask_38 : decode cX12_ask 38 = .ok (.iadd, 1) := by decide +kernel
theorem dX12_ask_39 : decode cX12_ask 39 = .ok (.iaload, 1) := by decide +kernel
theorem dX12_ask_40 : decode cX12_ask 40 = .ok (.istore_n 3, 1) := by decide +kernel
theorem dX12_ask_41 : decode cX12_ask 41 = .ok (.iload_n 3, 1) := by decide +kernel
theorem dX12_ask_42 : decode cX12_ask 42 = .ok (.iconst 2, 1) := by decide +kernel
theorem dX12_ask_43 : decode cX12_ask 43 = .ok (.invokestatic 227, 3) := by decide +kernel
theorem dX12_ask_46 : decode cX12_ask 46 = .ok (.ifCond .eq 23, 3) := by decide +kernel
theorem dX12_ask_49 : decode cX12_ask 49 = .ok (.iload_n 2, 1) := by decide +kernel
theorem dX12_ask_50 : decode cX12_ask 50 = .ok (.ifCond .ne 12, 3) := by decide +kernel
theorem dX12_ask_53 : decode cX12_ask 53 = .ok (.aload_n 0, 1) := by decide +kernel
theorem dX12_ask_54 : decode cX12_ask 54 = .ok (.iload_n 1, 1) := by decide +kernel
theorem dX12_ask_55 : decode cX12_ask 55 = .ok (.iload_n 3, 1) := by decide +kernel
theorem dX12_ask_56 : decode cX12_ask 56 = .ok (.invokevirtual 331, 3) := by decide +kernel
theorem dX12_ask_59 : decode cX12_ask 59 = .ok (.goto 9, 3) := by decide +kernel
theorem dX12_ask_62 : decode cX12_ask 62 = .ok (.aload_n 0, 1) := by decide +kernel
theorem dX12_ask_63 : decode cX12_ask 63 = .ok (.iload_n 1, 1) := by decide +kernel
theorem dX12_ask_64 : decode cX12_ask 64 = .ok (.iload_n 3, 1) := by decide +kernel
theorem dX12_ask_65 : decode cX12_ask 65 = .ok (.invokevirtual 325, 3) := by decide +kernel
theorem dX12_ask_68 : decode cX12_ask 68 = .ok (.ireturn, 1) := by decide +kernel
theorem dX12_ask_69 : decode cX12_ask 69 = .ok (.iload_n 2, 1) := by decide +kernel
theorem dX12_ask_70 : decode cX12_ask 70 = .ok (.ifCond .ne 12, 3) := by decide +kernel
theorem dX12_ask_73 : decode cX12_ask 73 = .ok (.aload_n 0, 1) := by decide +kernel
theorem dX12_ask_74 : decode cX12_ask 74 = .ok (.iload_n 1, 1) := by decide +kernel
theorem dX12_ask_75 : decode cX12_ask 75 = .ok (.iload_n 3, 1) := by decide +kernel
theorem dX12_ask_76 : decode cX12_ask 76 = .ok (.invokevirtual 328, 3) := by decide +kernel
theorem dX12_ask_79 : decode cX12_ask 79 = .ok (.goto 9, 3) := by decide +kernel
theorem dX12_ask_82 : decode cX12_ask 82 = .ok (.aload_n 0, 1) := by decide +kernel
theorem dX12_ask_83 : decode cX12_ask 83 = .ok (.iload_n 1, 1) := by decide +kernel
theorem dX12_ask_84 : decode cX12_ask 84 = .ok (.iload_n 3, 1) := by decide +kernel
theorem dX12_ask_85 : decode cX12_ask 85 = .ok (.invokevirtual 334, 3) := by decide +kernel
theorem dX12_ask_88 : decode cX12_ask 88 = .ok (.ireturn, 1) := by decide +kernel
theorem dX12_trace_0 : decode cX12_trace 0 = .ok (.aload_n 0, 1) := by decide +kernel
theorem dX12_trace_1 : decode cX12_trace 1 = .ok (.iconst 0, 1) := by decide +kernel
theorem dX12_trace_2 : decode cX12_trace 2 = .ok (.putfield 56, 3) := by decide +kernel
theorem dX12_trace_5 : decode cX12_trace 5 = .ok (.iload_n 1, 1) := by decide +kernel
theorem dX12_trace_6 : decode cX12_trace 6 = .ok (.i2l, 1) := by decide +kernel
theorem dX12_trace_7 : decode cX12_trace 7 = .ok (.lconst 0, 1) := by decide +kernel
theorem dX12_trace_8 : decode cX12_trace 8 = .ok (.aload_n 0, 1) := by decide +kernel
theorem dX12_trace_9 : decode cX12_trace 9 = .ok (.getfield 316, 3) := by decide +kernel
theorem dX12_trace_12 : decode cX12_trace 12 = .ok (.iconst 1, 1) := by decide +kernel
theorem dX12_trace_13 : decode cX12_trace 13 = .ok (.isub, 1) := by decide +kernel
theorem dX12_trace_14 : decode cX12_trace 14 = .ok (.i2l, 1) := by decide +kernel
theorem dX12_trace_15 : decode cX12_trace 15 = .ok (.invokestatic 66, 3) := by decide +kernel
theorem dX12_trace_18 : decode cX12_trace 18 = .ok (.ifCond .eq 12, 3) := by decide +kernel
theorem dX12_trace_21 : decode cX12_trace 21 = .ok (.aload_n 0, 1) := by decide +kernel
theorem dX12_trace_22 : decode cX12_trace 22 = .ok (.getfield 53, 3) := by decide +kernel
theorem dX12_trace_25 : decode cX12_trace 25 = .ok (.iload_n 1, 1) := by decide +kernel
theorem dX12_trace_26 : decode cX12_trace 26 = .ok (.iaload, 1) := by decide +kernel
theorem dX12_trace_27 : decode cX12_trace 27 = .ok (.goto 5, 3) := by decide +kernel
theorem dX12_trace_30 : decode cX12_trace 30 = .ok (.ldc 92, 2) := by decide +kernel
theorem dX12_trace_32 : decode cX12_trace 32 = .ok (.ireturn, 1) := by decide +kernel
theorem dX12_count_0 : decode cX12_count 0 = .ok (.aload_n 0, 1) := by decide +kernel
theorem dX12_count_1 : decode cX12_count 1 = .ok (.iconst 0, 1) := by decide +kernel
theorem dX12_count_2 : decode cX12_count 2 = .ok (.putfield 56, 3) := by decide +kernel
theorem dX12_count_5 : decode cX12_count 5 = .ok (.iconst 0, 1) := by decide +kernel
theorem dX12_count_6 : decode cX12_count 6 = .ok (.istore_n 2, 1) := by decide +kernel
theorem dX12_count_7 : decode cX12_count 7 = .ok (.iload_n 1, 1) := by decide +kernel
theorem dX12_count_8 : decode cX12_count 8 = .ok (.tableswitch 128 0 7 #[48, 81, 88, 95, 102, 109, 114, 121], 48) := by decide +kernel
theorem dX12_count_56 : decode cX12_count 56 = .ok (.iconst 0, 1) := by decide +kernel
theorem dX12_count_57 : decode cX12_count 57 = .ok (.istore_n 3, 1) := by decide +kernel
theorem dX12_count_58 : decode cX12_count 58 = .ok (.iload_n 3, 1) := by decide +kernel
theorem dX12_count_59 : decode cX12_count 59 = .ok (.bipush 8, 2) := by decide +kernel
theorem dX12_count_61 : decode cX12_count 61 = .ok (.if_icmp .ge 26, 3) := by decide +kernel
theorem dX12_count_64 : decode cX12_count 64 = .ok (.iload_n 2, 1) := by decide +kernel
theorem dX12_count_65 : decode cX12_count 65 = .ok (.aload_n 0, 1) := by decide +kernel
theorem dX12_count_66 : decode cX12_count 66 = .ok (.getfield 7, 3) := by decide +kernel
theorem dX12_count_69 : decode cX12_count 69 = .ok (.iload_n 3, 1) := by decide +kernel
theorem dX12_count_70 : decode cX12_count 70 = .ok (.iaload, 1) := by decide +kernel
theorem dX12_count_71 : decode cX12_count 71 = .ok (.ifCond .lt 7, 3) := by decide +kernel
theorem dX12_count_74 : decode cX12_count 74 = .ok (.iconst 1, 1) := by decide +kernel
theorem dX12_count_75 : decode cX12_count 75 = .ok (.goto 4, 3) := by decide +kernel
theorem dX12_count_78 : decode cX12_count 78 = .ok (.iconst 0, 1) := by decide +kernel
theorem dX12_count_79 : decode cX12_count 79 = .ok (.iadd, 1) := by decide +kernel
theorem dX12_count_80 : decode cX12_count 80 = .ok (.istore_n 2, 1) := by decide +kernel
theorem dX12_count_81 : decode cX12_count 81 = .ok (.iinc 3 1, 3) := by decide +kernel
theorem dX12_count_84 : decode cX12_count 84 = .ok (.goto (-26), 3) := by decide +kernel
theorem dX12_count_87 : decode cX12_count 87 = .ok (.iload_n 2, 1) := by decide +kernel
theorem dX12_count_88 : decode cX12_count 88 = .ok (.ireturn, 1) := by decide +kernel
theorem dX12_count_89 : decode cX12_count 89 = .ok (.aload_n 0, 1) := by decide +kernel
theorem dX12_count_90 : decode cX12_count 90 = .ok (.getfield 19, 3) := by decide +kernel
theorem dX12_count_93 : decode cX12_count 93 = .ok (.iconst 3, 1) := by decide +kernel
theorem dX12_count_94 : decode cX12_count 94 = .ok (.iaload, 1) := by decide +kernel
theorem dX12_count_95 : decode cX12_count 95 = .ok (.ireturn, 1) := by decide +kernel
theorem dX12_count_96 : decode cX12_count 96 = .ok (.aload_n 0, 1) := by decide +kernel
theorem dX12_count_97 : decode cX12_count 97 = .ok (.getfield 19, 3) := by decide +kernel
theorem dX12_count_100 : decode cX12_count 100 = .ok (.iconst 4, 1) := by decide +kernel
theorem dX12_count_101 : decode cX12_count 101 = .ok (.iaload, 1) := by decide +kernel
theorem dX12_count_102 : decode cX12_count 102 = .ok (.ireturn, 1) := by decide +kernel
theorem dX12_count_103 : decode cX12_count 103 = .ok (.aload_n 0, 1) := by decide +kernel
theorem dX12_count_104 : decode cX12_count 104 = .ok (.getfield 19, 3) := by decide +kernel
theorem dX12_count_107 : decode cX12_count 107 = .ok (.iconst 2, 1) := by decide +kernel
theorem dX12_count_108 : decode cX12_count 108 = .ok (.iaload, 1) := by decide +kernel
theorem dX12_count_109 : decode cX12_count 109 = .ok (.ireturn, 1) := by decide +kernel
theorem dX12_count_110 : decode cX12_count 110 = .ok (.aload_n 0, 1) := by decide +kernel
theorem dX12_count_111 : decode cX12_count 111 = .ok (.getfield 25, 3) := by decide +kernel
theorem dX12_count_114 : decode cX12_count 114 = .ok (.iconst 0, 1) := by decide +kernel
theorem dX12_count_115 : decode cX12_count 115 = .ok (.iaload, 1) := by decide +kernel
theorem dX12_count_116 : decode cX12_count 116 = .ok (.ireturn, 1) := by decide +kernel
theorem dX12_count_117 : decode cX12_count 117 = .ok (.aload_n 0, 1) := by decide +kernel
theorem dX12_count_118 : decode cX12_count 118 = .ok (.getfield 83, 3) := by decide +kernel
theorem dX12_count_121 : decode cX12_count 121 = .ok (.ireturn, 1) := by decide +kernel
theorem dX12_count_122 : decode cX12_count 122 = .ok (.aload_n 0, 1) := by decide +kernel
theorem dX12_count_123 : decode cX12_count 123 = .ok (.getfield 19, 3) := by decide +kernel
theorem dX12_count_126 : decode cX12_count 126 = .ok (.iconst 1, 1) := by decide +kernel
theorem dX12_count_127 : decode cX12_count 127 = .ok (.iaload, 1) := by decide +kernel
theorem dX12_count_128 : decode cX12_count 128 = .ok (.ireturn, 1) := by decide +kernel
theorem dX12_count_129 : decode cX12_count 129 = .ok (.aload_n 0, 1) := by decide +kernel
theorem dX12_count_130 : decode cX12_count 130 = .ok (.getfield 19, 3) := by decide +kernel
theorem dX12_count_133 : decode cX12_count 133 = .ok (.iconst 0, 1) := by decide +kernel
theorem dX12_count_134 : decode cX12_count 134 = .ok (.iaload, 1) := by decide +kernel
theorem dX12_count_135 : decode cX12_count 135 = .ok (.ireturn, 1) := by decide +kernel
theorem dX12_count_136 : decode cX12_count 136 = .ok (.ldc 76, 2) := by decide +kernel
theorem dX12_count_138 : decode cX12_count 138 = .ok (.ireturn, 1) := by decide +kernel
theorem dX12_status_0 : decode cX12_status 0 = .ok (.aload_n 0, 1) := by decide +kernel
theorem dX12_status_1 : decode cX12_status 1 = .ok (.iconst 0, 1) := by decide +kernel
theorem dX12_status_2 : decode cX12_status 2 = .ok (.putfield 56, 3) := by decide +kernel
theorem dX12_status_5 : decode cX12_status 5 = .ok (.aload_n 0, 1) := by decide +kernel
theorem dX12_status_6 : decode cX12_status 6 = .ok (.getfield 60, 3) := by decide +kernel
theorem dX12_status_9 : decode cX12_status 9 = .ok (.ireturn, 1) := by decide +kernel
