theorem dX4_init_0 : decode cX4_init 0 = .ok (.aload_n 0, 1) := by decide +kernel
theorem dX4_init_1 : decode cX4_init 1 = .ok (.invokespecial 3, 3) := by decide +kernel
theorem dX4_init_4 : decode cX4_init 4 = .ok (.aload_n 0, 1) := by decide +kernel
theorem dX4_init_5 : decode cX4_init 5 = .ok (.bipush 8, 2) := by decide +kernel
theorem dX4_init_7 : decode cX4_init 7 = .ok (.newarray .int, 2) := by decide +kernel
theorem dX4_init_9 : decode cX4_init 9 = .ok (.putfield 11, 3) := by decide +kernel
theorem dX4_init_12 : decode cX4_init 12 = .ok (.aload_n 0, 1) := by decide +kernel
theorem dX4_init_13 : decode cX4_init 13 = .ok (.bipush 8, 2) := by decide +kernel
theorem dX4_init_15 : decode cX4_init 15 = .ok (.newarray .int, 2) := by decide +kernel
theorem dX4_init_17 : decode cX4_init 17 = .ok (.putfield 15, 3) := by decide +kernel
theorem dX4_init_20 : decode cX4_init 20 = .ok (.aload_n 0, 1) := by decide +kernel
theorem dX4_init_21 : decode cX4_init 21 = .ok (.bipush 6, 2) := by decide +kernel
theorem dX4_init_23 : decode cX4_init 23 = .ok (.anewarray 18, 3) := by decide +kernel
theorem dX4_init_26 : decode cX4_init 26 = .ok (.putfield 20, 3) := by decide +kernel
theorem dX4_init_29 : decode cX4_init 29 = .ok (.aload_n 0, 1) := by decide +kernel
theorem dX4_init_30 : decode cX4_init 30 = .ok (.bipush 8, 2) := by decide +kernel
theorem dX4_init_32 : decode cX4_init 32 = .ok (.newarray .int, 2) := by decide +kernel
theorem dX4_init_34 : decode cX4_init 34 = .ok (.putfield 24, 3) := by decide +kernel
theorem dX4_init_37 : decode cX4_init 37 = .ok (.aload_n 0, 1) := by decide +kernel
theorem dX4_init_38 : decode cX4_init 38 = .ok (.bipush 8, 2) := by decide +kernel
theorem dX4_init_40 : decode cX4_init 40 = .ok (.newarray .int, 2) := by decide +kernel
theorem dX4_init_42 : decode cX4_init 42 = .ok (.putfield 27, 3) := by decide +kernel
theorem dX4_init_45 : decode cX4_init 45 = .ok (.aload_n 0, 1) := by decide +kernel
theorem dX4_init_46 : decode cX4_init 46 = .ok (.bipush 48, 2) := by decide +kernel
theorem dX4_init_48 : decode cX4_init 48 = .ok (.newarray .int, 2) := by decide +kernel
theorem dX4_init_50 : decode cX4_init 50 = .ok (.putfield 30, 3) := by decide +kernel
theorem dX4_init_53 : decode cX4_init 53 = .ok (.aload_n 0, 1) := by decide +kernel
theorem dX4_init_54 : decode cX4_init 54 = .ok (.bipush 6, 2) := by decide +kernel
theorem dX4_init_56 : decode cX4_init 56 = .ok (.newarray .int, 2) := by decide +kernel
theorem dX4_init_58 : decode cX4_init 58 = .ok (.putfield 33, 3) := by decide +kernel
theorem dX4_init_61 : decode cX4_init 61 = .ok (.aload_n 0, 1) := by decide +kernel
theorem dX4_init_62 : decode cX4_init 62 = .ok (.bipush 6, 2) := by decide +kernel
theorem dX4_init_64 : decode cX4_init 64 = .ok (.newarray .int, 2) := by decide +kernel
theorem dX4_init_66 : decode cX4_init 66 = .ok (.putfield 36, 3) := by decide +kernel
theorem dX4_init_69 : decode cX4_init 69 = .ok (.aload_n 0, 1) := by decide +kernel
theorem dX4_init_70 : decode cX4_init 70 = .ok (.bipush 8, 2) := by decide +kernel
theorem dX4_init_72 : decode cX4_init 72 = .ok (.newarray .int, 2) := by decide +kernel
theorem dX4_init_74 : decode cX4_init 74 = .ok (.putfield 39, 3) := by decide +kernel
theorem dX4_init_77 : decode cX4_init 77 = .ok (.aload_n 0, 1) := by decide +kernel
theorem dX4_init_78 : decode cX4_init 78 = .ok (.bipush 8, 2) := by decide +kernel
theorem dX4_init_80 : decode cX4_init 80 = .ok (.newarray .int, 2) := by decide +kernel
theorem dX4_init_82 : decode cX4_init 82 = .ok (.putfield 42, 3) := by decide +kernel
theorem dX4_init_85 : decode cX4_init 85 = .ok (.return_, 1) := by decide +kernel
theorem dX4_isTold_0 : decode cX4_isTold 0 = .ok (.aload_n 0, 1) := by decide +kernel
theorem dX4_isTold_1 : decode cX4_isTold 1 = .ok (.getfield 45, 3) := by decide +kernel
theorem dX4_isTold_4 : decode cX4_isTold 4 = .ok (.ifCond .le 7, 3) := by decide +kernel
theorem dX4_isTold_7 : decode cX4_isTold 7 = .ok (.iconst 1, 1) := by decide +kernel
theorem dX4_isTold_8 : decode cX4_isTold 8 = .ok (.goto 4, 3) := by decide +kernel
theorem dX4_isTold_11 : decode cX4_isTold 11 = .ok (.iconst 0, 1) := by decide +kernel
theorem dX4_isTold_12 : decode cX4_isTold 12 = .ok (.ireturn, 1) := by decide +kernel
theorem dX4_isKeeper_0 : decode cX4_isKeeper 0 = .ok (.iload_n 1, 1) := by decide +kernel
theorem dX4_isKeeper_1 : decode cX4_isKeeper 1 = .ok (.ifCond .lt 21, 3) := by decide +kernel
theorem dX4_isKeeper_4 : decode cX4_isKeeper 4 = .ok (.iload_n 1, 1) := by decide +kernel
theorem dX4_isKeeper_5 : decode cX4_isKeeper 5 = .ok (.aload_n 0, 1) := by decide +kernel
theorem dX4_isKeeper_6 : decode cX4_isKeeper 6 = .ok (.getfield 45, 3) := by decide +kernel
theorem dX4_isKeeper_9 : decode cX4_isKeeper 9 = .ok (.if_icmp .ge 13, 3) := by decide +kernel
theorem dX4_isKeeper_12 : decode cX4_isKeeper 12 = .ok (.iload_n 1, 1) := by decide +kernel
theorem dX4_isKeeper_13 : decode cX4_isKeeper 13 = .ok (.bipush 6, 2) := by decide +kernel
theorem dX4_isKeeper_15 : decode cX4_isKeeper 15 = .ok (.if_icmp .ge 7, 3) := by decide +kernel
theorem dX4_isKeeper_18 : decode cX4_isKeeper 18 = .ok (.iconst 1, 1) := by decide +kernel
theorem dX4_isKeeper_19 : decode cX4_isKeeper 19 = .ok (.goto 4, 3) := by decide +kernel
theorem dX4_isKeeper_22 : decode cX4_isKeeper 22 = .ok (.iconst 0, 1) := by decide +kernel
theorem dX4_isKeeper_23 : decode cX4_isKeeper 23 = .ok (.ireturn, 1) := by decide +kernel
theorem dX4_isPiece_0 : decode cX4_isPiece 0 = .ok (.iload_n 1, 1) := by decide +kernel
theorem dX4_isPiece_1 : decode cX4_isPiece 1 = .ok (.ifCond .lt 21, 3) := by decide +kernel
theorem dX4_isPiece_4 : decode cX4_isPiece 4 = .ok (.iload_n 1, 1) := by decide +kernel
theorem dX4_isPiece_5 : decode cX4_isPiece 5 = .ok (.aload_n 0, 1) := by decide +kernel
theorem dX4_isPiece_6 : decode cX4_isPiece 6 = .ok (.getfield 49, 3) := by decide +kernel
theorem dX4_isPiece_9 : decode cX4_isPiece 9 = .ok (.if_icmp .ge 13, 3) := by decide +kernel
theorem dX4_isPiece_12 : decode cX4_isPiece 12 = .ok (.iload_n 1, 1) := by decide +kernel
theorem dX4_isPiece_13 : decode cX4_isPiece 13 = .ok (.bipush 8, 2) := by decide +kernel
theorem dX4_isPiece_15 : decode cX4_isPiece 15 = .ok (.if_icmp .ge 7, 3) := by decide +kernel
theorem dX4_isPiece_18 : decode cX4_isPiece 18 = .ok (.iconst 1, 1) := by decide +kernel
theorem dX4_isPiece_19 : decode cX4_isPiece 19 = .ok (.goto 4, 3) := by decide +kernel
theorem dX4_isPiece_22 : decode cX4_isPiece 22 = .ok (.iconst 0, 1) := by decide +kernel
theorem dX4_isPiece_23 : decode cX4_isPiece 23 = .ok (.ireturn, 1) := by decide +kernel
theorem dX4_forget_0 : decode cX4_forget 0 = .ok (.aload_n 0, 1) := by decide +kernel
theorem dX4_forget_1 : decode cX4_forget 1 = .ok (.iconst 0, 1) := by decide +kernel
theorem dX4_forget_2 : decode cX4_forget 2 = .ok (.putfield 52, 3) := by decide +kernel
theorem dX4_forget_5 : decode cX4_forget 5 = .ok (.aload_n 0, 1) := by decide +kernel
theorem dX4_forget_6 : decode cX4_forget 6 = .ok (.iconst 0, 1) := by decide +kernel
theorem dX4_forget_7 : decode cX4_forget 7 = .ok (.putfield 45, 3) := by decide +kernel
theorem dX4_forget_10 : decode cX4_forget 10 = .ok (.aload_n 0, 1) := by decide +kernel
theorem dX4_forget_11 : decode cX4_forget 11 = .ok (.iconst 0, 1) := by decide +kernel
theorem dX4_forget_12 : decode cX4_forget 12 = .ok (.putfield 49, 3) := by decide +kernel
theorem dX4_forget_15 : decode cX4_forget 15 = .ok (.return_, 1) := by decide +kernel
theorem dX4_addPoint_0 : decode cX4_addPoint 0 = .ok (.aload_n 0, 1) := by decide +kernel
theorem dX4_addPoint_1 : decode cX4_addPoint 1 = .ok (.getfield 52, 3) := by decide +kernel
theorem dX4_addPoint_4 : decode cX4_addPoint 4 = .ok (.ifCond .lt 42, 3) := by decide +kernel
theorem dX4_addPoint_7 : decode cX4_addPoint 7 = .ok (.aload_n 0, 1) := by decide +kernel
theorem dX4_addPoint_8 : decode cX4_addPoint 8 = .ok (.getfield 52, 3) := by decide +kernel
theorem dX4_addPoint_11 : decode cX4_addPoint 11 = .ok (.bipush 8, 2) := by decide +kernel
theorem dX4_addPoint_13 : decode cX4_addPoint 13 = .ok (.if_icmp .ge 33, 3) := by decide +kernel
theorem dX4_addPoint_16 : decode cX4_addPoint 16 = .ok (.aload_n 0, 1) := by decide +kernel
theorem dX4_addPoint_17 : decode cX4_addPoint 17 = .ok (.getfield 11, 3) := by decide +kernel
theorem dX4_addPoint_20 : decode cX4_addPoint 20 = .ok (.aload_n 0, 1) := by decide +kernel
theorem dX4_addPoint_21 : decode cX4_addPoint 21 = .ok (.getfield 52, 3) := by decide +kernel
theorem dX4_addPoint_24 : decode cX4_addPoint 24 = .ok (.iload_n 1, 1) := by decide +kernel
theorem dX4_addPoint_25 : decode cX4_addPoint 25 = .ok (.iastore, 1) := by decide +kernel
theorem dX4_addPoint_26 : decode cX4_addPoint 26 = .ok (.aload_n 0, 1) := by decide +kernel
theorem dX4_addPoint_27 : decode cX4_addPoint 27 = .ok (.getfield 15, 3) := by decide +kernel
theorem dX4_addPoint_30 : decode cX4_addPoint 30 = .ok (.aload_n 0, 1) := by decide +kernel
theorem dX4_addPoint_31 : decode cX4_addPoint 31 = .ok (.getfield 52, 3) := by decide +kernel
theorem dX4_addPoint_34 : decode cX4_addPoint 34 = .ok (.iload_n 2, 1) := by decide +kernel
theorem dX4_addPoint_35 : decode cX4_addPoint 35 = .ok (.iastore, 1) := by decide +kernel
theorem dX4_addPoint_36 : decode cX4_addPoint 36 = .ok (.aload_n 0, 1) := by decide +kernel
theorem dX4_addPoint_37 : decode cX4_addPoint 37 = .ok (.dup, 1) := by decide +kernel
theorem dX4_addPoint_38 : decode cX4_addPoint 38 = .ok (.getfield 52, 3) := by decide +kernel
theorem dX4_addPoint_41 : decode cX4_addPoint 41 = .ok (.iconst 1, 1) := by decide +kernel
theorem dX4_addPoint_42 : decode cX4_addPoint 42 = .ok (.iadd, 1) := by decide +kernel
theorem dX4_addPoint_43 : decode cX4_addPoint 43 = .ok (.putfield 52, 3) := by decide +kernel
theorem dX4_addPoint_46 : decode cX4_addPoint 46 = .ok (.return_, 1) := by decide +kernel
theorem dX4_addKeeper_0 : decode cX4_addKeeper 0 = .ok (.aload_n 0, 1) := by decide +kernel
theorem dX4_addKeeper_1 : decode cX4_addKeeper 1 = .ok (.getfield 45, 3) := by decide +kernel
theorem dX4_addKeeper_4 : decode cX4_addKeeper 4 = .ok (.ifCond .lt 32, 3) := by decide +kernel
theorem dX4_addKeeper_7 : decode cX4_addKeeper 7 = .ok (.aload_n 0, 1) := by decide +kernel
theorem dX4_addKeeper_8 : decode cX4_addKeeper 8 = .ok (.getfield 45, 3) := by decide +kernel
theorem dX4_addKeeper_11 : decode cX4_addKeeper 11 = .ok (.bipush 6, 2) := by decide +kernel
theorem dX4_addKeeper_13 : decode cX4_addKeeper 13 = .ok (.if_icmp .ge 23, 3) := by decide +kernel
theorem dX4_addKeeper_16 : decode cX4_addKeeper 16 = .ok (.aload_n 0, 1) := by decide +kernel
theorem dX4_addKeeper_17 : decode cX4_addKeeper 17 = .ok (.getfield 20, 3) := by decide +kernel
theorem dX4_addKeeper_20 : decode cX4_addKeeper 20 = .ok (.aload_n 0, 1) := by decide +kernel
theorem dX4_addKeeper_21 : decode cX4_addKeeper 21 = .ok (.getfield 45, 3) := by decide +kernel
theorem dX4_addKeeper_24 : decode cX4_addKeeper 24 = .ok (.aload_n 1, 1) := by decide +kernel
theorem dX4_addKeeper_25 : decode cX4_addKeeper 25 = .ok (.aastore, 1) := by decide +kernel
theorem dX4_addKeeper_26 : decode cX4_addKeeper 26 = .ok (.aload_n 0, 1) := by decide +kernel
theorem dX4_addKeeper_27 : decode cX4_addKeeper 27 = .ok (.dup, 1) := by decide +kernel
theorem dX4_addKeeper_28 : decode cX4_addKeeper 28 = .ok (.getfield 45, 3) := by decide +kernel
theorem dX4_addKeeper_31 : decode cX4_addKeeper 31 = .ok (.iconst 1, 1) := by decide +kernel
theorem dX4_addKeeper_32 : decode cX4_addKeeper 32 = .ok (.iadd, 1) := by decide +kernel
theorem dX4_addKeeper_33 : decode cX4_addKeeper 33 = .ok (.putfield 45, 3) := by decide +kernel
theorem dX4_addKeeper_36 : decode cX4_addKeeper 36 = .ok (.return_, 1) := by decide +kernel
theorem dX4_addPiece_0 : decode cX4_addPiece 0 = .ok (.aload_n 0, 1) := by decide +kernel
theorem dX4_addPiece_1 : decode cX4_addPiece 1 = .ok (.getfield 49, 3) := by decide +kernel
theorem dX4_addPiece_4 : decode cX4_addPiece 4 = .ok (.ifCond .lt 42, 3) := by decide +kernel
theorem dX4_addPiece_7 : decode cX4_addPiece 7 = .ok (.aload_n 0, 1) := by decide +kernel
theorem dX4_addPiece_8 : decode cX4_addPiece 8 = .ok (.getfield 49, 3) := by decide +kernel
theorem dX4_addPiece_11 : decode cX4_addPiece 11 = .ok (.bipush 8, 2) := by decide +kernel
theorem dX4_addPiece_13 : decode cX4_addPiece 13 = .ok (.if_icmp .ge 33, 3) := by decide +kernel
theorem dX4_addPiece_16 : decode cX4_addPiece 16 = .ok (.aload_n 0, 1) := by decide +kernel
theorem dX4_addPiece_17 : decode cX4_addPiece 17 = .ok (.getfield 24, 3) := by decide +kernel
theorem dX4_addPiece_20 : decode cX4_addPiece 20 = .ok (.aload_n 0, 1) := by decide +kernel
theorem dX4_addPiece_21 : decode cX4_addPiece 21 = .ok (.getfield 49, 3) := by decide +kernel
theorem dX4_addPiece_24 : decode cX4_addPiece 24 = .ok (.iload_n 1, 1) := by decide +kernel
theorem dX4_addPiece_25 : decode cX4_addPiece 25 = .ok (.iastore, 1) := by decide +kernel
theorem dX4_addPiece_26 : decode cX4_addPiece 26 = .ok (.aload_n 0, 1) := by decide +kernel
theorem dX4_addPiece_27 : decode cX4_addPiece 27 = .ok (.getfield 27, 3) := by decide +kernel
theorem dX4_addPiece_30 : decode cX4_addPiece 30 = .ok (.aload_n 0, 1) := by decide +kernel
theorem dX4_addPiece_31 : decode cX4_addPiece 31 = .ok (.getfield 49, 3) := by decide +kernel
theorem dX4_addPiece_34 : decode cX4_addPiece 34 = .ok (.iload_n 2, 1) := by decide +kernel
theorem dX4_addPiece_35 : decode cX4_addPiece 35 = .ok (.iastore, 1) := by decide +kernel
theorem dX4_addPiece_36 : decode cX4_addPiece 36 = .ok (.aload_n 0, 1) := by decide +kernel
theorem dX4_addPiece_37 : decode cX4_addPiece 37 = .ok (.dup, 1) := by decide +kernel
theorem dX4_addPiece_38 : decode cX4_addPiece 38 = .ok (.getfield 49, 3) := by decide +kernel
theorem dX4_addPiece_41 : decode cX4_addPiece 41 = .ok (.iconst 1, 1) := by decide +kernel
theorem dX4_addPiece_42 : decode cX4_addPiece 42 = .ok (.iadd, 1) := by decide +kernel
theorem dX4_addPiece_43 : decode cX4_addPiece 43 = .ok (.putfield 49, 3) := by decide +kernel
theorem dX4_addPiece_46 : decode cX4_addPiece 46 = .ok (.return_, 1) := by decide +kernel
theorem dX4_begin_0 : decode cX4_begin 0 = .ok (.aload_n 0, 1) := by decide +kernel
theorem dX4_begin_1 : decode cX4_begin 1 = .ok (.iconst 0, 1) := by decide +kernel
theorem dX4_begin_2 : decode cX4_begin 2 = .ok (.putfield 55, 3) := by decide +kernel
theorem dX4_begin_5 : decode cX4_begin 5 = .ok (.aload_n 0, 1) := by decide +kernel
theorem dX4_begin_6 : decode cX4_begin 6 = .ok (.getfield 30, 3) := by decide +kernel
theorem dX4_begin_9 : decode cX4_begin 9 = .ok (.iconst 0, 1) := by decide +kernel
theorem dX4_begin_10 : decode cX4_begin 10 = .ok (.invokestatic 58, 3) := by decide +kernel
theorem dX4_begin_13 : decode cX4_begin 13 = .ok (.aload_n 0, 1) := by decide +kernel
theorem dX4_begin_14 : decode cX4_begin 14 = .ok (.getfield 33, 3) := by decide +kernel
theorem dX4_begin_17 : decode cX4_begin 17 = .ok (.iconst 0, 1) := by decide +kernel
theorem dX4_begin_18 : decode cX4_begin 18 = .ok (.invokestatic 58, 3) := by decide +kernel
theorem dX4_begin_21 : decode cX4_begin 21 = .ok (.aload_n 0, 1) := by decide +kernel
theorem dX4_begin_22 : decode cX4_begin 22 = .ok (.getfield 36, 3) := by decide +kernel
theorem dX4_begin_25 : decode cX4_begin 25 = .ok (.iconst 0, 1) := by decide +kernel
theorem dX4_begin_26 : decode cX4_begin 26 = .ok (.invokestatic 58, 3) := by decide +kernel
theorem dX4_begin_29 : decode cX4_begin 29 = .ok (.aload_n 0, 1) := by decide +kernel
theorem dX4_begin_30 : decode cX4_begin 30 = .ok (.getfield 39, 3) := by decide +kernel
theorem dX4_begin_33 : decode cX4_begin 33 = .ok (.iconst 0, 1) := by decide +kernel
theorem dX4_begin_34 : decode cX4_begin 34 = .ok (.invokestatic 58, 3) := by decide +kernel
theorem dX4_begin_37 : decode cX4_begin 37 = .ok (.aload_n 0, 1) := by decide +kernel
theorem dX4_begin_38 : decode cX4_begin 38 = .ok (.getfield 42, 3) := by decide +kernel
theorem dX4_begin_41 : decode cX4_begin 41 = .ok (.ldc 64, 2) := by decide +kernel
theorem dX4_begin_43 : decode cX4_begin 43 = .ok (.invokestatic 58, 3) := by decide +kernel
theorem dX4_begin_46 : decode cX4_begin 46 = .ok (.iconst 0, 1) := by decide +kernel
theorem dX4_begin_47 : decode cX4_begin 47 = .ok (.istore_n 1, 1) := by decide +kernel
theorem dX4_begin_48 : decode cX4_begin 48 = .ok (.iload_n 1, 1) := by decide +kernel
theorem dX4_begin_49 : decode cX4_begin 49 = .ok (.bipush 6, 2) := by decide +kernel
theorem dX4_begin_51 : decode cX4_begin 51 = .ok (.if_icmp .ge 70, 3) := by decide +kernel
theorem dX4_begin_54 : decode cX4_begin 54 = .ok (.aload_n 0, 1) := by decide +kernel
theorem dX4_begin_55 : decode cX4_begin 55 = .ok (.iload_n 1, 1) := by decide +kernel
theorem dX4_begin_56 : decode cX4_begin 56 = .ok (.invokevirtual 65, 3) := by decide +kernel
theorem dX4_begin_59 : decode cX4_begin 59 = .ok (.astore_n 2, 1) := by decide +kernel
theorem dX4_begin_60 : decode cX4_begin 60 = .ok (.iconst 0, 1) := by decide +kernel
theorem dX4_begin_61 : decode cX4_begin 61 = .ok (.istore_n 3, 1) := by decide +kernel
theorem dX4_begin_62 : decode cX4_begin 62 = .ok (.iload_n 3, 1) := by decide +kernel
theorem dX4_begin_63 : decode cX4_begin 63 = .ok (.bipush 8, 2) := by decide +kernel
theorem dX4_begin_65 : decode cX4_begin 65 = .ok (.if_icmp .ge 50, 3) := by decide +kernel
theorem dX4_begin_68 : decode cX4_begin 68 = .ok (.aload_n 2, 1) := by decide +kernel
theorem dX4_begin_69 : decode cX4_begin 69 = .ok (.ifnull 46, 3) := by decide +kernel
theorem dX4_begin_72 : decode cX4_begin 72 = .ok (.iload_n 3, 1) := by decide +kernel
theorem dX4_begin_73 : decode cX4_begin 73 = .ok (.aload_n 0, 1) := by decide +kernel
theorem dX4_begin_74 : decode cX4_begin 74 = .ok (.getfield 49, 3) := by decide +kernel
theorem dX4_begin_77 : decode cX4_begin 77 = .ok (.if_icmp .ge 32, 3) := by decide +kernel
theorem dX4_begin_80 : decode cX4_begin 80 = .ok (.aload_n 0, 1) := by decide +kernel
theorem dX4_begin_81 : decode cX4_begin 81 = .ok (.getfield 27, 3) := by decide +kernel
theorem dX4_begin_84 : decode cX4_begin 84 = .ok (.iload_n 3, 1) := by decide +kernel
theorem dX4_begin_85 : decode cX4_begin 85 = .ok (.iaload, 1) := by decide +kernel
theorem dX4_begin_86 : decode cX4_begin 86 = .ok (.iload_n 1, 1) := by decide +kernel
theorem dX4_begin_87 : decode cX4_begin 87 = .ok (.ishr, 1) := by decide +kernel
theorem dX4_begin_88 : decode cX4_begin 88 = .ok (.iconst 1, 1) := by decide +kernel
theorem dX4_begin_89 : decode cX4_begin 89 = .ok (.iand, 1) := by decide +kernel
theorem dX4_begin_90 : decode cX4_begin 90 = .ok (.iconst 1, 1) := by decide +kernel
theorem dX4_begin_91 : decode cX4_begin 91 = .ok (.if_icmp .ne 18, 3) := by decide +kernel
theorem dX4_begin_94 : decode cX4_begin 94 = .ok (.aload_n 0, 1) := by decide +kernel
theorem dX4_begin_95 : decode cX4_begin 95 = .ok (.getfield 30, 3) := by decide +kernel
theorem dX4_begin_98 : decode cX4_begin 98 = .ok (.iload_n 1, 1) := by decide +kernel
theorem dX4_begin_99 : decode cX4_begin 99 = .ok (.bipush 8, 2) := by decide +kernel
theorem dX4_begin_101 : decode cX4_begin 101 = .ok (.imul, 1) := by decide +kernel
theorem dX4_begin_102 : decode cX4_begin 102 = .ok (.iload_n 3, 1) := by decide +kernel
theorem dX4_begin_103 : decode cX4_begin 103 = .ok (.iadd, 1) := by decide +kernel
theorem dX4_begin_104 : decode cX4_begin 104 = .ok (.aload_n 2, 1) := by decide +kernel
theorem dX4_begin_105 : decode cX4_begin 105 = .ok (.getfield 69, 3) := by decide +kernel
theorem dX4_begin_108 : decode cX4_begin 108 = .ok (.iastore, 1) := by decide +kernel
theorem dX4_begin_109 : decode cX4_begin 109 = .ok (.iinc 3 1, 3) := by decide +kernel
theorem dX4_begin_112 : decode cX4_begin 112 = .ok (.goto (-50), 3) := by decide +kernel
theorem dX4_begin_115 : decode cX4_begin 115 = .ok (.iinc 1 1, 3) := by decide +kernel
theorem dX4_begin_118 : decode cX4_begin 118 = .ok (.goto (-70), 3) := by decide +kernel
theorem dX4_begin_121 : decode cX4_begin 121 = .ok (.return_, 1) := by decide +kernel
theorem dX4_beginWith_0 : decode cX4_beginWith 0 = .ok (.aload_n 0, 1) := by decide +kernel
theorem dX4_beginWith_1 : decode cX4_beginWith 1 = .ok (.iconst 1, 1) := by decide +kernel
theorem dX4_beginWith_2 : decode cX4_beginWith 2 = .ok (.putfield 49, 3) := by decide +kernel
theorem dX4_beginWith_5 : decode cX4_beginWith 5 = .ok (.aload_n 0, 1) := by decide +kernel
theorem dX4_beginWith_6 : decode cX4_beginWith 6 = .ok (.getfield 27, 3) := by decide +kernel
theorem dX4_beginWith_9 : decode cX4_beginWith 9 = .ok (.iconst 0, 1) := by decide +kernel
theorem dX4_beginWith_10 : decode cX4_beginWith 10 = .ok (.iload_n 1, 1) := by decide +kernel
theorem dX4_beginWith_11 : decode cX4_beginWith 11 = .ok (.iastore, 1) := by decide +kernel
theorem dX4_beginWith_12 : decode cX4_beginWith 12 = .ok (.aload_n 0, 1) := by decide +kernel
theorem dX4_beginWith_13 : decode cX4_beginWith 13 = .ok (.invokevirtual 72, 3) := by decide +kernel
theorem dX4_beginWith_16 : decode cX4_beginWith 16 = .ok (.return_, 1) := by decide +kernel
theorem dX4_takeFrom_0 : decode cX4_takeFrom 0 = .ok (.aload_n 0, 1) := by decide +kernel
theorem dX4_takeFrom_1 : decode cX4_takeFrom 1 = .ok (.aload_n 1, 1) := by decide +kernel
theorem dX4_takeFrom_2 : decode cX4_takeFrom 2 = .ok (.getfield 75, 3) := by decide +kernel
theorem dX4_takeFrom_5 : decode cX4_takeFrom 5 = .ok (.putfield 75, 3) := by decide +kernel
theorem dX4_takeFrom_8 : decode cX4_takeFrom 8 = .ok (.aload_n 0, 1) := by decide +kernel
theorem dX4_takeFrom_9 : decode cX4_takeFrom 9 = .ok (.aload_n 1, 1) := by decide +kernel
theorem dX4_takeFrom_10 : decode cX4_takeFrom 10 = .ok (.getfield 78, 3) := by decide +kernel
theorem dX4_takeFrom_13 : decode cX4_takeFrom 13 = .ok (.putfield 78, 3) := by decide +kernel
theorem dX4_takeFrom_16 : decode cX4_takeFrom 16 = .ok (.aload_n 0, 1) := by decide +kernel
theorem dX4_takeFrom_17 : decode cX4_takeFrom 17 = .ok (.aload_n 1, 1) := by decide +kernel
theorem dX4_takeFrom_18 : decode cX4_takeFrom 18 = .ok (.getfield 52, 3) := by decide +kernel
theorem dX4_takeFrom_21 : decode cX4_takeFrom 21 = .ok (.putfield 52, 3) := by decide +kernel
theorem dX4_takeFrom_24 : decode cX4_takeFrom 24 = .ok (.aload_n 0, 1) := by decide +kernel
theorem dX4_takeFrom_25 : decode cX4_takeFrom 25 = .ok (.aload_n 1, 1) := by decide +kernel
theorem dX4_takeFrom_26 : decode cX4_takeFrom 26 = .ok (.getfield 81, 3) := by decide +kernel
theorem dX4_takeFrom_29 : decode cX4_takeFrom 29 = .ok (.putfield 81, 3) := by decide +kernel
theorem dX4_takeFrom_32 : decode cX4_takeFrom 32 = .ok (.aload_n 0, 1) := by decide +kernel
theorem dX4_takeFrom_33 : decode cX4_takeFrom 33 = .ok (.aload_n 1, 1) := by decide +kernel
theorem dX4_takeFrom_34 : decode cX4_takeFrom 34 = .ok (.getfield 84, 3) := by decide +kernel
theorem dX4_takeFrom_37 : decode cX4_takeFrom 37 = .ok (.putfield 84, 3) := by decide +kernel
theorem dX4_takeFrom_40 : decode cX4_takeFrom 40 = .ok (.aload_n 0, 1) := by decide +kernel
theorem dX4_takeFrom_41 : decode cX4_takeFrom 41 = .ok (.aload_n 1, 1) := by decide +kernel
theorem dX4_takeFrom_42 : decode cX4_takeFrom 42 = .ok (.getfield 87, 3) := by decide +kernel
theorem dX4_takeFrom_45 : decode cX4_takeFrom 45 = .ok (.putfield 87, 3) := by decide +kernel
theorem dX4_takeFrom_48 : decode cX4_takeFrom 48 = .ok (.aload_n 0, 1) := by decide +kernel
theorem dX4_takeFrom_49 : decode cX4_takeFrom 49 = .ok (.aload_n 1, 1) := by decide +kernel
theorem dX4_takeFrom_50 : decode cX4_takeFrom 50 = .ok (.getfield 45, 3) := by decide +kernel
theorem dX4_takeFrom_53 : decode cX4_takeFrom 53 = .ok (.putfield 45, 3) := by decide +kernel
theorem dX4_takeFrom_56 : decode cX4_takeFrom 56 = .ok (.aload_n 0, 1) := by decide +kernel
theorem dX4_takeFrom_57 : decode cX4_takeFrom 57 = .ok (.aload_n 1, 1) := by decide +kernel
theorem dX4_takeFrom_58 : decode cX4_takeFrom 58 = .ok (.getfield 49, 3) := by decide +kernel
theorem dX4_takeFrom_61 : decode cX4_takeFrom 61 = .ok (.putfield 49, 3) := by decide +kernel
theorem dX4_takeFrom_64 : decode cX4_takeFrom 64 = .ok (.aload_n 0, 1) := by decide +kernel
theorem dX4_takeFrom_65 : decode cX4_takeFrom 65 = .ok (.aload_n 1, 1) := by decide +kernel
theorem dX4_takeFrom_66 : decode cX4_takeFrom 66 = .ok (.getfield 55, 3) := by decide +kernel
theorem dX4_takeFrom_69 : decode cX4_takeFrom 69 = .ok (.putfield 55, 3) := by decide +kernel
theorem dX4_takeFrom_72 : decode cX4_takeFrom 72 = .ok (.aload_n 1, 1) := by decide +kernel
theorem dX4_takeFrom_73 : decode cX4_takeFrom 73 = .ok (.getfield 11, 3) := by decide +kernel
theorem dX4_takeFrom_76 : decode cX4_takeFrom 76 = .ok (.iconst 0, 1) := by decide +kernel
theorem dX4_takeFrom_77 : decode cX4_takeFrom 77 = .ok (.aload_n 0, 1) := by decide +kernel
theorem dX4_takeFrom_78 : decode cX4_takeFrom 78 = .ok (.getfield 11, 3) := by decide +kernel
theorem dX4_takeFrom_81 : decode cX4_takeFrom 81 = .ok (.iconst 0, 1) := by decide +kernel
theorem dX4_takeFrom_82 : decode cX4_takeFrom 82 = .ok (.bipush 8, 2) := by decide +kernel
theorem dX4_takeFrom_84 : decode cX4_takeFrom 84 = .ok (.invokestatic 90, 3) := by decide +kernel
theorem dX4_takeFrom_87 : decode cX4_takeFrom 87 = .ok (.aload_n 1, 1) := by decide +kernel
theorem dX4_takeFrom_88 : decode cX4_takeFrom 88 = .ok (.getfield 15, 3) := by decide +kernel
theorem dX4_takeFrom_91 : decode cX4_takeFrom 91 = .ok (.iconst 0, 1) := by decide +kernel
theorem dX4_takeFrom_92 : decode cX4_takeFrom 92 = .ok (.aload_n 0, 1) := by decide +kernel
theorem dX4_takeFrom_93 : decode cX4_takeFrom 93 = .ok (.getfield 15, 3) := by decide +kernel
theorem dX4_takeFrom_96 : decode cX4_takeFrom 96 = .ok (.iconst 0, 1) := by decide +kernel
theorem dX4_takeFrom_97 : decode cX4_takeFrom 97 = .ok (.bipush 8, 2) := by decide +kernel
theorem dX4_takeFrom_99 : decode cX4_takeFrom 99 = .ok (.invokestatic 90, 3) := by decide +kernel
theorem dX4_takeFrom_102 : decode cX4_takeFrom 102 = .ok (.aload_n 1, 1) := by decide +kernel
theorem dX4_takeFrom_103 : decode cX4_takeFrom 103 = .ok (.getfield 24, 3) := by decide +kernel
theorem dX4_takeFrom_106 : decode cX4_takeFrom 106 = .ok (.iconst 0, 1) := by decide +kernel
theorem dX4_takeFrom_107 : decode cX4_takeFrom 107 = .ok (.aload_n 0, 1) := by decide +kernel
theorem dX4_takeFrom_108 : decode cX4_takeFrom 108 = .ok (.getfield 24, 3) := by decide +kernel
theorem dX4_takeFrom_111 : decode cX4_takeFrom 111 = .ok (.iconst 0, 1) := by decide +kernel
theorem dX4_takeFrom_112 : decode cX4_takeFrom 112 = .ok (.bipush 8, 2) := by decide +kernel
theorem dX4_takeFrom_114 : decode cX4_takeFrom 114 = .ok (.invokestatic 90, 3) := by decide +kernel
theorem dX4_takeFrom_117 : decode cX4_takeFrom 117 = .ok (.aload_n 1, 1) := by decide +kernel
theorem dX4_takeFrom_118 : decode cX4_takeFrom 118 = .ok (.getfield 27, 3) := by decide +kernel
theorem dX4_takeFrom_121 : decode cX4_takeFrom 121 = .ok (.iconst 0, 1) := by decide +kernel
theorem dX4_takeFrom_122 : decode cX4_takeFrom 122 = .ok (.aload_n 0, 1) := by decide +kernel
theorem dX4_takeFrom_123 : decode cX4_takeFrom 123 = .ok (.getfield 27, 3) := by decide +kernel
theorem dX4_takeFrom_126 : decode cX4_takeFrom 126 = .ok (.iconst 0, 1) := by decide +kernel
theorem dX4_takeFrom_127 : decode cX4_takeFrom 127 = .ok (.bipush 8, 2) := by decide +kernel
theorem dX4_takeFrom_129 : decode cX4_takeFrom 129 = .ok (.invokestatic 90, 3) := by decide +kernel
theorem dX4_takeFrom_132 : decode cX4_takeFrom 132 = .ok (.aload_n 1, 1) := by decide +kernel
theorem dX4_takeFrom_133 : decode cX4_takeFrom 133 = .ok (.getfield 30, 3) := by decide +kernel
theorem dX4_takeFrom_136 : decode cX4_takeFrom 136 = .ok (.iconst 0, 1) := by decide +kernel
theorem dX4_takeFrom_137 : decode cX4_takeFrom 137 = .ok (.aload_n 0, 1) := by decide +kernel
theorem dX4_takeFrom_138 : decode cX4_takeFrom 138 = .ok (.getfield 30, 3) := by decide +kernel
theorem dX4_takeFrom_141 : decode cX4_takeFrom 141 = .ok (.iconst 0, 1) := by decide +kernel
theorem dX4_takeFrom_142 : decode cX4_takeFrom 142 = .ok (.bipush 48, 2) := by decide +kernel
theorem dX4_takeFrom_144 : decode cX4_takeFrom 144 = .ok (.invokestatic 90, 3) := by decide +kernel
theorem dX4_takeFrom_147 : decode cX4_takeFrom 147 = .ok (.aload_n 1, 1) := by decide +kernel
theorem dX4_takeFrom_148 : decode cX4_takeFrom 148 = .ok (.getfield 33, 3) := by decide +kernel
theorem dX4_takeFrom_151 : decode cX4_takeFrom 151 = .ok (.iconst 0, 1) := by decide +kernel
theorem dX4_takeFrom_152 : decode cX4_takeFrom 152 = .ok (.aload_n 0, 1) := by decide +kernel
theorem dX4_takeFrom_153 : decode cX4_takeFrom 153 = .ok (.getfield 33, 3) := by decide +kernel
theorem dX4_takeFrom_156 : decode cX4_takeFrom 156 = .ok (.iconst 0, 1) := by decide +kernel
theorem dX4_takeFrom_157 : decode cX4_takeFrom 157 = .ok (.bipush 6, 2) := by decide +kernel
theorem dX4_takeFrom_159 : decode cX4_takeFrom 159 = .ok (.invokestatic 90, 3) := by decide +kernel
theorem dX4_takeFrom_162 : decode cX4_takeFrom 162 = .ok (.aload_n 1, 1) := by decide +kernel
theorem dX4_takeFrom_163 : decode cX4_takeFrom 163 = .ok (.getfield 36, 3) := by decide +kernel
theorem dX4_takeFrom_166 : decode cX4_takeFrom 166 = .ok (.iconst 0, 1) := by decide +kernel
theorem dX4_takeFrom_167 : decode cX4_takeFrom 167 = .ok (.aload_n 0, 1) := by decide +kernel
theorem dX4_takeFrom_168 : decode cX4_takeFrom 168 = .ok (.getfield 36, 3) := by decide +kernel
theorem dX4_takeFrom_171 : decode cX4_takeFrom 171 = .ok (.iconst 0, 1) := by decide +kernel
theorem dX4_takeFrom_172 : decode cX4_takeFrom 172 = .ok (.bipush 6, 2) := by decide +kernel
theorem dX4_takeFrom_174 : decode cX4_takeFrom 174 = .ok (.invokestatic 90, 3) := by decide +kernel
theorem dX4_takeFrom_177 : decode cX4_takeFrom 177 = .ok (.aload_n 1, 1) := by decide +kernel
theorem dX4_takeFrom_178 : decode cX4_takeFrom 178 = .ok (.getfield 39, 3) := by decide +kernel
theorem dX4_takeFrom_181 : decode cX4_takeFrom 181 = .ok (.iconst 0, 1) := by decide +kernel
theorem dX4_takeFrom_182 : decode cX4_takeFrom 182 = .ok (.aload_n 0, 1) := by decide +kernel
theorem dX4_takeFrom_183 : decode cX4_takeFrom 183 = .ok (.getfield 39, 3) := by decide +kernel
theorem dX4_takeFrom_186 : decode cX4_takeFrom 186 = .ok (.iconst 0, 1) := by decide +kernel
theorem dX4_takeFrom_187 : decode cX4_takeFrom 187 = .ok (.bipush 8, 2) := by decide +kernel
theorem dX4_takeFrom_189 : decode cX4_takeFrom 189 = .ok (.invokestatic 90, 3) := by decide +kernel
theorem dX4_takeFrom_192 : decode cX4_takeFrom 192 = .ok (.aload_n 1, 1) := by decide +kernel
theorem dX4_takeFrom_193 : decode cX4_takeFrom 193 = .ok (.getfield 42, 3) := by decide +kernel
theorem dX4_takeFrom_196 : decode cX4_takeFrom 196 = .ok (.iconst 0, 1) := by decide +kernel
theorem dX4_takeFrom_197 : decode cX4_takeFrom 197 = .ok (.aload_n 0, 1) := by decide +kernel
theorem dX4_takeFrom_198 : decode cX4_takeFrom 198 = .ok (.getfield 42, 3) := by decide +kernel
theorem dX4_takeFrom_201 : decode cX4_takeFrom 201 = .ok (.iconst 0, 1) := by decide +kernel
theorem dX4_takeFrom_202 : decode cX4_takeFrom 202 = .ok (.bipush 8, 2) := by decide +kernel
theorem dX4_takeFrom_204 : decode cX4_takeFrom 204 = .ok (.invokestatic 90, 3) := by decide +kernel
theorem dX4_takeFrom_207 : decode cX4_takeFrom 207 = .ok (.iconst 0, 1) := by decide +kernel
theorem dX4_takeFrom_208 : decode cX4_takeFrom 208 = .ok (.istore_n 2, 1) := by decide +kernel
theorem dX4_takeFrom_209 : decode cX4_takeFrom 209 = .ok (.iload_n 2, 1) := by decide +kernel
theorem dX4_takeFrom_210 : decode cX4_takeFrom 210 = .ok (.bipush 6, 2) := by decide +kernel
theorem dX4_takeFrom_212 : decode cX4_takeFrom 212 = .ok (.if_icmp .ge 21, 3) := by decide +kernel
theorem dX4_takeFrom_215 : decode cX4_takeFrom 215 = .ok (.aload_n 0, 1) := by decide +kernel
theorem dX4_takeFrom_216 : decode cX4_takeFrom 216 = .ok (.getfield 20, 3) := by decide +kernel
theorem dX4_takeFrom_219 : decode cX4_takeFrom 219 = .ok (.iload_n 2, 1) := by decide +kernel
theorem dX4_takeFrom_220 : decode cX4_takeFrom 220 = .ok (.aload_n 1, 1) := by decide +kernel
theorem dX4_takeFrom_221 : decode cX4_takeFrom 221 = .ok (.getfield 20, 3) := by decide +kernel
theorem dX4_takeFrom_224 : decode cX4_takeFrom 224 = .ok (.iload_n 2, 1) := by decide +kernel
theorem dX4_takeFrom_225 : decode cX4_takeFrom 225 = .ok (.aaload, 1) := by decide +kernel
theorem dX4_takeFrom_226 : decode cX4_takeFrom 226 = .ok (.aastore, 1) := by decide +kernel
theorem dX4_takeFrom_227 : decode cX4_takeFrom 227 = .ok (.iinc 2 1, 3) := by decide +kernel
theorem dX4_takeFrom_230 : decode cX4_takeFrom 230 = .ok (.goto (-21), 3) := by decide +kernel
theorem dX4_takeFrom_233 : decode cX4_takeFrom 233 = .ok (.return_, 1) := by decide +kernel
theorem dX4_valueAt_0 : decode cX4_valueAt 0 = .ok (.aload_n 0, 1) := by decide +kernel
theorem dX4_valueAt_1 : decode cX4_valueAt 1 = .ok (.getfield 75, 3) := by decide +kernel
theorem dX4_valueAt_4 : decode cX4_valueAt 4 = .ok (.iconst 1, 1) := by decide +kernel
theorem dX4_valueAt_5 : decode cX4_valueAt 5 = .ok (.if_icmp .ne 16, 3) := by decide +kernel
theorem dX4_valueAt_8 : decode cX4_valueAt 8 = .ok (.aload_n 0, 1) := by decide +kernel
theorem dX4_valueAt_9 : decode cX4_valueAt 9 = .ok (.getfield 78, 3) := by decide +kernel
theorem dX4_valueAt_12 : decode cX4_valueAt 12 = .ok (.iload_n 1, 1) := by decide +kernel
theorem dX4_valueAt_13 : decode cX4_valueAt 13 = .ok (.isub, 1) := by decide +kernel
theorem dX4_valueAt_14 : decode cX4_valueAt 14 = .ok (.iconst 0, 1) := by decide +kernel
theorem dX4_valueAt_15 : decode cX4_valueAt 15 = .ok (.invokestatic 96, 3) := by decide +kernel
theorem dX4_valueAt_18 : decode cX4_valueAt 18 = .ok (.goto 4, 3) := by decide +kernel
theorem dX4_valueAt_21 : decode cX4_valueAt 21 = .ok (.iload_n 1, 1) := by decide +kernel
theorem dX4_valueAt_22 : decode cX4_valueAt 22 = .ok (.istore_n 2, 1) := by decide +kernel
theorem dX4_valueAt_23 : decode cX4_valueAt 23 = .ok (.iconst 0, 1) := by decide +kernel
theorem dX4_valueAt_24 : decode cX4_valueAt 24 = .ok (.istore_n 3, 1) := by decide +kernel
theorem dX4_valueAt_25 : decode cX4_valueAt 25 = .ok (.iload_n 3, 1) := by decide +kernel
theorem dX4_valueAt_26 : decode cX4_valueAt 26 = .ok (.aload_n 0, 1) := by decide +kernel
theorem dX4_valueAt_27 : decode cX4_valueAt 27 = .ok (.getfield 52, 3) := by decide +kernel
theorem dX4_valueAt_30 : decode cX4_valueAt 30 = .ok (.if_icmp .ge 48, 3) := by decide +kernel
theorem dX4_valueAt_33 : decode cX4_valueAt 33 = .ok (.iload_n 3, 1) := by decide +kernel
theorem dX4_valueAt_34 : decode cX4_valueAt 34 = .ok (.bipush 8, 2) := by decide +kernel
theorem dX4_valueAt_36 : decode cX4_valueAt 36 = .ok (.if_icmp .ge 42, 3) := by decide +kernel
theorem dX4_valueAt_39 : decode cX4_valueAt 39 = .ok (.iload_n 2, 1) := by decide +kernel
theorem dX4_valueAt_40 : decode cX4_valueAt 40 = .ok (.aload_n 0, 1) := by decide +kernel
theorem dX4_valueAt_41 : decode cX4_valueAt 41 = .ok (.getfield 11, 3) := by decide +kernel
theorem dX4_valueAt_44 : decode cX4_valueAt 44 = .ok (.iload_n 3, 1) := by decide +kernel
theorem dX4_valueAt_45 : decode cX4_valueAt 45 = .ok (.iaload, 1) := by decide +kernel
theorem dX4_valueAt_46 : decode cX4_valueAt 46 = .ok (.if_icmp .ge 26, 3) := by decide +kernel
theorem dX4_valueAt_49 : decode cX4_valueAt 49 = .ok (.iload_n 3, 1) := by decide +kernel
theorem dX4_valueAt_50 : decode cX4_valueAt 50 = .ok (.ifCond .ne 12, 3) := by decide +kernel
theorem dX4_valueAt_53 : decode cX4_valueAt 53 = .ok (.aload_n 0, 1) := by decide +kernel
theorem dX4_valueAt_54 : decode cX4_valueAt 54 = .ok (.getfield 15, 3) := by decide +kernel
theorem dX4_valueAt_57 : decode cX4_valueAt 57 = .ok (.iconst 0, 1) := by decide +kernel
theorem dX4_valueAt_58 : decode cX4_valueAt 58 = .ok (.iaload, 1) := by decide +kernel
theorem dX4_valueAt_59 : decode cX4_valueAt 59 = .ok (.goto 12, 3) := by decide +kernel
theorem dX4_valueAt_62 : decode cX4_valueAt 62 = .ok (.aload_n 0, 1) := by decide +kernel
theorem dX4_valueAt_63 : decode cX4_valueAt 63 = .ok (.iload_n 3, 1) := by decide +kernel
theorem dX4_valueAt_64 : decode cX4_valueAt 64 = .ok (.iconst 1, 1) := by decide +kernel
theorem dX4_valueAt_65 : decode cX4_valueAt 65 = .ok (.isub, 1) := by decide +kernel
theorem dX4_valueAt_66 : decode cX4_valueAt 66 = .ok (.iload_n 3, 1) := by decide +kernel
theorem dX4_valueAt_67 : decode cX4_valueAt 67 = .ok (.iload_n 2, 1) := by decide +kernel
theorem dX4_valueAt_68 : decode cX4_valueAt 68 = .ok (.invokevirtual 102, 3) := by decide +kernel
theorem dX4_valueAt_71 : decode cX4_valueAt 71 = .ok (.ireturn, 1) := by decide +kernel
theorem dX4_valueAt_72 : decode cX4_valueAt 72 = .ok (.iinc 3 1, 3) := by decide +kernel
theorem dX4_valueAt_75 : decode cX4_valueAt 75 = .ok (.goto (-50), 3) := by decide +kernel
theorem dX4_valueAt_78 : decode cX4_valueAt 78 = .ok (.aload_n 0, 1) := by decide +kernel
theorem dX4_valueAt_79 : decode cX4_valueAt 79 = .ok (.getfield 52, 3) := by decide +kernel
theorem dX4_valueAt_82 : decode cX4_valueAt 82 = .ok (.ifCond .le 26, 3) := by decide +kernel
theorem dX4_valueAt_85 : decode cX4_valueAt 85 = .ok (.aload_n 0, 1) := by decide +kernel
theorem dX4_valueAt_86 : decode cX4_valueAt 86 = .ok (.getfield 52, 3) := by decide +kernel
theorem dX4_valueAt_89 : decode cX4_valueAt 89 = .ok (.bipush 8, 2) := by decide +kernel
theorem dX4_valueAt_91 : decode cX4_valueAt 91 = .ok (.if_icmp .gt 17, 3) := by decide +kernel
theorem dX4_valueAt_94 : decode cX4_valueAt 94 = .ok (.aload_n 0, 1) := by decide +kernel
theorem dX4_valueAt_95 : decode cX4_valueAt 95 = .ok (.getfield 15, 3) := by decide +kernel
theorem dX4_valueAt_98 : decode cX4_valueAt 98 = .ok (.aload_n 0, 1) := by decide +kernel
theorem dX4_valueAt_99 : decode cX4_valueAt 99 = .ok (.getfield 52, 3) := by decide +kernel
theorem dX4_valueAt_102 : decode cX4_valueAt 102 = .ok (.iconst 1, 1) := by decide +kernel
theorem dX4_valueAt_103 : decode cX4_valueAt 103 = .ok (.isub, 1) := by decide +kernel
theorem dX4_valueAt_104 : decode cX4_valueAt 104 = .ok (.iaload, 1) := by decide +kernel
theorem dX4_valueAt_105 : decode cX4_valueAt 105 = .ok (.goto 4, 3) := by decide +kernel
theorem dX4_valueAt_108 : decode cX4_valueAt 108 = .ok (.iconst 0, 1) := by decide +kernel
theorem dX4_valueAt_109 : decode cX4_valueAt 109 = .ok (.ireturn, 1) := by decide +kernel
theorem dX4_valueBetween_0 : decode cX4_valueBetween 0 = .ok (.iload_n 1, 1) := by decide +kernel
theorem dX4_valueBetween_1 : decode cX4_valueBetween 1 = .ok (.ifCond .lt 19, 3) := by decide +kernel
theorem dX4_valueBetween_4 : decode cX4_valueBetween 4 = .ok (.iload_n 2, 1) := by decide +kernel
theorem dX4_valueBetween_5 : decode cX4_valueBetween 5 = .ok (.ifCond .lt 15, 3) := by decide +kernel
theorem dX4_valueBetween_8 : decode cX4_valueBetween 8 = .ok (.iload_n 1, 1) := by decide +kernel
theorem dX4_valueBetween_9 : decode cX4_valueBetween 9 = .ok (.bipush 8, 2) := by decide +kernel
theorem dX4_valueBetween_11 : decode cX4_valueBetween 11 = .ok (.if_icmp .ge 9, 3) := by decide +kernel
theorem dX4_valueBetween_14 : decode cX4_valueBetween 14 = .ok (.iload_n 2, 1) := by decide +kernel
theorem dX4_valueBetween_15 : decode cX4_valueBetween 15 = .ok (.bipush 8, 2) := by decide +kernel
theorem dX4_valueBetween_17 : decode cX4_valueBetween 17 = .ok (.if_icmp .lt 5, 3) := by decide +kernel
theorem dX4_valueBetween_20 : decode cX4_valueBetween 20 = .ok (.iconst 0, 1) := by decide +kernel
theorem dX4_valueBetween_21 : decode cX4_valueBetween 21 = .ok (.ireturn, 1) := by decide +kernel
theorem dX4_valueBetween_22 : decode cX4_valueBetween 22 = .ok (.aload_n 0, 1) := by decide +kernel
theorem dX4_valueBetween_23 : decode cX4_valueBetween 23 = .ok (.getfield 11, 3) := by decide +kernel
theorem dX4_valueBetween_26 : decode cX4_valueBetween 26 = .ok (.iload_n 2, 1) := by decide +kernel
theorem dX4_valueBetween_27 : decode cX4_valueBetween 27 = .ok (.iaload, 1) := by decide +kernel
theorem dX4_valueBetween_28 : decode cX4_valueBetween 28 = .ok (.aload_n 0, 1) := by decide +kernel
theorem dX4_valueBetween_29 : decode cX4_valueBetween 29 = .ok (.getfield 11, 3) := by decide +kernel
theorem dX4_valueBetween_32 : decode cX4_valueBetween 32 = .ok (.iload_n 1, 1) := by decide +kernel
theorem dX4_valueBetween_33 : decode cX4_valueBetween 33 = .ok (.iaload, 1) := by decide +kernel
theorem dX4_valueBetween_34 : decode cX4_valueBetween 34 = .ok (.isub, 1) := by decide +kernel
theorem dX4_valueBetween_35 : decode cX4_valueBetween 35 = .ok (.istore 4, 2) := by decide +kernel
theorem dX4_valueBetween_37 : decode cX4_valueBetween 37 = .ok (.iload 4, 2) := by decide +kernel
theorem dX4_valueBetween_39 : decode cX4_valueBetween 39 = .ok (.ifCond .gt 10, 3) := by decide +kernel
theorem dX4_valueBetween_42 : decode cX4_valueBetween 42 = .ok (.aload_n 0, 1) := by decide +kernel
theorem dX4_valueBetween_43 : decode cX4_valueBetween 43 = .ok (.getfield 15, 3) := by decide +kernel
theorem dX4_valueBetween_46 : decode cX4_valueBetween 46 = .ok (.iload_n 1, 1) := by decide +kernel
theorem dX4_valueBetween_47 : decode cX4_valueBetween 47 = .ok (.iaload, 1) := by decide +kernel
theorem dX4_valueBetween_48 : decode cX4_valueBetween 48 = .ok (.ireturn, 1) := by decide +kernel
theorem dX4_valueBetween_49 : decode cX4_valueBetween 49 = .ok (.aload_n 0, 1) := by decide +kernel
theorem dX4_valueBetween_50 : decode cX4_valueBetween 50 = .ok (.getfield 15, 3) := by decide +kernel
theorem dX4_valueBetween_53 : decode cX4_valueBetween 53 = .ok (.iload_n 1, 1) := by decide +kernel
theorem dX4_valueBetween_54 : decode cX4_valueBetween 54 = .ok (.iaload, 1) := by decide +kernel
theorem dX4_valueBetween_55 : decode cX4_valueBetween 55 = .ok (.aload_n 0, 1) := by decide +kernel
theorem dX4_valueBetween_56 : decode cX4_valueBetween 56 = .ok (.getfield 15, 3) := by decide +kernel
theorem dX4_valueBetween_59 : decode cX4_valueBetween 59 = .ok (.iload_n 2, 1) := by decide +kernel
theorem dX4_valueBetween_60 : decode cX4_valueBetween 60 = .ok (.iaload, 1) := by decide +kernel
theorem dX4_valueBetween_61 : decode cX4_valueBetween 61 = .ok (.aload_n 0, 1) := by decide +kernel
theorem dX4_valueBetween_62 : decode cX4_valueBetween 62 = .ok (.getfield 15, 3) := by decide +kernel
theorem dX4_valueBetween_65 : decode cX4_valueBetween 65 = .ok (.iload_n 1, 1) := by decide +kernel
theorem dX4_valueBetween_66 : decode cX4_valueBetween 66 = .ok (.iaload, 1) := by decide +kernel
theorem dX4_valueBetween_67 : decode cX4_valueBetween 67 = .ok (.isub, 1) := by decide +kernel
theorem dX4_valueBetween_68 : decode cX4_valueBetween 68 = .ok (.iload_n 3, 1) := by decide +kernel
theorem dX4_valueBetween_69 : decode cX4_valueBetween 69 = .ok (.aload_n 0, 1) := by decide +kernel
theorem dX4_valueBetween_70 : decode cX4_valueBetween 70 = .ok (.getfield 11, 3) := by decide +kernel
theorem dX4_valueBetween_73 : decode cX4_valueBetween 73 = .ok (.iload_n 1, 1) := by decide +kernel
theorem dX4_valueBetween_74 : decode cX4_valueBetween 74 = .ok (.iaload, 1) := by decide +kernel
theorem dX4_valueBetween_75 : decode cX4_valueBetween 75 = .ok (.isub, 1) := by decide +kernel
theorem dX4_valueBetween_76 : decode cX4_valueBetween 76 = .ok (.imul, 1) := by decide +kernel
theorem dX4_valueBetween_77 : decode cX4_valueBetween 77 = .ok (.iload 4, 2) := by decide +kernel
theorem dX4_valueBetween_79 : decode cX4_valueBetween 79 = .ok (.idiv, 1) := by decide +kernel
theorem dX4_valueBetween_80 : decode cX4_valueBetween 80 = .ok (.iadd, 1) := by decide +kernel
theorem dX4_valueBetween_81 : decode cX4_valueBetween 81 = .ok (.ireturn, 1) := by decide +kernel
theorem dX4_worthIn_0 : decode cX4_worthIn 0 = .ok (.iload_n 2, 1) := by decide +kernel
theorem dX4_worthIn_1 : decode cX4_worthIn 1 = .ok (.bipush 6, 2) := by decide +kernel
theorem dX4_worthIn_3 : decode cX4_worthIn 3 = .ok (.if_icmp .le 7, 3) := by decide +kernel
theorem dX4_worthIn_6 : decode cX4_worthIn 6 = .ok (.iconst 0, 1) := by decide +kernel
theorem dX4_worthIn_7 : decode cX4_worthIn 7 = .ok (.goto 14, 3) := by decide +kernel
theorem dX4_worthIn_10 : decode cX4_worthIn 10 = .ok (.aload_n 0, 1) := by decide +kernel
theorem dX4_worthIn_11 : decode cX4_worthIn 11 = .ok (.iload_n 1, 1) := by decide +kernel
theorem dX4_worthIn_12 : decode cX4_worthIn 12 = .ok (.invokevirtual 106, 3) := by decide +kernel
theorem dX4_worthIn_15 : decode cX4_worthIn 15 = .ok (.iload_n 2, 1) := by decide +kernel
theorem dX4_worthIn_16 : decode cX4_worthIn 16 = .ok (.iconst 1, 1) := by decide +kernel
theorem dX4_worthIn_17 : decode cX4_worthIn 17 = .ok (.invokestatic 96, 3) := by decide +kernel
theorem dX4_worthIn_20 : decode cX4_worthIn 20 = .ok (.idiv, 1) := by decide +kernel
theorem dX4_worthIn_21 : decode cX4_worthIn 21 = .ok (.ireturn, 1) := by decide +kernel
theorem dX4_keeperAt_0 : decode cX4_keeperAt 0 = .ok (.iload_n 1, 1) := by decide +kernel
theorem dX4_keeperAt_1 : decode cX4_keeperAt 1 = .ok (.ifCond .lt 26, 3) := by decide +kernel
theorem dX4_keeperAt_4 : decode cX4_keeperAt 4 = .ok (.iload_n 1, 1) := by decide +kernel
theorem dX4_keeperAt_5 : decode cX4_keeperAt 5 = .ok (.aload_n 0, 1) := by decide +kernel
theorem dX4_keeperAt_6 : decode cX4_keeperAt 6 = .ok (.getfield 45, 3) := by decide +kernel
theorem dX4_keeperAt_9 : decode cX4_keeperAt 9 = .ok (.if_icmp .ge 18, 3) := by decide +kernel
theorem dX4_keeperAt_12 : decode cX4_keeperAt 12 = .ok (.iload_n 1, 1) := by decide +kernel
theorem dX4_keeperAt_13 : decode cX4_keeperAt 13 = .ok (.bipush 6, 2) := by decide +kernel
theorem dX4_keeperAt_15 : decode cX4_keeperAt 15 = .ok (.if_icmp .ge 12, 3) := by decide +kernel
theorem dX4_keeperAt_18 : decode cX4_keeperAt 18 = .ok (.aload_n 0, 1) := by decide +kernel
theorem dX4_keeperAt_19 : decode cX4_keeperAt 19 = .ok (.getfield 20, 3) := by decide +kernel
theorem dX4_keeperAt_22 : decode cX4_keeperAt 22 = .ok (.iload_n 1, 1) := by decide +kernel
theorem dX4_keeperAt_23 : decode cX4_keeperAt 23 = .ok (.aaload, 1) := by decide +kernel
theorem dX4_keeperAt_24 : decode cX4_keeperAt 24 = .ok (.goto 4, 3) := by decide +kernel
theorem dX4_keeperAt_27 : decode cX4_keeperAt 27 = .ok (.aconst_null, 1) := by decide +kernel
theorem dX4_keeperAt_28 : decode cX4_keeperAt 28 = .ok (.areturn, 1) := by decide +kernel
theorem dX4_countOf_0 : decode cX4_countOf 0 = .ok (.iload_n 1, 1) := by decide +kernel
theorem dX4_countOf_1 : decode cX4_countOf 1 = .ok (.ifCond .lt 39, 3) := by decide +kernel
theorem dX4_countOf_4 : decode cX4_countOf 4 = .ok (.iload_n 1, 1) := by decide +kernel
theorem dX4_countOf_5 : decode cX4_countOf 5 = .ok (.aload_n 0, 1) := by decide +kernel
theorem dX4_countOf_6 : decode cX4_countOf 6 = .ok (.getfield 45, 3) := by decide +kernel
theorem dX4_countOf_9 : decode cX4_countOf 9 = .ok (.if_icmp .ge 31, 3) := by decide +kernel
theorem dX4_countOf_12 : decode cX4_countOf 12 = .ok (.iload_n 1, 1) := by decide +kernel
theorem dX4_countOf_13 : decode cX4_countOf 13 = .ok (.bipush 6, 2) := by decide +kernel
theorem dX4_countOf_15 : decode cX4_countOf 15 = .ok (.if_icmp .ge 25, 3) := by decide +kernel
theorem dX4_countOf_18 : decode cX4_countOf 18 = .ok (.iload_n 2, 1) := by decide +kernel
theorem dX4_countOf_19 : decode cX4_countOf 19 = .ok (.ifCond .lt 21, 3) := by decide +kernel
theorem dX4_countOf_22 : decode cX4_countOf 22 = .ok (.iload_n 2, 1) := by decide +kernel
theorem dX4_countOf_23 : decode cX4_countOf 23 = .ok (.aload_n 0, 1) := by decide +kernel
theorem dX4_countOf_24 : decode cX4_countOf 24 = .ok (.getfield 49, 3) := by decide +kernel
theorem dX4_countOf_27 : decode cX4_countOf 27 = .ok (.if_icmp .ge 13, 3) := by decide +kernel
theorem dX4_countOf_30 : decode cX4_countOf 30 = .ok (.iload_n 2, 1) := by decide +kernel
theorem dX4_countOf_31 : decode cX4_countOf 31 = .ok (.bipush 8, 2) := by decide +kernel
theorem dX4_countOf_33 : decode cX4_countOf 33 = .ok (.if_icmp .ge 7, 3) := by decide +kernel
theorem dX4_countOf_36 : decode cX4_countOf 36 = .ok (.iconst 1, 1) := by decide +kernel
theorem dX4_countOf_37 : decode cX4_countOf 37 = .ok (.goto 4, 3) := by decide +kernel
theorem dX4_countOf_40 : decode cX4_countOf 40 = .ok (.iconst 0, 1) := by decide +kernel
theorem dX4_countOf_41 : decode cX4_countOf 41 = .ok (.istore_n 3, 1) := by decide +kernel
theorem dX4_countOf_42 : decode cX4_countOf 42 = .ok (.iload_n 3, 1) := by decide +kernel
theorem dX4_countOf_43 : decode cX4_countOf 43 = .ok (.ifCond .eq 17, 3) := by decide +kernel
theorem dX4_countOf_46 : decode cX4_countOf 46 = .ok (.aload_n 0, 1) := by decide +kernel
theorem dX4_countOf_47 : decode cX4_countOf 47 = .ok (.getfield 30, 3) := by decide +kernel
theorem dX4_countOf_50 : decode cX4_countOf 50 = .ok (.iload_n 1, 1) := by decide +kernel
theorem dX4_countOf_51 : decode cX4_countOf 51 = .ok (.bipush 8, 2) := by decide +kernel
theorem dX4_countOf_53 : decode cX4_countOf 53 = .ok (.imul, 1) := by decide +kernel
theorem dX4_countOf_54 : decode cX4_countOf 54 = .ok (.iload_n 2, 1) := by decide +kernel
theorem dX4_countOf_55 : decode cX4_countOf 55 = .ok (.iadd, 1) := by decide +kernel
theorem dX4_countOf_56 : decode cX4_countOf 56 = .ok (.iaload, 1) := by decide +kernel
theorem dX4_countOf_57 : decode cX4_countOf 57 = .ok (.goto 4, 3) := by decide +kernel
theorem dX4_countOf_60 : decode cX4_countOf 60 = .ok (.iconst 0, 1) := by decide +kernel
theorem dX4_countOf_61 : decode cX4_countOf 61 = .ok (.ireturn, 1) := by decide +kernel
theorem dX4_hasUnsold_0 : decode cX4_hasUnsold 0 = .ok (.aload_n 0, 1) := by decide +kernel
theorem dX4_hasUnsold_1 : decode cX4_hasUnsold 1 = .ok (.iload_n 1, 1) := by decide +kernel
theorem dX4_hasUnsold_2 : decode cX4_hasUnsold 2 = .ok (.iload_n 2, 1) := by decide +kernel
theorem dX4_hasUnsold_3 : decode cX4_hasUnsold 3 = .ok (.invokevirtual 110, 3) := by decide +kernel
theorem dX4_hasUnsold_6 : decode cX4_hasUnsold 6 = .ok (.ifCond .le 20, 3) := by decide +kernel
theorem dX4_hasUnsold_9 : decode cX4_hasUnsold 9 = .ok (.aload_n 0, 1) := by decide +kernel
theorem dX4_hasUnsold_10 : decode cX4_hasUnsold 10 = .ok (.getfield 36, 3) := by decide +kernel
theorem dX4_hasUnsold_13 : decode cX4_hasUnsold 13 = .ok (.iload_n 1, 1) := by decide +kernel
theorem dX4_hasUnsold_14 : decode cX4_hasUnsold 14 = .ok (.iaload, 1) := by decide +kernel
theorem dX4_hasUnsold_15 : decode cX4_hasUnsold 15 = .ok (.iload_n 2, 1) := by decide +kernel
theorem dX4_hasUnsold_16 : decode cX4_hasUnsold 16 = .ok (.ishr, 1) := by decide +kernel
theorem dX4_hasUnsold_17 : decode cX4_hasUnsold 17 = .ok (.iconst 1, 1) := by decide +kernel
theorem dX4_hasUnsold_18 : decode cX4_hasUnsold 18 = .ok (.iand, 1) := by decide +kernel
theorem dX4_hasUnsold_19 : decode cX4_hasUnsold 19 = .ok (.ifCond .ne 7, 3) := by decide +kernel
theorem dX4_hasUnsold_22 : decode cX4_hasUnsold 22 = .ok (.iconst 1, 1) := by decide +kernel
theorem dX4_hasUnsold_23 : decode cX4_hasUnsold 23 = .ok (.goto 4, 3) := by decide +kernel
theorem dX4_hasUnsold_26 : decode cX4_hasUnsold 26 = .ok (.iconst 0, 1) := by decide +kernel
theorem dX4_hasUnsold_27 : decode cX4_hasUnsold 27 = .ok (.ireturn, 1) := by decide +kernel
theorem dX4_keepersWith_0 : decode cX4_keepersWith 0 = .ok (.iconst 0, 1) := by decide +kernel
theorem dX4_keepersWith_1 : decode cX4_keepersWith 1 = .ok (.istore_n 2, 1) := by decide +kernel
theorem dX4_keepersWith_2 : decode cX4_keepersWith 2 = .ok (.iconst 0, 1) := by decide +kernel
theorem dX4_keepersWith_3 : decode cX4_keepersWith 3 = .ok (.istore_n 3, 1) := by decide +kernel
theorem dX4_keepersWith_4 : decode cX4_keepersWith 4 = .ok (.iload_n 3, 1) := by decide +kernel
theorem dX4_keepersWith_5 : decode cX4_keepersWith 5 = .ok (.aload_n 0, 1) := by decide +kernel
theorem dX4_keepersWith_6 : decode cX4_keepersWith 6 = .ok (.getfield 45, 3) := by decide +kernel
theorem dX4_keepersWith_9 : decode cX4_keepersWith 9 = .ok (.if_icmp .ge 21, 3) := by decide +kernel
theorem dX4_keepersWith_12 : decode cX4_keepersWith 12 = .ok (.aload_n 0, 1) := by decide +kernel
theorem dX4_keepersWith_13 : decode cX4_keepersWith 13 = .ok (.iload_n 3, 1) := by decide +kernel
theorem dX4_keepersWith_14 : decode cX4_keepersWith 14 = .ok (.iload_n 1, 1) := by decide +kernel
theorem dX4_keepersWith_15 : decode cX4_keepersWith 15 = .ok (.invokevirtual 110, 3) := by decide +kernel
theorem dX4_keepersWith_18 : decode cX4_keepersWith 18 = .ok (.ifCond .le 6, 3) := by decide +kernel
theorem dX4_keepersWith_21 : decode cX4_keepersWith 21 = .ok (.iinc 2 1, 3) := by decide +kernel
theorem dX4_keepersWith_24 : decode cX4_keepersWith 24 = .ok (.iinc 3 1, 3) := by decide +kernel
theorem dX4_keepersWith_27 : decode cX4_keepersWith 27 = .ok (.goto (-23), 3) := by decide +kernel
theorem dX4_keepersWith_30 : decode cX4_keepersWith 30 = .ok (.iload_n 2, 1) := by decide +kernel
theorem dX4_keepersWith_31 : decode cX4_keepersWith 31 = .ok (.ireturn, 1) := by decide +kernel
theorem dX4_hadBy_0 : decode cX4_hadBy 0 = .ok (.aload_n 0, 1) := by decide +kernel
theorem dX4_hadBy_1 : decode cX4_hadBy 1 = .ok (.iload_n 1, 1) := by decide +kernel
theorem dX4_hadBy_2 : decode cX4_hadBy 2 = .ok (.invokevirtual 113, 3) := by decide +kernel
theorem dX4_hadBy_5 : decode cX4_hadBy 5 = .ok (.aload_n 0, 1) := by decide +kernel
theorem dX4_hadBy_6 : decode cX4_hadBy 6 = .ok (.iload_n 1, 1) := by decide +kernel
theorem dX4_hadBy_7 : decode cX4_hadBy 7 = .ok (.invokevirtual 116, 3) := by decide +kernel
theorem dX4_hadBy_10 : decode cX4_hadBy 10 = .ok (.iadd, 1) := by decide +kernel
theorem dX4_hadBy_11 : decode cX4_hadBy 11 = .ok (.ireturn, 1) := by decide +kernel
theorem dX4_knownBy_0 : decode cX4_knownBy 0 = .ok (.aload_n 0, 1) := by decide +kernel
theorem dX4_knownBy_1 : decode cX4_knownBy 1 = .ok (.iload_n 1, 1) := by decide +kernel
theorem dX4_knownBy_2 : decode cX4_knownBy 2 = .ok (.invokevirtual 119, 3) := by decide +kernel
theorem dX4_knownBy_5 : decode cX4_knownBy 5 = .ok (.ifCond .eq 12, 3) := by decide +kernel
theorem dX4_knownBy_8 : decode cX4_knownBy 8 = .ok (.aload_n 0, 1) := by decide +kernel
theorem dX4_knownBy_9 : decode cX4_knownBy 9 = .ok (.getfield 39, 3) := by decide +kernel
theorem dX4_knownBy_12 : decode cX4_knownBy 12 = .ok (.iload_n 1, 1) := by decide +kernel
theorem dX4_knownBy_13 : decode cX4_knownBy 13 = .ok (.iaload, 1) := by decide +kernel
theorem dX4_knownBy_14 : decode cX4_knownBy 14 = .ok (.goto 4, 3) := by decide +kernel
theorem dX4_knownBy_17 : decode cX4_knownBy 17 = .ok (.iconst 0, 1) := by decide +kernel
theorem dX4_knownBy_18 : decode cX4_knownBy 18 = .ok (.ireturn, 1) := by decide +kernel
theorem dX4_useOf_0 : decode cX4_useOf 0 = .ok (.aload_n 0, 1) := by decide +kernel
theorem dX4_useOf_1 : decode cX4_useOf 1 = .ok (.iload_n 1, 1) := by decide +kernel
theorem dX4_useOf_2 : decode cX4_useOf 2 = .ok (.invokevirtual 119, 3) := by decide +kernel
theorem dX4_useOf_5 : decode cX4_useOf 5 = .ok (.ifCond .eq 12, 3) := by decide +kernel
theorem dX4_useOf_8 : decode cX4_useOf 8 = .ok (.aload_n 0, 1) := by decide +kernel
theorem dX4_useOf_9 : decode cX4_useOf 9 = .ok (.getfield 24, 3) := by decide +kernel
theorem dX4_useOf_12 : decode cX4_useOf 12 = .ok (.iload_n 1, 1) := by decide +kernel
theorem dX4_useOf_13 : decode cX4_useOf 13 = .ok (.iaload, 1) := by decide +kernel
theorem dX4_useOf_14 : decode cX4_useOf 14 = .ok (.goto 4, 3) := by decide +kernel
theorem dX4_useOf_17 : decode cX4_useOf 17 = .ok (.iconst 0, 1) := by decide +kernel
theorem dX4_useOf_18 : decode cX4_useOf 18 = .ok (.ireturn, 1) := by decide +kernel
theorem dX4_firstSale_0 : decode cX4_firstSale 0 = .ok (.aload_n 0, 1) := by decide +kernel
theorem dX4_firstSale_1 : decode cX4_firstSale 1 = .ok (.iload_n 1, 1) := by decide +kernel
theorem dX4_firstSale_2 : decode cX4_firstSale 2 = .ok (.invokevirtual 119, 3) := by decide +kernel
theorem dX4_firstSale_5 : decode cX4_firstSale 5 = .ok (.ifCond .eq 12, 3) := by decide +kernel
theorem dX4_firstSale_8 : decode cX4_firstSale 8 = .ok (.aload_n 0, 1) := by decide +kernel
theorem dX4_firstSale_9 : decode cX4_firstSale 9 = .ok (.getfield 42, 3) := by decide +kernel
theorem dX4_firstSale_12 : decode cX4_firstSale 12 = .ok (.iload_n 1, 1) := by decide +kernel
theorem dX4_firstSale_13 : decode cX4_firstSale 13 = .ok (.iaload, 1) := by decide +kernel
theorem dX4_firstSale_14 : decode cX4_firstSale 14 = .ok (.goto 5, 3) := by decide +kernel
theorem dX4_firstSale_17 : decode cX4_firstSale 17 = .ok (.ldc 64, 2) := by decide +kernel
theorem dX4_firstSale_19 : decode cX4_firstSale 19 = .ok (.ireturn, 1) := by decide +kernel
theorem dX4_earnedBy_0 : decode cX4_earnedBy 0 = .ok (.aload_n 0, 1) := by decide +kernel
theorem dX4_earnedBy_1 : decode cX4_earnedBy 1 = .ok (.iload_n 1, 1) := by decide +kernel
theorem dX4_earnedBy_2 : decode cX4_earnedBy 2 = .ok (.invokevirtual 123, 3) := by decide +kernel
theorem dX4_earnedBy_5 : decode cX4_earnedBy 5 = .ok (.ifCond .eq 12, 3) := by decide +kernel
theorem dX4_earnedBy_8 : decode cX4_earnedBy 8 = .ok (.aload_n 0, 1) := by decide +kernel
theorem dX4_earnedBy_9 : decode cX4_earnedBy 9 = .ok (.getfield 33, 3) := by decide +kernel
theorem dX4_earnedBy_12 : decode cX4_earnedBy 12 = .ok (.iload_n 1, 1) := by decide +kernel
theorem dX4_earnedBy_13 : decode cX4_earnedBy 13 = .ok (.iaload, 1) := by decide +kernel
theorem dX4_earnedBy_14 : decode cX4_earnedBy 14 = .ok (.goto 4, 3) := by decide +kernel
theorem dX4_earnedBy_17 : decode cX4_earnedBy 17 = .ok (.iconst 0, 1) := by decide +kernel
theorem dX4_earnedBy_18 : decode cX4_earnedBy 18 = .ok (.ireturn, 1) := by decide +kernel
theorem dX4_soldBy_0 : decode cX4_soldBy 0 = .ok (.aload_n 0, 1) := by decide +kernel
theorem dX4_soldBy_1 : decode cX4_soldBy 1 = .ok (.iload_n 1, 1) := by decide +kernel
theorem dX4_soldBy_2 : decode cX4_soldBy 2 = .ok (.invokevirtual 123, 3) := by decide +kernel
theorem dX4_soldBy_5 : decode cX4_soldBy 5 = .ok (.ifCond .eq 12, 3) := by decide +kernel
theorem dX4_soldBy_8 : decode cX4_soldBy 8 = .ok (.aload_n 0, 1) := by decide +kernel
theorem dX4_soldBy_9 : decode cX4_soldBy 9 = .ok (.getfield 36, 3) := by decide +kernel
theorem dX4_soldBy_12 : decode cX4_soldBy 12 = .ok (.iload_n 1, 1) := by decide +kernel
theorem dX4_soldBy_13 : decode cX4_soldBy 13 = .ok (.iaload, 1) := by decide +kernel
theorem dX4_soldBy_14 : decode cX4_soldBy 14 = .ok (.goto 4, 3) := by decide +kernel
theorem dX4_soldBy_17 : decode cX4_soldBy 17 = .ok (.iconst 0, 1) := by decide +kernel
theorem dX4_soldBy_18 : decode cX4_soldBy 18 = .ok (.ireturn, 1) := by decide +kernel
theorem dX4_piecesOf_0 : decode cX4_piecesOf 0 = .ok (.iconst 0, 1) := by decide +kernel
theorem dX4_piecesOf_1 : decode cX4_piecesOf 1 = .ok (.istore_n 2, 1) := by decide +kernel
theorem dX4_piecesOf_2 : decode cX4_piecesOf 2 = .ok (.iconst 0, 1) := by decide +kernel
theorem dX4_piecesOf_3 : decode cX4_piecesOf 3 = .ok (.istore_n 3, 1) := by decide +kernel
theorem dX4_piecesOf_4 : decode cX4_piecesOf 4 = .ok (.iload_n 3, 1) := by decide +kernel
theorem dX4_piecesOf_5 : decode cX4_piecesOf 5 = .ok (.aload_n 0, 1) := by decide +kernel
theorem dX4_piecesOf_6 : decode cX4_piecesOf 6 = .ok (.getfield 49, 3) := by decide +kernel
theorem dX4_piecesOf_9 : decode cX4_piecesOf 9 = .ok (.if_icmp .ge 18, 3) := by decide +kernel
theorem dX4_piecesOf_12 : decode cX4_piecesOf 12 = .ok (.iload_n 2, 1) := by decide +kernel
theorem dX4_piecesOf_13 : decode cX4_piecesOf 13 = .ok (.aload_n 0, 1) := by decide +kernel
theorem dX4_piecesOf_14 : decode cX4_piecesOf 14 = .ok (.iload_n 1, 1) := by decide +kernel
theorem dX4_piecesOf_15 : decode cX4_piecesOf 15 = .ok (.iload_n 3, 1) := by decide +kernel
theorem dX4_piecesOf_16 : decode cX4_piecesOf 16 = .ok (.invokevirtual 110, 3) := by decide +kernel
theorem dX4_piecesOf_19 : decode cX4_piecesOf 19 = .ok (.iadd, 1) := by decide +kernel
theorem dX4_piecesOf_20 : decode cX4_piecesOf 20 = .ok (.istore_n 2, 1) := by decide +kernel
theorem dX4_piecesOf_21 : decode cX4_piecesOf 21 = .ok (.iinc 3 1, 3) := by decide +kernel
theorem dX4_piecesOf_24 : decode cX4_piecesOf 24 = .ok (.goto (-20), 3) := by decide +kernel
theorem dX4_piecesOf_27 : decode cX4_piecesOf 27 = .ok (.iload_n 2, 1) := by decide +kernel
theorem dX4_piecesOf_28 : decode cX4_piecesOf 28 = .ok (.ireturn, 1) := by decide +kernel
theorem dX4_earnedByAll_0 : decode cX4_earnedByAll 0 = .ok (.iconst 0, 1) := by decide +kernel
theorem dX4_earnedByAll_1 : decode cX4_earnedByAll 1 = .ok (.istore_n 1, 1) := by decide +kernel
theorem dX4_earnedByAll_2 : decode cX4_earnedByAll 2 = .ok (.iconst 0, 1) := by decide +kernel
theorem dX4_earnedByAll_3 : decode cX4_earnedByAll 3 = .ok (.istore_n 2, 1) := by decide +kernel
theorem dX4_earnedByAll_4 : decode cX4_earnedByAll 4 = .ok (.iload_n 2, 1) := by decide +kernel
theorem dX4_earnedByAll_5 : decode cX4_earnedByAll 5 = .ok (.aload_n 0, 1) := by decide +kernel
theorem dX4_earnedByAll_6 : decode cX4_earnedByAll 6 = .ok (.getfield 45, 3) := by decide +kernel
theorem dX4_earnedByAll_9 : decode cX4_earnedByAll 9 = .ok (.if_icmp .ge 17, 3) := by decide +kernel
theorem dX4_earnedByAll_12 : decode cX4_earnedByAll 12 = .ok (.iload_n 1, 1) := by decide +kernel
theorem dX4_earnedByAll_13 : decode cX4_earnedByAll 13 = .ok (.aload_n 0, 1) := by decide +kernel
theorem dX4_earnedByAll_14 : decode cX4_earnedByAll 14 = .ok (.iload_n 2, 1) := by decide +kernel
theorem dX4_earnedByAll_15 : decode cX4_earnedByAll 15 = .ok (.invokevirtual 126, 3) := by decide +kernel
theorem dX4_earnedByAll_18 : decode cX4_earnedByAll 18 = .ok (.iadd, 1) := by decide +kernel
theorem dX4_earnedByAll_19 : decode cX4_earnedByAll 19 = .ok (.istore_n 1, 1) := by decide +kernel
theorem dX4_earnedByAll_20 : decode cX4_earnedByAll 20 = .ok (.iinc 2 1, 3) := by decide +kernel
theorem dX4_earnedByAll_23 : decode cX4_earnedByAll 23 = .ok (.goto (-19), 3) := by decide +kernel
theorem dX4_earnedByAll_26 : decode cX4_earnedByAll 26 = .ok (.iload_n 1, 1) := by decide +kernel
theorem dX4_earnedByAll_27 : decode cX4_earnedByAll 27 = .ok (.ireturn, 1) := by decide +kernel
theorem dX4_addOne_0 : decode cX4_addOne 0 = .ok (.aload_n 0, 1) := by decide +kernel
theorem dX4_addOne_1 : decode cX4_addOne 1 = .ok (.iload_n 1, 1) := by decide +kernel
theorem dX4_addOne_2 : decode cX4_addOne 2 = .ok (.invokevirtual 123, 3) := by decide +kernel
theorem dX4_addOne_5 : decode cX4_addOne 5 = .ok (.ifCond .eq 26, 3) := by decide +kernel
theorem dX4_addOne_8 : decode cX4_addOne 8 = .ok (.aload_n 0, 1) := by decide +kernel
theorem dX4_addOne_9 : decode cX4_addOne 9 = .ok (.iload_n 2, 1) := by decide +kernel
theorem dX4_addOne_10 : decode cX4_addOne 10 = .ok (.invokevirtual 119, 3) := by decide +kernel
theorem dX4_addOne_13 : decode cX4_addOne 13 = .ok (.ifCond .eq 18, 3) := by decide +kernel
theorem dX4_addOne_16 : decode cX4_addOne 16 = .ok (.aload_n 0, 1) := by decide +kernel
theorem dX4_addOne_17 : decode cX4_addOne 17 = .ok (.getfield 30, 3) := by decide +kernel
theorem dX4_addOne_20 : decode cX4_addOne 20 = .ok (.iload_n 1, 1) := by decide +kernel
theorem dX4_addOne_21 : decode cX4_addOne 21 = .ok (.bipush 8, 2) := by decide +kernel
theorem dX4_addOne_23 : decode cX4_addOne 23 = .ok (.imul, 1) := by decide +kernel
theorem dX4_addOne_24 : decode cX4_addOne 24 = .ok (.iload_n 2, 1) := by decide +kernel
theorem dX4_addOne_25 : decode cX4_addOne 25 = .ok (.iadd, 1) := by decide +kernel
theorem dX4_addOne_26 : decode cX4_addOne 26 = .ok (.dup2, 1) := by decide +kernel
theorem dX4_addOne_27 : decode cX4_addOne 27 = .ok (.iaload, 1) := by decide +kernel
theorem dX4_addOne_28 : decode cX4_addOne 28 = .ok (.iconst 1, 1) := by decide +kernel
theorem dX4_addOne_29 : decode cX4_addOne 29 = .ok (.iadd, 1) := by decide +kernel
theorem dX4_addOne_30 : decode cX4_addOne 30 = .ok (.iastore, 1) := by decide +kernel
theorem dX4_addOne_31 : decode cX4_addOne 31 = .ok (.aload_n 0, 1) := by decide +kernel
theorem dX4_addOne_32 : decode cX4_addOne 32 = .ok (.iload_n 1, 1) := by decide +kernel
theorem dX4_addOne_33 : decode cX4_addOne 33 = .ok (.iload_n 2, 1) := by decide +kernel
theorem dX4_addOne_34 : decode cX4_addOne 34 = .ok (.invokevirtual 110, 3) := by decide +kernel
theorem dX4_addOne_37 : decode cX4_addOne 37 = .ok (.ireturn, 1) := by decide +kernel
theorem dX4_passYears_0 : decode cX4_passYears 0 = .ok (.iload_n 2, 1) := by decide +kernel
theorem dX4_passYears_1 : decode cX4_passYears 1 = .ok (.istore_n 3, 1) := by decide +kernel
theorem dX4_passYears_2 : decode cX4_passYears 2 = .ok (.iconst 0, 1) := by decide +kernel
theorem dX4_passYears_3 : decode cX4_passYears 3 = .ok (.istore 4, 2) := by decide +kernel
theorem dX4_passYears_5 : decode cX4_passYears 5 = .ok (.iload 4, 2) := by decide +kernel
theorem dX4_passYears_7 : decode cX4_passYears 7 = .ok (.iload_n 1, 1) := by decide +kernel
theorem dX4_passYears_8 : decode cX4_passYears 8 = .ok (.if_icmp .ge 37, 3) := by decide +kernel
theorem dX4_passYears_11 : decode cX4_passYears 11 = .ok (.aload_n 0, 1) := by decide +kernel
theorem dX4_passYears_12 : decode cX4_passYears 12 = .ok (.invokevirtual 129, 3) := by decide +kernel
theorem dX4_passYears_15 : decode cX4_passYears 15 = .ok (.aload_n 0, 1) := by decide +kernel
theorem dX4_passYears_16 : decode cX4_passYears 16 = .ok (.iload_n 3, 1) := by decide +kernel
theorem dX4_passYears_17 : decode cX4_passYears 17 = .ok (.invokevirtual 132, 3) := by decide +kernel
theorem dX4_passYears_20 : decode cX4_passYears 20 = .ok (.istore_n 3, 1) := by decide +kernel
theorem dX4_passYears_21 : decode cX4_passYears 21 = .ok (.aload_n 0, 1) := by decide +kernel
theorem dX4_passYears_22 : decode cX4_passYears 22 = .ok (.invokevirtual 135, 3) := by decide +kernel
theorem dX4_passYears_25 : decode cX4_passYears 25 = .ok (.aload_n 0, 1) := by decide +kernel
theorem dX4_passYears_26 : decode cX4_passYears 26 = .ok (.invokevirtual 138, 3) := by decide +kernel
theorem dX4_passYears_29 : decode cX4_passYears 29 = .ok (.aload_n 0, 1) := by decide +kernel
theorem dX4_passYears_30 : decode cX4_passYears 30 = .ok (.dup, 1) := by decide +kernel
theorem dX4_passYears_31 : decode cX4_passYears 31 = .ok (.getfield 55, 3) := by decide +kernel
theorem dX4_passYears_34 : decode cX4_passYears 34 = .ok (.iconst 1, 1) := by decide +kernel
theorem dX4_passYears_35 : decode cX4_passYears 35 = .ok (.iadd, 1) := by decide +kernel
theorem dX4_passYears_36 : decode cX4_passYears 36 = .ok (.putfield 55, 3) := by decide +kernel
theorem dX4_passYears_39 : decode cX4_passYears 39 = .ok (.iinc 4 1, 3) := by decide +kernel
theorem dX4_passYears_42 : decode cX4_passYears 42 = .ok (.goto (-37), 3) := by decide +kernel
theorem dX4_passYears_45 : decode cX4_passYears 45 = .ok (.return_, 1) := by decide +kernel
theorem dX4_sellAll_0 : decode cX4_sellAll 0 = .ok (.iconst 0, 1) := by decide +kernel
theorem dX4_sellAll_1 : decode cX4_sellAll 1 = .ok (.istore_n 1, 1) := by decide +kernel
theorem dX4_sellAll_2 : decode cX4_sellAll 2 = .ok (.iload_n 1, 1) := by decide +kernel
theorem dX4_sellAll_3 : decode cX4_sellAll 3 = .ok (.aload_n 0, 1) := by decide +kernel
theorem dX4_sellAll_4 : decode cX4_sellAll 4 = .ok (.getfield 45, 3) := by decide +kernel
theorem dX4_sellAll_7 : decode cX4_sellAll 7 = .ok (.if_icmp .ge 59, 3) := by decide +kernel
theorem dX4_sellAll_10 : decode cX4_sellAll 10 = .ok (.aload_n 0, 1) := by decide +kernel
theorem dX4_sellAll_11 : decode cX4_sellAll 11 = .ok (.iload_n 1, 1) := by decide +kernel
theorem dX4_sellAll_12 : decode cX4_sellAll 12 = .ok (.invokevirtual 65, 3) := by decide +kernel
theorem dX4_sellAll_15 : decode cX4_sellAll 15 = .ok (.astore_n 2, 1) := by decide +kernel
theorem dX4_sellAll_16 : decode cX4_sellAll 16 = .ok (.iconst 0, 1) := by decide +kernel
theorem dX4_sellAll_17 : decode cX4_sellAll 17 = .ok (.istore_n 3, 1) := by decide +kernel
theorem dX4_sellAll_18 : decode cX4_sellAll 18 = .ok (.iload_n 3, 1) := by decide +kernel
theorem dX4_sellAll_19 : decode cX4_sellAll 19 = .ok (.aload_n 0, 1) := by decide +kernel
theorem dX4_sellAll_20 : decode cX4_sellAll 20 = .ok (.getfield 49, 3) := by decide +kernel
theorem dX4_sellAll_23 : decode cX4_sellAll 23 = .ok (.if_icmp .ge 37, 3) := by decide +kernel
theorem dX4_sellAll_26 : decode cX4_sellAll 26 = .ok (.aload_n 2, 1) := by decide +kernel
theorem dX4_sellAll_27 : decode cX4_sellAll 27 = .ok (.ifnull 33, 3) := by decide +kernel
theorem dX4_sellAll_30 : decode cX4_sellAll 30 = .ok (.aload_n 0, 1) := by decide +kernel
theorem dX4_sellAll_31 : decode cX4_sellAll 31 = .ok (.iload_n 1, 1) := by decide +kernel
theorem dX4_sellAll_32 : decode cX4_sellAll 32 = .ok (.iload_n 3, 1) := by decide +kernel
theorem dX4_sellAll_33 : decode cX4_sellAll 33 = .ok (.invokevirtual 141, 3) := by decide +kernel
theorem dX4_sellAll_36 : decode cX4_sellAll 36 = .ok (.ifCond .eq 18, 3) := by decide +kernel
theorem dX4_sellAll_39 : decode cX4_sellAll 39 = .ok (.aload_n 2, 1) := by decide +kernel
theorem dX4_sellAll_40 : decode cX4_sellAll 40 = .ok (.aload_n 0, 1) := by decide +kernel
theorem dX4_sellAll_41 : decode cX4_sellAll 41 = .ok (.iload_n 3, 1) := by decide +kernel
theorem dX4_sellAll_42 : decode cX4_sellAll 42 = .ok (.invokevirtual 145, 3) := by decide +kernel
theorem dX4_sellAll_45 : decode cX4_sellAll 45 = .ok (.ifCond .eq 9, 3) := by decide +kernel
theorem dX4_sellAll_48 : decode cX4_sellAll 48 = .ok (.aload_n 0, 1) := by decide +kernel
theorem dX4_sellAll_49 : decode cX4_sellAll 49 = .ok (.iload_n 1, 1) := by decide +kernel
theorem dX4_sellAll_50 : decode cX4_sellAll 50 = .ok (.iload_n 3, 1) := by decide +kernel
theorem dX4_sellAll_51 : decode cX4_sellAll 51 = .ok (.invokevirtual 149, 3) := by decide +kernel
theorem dX4_sellAll_54 : decode cX4_sellAll 54 = .ok (.iinc 3 1, 3) := by decide +kernel
theorem dX4_sellAll_57 : decode cX4_sellAll 57 = .ok (.goto (-39), 3) := by decide +kernel
theorem dX4_sellAll_60 : decode cX4_sellAll 60 = .ok (.iinc 1 1, 3) := by decide +kernel
theorem dX4_sellAll_63 : decode cX4_sellAll 63 = .ok (.goto (-61), 3) := by decide +kernel
theorem dX4_sellAll_66 : decode cX4_sellAll 66 = .ok (.return_, 1) := by decide +kernel
theorem dX4_sell_0 : decode cX4_sell 0 = .ok (.aload_n 0, 1) := by decide +kernel
theorem dX4_sell_1 : decode cX4_sell 1 = .ok (.iload_n 1, 1) := by decide +kernel
theorem dX4_sell_2 : decode cX4_sell 2 = .ok (.invokevirtual 123, 3) := by decide +kernel
theorem dX4_sell_5 : decode cX4_sell 5 = .ok (.ifCond .eq 11, 3) := by decide +kernel
theorem dX4_sell_8 : decode cX4_sell 8 = .ok (.aload_n 0, 1) := by decide +kernel
theorem dX4_sell_9 : decode cX4_sell 9 = .ok (.iload_n 2, 1) := by decide +kernel
theorem dX4_sell_10 : decode cX4_sell 10 = .ok (.invokevirtual 119, 3) := by decide +kernel
theorem dX4_sell_13 : decode cX4_sell 13 = .ok (.ifCond .ne 4, 3) := by decide +kernel
theorem dX4_sell_16 : decode cX4_sell 16 = .ok (.return_, 1) := by decide +kernel
theorem dX4_sell_17 : decode cX4_sell 17 = .ok (.aload_n 0, 1) := by decide +kernel
theorem dX4_sell_18 : decode cX4_sell 18 = .ok (.getfield 33, 3) := by decide +kernel
theorem dX4_sell_21 : decode cX4_sell 21 = .ok (.iload_n 1, 1) := by decide +kernel
theorem dX4_sell_22 : decode cX4_sell 22 = .ok (.dup2, 1) := by decide +kernel
theorem dX4_sell_23 : decode cX4_sell 23 = .ok (.iaload, 1) := by decide +kernel
theorem dX4_sell_24 : decode cX4_sell 24 = .ok (.aload_n 0, 1) := by decide +kernel
theorem dX4_sell_25 : decode cX4_sell 25 = .ok (.aload_n 0, 1) := by decide +kernel
theorem dX4_sell_26 : decode cX4_sell 26 = .ok (.getfield 55, 3) := by decide +kernel
theorem dX4_sell_29 : decode cX4_sell 29 = .ok (.aload_n 0, 1) := by decide +kernel
theorem dX4_sell_30 : decode cX4_sell 30 = .ok (.iload_n 2, 1) := by decide +kernel
theorem dX4_sell_31 : decode cX4_sell 31 = .ok (.invokevirtual 153, 3) := by decide +kernel
theorem dX4_sell_34 : decode cX4_sell 34 = .ok (.invokevirtual 156, 3) := by decide +kernel
theorem dX4_sell_37 : decode cX4_sell 37 = .ok (.iadd, 1) := by decide +kernel
theorem dX4_sell_38 : decode cX4_sell 38 = .ok (.iastore, 1) := by decide +kernel
theorem dX4_sell_39 : decode cX4_sell 39 = .ok (.aload_n 0, 1) := by decide +kernel
theorem dX4_sell_40 : decode cX4_sell 40 = .ok (.getfield 36, 3) := by decide +kernel
theorem dX4_sell_43 : decode cX4_sell 43 = .ok (.iload_n 1, 1) := by decide +kernel
theorem dX4_sell_44 : decode cX4_sell 44 = .ok (.dup2, 1) := by decide +kernel
theorem dX4_sell_45 : decode cX4_sell 45 = .ok (.iaload, 1) := by decide +kernel
theorem dX4_sell_46 : decode cX4_sell 46 = .ok (.iconst 1, 1) := by decide +kernel
theorem dX4_sell_47 : decode cX4_sell 47 = .ok (.iload_n 2, 1) := by decide +kernel
theorem dX4_sell_48 : decode cX4_sell 48 = .ok (.ishl, 1) := by decide +kernel
theorem dX4_sell_49 : decode cX4_sell 49 = .ok (.ior, 1) := by decide +kernel
theorem dX4_sell_50 : decode cX4_sell 50 = .ok (.iastore, 1) := by decide +kernel
theorem dX4_sell_51 : decode cX4_sell 51 = .ok (.aload_n 0, 1) := by decide +kernel
theorem dX4_sell_52 : decode cX4_sell 52 = .ok (.getfield 42, 3) := by decide +kernel
theorem dX4_sell_55 : decode cX4_sell 55 = .ok (.iload_n 2, 1) := by decide +kernel
theorem dX4_sell_56 : decode cX4_sell 56 = .ok (.iaload, 1) := by decide +kernel
theorem dX4_sell_57 : decode cX4_sell 57 = .ok (.ldc 64, 2) := by decide +kernel
theorem dX4_sell_59 : decode cX4_sell 59 = .ok (.if_icmp .ne 13, 3) := by decide +kernel
theorem dX4_sell_62 : decode cX4_sell 62 = .ok (.aload_n 0, 1) := by decide +kernel
theorem dX4_sell_63 : decode cX4_sell 63 = .ok (.getfield 42, 3) := by decide +kernel
theorem dX4_sell_66 : decode cX4_sell 66 = .ok (.iload_n 2, 1) := by decide +kernel
theorem dX4_sell_67 : decode cX4_sell 67 = .ok (.aload_n 0, 1) := by decide +kernel
theorem dX4_sell_68 : decode cX4_sell 68 = .ok (.getfield 55, 3) := by decide +kernel
theorem dX4_sell_71 : decode cX4_sell 71 = .ok (.iastore, 1) := by decide +kernel
theorem dX4_sell_72 : decode cX4_sell 72 = .ok (.return_, 1) := by decide +kernel
theorem dX4_loseByChance_0 : decode cX4_loseByChance 0 = .ok (.iload_n 1, 1) := by decide +kernel
theorem dX4_loseByChance_1 : decode cX4_loseByChance 1 = .ok (.istore_n 2, 1) := by decide +kernel
theorem dX4_loseByChance_2 : decode cX4_loseByChance 2 = .ok (.iconst 0, 1) := by decide +kernel
theorem dX4_loseByChance_3 : decode cX4_loseByChance 3 = .ok (.istore_n 3, 1) := by decide +kernel
theorem dX4_loseByChance_4 : decode cX4_loseByChance 4 = .ok (.iload_n 3, 1) := by decide +kernel
theorem dX4_loseByChance_5 : decode cX4_loseByChance 5 = .ok (.aload_n 0, 1) := by decide +kernel
theorem dX4_loseByChance_6 : decode cX4_loseByChance 6 = .ok (.getfield 45, 3) := by decide +kernel
theorem dX4_loseByChance_9 : decode cX4_loseByChance 9 = .ok (.if_icmp .ge 110, 3) := by decide +kernel
theorem dX4_loseByChance_12 : decode cX4_loseByChance 12 = .ok (.iload_n 3, 1) := by decide +kernel
theorem dX4_loseByChance_13 : decode cX4_loseByChance 13 = .ok (.bipush 6, 2) := by decide +kernel
theorem dX4_loseByChance_15 : decode cX4_loseByChance 15 = .ok (.if_icmp .ge 104, 3) := by decide +kernel
theorem dX4_loseByChance_18 : decode cX4_loseByChance 18 = .ok (.iconst 0, 1) := by decide +kernel
theorem dX4_loseByChance_19 : decode cX4_loseByChance 19 = .ok (.istore 4, 2) := by decide +kernel
theorem dX4_loseByChance_21 : decode cX4_loseByChance 21 = .ok (.iload 4, 2) := by decide +kernel
theorem dX4_loseByChance_23 : decode cX4_loseByChance 23 = .ok (.aload_n 0, 1) := by decide +kernel
theorem dX4_loseByChance_24 : decode cX4_loseByChance 24 = .ok (.getfield 49, 3) := by decide +kernel
theorem dX4_loseByChance_27 : decode cX4_loseByChance 27 = .ok (.if_icmp .ge 86, 3) := by decide +kernel
theorem dX4_loseByChance_30 : decode cX4_loseByChance 30 = .ok (.iload 4, 2) := by decide +kernel
theorem dX4_loseByChance_32 : decode cX4_loseByChance 32 = .ok (.bipush 8, 2) := by decide +kernel
theorem dX4_loseByChance_34 : decode cX4_loseByChance 34 = .ok (.if_icmp .ge 79, 3) := by decide +kernel
theorem dX4_loseByChance_37 : decode cX4_loseByChance 37 = .ok (.aload_n 0, 1) := by decide +kernel
theorem dX4_loseByChance_38 : decode cX4_loseByChance 38 = .ok (.getfield 30, 3) := by decide +kernel
theorem dX4_loseByChance_41 : decode cX4_loseByChance 41 = .ok (.iload_n 3, 1) := by decide +kernel
theorem dX4_loseByChance_42 : decode cX4_loseByChance 42 = .ok (.bipush 8, 2) := by decide +kernel
theorem dX4_loseByChance_44 : decode cX4_loseByChance 44 = .ok (.imul, 1) := by decide +kernel
theorem dX4_loseByChance_45 : decode cX4_loseByChance 45 = .ok (.iload 4, 2) := by decide +kernel
theorem dX4_loseByChance_47 : decode cX4_loseByChance 47 = .ok (.iadd, 1) := by decide +kernel
theorem dX4_loseByChance_48 : decode cX4_loseByChance 48 = .ok (.iaload, 1) := by decide +kernel
theorem dX4_loseByChance_49 : decode cX4_loseByChance 49 = .ok (.istore 5, 2) := by decide +kernel
theorem dX4_loseByChance_51 : decode cX4_loseByChance 51 = .ok (.iconst 0, 1) := by decide +kernel
theorem dX4_loseByChance_52 : decode cX4_loseByChance 52 = .ok (.istore 6, 2) := by decide +kernel
theorem dX4_loseByChance_54 : decode cX4_loseByChance 54 = .ok (.iload 6, 2) := by decide +kernel
theorem dX4_loseByChance_56 : decode cX4_loseByChance 56 = .ok (.iload 5, 2) := by decide +kernel
theorem dX4_loseByChance_58 : decode cX4_loseByChance 58 = .ok (.if_icmp .ge 49, 3) := by decide +kernel
theorem dX4_loseByChance_61 : decode cX4_loseByChance 61 = .ok (.iload_n 2, 1) := by decide +kernel
theorem dX4_loseByChance_62 : decode cX4_loseByChance 62 = .ok (.i2l, 1) := by decide +kernel
theorem dX4_loseByChance_63 : decode cX4_loseByChance 63 = .ok (.ldc2_w 159, 3) := by decide +kernel
theorem dX4_loseByChance_66 : decode cX4_loseByChance 66 = .ok (.lmul, 1) := by decide +kernel
theorem dX4_loseByChance_67 : decode cX4_loseByChance 67 = .ok (.ldc2_w 161, 3) := by decide +kernel
theorem dX4_loseByChance_70 : decode cX4_loseByChance 70 = .ok (.lrem, 1) := by decide +kernel
theorem dX4_loseByChance_71 : decode cX4_loseByChance 71 = .ok (.l2i, 1) := by decide +kernel
theorem dX4_loseByChance_72 : decode cX4_loseByChance 72 = .ok (.istore_n 2, 1) := by decide +kernel
theorem dX4_loseByChance_73 : decode cX4_loseByChance 73 = .ok (.iload_n 2, 1) := by decide +kernel
theorem dX4_loseByChance_74 : decode cX4_loseByChance 74 = .ok (.sipush 1000, 3) := by decide +kernel
theorem dX4_loseByChance_77 : decode cX4_loseByChance 77 = .ok (.irem, 1) := by decide +kernel
theorem dX4_loseByChance_78 : decode cX4_loseByChance 78 = .ok (.aload_n 0, 1) := by decide +kernel
theorem dX4_loseByChance_79 : decode cX4_loseByChance 79 = .ok (.getfield 81, 3) := by decide +kernel
theorem dX4_loseByChance_82 : decode cX4_loseByChance 82 = .ok (.if_icmp .ge 19, 3) := by decide +kernel
theorem dX4_loseByChance_85 : decode cX4_loseByChance 85 = .ok (.aload_n 0, 1) := by decide +kernel
theorem dX4_loseByChance_86 : decode cX4_loseByChance 86 = .ok (.getfield 30, 3) := by decide +kernel
theorem dX4_loseByChance_89 : decode cX4_loseByChance 89 = .ok (.iload_n 3, 1) := by decide +kernel
theorem dX4_loseByChance_90 : decode cX4_loseByChance 90 = .ok (.bipush 8, 2) := by decide +kernel
theorem dX4_loseByChance_92 : decode cX4_loseByChance 92 = .ok (.imul, 1) := by decide +kernel
theorem dX4_loseByChance_93 : decode cX4_loseByChance 93 = .ok (.iload 4, 2) := by decide +kernel
theorem dX4_loseByChance_95 : decode cX4_loseByChance 95 = .ok (.iadd, 1) := by decide +kernel
theorem dX4_loseByChance_96 : decode cX4_loseByChance 96 = .ok (.dup2, 1) := by decide +kernel
theorem dX4_loseByChance_97 : decode cX4_loseByChance 97 = .ok (.iaload, 1) := by decide +kernel
theorem dX4_loseByChance_98 : decode cX4_loseByChance 98 = .ok (.iconst 1, 1) := by decide +kernel
theorem dX4_loseByChance_99 : decode cX4_loseByChance 99 = .ok (.isub, 1) := by decide +kernel
theorem dX4_loseByChance_100 : decode cX4_loseByChance 100 = .ok (.iastore, 1) := by decide +kernel
theorem dX4_loseByChance_101 : decode cX4_loseByChance 101 = .ok (.iinc 6 1, 3) := by decide +kernel
theorem dX4_loseByChance_104 : decode cX4_loseByChance 104 = .ok (.goto (-50), 3) := by decide +kernel
theorem dX4_loseByChance_107 : decode cX4_loseByChance 107 = .ok (.iinc 4 1, 3) := by decide +kernel
theorem dX4_loseByChance_110 : decode cX4_loseByChance 110 = .ok (.goto (-89), 3) := by decide +kernel
theorem dX4_loseByChance_113 : decode cX4_loseByChance 113 = .ok (.iinc 3 1, 3) := by decide +kernel
theorem dX4_loseByChance_116 : decode cX4_loseByChance 116 = .ok (.goto (-112), 3) := by decide +kernel
theorem dX4_loseByChance_119 : decode cX4_loseByChance 119 = .ok (.iload_n 2, 1) := by decide +kernel
theorem dX4_loseByChance_120 : decode cX4_loseByChance 120 = .ok (.ireturn, 1) := by decide +kernel
theorem dX4_spreadSold_0 : decode cX4_spreadSold 0 = .ok (.iconst 0, 1) := by decide +kernel
theorem dX4_spreadSold_1 : decode cX4_spreadSold 1 = .ok (.istore_n 1, 1) := by decide +kernel
theorem dX4_spreadSold_2 : decode cX4_spreadSold 2 = .ok (.iload_n 1, 1) := by decide +kernel
theorem dX4_spreadSold_3 : decode cX4_spreadSold 3 = .ok (.aload_n 0, 1) := by decide +kernel
theorem dX4_spreadSold_4 : decode cX4_spreadSold 4 = .ok (.getfield 49, 3) := by decide +kernel
theorem dX4_spreadSold_7 : decode cX4_spreadSold 7 = .ok (.if_icmp .ge 39, 3) := by decide +kernel
theorem dX4_spreadSold_10 : decode cX4_spreadSold 10 = .ok (.iload_n 1, 1) := by decide +kernel
theorem dX4_spreadSold_11 : decode cX4_spreadSold 11 = .ok (.bipush 8, 2) := by decide +kernel
theorem dX4_spreadSold_13 : decode cX4_spreadSold 13 = .ok (.if_icmp .ge 33, 3) := by decide +kernel
theorem dX4_spreadSold_16 : decode cX4_spreadSold 16 = .ok (.aload_n 0, 1) := by decide +kernel
theorem dX4_spreadSold_17 : decode cX4_spreadSold 17 = .ok (.getfield 42, 3) := by decide +kernel
theorem dX4_spreadSold_20 : decode cX4_spreadSold 20 = .ok (.iload_n 1, 1) := by decide +kernel
theorem dX4_spreadSold_21 : decode cX4_spreadSold 21 = .ok (.iaload, 1) := by decide +kernel
theorem dX4_spreadSold_22 : decode cX4_spreadSold 22 = .ok (.ldc 64, 2) := by decide +kernel
theorem dX4_spreadSold_24 : decode cX4_spreadSold 24 = .ok (.if_icmp .eq 16, 3) := by decide +kernel
theorem dX4_spreadSold_27 : decode cX4_spreadSold 27 = .ok (.aload_n 0, 1) := by decide +kernel
theorem dX4_spreadSold_28 : decode cX4_spreadSold 28 = .ok (.getfield 39, 3) := by decide +kernel
theorem dX4_spreadSold_31 : decode cX4_spreadSold 31 = .ok (.iload_n 1, 1) := by decide +kernel
theorem dX4_spreadSold_32 : decode cX4_spreadSold 32 = .ok (.dup2, 1) := by decide +kernel
theorem dX4_spreadSold_33 : decode cX4_spreadSold 33 = .ok (.iaload, 1) := by decide +kernel
theorem dX4_spreadSold_34 : decode cX4_spreadSold 34 = .ok (.aload_n 0, 1) := by decide +kernel
theorem dX4_spreadSold_35 : decode cX4_spreadSold 35 = .ok (.getfield 84, 3) := by decide +kernel
theorem dX4_spreadSold_38 : decode cX4_spreadSold 38 = .ok (.iadd, 1) := by decide +kernel
theorem dX4_spreadSold_39 : decode cX4_spreadSold 39 = .ok (.iastore, 1) := by decide +kernel
theorem dX4_spreadSold_40 : decode cX4_spreadSold 40 = .ok (.iinc 1 1, 3) := by decide +kernel
theorem dX4_spreadSold_43 : decode cX4_spreadSold 43 = .ok (.goto (-41), 3) := by decide +kernel
theorem dX4_spreadSold_46 : decode cX4_spreadSold 46 = .ok (.return_, 1) := by decide +kernel
theorem dX4_payCost_0 : decode cX4_payCost 0 = .ok (.iconst 0, 1) := by decide +kernel
theorem dX4_payCost_1 : decode cX4_payCost 1 = .ok (.istore_n 1, 1) := by decide +kernel
theorem dX4_payCost_2 : decode cX4_payCost 2 = .ok (.iload_n 1, 1) := by decide +kernel
theorem dX4_payCost_3 : decode cX4_payCost 3 = .ok (.aload_n 0, 1) := by decide +kernel
theorem dX4_payCost_4 : decode cX4_payCost 4 = .ok (.getfield 45, 3) := by decide +kernel
theorem dX4_payCost_7 : decode cX4_payCost 7 = .ok (.if_icmp .ge 57, 3) := by decide +kernel
theorem dX4_payCost_10 : decode cX4_payCost 10 = .ok (.iload_n 1, 1) := by decide +kernel
theorem dX4_payCost_11 : decode cX4_payCost 11 = .ok (.bipush 6, 2) := by decide +kernel
theorem dX4_payCost_13 : decode cX4_payCost 13 = .ok (.if_icmp .ge 51, 3) := by decide +kernel
theorem dX4_payCost_16 : decode cX4_payCost 16 = .ok (.iconst 0, 1) := by decide +kernel
theorem dX4_payCost_17 : decode cX4_payCost 17 = .ok (.istore_n 2, 1) := by decide +kernel
theorem dX4_payCost_18 : decode cX4_payCost 18 = .ok (.iload_n 2, 1) := by decide +kernel
theorem dX4_payCost_19 : decode cX4_payCost 19 = .ok (.aload_n 0, 1) := by decide +kernel
theorem dX4_payCost_20 : decode cX4_payCost 20 = .ok (.getfield 49, 3) := by decide +kernel
theorem dX4_payCost_23 : decode cX4_payCost 23 = .ok (.if_icmp .ge 35, 3) := by decide +kernel
theorem dX4_payCost_26 : decode cX4_payCost 26 = .ok (.aload_n 0, 1) := by decide +kernel
theorem dX4_payCost_27 : decode cX4_payCost 27 = .ok (.getfield 33, 3) := by decide +kernel
theorem dX4_payCost_30 : decode cX4_payCost 30 = .ok (.iload_n 1, 1) := by decide +kernel
theorem dX4_payCost_31 : decode cX4_payCost 31 = .ok (.dup2, 1) := by decide +kernel
theorem dX4_payCost_32 : decode cX4_payCost 32 = .ok (.iaload, 1) := by decide +kernel
theorem dX4_payCost_33 : decode cX4_payCost 33 = .ok (.aload_n 0, 1) := by decide +kernel
theorem dX4_payCost_34 : decode cX4_payCost 34 = .ok (.iload_n 1, 1) := by decide +kernel
theorem dX4_payCost_35 : decode cX4_payCost 35 = .ok (.iload_n 2, 1) := by decide +kernel
theorem dX4_payCost_36 : decode cX4_payCost 36 = .ok (.invokevirtual 110, 3) := by decide +kernel
theorem dX4_payCost_39 : decode cX4_payCost 39 = .ok (.iconst 1, 1) := by decide +kernel
theorem dX4_payCost_40 : decode cX4_payCost 40 = .ok (.isub, 1) := by decide +kernel
theorem dX4_payCost_41 : decode cX4_payCost 41 = .ok (.iconst 0, 1) := by decide +kernel
theorem dX4_payCost_42 : decode cX4_payCost 42 = .ok (.invokestatic 96, 3) := by decide +kernel
theorem dX4_payCost_45 : decode cX4_payCost 45 = .ok (.aload_n 0, 1) := by decide +kernel
theorem dX4_payCost_46 : decode cX4_payCost 46 = .ok (.getfield 87, 3) := by decide +kernel
theorem dX4_payCost_49 : decode cX4_payCost 49 = .ok (.imul, 1) := by decide +kernel
theorem dX4_payCost_50 : decode cX4_payCost 50 = .ok (.isub, 1) := by decide +kernel
theorem dX4_payCost_51 : decode cX4_payCost 51 = .ok (.iastore, 1) := by decide +kernel
theorem dX4_payCost_52 : decode cX4_payCost 52 = .ok (.iinc 2 1, 3) := by decide +kernel
theorem dX4_payCost_55 : decode cX4_payCost 55 = .ok (.goto (-37), 3) := by decide +kernel
theorem dX4_payCost_58 : decode cX4_payCost 58 = .ok (.iinc 1 1, 3) := by decide +kernel
theorem dX4_payCost_61 : decode cX4_payCost 61 = .ok (.goto (-59), 3) := by decide +kernel
theorem dX4_payCost_64 : decode cX4_payCost 64 = .ok (.return_, 1) := by decide +kernel
