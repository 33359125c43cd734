theorem dX0_init_0 : decode cX0_init 0 = .ok (.aload_n 0, 1) := by decide +kernel
theorem dX0_init_1 : decode cX0_init 1 = .ok (.iload_n 1, 1) := by decide +kernel
theorem dX0_init_2 : decode cX0_init 2 = .ok (.iload_n 2, 1) := by decide +kernel
theorem dX0_init_3 : decode cX0_init 3 = .ok (.iload_n 3, 1) := by decide +kernel
theorem dX0_init_4 : decode cX0_init 4 = .ok (.invokespecial 1, 3) := by decide +kernel
theorem dX0_init_7 : decode cX0_init 7 = .ok (.return_, 1) := by decide +kernel
theorem dX0_kindTold_0 : decode cX0_kindTold 0 = .ok (.iconst 2, 1) := by decide +kernel
theorem dX0_kindTold_1 : decode cX0_kindTold 1 = .ok (.ireturn, 1) := by decide +kernel
theorem dX0_isOf_0 : decode cX0_isOf 0 = .ok (.iload_n 1, 1) := by decide +kernel
theorem dX0_isOf_1 : decode cX0_isOf 1 = .ok (.iconst 2, 1) := by decide +kernel
theorem dX0_isOf_2 : decode cX0_isOf 2 = .ok (.if_icmp .eq 11, 3) := by decide +kernel
theorem dX0_isOf_5 : decode cX0_isOf 5 = .ok (.aload_n 0, 1) := by decide +kernel
theorem dX0_isOf_6 : decode cX0_isOf 6 = .ok (.iload_n 1, 1) := by decide +kernel
theorem dX0_isOf_7 : decode cX0_isOf 7 = .ok (.invokespecial 7, 3) := by decide +kernel
theorem dX0_isOf_10 : decode cX0_isOf 10 = .ok (.ifCond .eq 7, 3) := by decide +kernel
theorem dX0_isOf_13 : decode cX0_isOf 13 = .ok (.iconst 1, 1) := by decide +kernel
theorem dX0_isOf_14 : decode cX0_isOf 14 = .ok (.goto 4, 3) := by decide +kernel
theorem dX0_isOf_17 : decode cX0_isOf 17 = .ok (.iconst 0, 1) := by decide +kernel
theorem dX0_isOf_18 : decode cX0_isOf 18 = .ok (.ireturn, 1) := by decide +kernel
theorem dX0_sells_0 : decode cX0_sells 0 = .ok (.aload_n 1, 1) := by decide +kernel
theorem dX0_sells_1 : decode cX0_sells 1 = .ok (.getfield 11, 3) := by decide +kernel
theorem dX0_sells_4 : decode cX0_sells 4 = .ok (.aload_n 0, 1) := by decide +kernel
theorem dX0_sells_5 : decode cX0_sells 5 = .ok (.getfield 17, 3) := by decide +kernel
theorem dX0_sells_8 : decode cX0_sells 8 = .ok (.if_icmp .lt 7, 3) := by decide +kernel
theorem dX0_sells_11 : decode cX0_sells 11 = .ok (.iconst 1, 1) := by decide +kernel
theorem dX0_sells_12 : decode cX0_sells 12 = .ok (.goto 4, 3) := by decide +kernel
theorem dX0_sells_15 : decode cX0_sells 15 = .ok (.iconst 0, 1) := by decide +kernel
theorem dX0_sells_16 : decode cX0_sells 16 = .ok (.ireturn, 1) := by decide +kernel
theorem dX0_sizeAsked_0 : decode cX0_sizeAsked 0 = .ok (.aload_n 2, 1) := by decide +kernel
theorem dX0_sizeAsked_1 : decode cX0_sizeAsked 1 = .ok (.bipush 11, 2) := by decide +kernel
theorem dX0_sizeAsked_3 : decode cX0_sizeAsked 3 = .ok (.invokevirtual 22, 3) := by decide +kernel
theorem dX0_sizeAsked_6 : decode cX0_sizeAsked 6 = .ok (.aload_n 0, 1) := by decide +kernel
theorem dX0_sizeAsked_7 : decode cX0_sizeAsked 7 = .ok (.aload_n 1, 1) := by decide +kernel
theorem dX0_sizeAsked_8 : decode cX0_sizeAsked 8 = .ok (.aload_n 2, 1) := by decide +kernel
theorem dX0_sizeAsked_9 : decode cX0_sizeAsked 9 = .ok (.invokespecial 28, 3) := by decide +kernel
theorem dX0_sizeAsked_12 : decode cX0_sizeAsked 12 = .ok (.aload_n 0, 1) := by decide +kernel
theorem dX0_sizeAsked_13 : decode cX0_sizeAsked 13 = .ok (.aload_n 1, 1) := by decide +kernel
theorem dX0_sizeAsked_14 : decode cX0_sizeAsked 14 = .ok (.aload_n 2, 1) := by decide +kernel
theorem dX0_sizeAsked_15 : decode cX0_sizeAsked 15 = .ok (.invokevirtual 32, 3) := by decide +kernel
theorem dX0_sizeAsked_18 : decode cX0_sizeAsked 18 = .ok (.iadd, 1) := by decide +kernel
theorem dX0_sizeAsked_19 : decode cX0_sizeAsked 19 = .ok (.ireturn, 1) := by decide +kernel
theorem dX0_markAsked_0 : decode cX0_markAsked 0 = .ok (.aload_n 2, 1) := by decide +kernel
theorem dX0_markAsked_1 : decode cX0_markAsked 1 = .ok (.bipush 21, 2) := by decide +kernel
theorem dX0_markAsked_3 : decode cX0_markAsked 3 = .ok (.invokevirtual 22, 3) := by decide +kernel
theorem dX0_markAsked_6 : decode cX0_markAsked 6 = .ok (.aload_n 0, 1) := by decide +kernel
theorem dX0_markAsked_7 : decode cX0_markAsked 7 = .ok (.aload_n 1, 1) := by decide +kernel
theorem dX0_markAsked_8 : decode cX0_markAsked 8 = .ok (.aload_n 2, 1) := by decide +kernel
theorem dX0_markAsked_9 : decode cX0_markAsked 9 = .ok (.invokespecial 35, 3) := by decide +kernel
theorem dX0_markAsked_12 : decode cX0_markAsked 12 = .ok (.bipush 10, 2) := by decide +kernel
theorem dX0_markAsked_14 : decode cX0_markAsked 14 = .ok (.aload_n 0, 1) := by decide +kernel
theorem dX0_markAsked_15 : decode cX0_markAsked 15 = .ok (.getfield 17, 3) := by decide +kernel
theorem dX0_markAsked_18 : decode cX0_markAsked 18 = .ok (.imul, 1) := by decide +kernel
theorem dX0_markAsked_19 : decode cX0_markAsked 19 = .ok (.iadd, 1) := by decide +kernel
theorem dX0_markAsked_20 : decode cX0_markAsked 20 = .ok (.ireturn, 1) := by decide +kernel
theorem dX1_init_0 : decode cX1_init 0 = .ok (.aload_n 0, 1) := by decide +kernel
theorem dX1_init_1 : decode cX1_init 1 = .ok (.iload_n 1, 1) := by decide +kernel
theorem dX1_init_2 : decode cX1_init 2 = .ok (.iload_n 2, 1) := by decide +kernel
theorem dX1_init_3 : decode cX1_init 3 = .ok (.iload_n 3, 1) := by decide +kernel
theorem dX1_init_4 : decode cX1_init 4 = .ok (.invokespecial 1, 3) := by decide +kernel
theorem dX1_init_7 : decode cX1_init 7 = .ok (.return_, 1) := by decide +kernel
theorem dX1_kindTold_0 : decode cX1_kindTold 0 = .ok (.iconst 4, 1) := by decide +kernel
theorem dX1_kindTold_1 : decode cX1_kindTold 1 = .ok (.ireturn, 1) := by decide +kernel
theorem dX1_sells_0 : decode cX1_sells 0 = .ok (.aload_n 0, 1) := by decide +kernel
theorem dX1_sells_1 : decode cX1_sells 1 = .ok (.aload_n 1, 1) := by decide +kernel
theorem dX1_sells_2 : decode cX1_sells 2 = .ok (.iload_n 2, 1) := by decide +kernel
theorem dX1_sells_3 : decode cX1_sells 3 = .ok (.invokespecial 9, 3) := by decide +kernel
theorem dX1_sells_6 : decode cX1_sells 6 = .ok (.ifCond .ne 16, 3) := by decide +kernel
theorem dX1_sells_9 : decode cX1_sells 9 = .ok (.aload_n 1, 1) := by decide +kernel
theorem dX1_sells_10 : decode cX1_sells 10 = .ok (.aload_n 0, 1) := by decide +kernel
theorem dX1_sells_11 : decode cX1_sells 11 = .ok (.getfield 13, 3) := by decide +kernel
theorem dX1_sells_14 : decode cX1_sells 14 = .ok (.iload_n 2, 1) := by decide +kernel
theorem dX1_sells_15 : decode cX1_sells 15 = .ok (.invokevirtual 19, 3) := by decide +kernel
theorem dX1_sells_18 : decode cX1_sells 18 = .ok (.iconst 1, 1) := by decide +kernel
theorem dX1_sells_19 : decode cX1_sells 19 = .ok (.if_icmp .ne 7, 3) := by decide +kernel
theorem dX1_sells_22 : decode cX1_sells 22 = .ok (.iconst 1, 1) := by decide +kernel
theorem dX1_sells_23 : decode cX1_sells 23 = .ok (.goto 4, 3) := by decide +kernel
theorem dX1_sells_26 : decode cX1_sells 26 = .ok (.iconst 0, 1) := by decide +kernel
theorem dX1_sells_27 : decode cX1_sells 27 = .ok (.ireturn, 1) := by decide +kernel
theorem dX1_sizeAsked_0 : decode cX1_sizeAsked 0 = .ok (.aload_n 2, 1) := by decide +kernel
theorem dX1_sizeAsked_1 : decode cX1_sizeAsked 1 = .ok (.bipush 13, 2) := by decide +kernel
theorem dX1_sizeAsked_3 : decode cX1_sizeAsked 3 = .ok (.invokevirtual 25, 3) := by decide +kernel
theorem dX1_sizeAsked_6 : decode cX1_sizeAsked 6 = .ok (.aload_n 0, 1) := by decide +kernel
theorem dX1_sizeAsked_7 : decode cX1_sizeAsked 7 = .ok (.aload_n 1, 1) := by decide +kernel
theorem dX1_sizeAsked_8 : decode cX1_sizeAsked 8 = .ok (.aload_n 2, 1) := by decide +kernel
theorem dX1_sizeAsked_9 : decode cX1_sizeAsked 9 = .ok (.invokespecial 31, 3) := by decide +kernel
theorem dX1_sizeAsked_12 : decode cX1_sizeAsked 12 = .ok (.aload_n 1, 1) := by decide +kernel
theorem dX1_sizeAsked_13 : decode cX1_sizeAsked 13 = .ok (.aload_n 0, 1) := by decide +kernel
theorem dX1_sizeAsked_14 : decode cX1_sizeAsked 14 = .ok (.getfield 13, 3) := by decide +kernel
theorem dX1_sizeAsked_17 : decode cX1_sizeAsked 17 = .ok (.invokevirtual 35, 3) := by decide +kernel
theorem dX1_sizeAsked_20 : decode cX1_sizeAsked 20 = .ok (.iadd, 1) := by decide +kernel
theorem dX1_sizeAsked_21 : decode cX1_sizeAsked 21 = .ok (.ireturn, 1) := by decide +kernel
theorem dX1_markAsked_0 : decode cX1_markAsked 0 = .ok (.aload_n 2, 1) := by decide +kernel
theorem dX1_markAsked_1 : decode cX1_markAsked 1 = .ok (.bipush 22, 2) := by decide +kernel
theorem dX1_markAsked_3 : decode cX1_markAsked 3 = .ok (.invokevirtual 25, 3) := by decide +kernel
theorem dX1_markAsked_6 : decode cX1_markAsked 6 = .ok (.iconst 2, 1) := by decide +kernel
theorem dX1_markAsked_7 : decode cX1_markAsked 7 = .ok (.aload_n 0, 1) := by decide +kernel
theorem dX1_markAsked_8 : decode cX1_markAsked 8 = .ok (.aload_n 1, 1) := by decide +kernel
theorem dX1_markAsked_9 : decode cX1_markAsked 9 = .ok (.aload_n 2, 1) := by decide +kernel
theorem dX1_markAsked_10 : decode cX1_markAsked 10 = .ok (.invokespecial 39, 3) := by decide +kernel
theorem dX1_markAsked_13 : decode cX1_markAsked 13 = .ok (.imul, 1) := by decide +kernel
theorem dX1_markAsked_14 : decode cX1_markAsked 14 = .ok (.ireturn, 1) := by decide +kernel
theorem dX2_init_0 : decode cX2_init 0 = .ok (.aload_n 0, 1) := by decide +kernel
theorem dX2_init_1 : decode cX2_init 1 = .ok (.invokespecial 3, 3) := by decide +kernel
theorem dX2_init_4 : decode cX2_init 4 = .ok (.aload_n 0, 1) := by decide +kernel
theorem dX2_init_5 : decode cX2_init 5 = .ok (.new 9, 3) := by decide +kernel
theorem dX2_init_8 : decode cX2_init 8 = .ok (.dup, 1) := by decide +kernel
theorem dX2_init_9 : decode cX2_init 9 = .ok (.invokespecial 11, 3) := by decide +kernel
theorem dX2_init_12 : decode cX2_init 12 = .ok (.putfield 12, 3) := by decide +kernel
theorem dX2_init_15 : decode cX2_init 15 = .ok (.aload_n 0, 1) := by decide +kernel
theorem dX2_init_16 : decode cX2_init 16 = .ok (.bipush 6, 2) := by decide +kernel
theorem dX2_init_18 : decode cX2_init 18 = .ok (.newarray .int, 2) := by decide +kernel
theorem dX2_init_20 : decode cX2_init 20 = .ok (.putfield 18, 3) := by decide +kernel
theorem dX2_init_23 : decode cX2_init 23 = .ok (.aload_n 0, 1) := by decide +kernel
theorem dX2_init_24 : decode cX2_init 24 = .ok (.bipush 6, 2) := by decide +kernel
theorem dX2_init_26 : decode cX2_init 26 = .ok (.newarray .int, 2) := by decide +kernel
theorem dX2_init_28 : decode cX2_init 28 = .ok (.putfield 22, 3) := by decide +kernel
theorem dX2_init_31 : decode cX2_init 31 = .ok (.aload_n 0, 1) := by decide +kernel
theorem dX2_init_32 : decode cX2_init 32 = .ok (.bipush 6, 2) := by decide +kernel
theorem dX2_init_34 : decode cX2_init 34 = .ok (.newarray .int, 2) := by decide +kernel
theorem dX2_init_36 : decode cX2_init 36 = .ok (.putfield 25, 3) := by decide +kernel
theorem dX2_init_39 : decode cX2_init 39 = .ok (.return_, 1) := by decide +kernel
theorem dX2_valueAlone_0 : decode cX2_valueAlone 0 = .ok (.aload_n 0, 1) := by decide +kernel
theorem dX2_valueAlone_1 : decode cX2_valueAlone 1 = .ok (.aload_n 0, 1) := by decide +kernel
theorem dX2_valueAlone_2 : decode cX2_valueAlone 2 = .ok (.getfield 28, 3) := by decide +kernel
theorem dX2_valueAlone_5 : decode cX2_valueAlone 5 = .ok (.invokevirtual 32, 3) := by decide +kernel
theorem dX2_valueAlone_8 : decode cX2_valueAlone 8 = .ok (.istore_n 3, 1) := by decide +kernel
theorem dX2_valueAlone_9 : decode cX2_valueAlone 9 = .ok (.aload_n 0, 1) := by decide +kernel
theorem dX2_valueAlone_10 : decode cX2_valueAlone 10 = .ok (.getfield 28, 3) := by decide +kernel
theorem dX2_valueAlone_13 : decode cX2_valueAlone 13 = .ok (.iconst 1, 1) := by decide +kernel
theorem dX2_valueAlone_14 : decode cX2_valueAlone 14 = .ok (.isub, 1) := by decide +kernel
theorem dX2_valueAlone_15 : decode cX2_valueAlone 15 = .ok (.istore 4, 2) := by decide +kernel
theorem dX2_valueAlone_17 : decode cX2_valueAlone 17 = .ok (.iload 4, 2) := by decide +kernel
theorem dX2_valueAlone_19 : decode cX2_valueAlone 19 = .ok (.iload_n 1, 1) := by decide +kernel
theorem dX2_valueAlone_20 : decode cX2_valueAlone 20 = .ok (.if_icmp .lt 25, 3) := by decide +kernel
theorem dX2_valueAlone_23 : decode cX2_valueAlone 23 = .ok (.aload_n 0, 1) := by decide +kernel
theorem dX2_valueAlone_24 : decode cX2_valueAlone 24 = .ok (.iload 4, 2) := by decide +kernel
theorem dX2_valueAlone_26 : decode cX2_valueAlone 26 = .ok (.invokevirtual 32, 3) := by decide +kernel
theorem dX2_valueAlone_29 : decode cX2_valueAlone 29 = .ok (.aload_n 0, 1) := by decide +kernel
theorem dX2_valueAlone_30 : decode cX2_valueAlone 30 = .ok (.iload_n 3, 1) := by decide +kernel
theorem dX2_valueAlone_31 : decode cX2_valueAlone 31 = .ok (.iload_n 2, 1) := by decide +kernel
theorem dX2_valueAlone_32 : decode cX2_valueAlone 32 = .ok (.invokestatic 36, 3) := by decide +kernel
theorem dX2_valueAlone_35 : decode cX2_valueAlone 35 = .ok (.invokestatic 40, 3) := by decide +kernel
theorem dX2_valueAlone_38 : decode cX2_valueAlone 38 = .ok (.istore_n 3, 1) := by decide +kernel
theorem dX2_valueAlone_39 : decode cX2_valueAlone 39 = .ok (.iinc 4 (-1), 3) := by decide +kernel
theorem dX2_valueAlone_42 : decode cX2_valueAlone 42 = .ok (.goto (-25), 3) := by decide +kernel
theorem dX2_valueAlone_45 : decode cX2_valueAlone 45 = .ok (.iload_n 3, 1) := by decide +kernel
theorem dX2_valueAlone_46 : decode cX2_valueAlone 46 = .ok (.ireturn, 1) := by decide +kernel
theorem dX2_whenAlone_0 : decode cX2_whenAlone 0 = .ok (.aload_n 0, 1) := by decide +kernel
theorem dX2_whenAlone_1 : decode cX2_whenAlone 1 = .ok (.getfield 28, 3) := by decide +kernel
theorem dX2_whenAlone_4 : decode cX2_whenAlone 4 = .ok (.istore_n 3, 1) := by decide +kernel
theorem dX2_whenAlone_5 : decode cX2_whenAlone 5 = .ok (.aload_n 0, 1) := by decide +kernel
theorem dX2_whenAlone_6 : decode cX2_whenAlone 6 = .ok (.aload_n 0, 1) := by decide +kernel
theorem dX2_whenAlone_7 : decode cX2_whenAlone 7 = .ok (.getfield 28, 3) := by decide +kernel
theorem dX2_whenAlone_10 : decode cX2_whenAlone 10 = .ok (.invokevirtual 32, 3) := by decide +kernel
theorem dX2_whenAlone_13 : decode cX2_whenAlone 13 = .ok (.istore 4, 2) := by decide +kernel
theorem dX2_whenAlone_15 : decode cX2_whenAlone 15 = .ok (.aload_n 0, 1) := by decide +kernel
theorem dX2_whenAlone_16 : decode cX2_whenAlone 16 = .ok (.getfield 28, 3) := by decide +kernel
theorem dX2_whenAlone_19 : decode cX2_whenAlone 19 = .ok (.iconst 1, 1) := by decide +kernel
theorem dX2_whenAlone_20 : decode cX2_whenAlone 20 = .ok (.isub, 1) := by decide +kernel
theorem dX2_whenAlone_21 : decode cX2_whenAlone 21 = .ok (.istore 5, 2) := by decide +kernel
theorem dX2_whenAlone_23 : decode cX2_whenAlone 23 = .ok (.iload 5, 2) := by decide +kernel
theorem dX2_whenAlone_25 : decode cX2_whenAlone 25 = .ok (.iload_n 1, 1) := by decide +kernel
theorem dX2_whenAlone_26 : decode cX2_whenAlone 26 = .ok (.if_icmp .lt 45, 3) := by decide +kernel
theorem dX2_whenAlone_29 : decode cX2_whenAlone 29 = .ok (.aload_n 0, 1) := by decide +kernel
theorem dX2_whenAlone_30 : decode cX2_whenAlone 30 = .ok (.iload 5, 2) := by decide +kernel
theorem dX2_whenAlone_32 : decode cX2_whenAlone 32 = .ok (.invokevirtual 32, 3) := by decide +kernel
theorem dX2_whenAlone_35 : decode cX2_whenAlone 35 = .ok (.istore 6, 2) := by decide +kernel
theorem dX2_whenAlone_37 : decode cX2_whenAlone 37 = .ok (.aload_n 0, 1) := by decide +kernel
theorem dX2_whenAlone_38 : decode cX2_whenAlone 38 = .ok (.iload 4, 2) := by decide +kernel
theorem dX2_whenAlone_40 : decode cX2_whenAlone 40 = .ok (.iload_n 2, 1) := by decide +kernel
theorem dX2_whenAlone_41 : decode cX2_whenAlone 41 = .ok (.invokestatic 36, 3) := by decide +kernel
theorem dX2_whenAlone_44 : decode cX2_whenAlone 44 = .ok (.istore 7, 2) := by decide +kernel
theorem dX2_whenAlone_46 : decode cX2_whenAlone 46 = .ok (.iload 6, 2) := by decide +kernel
theorem dX2_whenAlone_48 : decode cX2_whenAlone 48 = .ok (.iload 7, 2) := by decide +kernel
theorem dX2_whenAlone_50 : decode cX2_whenAlone 50 = .ok (.if_icmp .lt 6, 3) := by decide +kernel
theorem dX2_whenAlone_53 : decode cX2_whenAlone 53 = .ok (.iload 5, 2) := by decide +kernel
theorem dX2_whenAlone_55 : decode cX2_whenAlone 55 = .ok (.istore_n 3, 1) := by decide +kernel
theorem dX2_whenAlone_56 : decode cX2_whenAlone 56 = .ok (.iload 6, 2) := by decide +kernel
theorem dX2_whenAlone_58 : decode cX2_whenAlone 58 = .ok (.iload 7, 2) := by decide +kernel
theorem dX2_whenAlone_60 : decode cX2_whenAlone 60 = .ok (.invokestatic 40, 3) := by decide +kernel
theorem dX2_whenAlone_63 : decode cX2_whenAlone 63 = .ok (.istore 4, 2) := by decide +kernel
theorem dX2_whenAlone_65 : decode cX2_whenAlone 65 = .ok (.iinc 5 (-1), 3) := by decide +kernel
theorem dX2_whenAlone_68 : decode cX2_whenAlone 68 = .ok (.goto (-45), 3) := by decide +kernel
theorem dX2_whenAlone_71 : decode cX2_whenAlone 71 = .ok (.iload_n 3, 1) := by decide +kernel
theorem dX2_whenAlone_72 : decode cX2_whenAlone 72 = .ok (.ireturn, 1) := by decide +kernel
theorem dX2_waitingAlone_0 : decode cX2_waitingAlone 0 = .ok (.iload_n 1, 1) := by decide +kernel
theorem dX2_waitingAlone_1 : decode cX2_waitingAlone 1 = .ok (.aload_n 0, 1) := by decide +kernel
theorem dX2_waitingAlone_2 : decode cX2_waitingAlone 2 = .ok (.getfield 46, 3) := by decide +kernel
theorem dX2_waitingAlone_5 : decode cX2_waitingAlone 5 = .ok (.iload_n 2, 1) := by decide +kernel
theorem dX2_waitingAlone_6 : decode cX2_waitingAlone 6 = .ok (.invokestatic 49, 3) := by decide +kernel
theorem dX2_waitingAlone_9 : decode cX2_waitingAlone 9 = .ok (.imul, 1) := by decide +kernel
theorem dX2_waitingAlone_10 : decode cX2_waitingAlone 10 = .ok (.sipush 1000, 3) := by decide +kernel
theorem dX2_waitingAlone_13 : decode cX2_waitingAlone 13 = .ok (.idiv, 1) := by decide +kernel
theorem dX2_waitingAlone_14 : decode cX2_waitingAlone 14 = .ok (.aload_n 0, 1) := by decide +kernel
theorem dX2_waitingAlone_15 : decode cX2_waitingAlone 15 = .ok (.getfield 52, 3) := by decide +kernel
theorem dX2_waitingAlone_18 : decode cX2_waitingAlone 18 = .ok (.iload_n 2, 1) := by decide +kernel
theorem dX2_waitingAlone_19 : decode cX2_waitingAlone 19 = .ok (.iconst 1, 1) := by decide +kernel
theorem dX2_waitingAlone_20 : decode cX2_waitingAlone 20 = .ok (.isub, 1) := by decide +kernel
theorem dX2_waitingAlone_21 : decode cX2_waitingAlone 21 = .ok (.imul, 1) := by decide +kernel
theorem dX2_waitingAlone_22 : decode cX2_waitingAlone 22 = .ok (.isub, 1) := by decide +kernel
theorem dX2_waitingAlone_23 : decode cX2_waitingAlone 23 = .ok (.ireturn, 1) := by decide +kernel
theorem dX2_keptOf_0 : decode cX2_keptOf 0 = .ok (.sipush 1000, 3) := by decide +kernel
theorem dX2_keptOf_3 : decode cX2_keptOf 3 = .ok (.istore_n 2, 1) := by decide +kernel
theorem dX2_keptOf_4 : decode cX2_keptOf 4 = .ok (.iconst 0, 1) := by decide +kernel
theorem dX2_keptOf_5 : decode cX2_keptOf 5 = .ok (.istore_n 3, 1) := by decide +kernel
theorem dX2_keptOf_6 : decode cX2_keptOf 6 = .ok (.iload_n 3, 1) := by decide +kernel
theorem dX2_keptOf_7 : decode cX2_keptOf 7 = .ok (.iload_n 1, 1) := by decide +kernel
theorem dX2_keptOf_8 : decode cX2_keptOf 8 = .ok (.if_icmp .ge 17, 3) := by decide +kernel
theorem dX2_keptOf_11 : decode cX2_keptOf 11 = .ok (.iload_n 2, 1) := by decide +kernel
theorem dX2_keptOf_12 : decode cX2_keptOf 12 = .ok (.iload_n 0, 1) := by decide +kernel
theorem dX2_keptOf_13 : decode cX2_keptOf 13 = .ok (.imul, 1) := by decide +kernel
theorem dX2_keptOf_14 : decode cX2_keptOf 14 = .ok (.sipush 1000, 3) := by decide +kernel
theorem dX2_keptOf_17 : decode cX2_keptOf 17 = .ok (.idiv, 1) := by decide +kernel
theorem dX2_keptOf_18 : decode cX2_keptOf 18 = .ok (.istore_n 2, 1) := by decide +kernel
theorem dX2_keptOf_19 : decode cX2_keptOf 19 = .ok (.iinc 3 1, 3) := by decide +kernel
theorem dX2_keptOf_22 : decode cX2_keptOf 22 = .ok (.goto (-16), 3) := by decide +kernel
theorem dX2_keptOf_25 : decode cX2_keptOf 25 = .ok (.sipush 1000, 3) := by decide +kernel
theorem dX2_keptOf_28 : decode cX2_keptOf 28 = .ok (.iload_n 2, 1) := by decide +kernel
theorem dX2_keptOf_29 : decode cX2_keptOf 29 = .ok (.isub, 1) := by decide +kernel
theorem dX2_keptOf_30 : decode cX2_keptOf 30 = .ok (.ireturn, 1) := by decide +kernel
theorem dX2_bestCopies_0 : decode cX2_bestCopies 0 = .ok (.iconst 1, 1) := by decide +kernel
theorem dX2_bestCopies_1 : decode cX2_bestCopies 1 = .ok (.istore_n 2, 1) := by decide +kernel
theorem dX2_bestCopies_2 : decode cX2_bestCopies 2 = .ok (.aload_n 0, 1) := by decide +kernel
theorem dX2_bestCopies_3 : decode cX2_bestCopies 3 = .ok (.iload_n 1, 1) := by decide +kernel
theorem dX2_bestCopies_4 : decode cX2_bestCopies 4 = .ok (.iconst 1, 1) := by decide +kernel
theorem dX2_bestCopies_5 : decode cX2_bestCopies 5 = .ok (.invokestatic 55, 3) := by decide +kernel
theorem dX2_bestCopies_8 : decode cX2_bestCopies 8 = .ok (.istore_n 3, 1) := by decide +kernel
theorem dX2_bestCopies_9 : decode cX2_bestCopies 9 = .ok (.iconst 2, 1) := by decide +kernel
theorem dX2_bestCopies_10 : decode cX2_bestCopies 10 = .ok (.istore 4, 2) := by decide +kernel
theorem dX2_bestCopies_12 : decode cX2_bestCopies 12 = .ok (.iload 4, 2) := by decide +kernel
theorem dX2_bestCopies_14 : decode cX2_bestCopies 14 = .ok (.bipush 9, 2) := by decide +kernel
theorem dX2_bestCopies_16 : decode cX2_bestCopies 16 = .ok (.if_icmp .gt 30, 3) := by decide +kernel
theorem dX2_bestCopies_19 : decode cX2_bestCopies 19 = .ok (.aload_n 0, 1) := by decide +kernel
theorem dX2_bestCopies_20 : decode cX2_bestCopies 20 = .ok (.iload_n 1, 1) := by decide +kernel
theorem dX2_bestCopies_21 : decode cX2_bestCopies 21 = .ok (.iload 4, 2) := by decide +kernel
theorem dX2_bestCopies_23 : decode cX2_bestCopies 23 = .ok (.invokestatic 55, 3) := by decide +kernel
theorem dX2_bestCopies_26 : decode cX2_bestCopies 26 = .ok (.istore 5, 2) := by decide +kernel
theorem dX2_bestCopies_28 : decode cX2_bestCopies 28 = .ok (.iload 5, 2) := by decide +kernel
theorem dX2_bestCopies_30 : decode cX2_bestCopies 30 = .ok (.iload_n 3, 1) := by decide +kernel
theorem dX2_bestCopies_31 : decode cX2_bestCopies 31 = .ok (.if_icmp .le 9, 3) := by decide +kernel
theorem dX2_bestCopies_34 : decode cX2_bestCopies 34 = .ok (.iload 5, 2) := by decide +kernel
theorem dX2_bestCopies_36 : decode cX2_bestCopies 36 = .ok (.istore_n 3, 1) := by decide +kernel
theorem dX2_bestCopies_37 : decode cX2_bestCopies 37 = .ok (.iload 4, 2) := by decide +kernel
theorem dX2_bestCopies_39 : decode cX2_bestCopies 39 = .ok (.istore_n 2, 1) := by decide +kernel
theorem dX2_bestCopies_40 : decode cX2_bestCopies 40 = .ok (.iinc 4 1, 3) := by decide +kernel
theorem dX2_bestCopies_43 : decode cX2_bestCopies 43 = .ok (.goto (-31), 3) := by decide +kernel
theorem dX2_bestCopies_46 : decode cX2_bestCopies 46 = .ok (.iload_n 2, 1) := by decide +kernel
theorem dX2_bestCopies_47 : decode cX2_bestCopies 47 = .ok (.ireturn, 1) := by decide +kernel
theorem dX2_ofTwo_0 : decode cX2_ofTwo 0 = .ok (.sipush 1000, 3) := by decide +kernel
theorem dX2_ofTwo_3 : decode cX2_ofTwo 3 = .ok (.istore 4, 2) := by decide +kernel
theorem dX2_ofTwo_5 : decode cX2_ofTwo 5 = .ok (.aload_n 0, 1) := by decide +kernel
theorem dX2_ofTwo_6 : decode cX2_ofTwo 6 = .ok (.aload_n 0, 1) := by decide +kernel
theorem dX2_ofTwo_7 : decode cX2_ofTwo 7 = .ok (.getfield 28, 3) := by decide +kernel
theorem dX2_ofTwo_10 : decode cX2_ofTwo 10 = .ok (.invokevirtual 32, 3) := by decide +kernel
theorem dX2_ofTwo_13 : decode cX2_ofTwo 13 = .ok (.iconst 2, 1) := by decide +kernel
theorem dX2_ofTwo_14 : decode cX2_ofTwo 14 = .ok (.idiv, 1) := by decide +kernel
theorem dX2_ofTwo_15 : decode cX2_ofTwo 15 = .ok (.istore 5, 2) := by decide +kernel
theorem dX2_ofTwo_17 : decode cX2_ofTwo 17 = .ok (.aload_n 0, 1) := by decide +kernel
theorem dX2_ofTwo_18 : decode cX2_ofTwo 18 = .ok (.getfield 28, 3) := by decide +kernel
theorem dX2_ofTwo_21 : decode cX2_ofTwo 21 = .ok (.iconst 1, 1) := by decide +kernel
theorem dX2_ofTwo_22 : decode cX2_ofTwo 22 = .ok (.isub, 1) := by decide +kernel
theorem dX2_ofTwo_23 : decode cX2_ofTwo 23 = .ok (.istore 6, 2) := by decide +kernel
theorem dX2_ofTwo_25 : decode cX2_ofTwo 25 = .ok (.iload 6, 2) := by decide +kernel
theorem dX2_ofTwo_27 : decode cX2_ofTwo 27 = .ok (.iload_n 1, 1) := by decide +kernel
theorem dX2_ofTwo_28 : decode cX2_ofTwo 28 = .ok (.if_icmp .lt 126, 3) := by decide +kernel
theorem dX2_ofTwo_31 : decode cX2_ofTwo 31 = .ok (.aload_n 0, 1) := by decide +kernel
theorem dX2_ofTwo_32 : decode cX2_ofTwo 32 = .ok (.iload 6, 2) := by decide +kernel
theorem dX2_ofTwo_34 : decode cX2_ofTwo 34 = .ok (.invokevirtual 32, 3) := by decide +kernel
theorem dX2_ofTwo_37 : decode cX2_ofTwo 37 = .ok (.istore 7, 2) := by decide +kernel
theorem dX2_ofTwo_39 : decode cX2_ofTwo 39 = .ok (.iload 7, 2) := by decide +kernel
theorem dX2_ofTwo_41 : decode cX2_ofTwo 41 = .ok (.iconst 2, 1) := by decide +kernel
theorem dX2_ofTwo_42 : decode cX2_ofTwo 42 = .ok (.idiv, 1) := by decide +kernel
theorem dX2_ofTwo_43 : decode cX2_ofTwo 43 = .ok (.istore 8, 2) := by decide +kernel
theorem dX2_ofTwo_45 : decode cX2_ofTwo 45 = .ok (.iload 5, 2) := by decide +kernel
theorem dX2_ofTwo_47 : decode cX2_ofTwo 47 = .ok (.sipush 1000, 3) := by decide +kernel
theorem dX2_ofTwo_50 : decode cX2_ofTwo 50 = .ok (.aload_n 0, 1) := by decide +kernel
theorem dX2_ofTwo_51 : decode cX2_ofTwo 51 = .ok (.getfield 46, 3) := by decide +kernel
theorem dX2_ofTwo_54 : decode cX2_ofTwo 54 = .ok (.isub, 1) := by decide +kernel
theorem dX2_ofTwo_55 : decode cX2_ofTwo 55 = .ok (.imul, 1) := by decide +kernel
theorem dX2_ofTwo_56 : decode cX2_ofTwo 56 = .ok (.sipush 1000, 3) := by decide +kernel
theorem dX2_ofTwo_59 : decode cX2_ofTwo 59 = .ok (.idiv, 1) := by decide +kernel
theorem dX2_ofTwo_60 : decode cX2_ofTwo 60 = .ok (.istore 9, 2) := by decide +kernel
theorem dX2_ofTwo_62 : decode cX2_ofTwo 62 = .ok (.iload 7, 2) := by decide +kernel
theorem dX2_ofTwo_64 : decode cX2_ofTwo 64 = .ok (.iload 9, 2) := by decide +kernel
theorem dX2_ofTwo_66 : decode cX2_ofTwo 66 = .ok (.isub, 1) := by decide +kernel
theorem dX2_ofTwo_67 : decode cX2_ofTwo 67 = .ok (.istore 10, 2) := by decide +kernel
theorem dX2_ofTwo_69 : decode cX2_ofTwo 69 = .ok (.iload_n 2, 1) := by decide +kernel
theorem dX2_ofTwo_70 : decode cX2_ofTwo 70 = .ok (.iload 7, 2) := by decide +kernel
theorem dX2_ofTwo_72 : decode cX2_ofTwo 72 = .ok (.imul, 1) := by decide +kernel
theorem dX2_ofTwo_73 : decode cX2_ofTwo 73 = .ok (.bipush 100, 2) := by decide +kernel
theorem dX2_ofTwo_75 : decode cX2_ofTwo 75 = .ok (.idiv, 1) := by decide +kernel
theorem dX2_ofTwo_76 : decode cX2_ofTwo 76 = .ok (.iload 8, 2) := by decide +kernel
theorem dX2_ofTwo_78 : decode cX2_ofTwo 78 = .ok (.isub, 1) := by decide +kernel
theorem dX2_ofTwo_79 : decode cX2_ofTwo 79 = .ok (.istore 11, 2) := by decide +kernel
theorem dX2_ofTwo_81 : decode cX2_ofTwo 81 = .ok (.iload 10, 2) := by decide +kernel
theorem dX2_ofTwo_83 : decode cX2_ofTwo 83 = .ok (.ifCond .gt 13, 3) := by decide +kernel
theorem dX2_ofTwo_86 : decode cX2_ofTwo 86 = .ok (.iconst 0, 1) := by decide +kernel
theorem dX2_ofTwo_87 : decode cX2_ofTwo 87 = .ok (.istore 4, 2) := by decide +kernel
theorem dX2_ofTwo_89 : decode cX2_ofTwo 89 = .ok (.iload 9, 2) := by decide +kernel
theorem dX2_ofTwo_91 : decode cX2_ofTwo 91 = .ok (.istore 5, 2) := by decide +kernel
theorem dX2_ofTwo_93 : decode cX2_ofTwo 93 = .ok (.goto 55, 3) := by decide +kernel
theorem dX2_ofTwo_96 : decode cX2_ofTwo 96 = .ok (.iload 11, 2) := by decide +kernel
theorem dX2_ofTwo_98 : decode cX2_ofTwo 98 = .ok (.ifCond .gt 15, 3) := by decide +kernel
theorem dX2_ofTwo_101 : decode cX2_ofTwo 101 = .ok (.sipush 1000, 3) := by decide +kernel
theorem dX2_ofTwo_104 : decode cX2_ofTwo 104 = .ok (.istore 4, 2) := by decide +kernel
theorem dX2_ofTwo_106 : decode cX2_ofTwo 106 = .ok (.iload 8, 2) := by decide +kernel
theorem dX2_ofTwo_108 : decode cX2_ofTwo 108 = .ok (.istore 5, 2) := by decide +kernel
theorem dX2_ofTwo_110 : decode cX2_ofTwo 110 = .ok (.goto 38, 3) := by decide +kernel
theorem dX2_ofTwo_113 : decode cX2_ofTwo 113 = .ok (.sipush 1000, 3) := by decide +kernel
theorem dX2_ofTwo_116 : decode cX2_ofTwo 116 = .ok (.iload 10, 2) := by decide +kernel
theorem dX2_ofTwo_118 : decode cX2_ofTwo 118 = .ok (.imul, 1) := by decide +kernel
theorem dX2_ofTwo_119 : decode cX2_ofTwo 119 = .ok (.iload 10, 2) := by decide +kernel
theorem dX2_ofTwo_121 : decode cX2_ofTwo 121 = .ok (.iload 11, 2) := by decide +kernel
theorem dX2_ofTwo_123 : decode cX2_ofTwo 123 = .ok (.iadd, 1) := by decide +kernel
theorem dX2_ofTwo_124 : decode cX2_ofTwo 124 = .ok (.idiv, 1) := by decide +kernel
theorem dX2_ofTwo_125 : decode cX2_ofTwo 125 = .ok (.istore 4, 2) := by decide +kernel
theorem dX2_ofTwo_127 : decode cX2_ofTwo 127 = .ok (.iload 4, 2) := by decide +kernel
theorem dX2_ofTwo_129 : decode cX2_ofTwo 129 = .ok (.iload 8, 2) := by decide +kernel
theorem dX2_ofTwo_131 : decode cX2_ofTwo 131 = .ok (.imul, 1) := by decide +kernel
theorem dX2_ofTwo_132 : decode cX2_ofTwo 132 = .ok (.sipush 1000, 3) := by decide +kernel
theorem dX2_ofTwo_135 : decode cX2_ofTwo 135 = .ok (.iload 4, 2) := by decide +kernel
theorem dX2_ofTwo_137 : decode cX2_ofTwo 137 = .ok (.isub, 1) := by decide +kernel
theorem dX2_ofTwo_138 : decode cX2_ofTwo 138 = .ok (.iload 7, 2) := by decide +kernel
theorem dX2_ofTwo_140 : decode cX2_ofTwo 140 = .ok (.imul, 1) := by decide +kernel
theorem dX2_ofTwo_141 : decode cX2_ofTwo 141 = .ok (.iadd, 1) := by decide +kernel
theorem dX2_ofTwo_142 : decode cX2_ofTwo 142 = .ok (.sipush 1000, 3) := by decide +kernel
theorem dX2_ofTwo_145 : decode cX2_ofTwo 145 = .ok (.idiv, 1) := by decide +kernel
theorem dX2_ofTwo_146 : decode cX2_ofTwo 146 = .ok (.istore 5, 2) := by decide +kernel
theorem dX2_ofTwo_148 : decode cX2_ofTwo 148 = .ok (.iinc 6 (-1), 3) := by decide +kernel
theorem dX2_ofTwo_151 : decode cX2_ofTwo 151 = .ok (.goto (-126), 3) := by decide +kernel
theorem dX2_ofTwo_154 : decode cX2_ofTwo 154 = .ok (.iload_n 3, 1) := by decide +kernel
theorem dX2_ofTwo_155 : decode cX2_ofTwo 155 = .ok (.ifCond .ne 8, 3) := by decide +kernel
theorem dX2_ofTwo_158 : decode cX2_ofTwo 158 = .ok (.iload 4, 2) := by decide +kernel
theorem dX2_ofTwo_160 : decode cX2_ofTwo 160 = .ok (.goto 5, 3) := by decide +kernel
theorem dX2_ofTwo_163 : decode cX2_ofTwo 163 = .ok (.iload 5, 2) := by decide +kernel
theorem dX2_ofTwo_165 : decode cX2_ofTwo 165 = .ok (.ireturn, 1) := by decide +kernel
theorem dX2_thought_0 : decode cX2_thought 0 = .ok (.iload_n 0, 1) := by decide +kernel
theorem dX2_thought_1 : decode cX2_thought 1 = .ok (.istore_n 3, 1) := by decide +kernel
theorem dX2_thought_2 : decode cX2_thought 2 = .ok (.iconst 0, 1) := by decide +kernel
theorem dX2_thought_3 : decode cX2_thought 3 = .ok (.istore 4, 2) := by decide +kernel
theorem dX2_thought_5 : decode cX2_thought 5 = .ok (.iload 4, 2) := by decide +kernel
theorem dX2_thought_7 : decode cX2_thought 7 = .ok (.iload_n 2, 1) := by decide +kernel
theorem dX2_thought_8 : decode cX2_thought 8 = .ok (.if_icmp .ge 42, 3) := by decide +kernel
theorem dX2_thought_11 : decode cX2_thought 11 = .ok (.sipush 1000, 3) := by decide +kernel
theorem dX2_thought_14 : decode cX2_thought 14 = .ok (.iload_n 3, 1) := by decide +kernel
theorem dX2_thought_15 : decode cX2_thought 15 = .ok (.iload_n 1, 1) := by decide +kernel
theorem dX2_thought_16 : decode cX2_thought 16 = .ok (.imul, 1) := by decide +kernel
theorem dX2_thought_17 : decode cX2_thought 17 = .ok (.sipush 1000, 3) := by decide +kernel
theorem dX2_thought_20 : decode cX2_thought 20 = .ok (.idiv, 1) := by decide +kernel
theorem dX2_thought_21 : decode cX2_thought 21 = .ok (.isub, 1) := by decide +kernel
theorem dX2_thought_22 : decode cX2_thought 22 = .ok (.istore 5, 2) := by decide +kernel
theorem dX2_thought_24 : decode cX2_thought 24 = .ok (.iload 5, 2) := by decide +kernel
theorem dX2_thought_26 : decode cX2_thought 26 = .ok (.ifCond .ne 7, 3) := by decide +kernel
theorem dX2_thought_29 : decode cX2_thought 29 = .ok (.iconst 0, 1) := by decide +kernel
theorem dX2_thought_30 : decode cX2_thought 30 = .ok (.goto 13, 3) := by decide +kernel
theorem dX2_thought_33 : decode cX2_thought 33 = .ok (.iload_n 3, 1) := by decide +kernel
theorem dX2_thought_34 : decode cX2_thought 34 = .ok (.sipush 1000, 3) := by decide +kernel
theorem dX2_thought_37 : decode cX2_thought 37 = .ok (.iload_n 1, 1) := by decide +kernel
theorem dX2_thought_38 : decode cX2_thought 38 = .ok (.isub, 1) := by decide +kernel
theorem dX2_thought_39 : decode cX2_thought 39 = .ok (.imul, 1) := by decide +kernel
theorem dX2_thought_40 : decode cX2_thought 40 = .ok (.iload 5, 2) := by decide +kernel
theorem dX2_thought_42 : decode cX2_thought 42 = .ok (.idiv, 1) := by decide +kernel
theorem dX2_thought_43 : decode cX2_thought 43 = .ok (.istore_n 3, 1) := by decide +kernel
theorem dX2_thought_44 : decode cX2_thought 44 = .ok (.iinc 4 1, 3) := by decide +kernel
theorem dX2_thought_47 : decode cX2_thought 47 = .ok (.goto (-42), 3) := by decide +kernel
theorem dX2_thought_50 : decode cX2_thought 50 = .ok (.iload_n 3, 1) := by decide +kernel
theorem dX2_thought_51 : decode cX2_thought 51 = .ok (.ireturn, 1) := by decide +kernel
theorem dX2_edge_0 : decode cX2_edge 0 = .ok (.iload_n 0, 1) := by decide +kernel
theorem dX2_edge_1 : decode cX2_edge 1 = .ok (.ifCond .gt 5, 3) := by decide +kernel
theorem dX2_edge_4 : decode cX2_edge 4 = .ok (.iconst 0, 1) := by decide +kernel
theorem dX2_edge_5 : decode cX2_edge 5 = .ok (.ireturn, 1) := by decide +kernel
theorem dX2_edge_6 : decode cX2_edge 6 = .ok (.iload_n 1, 1) := by decide +kernel
theorem dX2_edge_7 : decode cX2_edge 7 = .ok (.ifCond .gt 6, 3) := by decide +kernel
theorem dX2_edge_10 : decode cX2_edge 10 = .ok (.ldc 58, 2) := by decide +kernel
theorem dX2_edge_12 : decode cX2_edge 12 = .ok (.ireturn, 1) := by decide +kernel
theorem dX2_edge_13 : decode cX2_edge 13 = .ok (.sipush 1000, 3) := by decide +kernel
theorem dX2_edge_16 : decode cX2_edge 16 = .ok (.iload_n 0, 1) := by decide +kernel
theorem dX2_edge_17 : decode cX2_edge 17 = .ok (.imul, 1) := by decide +kernel
theorem dX2_edge_18 : decode cX2_edge 18 = .ok (.iload_n 1, 1) := by decide +kernel
theorem dX2_edge_19 : decode cX2_edge 19 = .ok (.iadd, 1) := by decide +kernel
theorem dX2_edge_20 : decode cX2_edge 20 = .ok (.iconst 1, 1) := by decide +kernel
theorem dX2_edge_21 : decode cX2_edge 21 = .ok (.isub, 1) := by decide +kernel
theorem dX2_edge_22 : decode cX2_edge 22 = .ok (.iload_n 1, 1) := by decide +kernel
theorem dX2_edge_23 : decode cX2_edge 23 = .ok (.idiv, 1) := by decide +kernel
theorem dX2_edge_24 : decode cX2_edge 24 = .ok (.istore_n 2, 1) := by decide +kernel
theorem dX2_edge_25 : decode cX2_edge 25 = .ok (.iload_n 2, 1) := by decide +kernel
theorem dX2_edge_26 : decode cX2_edge 26 = .ok (.ldc 59, 2) := by decide +kernel
theorem dX2_edge_28 : decode cX2_edge 28 = .ok (.if_icmp .gt 7, 3) := by decide +kernel
theorem dX2_edge_31 : decode cX2_edge 31 = .ok (.iload_n 2, 1) := by decide +kernel
theorem dX2_edge_32 : decode cX2_edge 32 = .ok (.goto 5, 3) := by decide +kernel
theorem dX2_edge_35 : decode cX2_edge 35 = .ok (.ldc 58, 2) := by decide +kernel
theorem dX2_edge_37 : decode cX2_edge 37 = .ok (.ireturn, 1) := by decide +kernel
theorem dX2_findCorner_0 : decode cX2_findCorner 0 = .ok (.aload_n 1, 1) := by decide +kernel
theorem dX2_findCorner_1 : decode cX2_findCorner 1 = .ok (.iload 4, 2) := by decide +kernel
theorem dX2_findCorner_3 : decode cX2_findCorner 3 = .ok (.aload_n 1, 1) := by decide +kernel
theorem dX2_findCorner_4 : decode cX2_findCorner 4 = .ok (.iload_n 3, 1) := by decide +kernel
theorem dX2_findCorner_5 : decode cX2_findCorner 5 = .ok (.invokevirtual 60, 3) := by decide +kernel
theorem dX2_findCorner_8 : decode cX2_findCorner 8 = .ok (.invokevirtual 63, 3) := by decide +kernel
theorem dX2_findCorner_11 : decode cX2_findCorner 11 = .ok (.istore 5, 2) := by decide +kernel
theorem dX2_findCorner_13 : decode cX2_findCorner 13 = .ok (.aload_n 0, 1) := by decide +kernel
theorem dX2_findCorner_14 : decode cX2_findCorner 14 = .ok (.aload_n 1, 1) := by decide +kernel
theorem dX2_findCorner_15 : decode cX2_findCorner 15 = .ok (.iload_n 2, 1) := by decide +kernel
theorem dX2_findCorner_16 : decode cX2_findCorner 16 = .ok (.iload_n 3, 1) := by decide +kernel
theorem dX2_findCorner_17 : decode cX2_findCorner 17 = .ok (.invokevirtual 66, 3) := by decide +kernel
theorem dX2_findCorner_20 : decode cX2_findCorner 20 = .ok (.aload_n 0, 1) := by decide +kernel
theorem dX2_findCorner_21 : decode cX2_findCorner 21 = .ok (.aload_n 0, 1) := by decide +kernel
theorem dX2_findCorner_22 : decode cX2_findCorner 22 = .ok (.aload_n 1, 1) := by decide +kernel
theorem dX2_findCorner_23 : decode cX2_findCorner 23 = .ok (.iload 5, 2) := by decide +kernel
theorem dX2_findCorner_25 : decode cX2_findCorner 25 = .ok (.invokevirtual 70, 3) := by decide +kernel
theorem dX2_findCorner_28 : decode cX2_findCorner 28 = .ok (.invokevirtual 74, 3) := by decide +kernel
theorem dX2_findCorner_31 : decode cX2_findCorner 31 = .ok (.iconst 0, 1) := by decide +kernel
theorem dX2_findCorner_32 : decode cX2_findCorner 32 = .ok (.istore 6, 2) := by decide +kernel
theorem dX2_findCorner_34 : decode cX2_findCorner 34 = .ok (.iload 6, 2) := by decide +kernel
theorem dX2_findCorner_36 : decode cX2_findCorner 36 = .ok (.bipush 120, 2) := by decide +kernel
theorem dX2_findCorner_38 : decode cX2_findCorner 38 = .ok (.if_icmp .ge 40, 3) := by decide +kernel
theorem dX2_findCorner_41 : decode cX2_findCorner 41 = .ok (.aload_n 0, 1) := by decide +kernel
theorem dX2_findCorner_42 : decode cX2_findCorner 42 = .ok (.invokevirtual 78, 3) := by decide +kernel
theorem dX2_findCorner_45 : decode cX2_findCorner 45 = .ok (.ifCond .eq 33, 3) := by decide +kernel
theorem dX2_findCorner_48 : decode cX2_findCorner 48 = .ok (.aload_n 0, 1) := by decide +kernel
theorem dX2_findCorner_49 : decode cX2_findCorner 49 = .ok (.aload_n 1, 1) := by decide +kernel
theorem dX2_findCorner_50 : decode cX2_findCorner 50 = .ok (.iload 5, 2) := by decide +kernel
theorem dX2_findCorner_52 : decode cX2_findCorner 52 = .ok (.invokevirtual 70, 3) := by decide +kernel
theorem dX2_findCorner_55 : decode cX2_findCorner 55 = .ok (.istore 7, 2) := by decide +kernel
theorem dX2_findCorner_57 : decode cX2_findCorner 57 = .ok (.iload 7, 2) := by decide +kernel
theorem dX2_findCorner_59 : decode cX2_findCorner 59 = .ok (.aload_n 0, 1) := by decide +kernel
theorem dX2_findCorner_60 : decode cX2_findCorner 60 = .ok (.getfield 82, 3) := by decide +kernel
theorem dX2_findCorner_63 : decode cX2_findCorner 63 = .ok (.if_icmp .ge 9, 3) := by decide +kernel
theorem dX2_findCorner_66 : decode cX2_findCorner 66 = .ok (.aload_n 0, 1) := by decide +kernel
theorem dX2_findCorner_67 : decode cX2_findCorner 67 = .ok (.iload 7, 2) := by decide +kernel
theorem dX2_findCorner_69 : decode cX2_findCorner 69 = .ok (.invokevirtual 74, 3) := by decide +kernel
theorem dX2_findCorner_72 : decode cX2_findCorner 72 = .ok (.iinc 6 1, 3) := by decide +kernel
theorem dX2_findCorner_75 : decode cX2_findCorner 75 = .ok (.goto (-41), 3) := by decide +kernel
theorem dX2_findCorner_78 : decode cX2_findCorner 78 = .ok (.return_, 1) := by decide +kernel
theorem dX2_boughtAt_0 : decode cX2_boughtAt 0 = .ok (.iload_n 1, 1) := by decide +kernel
theorem dX2_boughtAt_1 : decode cX2_boughtAt 1 = .ok (.ifCond .lt 26, 3) := by decide +kernel
theorem dX2_boughtAt_4 : decode cX2_boughtAt 4 = .ok (.iload_n 1, 1) := by decide +kernel
theorem dX2_boughtAt_5 : decode cX2_boughtAt 5 = .ok (.aload_n 0, 1) := by decide +kernel
theorem dX2_boughtAt_6 : decode cX2_boughtAt 6 = .ok (.getfield 85, 3) := by decide +kernel
theorem dX2_boughtAt_9 : decode cX2_boughtAt 9 = .ok (.if_icmp .ge 18, 3) := by decide +kernel
theorem dX2_boughtAt_12 : decode cX2_boughtAt 12 = .ok (.iload_n 1, 1) := by decide +kernel
theorem dX2_boughtAt_13 : decode cX2_boughtAt 13 = .ok (.bipush 6, 2) := by decide +kernel
theorem dX2_boughtAt_15 : decode cX2_boughtAt 15 = .ok (.if_icmp .ge 12, 3) := by decide +kernel
theorem dX2_boughtAt_18 : decode cX2_boughtAt 18 = .ok (.aload_n 0, 1) := by decide +kernel
theorem dX2_boughtAt_19 : decode cX2_boughtAt 19 = .ok (.getfield 22, 3) := by decide +kernel
theorem dX2_boughtAt_22 : decode cX2_boughtAt 22 = .ok (.iload_n 1, 1) := by decide +kernel
theorem dX2_boughtAt_23 : decode cX2_boughtAt 23 = .ok (.iaload, 1) := by decide +kernel
theorem dX2_boughtAt_24 : decode cX2_boughtAt 24 = .ok (.goto 5, 3) := by decide +kernel
theorem dX2_boughtAt_27 : decode cX2_boughtAt 27 = .ok (.ldc 58, 2) := by decide +kernel
theorem dX2_boughtAt_29 : decode cX2_boughtAt 29 = .ok (.ireturn, 1) := by decide +kernel
theorem dX2_listBuyable_0 : decode cX2_listBuyable 0 = .ok (.aload_n 0, 1) := by decide +kernel
theorem dX2_listBuyable_1 : decode cX2_listBuyable 1 = .ok (.iconst 0, 1) := by decide +kernel
theorem dX2_listBuyable_2 : decode cX2_listBuyable 2 = .ok (.putfield 85, 3) := by decide +kernel
theorem dX2_listBuyable_5 : decode cX2_listBuyable 5 = .ok (.iconst 0, 1) := by decide +kernel
theorem dX2_listBuyable_6 : decode cX2_listBuyable 6 = .ok (.istore 4, 2) := by decide +kernel
theorem dX2_listBuyable_8 : decode cX2_listBuyable 8 = .ok (.iload 4, 2) := by decide +kernel
theorem dX2_listBuyable_10 : decode cX2_listBuyable 10 = .ok (.aload_n 1, 1) := by decide +kernel
theorem dX2_listBuyable_11 : decode cX2_listBuyable 11 = .ok (.getfield 88, 3) := by decide +kernel
theorem dX2_listBuyable_14 : decode cX2_listBuyable 14 = .ok (.if_icmp .ge 55, 3) := by decide +kernel
theorem dX2_listBuyable_17 : decode cX2_listBuyable 17 = .ok (.aload_n 0, 1) := by decide +kernel
theorem dX2_listBuyable_18 : decode cX2_listBuyable 18 = .ok (.getfield 85, 3) := by decide +kernel
theorem dX2_listBuyable_21 : decode cX2_listBuyable 21 = .ok (.bipush 6, 2) := by decide +kernel
theorem dX2_listBuyable_23 : decode cX2_listBuyable 23 = .ok (.if_icmp .ge 46, 3) := by decide +kernel
theorem dX2_listBuyable_26 : decode cX2_listBuyable 26 = .ok (.iload 4, 2) := by decide +kernel
theorem dX2_listBuyable_28 : decode cX2_listBuyable 28 = .ok (.iload_n 2, 1) := by decide +kernel
theorem dX2_listBuyable_29 : decode cX2_listBuyable 29 = .ok (.if_icmp .eq 34, 3) := by decide +kernel
theorem dX2_listBuyable_32 : decode cX2_listBuyable 32 = .ok (.aload_n 1, 1) := by decide +kernel
theorem dX2_listBuyable_33 : decode cX2_listBuyable 33 = .ok (.iload 4, 2) := by decide +kernel
theorem dX2_listBuyable_35 : decode cX2_listBuyable 35 = .ok (.iload_n 3, 1) := by decide +kernel
theorem dX2_listBuyable_36 : decode cX2_listBuyable 36 = .ok (.invokevirtual 91, 3) := by decide +kernel
theorem dX2_listBuyable_39 : decode cX2_listBuyable 39 = .ok (.ifCond .le 24, 3) := by decide +kernel
theorem dX2_listBuyable_42 : decode cX2_listBuyable 42 = .ok (.aload_n 0, 1) := by decide +kernel
theorem dX2_listBuyable_43 : decode cX2_listBuyable 43 = .ok (.getfield 18, 3) := by decide +kernel
theorem dX2_listBuyable_46 : decode cX2_listBuyable 46 = .ok (.aload_n 0, 1) := by decide +kernel
theorem dX2_listBuyable_47 : decode cX2_listBuyable 47 = .ok (.getfield 85, 3) := by decide +kernel
theorem dX2_listBuyable_50 : decode cX2_listBuyable 50 = .ok (.iload 4, 2) := by decide +kernel
theorem dX2_listBuyable_52 : decode cX2_listBuyable 52 = .ok (.iastore, 1) := by decide +kernel
theorem dX2_listBuyable_53 : decode cX2_listBuyable 53 = .ok (.aload_n 0, 1) := by decide +kernel
theorem dX2_listBuyable_54 : decode cX2_listBuyable 54 = .ok (.dup, 1) := by decide +kernel
theorem dX2_listBuyable_55 : decode cX2_listBuyable 55 = .ok (.getfield 85, 3) := by decide +kernel
theorem dX2_listBuyable_58 : decode cX2_listBuyable 58 = .ok (.iconst 1, 1) := by decide +kernel
theorem dX2_listBuyable_59 : decode cX2_listBuyable 59 = .ok (.iadd, 1) := by decide +kernel
theorem dX2_listBuyable_60 : decode cX2_listBuyable 60 = .ok (.putfield 85, 3) := by decide +kernel
theorem dX2_listBuyable_63 : decode cX2_listBuyable 63 = .ok (.iinc 4 1, 3) := by decide +kernel
theorem dX2_listBuyable_66 : decode cX2_listBuyable 66 = .ok (.goto (-58), 3) := by decide +kernel
theorem dX2_listBuyable_69 : decode cX2_listBuyable 69 = .ok (.return_, 1) := by decide +kernel
theorem dX2_keepOrder_0 : decode cX2_keepOrder 0 = .ok (.aload_n 0, 1) := by decide +kernel
theorem dX2_keepOrder_1 : decode cX2_keepOrder 1 = .ok (.iload_n 1, 1) := by decide +kernel
theorem dX2_keepOrder_2 : decode cX2_keepOrder 2 = .ok (.putfield 82, 3) := by decide +kernel
theorem dX2_keepOrder_5 : decode cX2_keepOrder 5 = .ok (.aload_n 0, 1) := by decide +kernel
theorem dX2_keepOrder_6 : decode cX2_keepOrder 6 = .ok (.getfield 18, 3) := by decide +kernel
theorem dX2_keepOrder_9 : decode cX2_keepOrder 9 = .ok (.iconst 0, 1) := by decide +kernel
theorem dX2_keepOrder_10 : decode cX2_keepOrder 10 = .ok (.aload_n 0, 1) := by decide +kernel
theorem dX2_keepOrder_11 : decode cX2_keepOrder 11 = .ok (.getfield 22, 3) := by decide +kernel
theorem dX2_keepOrder_14 : decode cX2_keepOrder 14 = .ok (.iconst 0, 1) := by decide +kernel
theorem dX2_keepOrder_15 : decode cX2_keepOrder 15 = .ok (.bipush 6, 2) := by decide +kernel
theorem dX2_keepOrder_17 : decode cX2_keepOrder 17 = .ok (.invokestatic 94, 3) := by decide +kernel
theorem dX2_keepOrder_20 : decode cX2_keepOrder 20 = .ok (.return_, 1) := by decide +kernel
theorem dX2_sumOf_0 : decode cX2_sumOf 0 = .ok (.iconst 0, 1) := by decide +kernel
theorem dX2_sumOf_1 : decode cX2_sumOf 1 = .ok (.istore_n 3, 1) := by decide +kernel
theorem dX2_sumOf_2 : decode cX2_sumOf 2 = .ok (.iconst 0, 1) := by decide +kernel
theorem dX2_sumOf_3 : decode cX2_sumOf 3 = .ok (.istore 4, 2) := by decide +kernel
theorem dX2_sumOf_5 : decode cX2_sumOf 5 = .ok (.iload 4, 2) := by decide +kernel
theorem dX2_sumOf_7 : decode cX2_sumOf 7 = .ok (.aload_n 0, 1) := by decide +kernel
theorem dX2_sumOf_8 : decode cX2_sumOf 8 = .ok (.getfield 85, 3) := by decide +kernel
theorem dX2_sumOf_11 : decode cX2_sumOf 11 = .ok (.if_icmp .ge 60, 3) := by decide +kernel
theorem dX2_sumOf_14 : decode cX2_sumOf 14 = .ok (.iload 4, 2) := by decide +kernel
theorem dX2_sumOf_16 : decode cX2_sumOf 16 = .ok (.bipush 6, 2) := by decide +kernel
theorem dX2_sumOf_18 : decode cX2_sumOf 18 = .ok (.if_icmp .ge 53, 3) := by decide +kernel
theorem dX2_sumOf_21 : decode cX2_sumOf 21 = .ok (.aload_n 1, 1) := by decide +kernel
theorem dX2_sumOf_22 : decode cX2_sumOf 22 = .ok (.aload_n 0, 1) := by decide +kernel
theorem dX2_sumOf_23 : decode cX2_sumOf 23 = .ok (.getfield 18, 3) := by decide +kernel
theorem dX2_sumOf_26 : decode cX2_sumOf 26 = .ok (.iload 4, 2) := by decide +kernel
theorem dX2_sumOf_28 : decode cX2_sumOf 28 = .ok (.iaload, 1) := by decide +kernel
theorem dX2_sumOf_29 : decode cX2_sumOf 29 = .ok (.invokevirtual 100, 3) := by decide +kernel
theorem dX2_sumOf_32 : decode cX2_sumOf 32 = .ok (.astore 5, 2) := by decide +kernel
theorem dX2_sumOf_34 : decode cX2_sumOf 34 = .ok (.aload 5, 2) := by decide +kernel
theorem dX2_sumOf_36 : decode cX2_sumOf 36 = .ok (.ifnull 29, 3) := by decide +kernel
theorem dX2_sumOf_39 : decode cX2_sumOf 39 = .ok (.iload_n 3, 1) := by decide +kernel
theorem dX2_sumOf_40 : decode cX2_sumOf 40 = .ok (.iload_n 2, 1) := by decide +kernel
theorem dX2_sumOf_41 : decode cX2_sumOf 41 = .ok (.bipush 100, 2) := by decide +kernel
theorem dX2_sumOf_43 : decode cX2_sumOf 43 = .ok (.bipush 10, 2) := by decide +kernel
theorem dX2_sumOf_45 : decode cX2_sumOf 45 = .ok (.iload 4, 2) := by decide +kernel
theorem dX2_sumOf_47 : decode cX2_sumOf 47 = .ok (.imul, 1) := by decide +kernel
theorem dX2_sumOf_48 : decode cX2_sumOf 48 = .ok (.iadd, 1) := by decide +kernel
theorem dX2_sumOf_49 : decode cX2_sumOf 49 = .ok (.imul, 1) := by decide +kernel
theorem dX2_sumOf_50 : decode cX2_sumOf 50 = .ok (.bipush 100, 2) := by decide +kernel
theorem dX2_sumOf_52 : decode cX2_sumOf 52 = .ok (.aload 5, 2) := by decide +kernel
theorem dX2_sumOf_54 : decode cX2_sumOf 54 = .ok (.getfield 104, 3) := by decide +kernel
theorem dX2_sumOf_57 : decode cX2_sumOf 57 = .ok (.iadd, 1) := by decide +kernel
theorem dX2_sumOf_58 : decode cX2_sumOf 58 = .ok (.imul, 1) := by decide +kernel
theorem dX2_sumOf_59 : decode cX2_sumOf 59 = .ok (.sipush 10000, 3) := by decide +kernel
theorem dX2_sumOf_62 : decode cX2_sumOf 62 = .ok (.idiv, 1) := by decide +kernel
theorem dX2_sumOf_63 : decode cX2_sumOf 63 = .ok (.iadd, 1) := by decide +kernel
theorem dX2_sumOf_64 : decode cX2_sumOf 64 = .ok (.istore_n 3, 1) := by decide +kernel
theorem dX2_sumOf_65 : decode cX2_sumOf 65 = .ok (.iinc 4 1, 3) := by decide +kernel
theorem dX2_sumOf_68 : decode cX2_sumOf 68 = .ok (.goto (-63), 3) := by decide +kernel
theorem dX2_sumOf_71 : decode cX2_sumOf 71 = .ok (.iload_n 3, 1) := by decide +kernel
theorem dX2_sumOf_72 : decode cX2_sumOf 72 = .ok (.ireturn, 1) := by decide +kernel
theorem dX2_stepOrder_0 : decode cX2_stepOrder 0 = .ok (.aload_n 0, 1) := by decide +kernel
theorem dX2_stepOrder_1 : decode cX2_stepOrder 1 = .ok (.getfield 85, 3) := by decide +kernel
theorem dX2_stepOrder_4 : decode cX2_stepOrder 4 = .ok (.iconst 2, 1) := by decide +kernel
theorem dX2_stepOrder_5 : decode cX2_stepOrder 5 = .ok (.isub, 1) := by decide +kernel
theorem dX2_stepOrder_6 : decode cX2_stepOrder 6 = .ok (.istore_n 1, 1) := by decide +kernel
theorem dX2_stepOrder_7 : decode cX2_stepOrder 7 = .ok (.iload_n 1, 1) := by decide +kernel
theorem dX2_stepOrder_8 : decode cX2_stepOrder 8 = .ok (.ifCond .lt 34, 3) := by decide +kernel
theorem dX2_stepOrder_11 : decode cX2_stepOrder 11 = .ok (.iload_n 1, 1) := by decide +kernel
theorem dX2_stepOrder_12 : decode cX2_stepOrder 12 = .ok (.iconst 1, 1) := by decide +kernel
theorem dX2_stepOrder_13 : decode cX2_stepOrder 13 = .ok (.iadd, 1) := by decide +kernel
theorem dX2_stepOrder_14 : decode cX2_stepOrder 14 = .ok (.bipush 6, 2) := by decide +kernel
theorem dX2_stepOrder_16 : decode cX2_stepOrder 16 = .ok (.if_icmp .ge 26, 3) := by decide +kernel
theorem dX2_stepOrder_19 : decode cX2_stepOrder 19 = .ok (.aload_n 0, 1) := by decide +kernel
theorem dX2_stepOrder_20 : decode cX2_stepOrder 20 = .ok (.getfield 18, 3) := by decide +kernel
theorem dX2_stepOrder_23 : decode cX2_stepOrder 23 = .ok (.iload_n 1, 1) := by decide +kernel
theorem dX2_stepOrder_24 : decode cX2_stepOrder 24 = .ok (.iaload, 1) := by decide +kernel
theorem dX2_stepOrder_25 : decode cX2_stepOrder 25 = .ok (.aload_n 0, 1) := by decide +kernel
theorem dX2_stepOrder_26 : decode cX2_stepOrder 26 = .ok (.getfield 18, 3) := by decide +kernel
theorem dX2_stepOrder_29 : decode cX2_stepOrder 29 = .ok (.iload_n 1, 1) := by decide +kernel
theorem dX2_stepOrder_30 : decode cX2_stepOrder 30 = .ok (.iconst 1, 1) := by decide +kernel
theorem dX2_stepOrder_31 : decode cX2_stepOrder 31 = .ok (.iadd, 1) := by decide +kernel
theorem dX2_stepOrder_32 : decode cX2_stepOrder 32 = .ok (.iaload, 1) := by decide +kernel
theorem dX2_stepOrder_33 : decode cX2_stepOrder 33 = .ok (.if_icmp .le 9, 3) := by decide +kernel
theorem dX2_stepOrder_36 : decode cX2_stepOrder 36 = .ok (.iinc 1 (-1), 3) := by decide +kernel
theorem dX2_stepOrder_39 : decode cX2_stepOrder 39 = .ok (.goto (-32), 3) := by decide +kernel
theorem dX2_stepOrder_42 : decode cX2_stepOrder 42 = .ok (.iload_n 1, 1) := by decide +kernel
theorem dX2_stepOrder_43 : decode cX2_stepOrder 43 = .ok (.ifCond .ge 5, 3) := by decide +kernel
theorem dX2_stepOrder_46 : decode cX2_stepOrder 46 = .ok (.iconst 0, 1) := by decide +kernel
theorem dX2_stepOrder_47 : decode cX2_stepOrder 47 = .ok (.ireturn, 1) := by decide +kernel
theorem dX2_stepOrder_48 : decode cX2_stepOrder 48 = .ok (.aload_n 0, 1) := by decide +kernel
theorem dX2_stepOrder_49 : decode cX2_stepOrder 49 = .ok (.getfield 85, 3) := by decide +kernel
theorem dX2_stepOrder_52 : decode cX2_stepOrder 52 = .ok (.iconst 1, 1) := by decide +kernel
theorem dX2_stepOrder_53 : decode cX2_stepOrder 53 = .ok (.isub, 1) := by decide +kernel
theorem dX2_stepOrder_54 : decode cX2_stepOrder 54 = .ok (.istore_n 2, 1) := by decide +kernel
theorem dX2_stepOrder_55 : decode cX2_stepOrder 55 = .ok (.iload_n 2, 1) := by decide +kernel
theorem dX2_stepOrder_56 : decode cX2_stepOrder 56 = .ok (.iload_n 1, 1) := by decide +kernel
theorem dX2_stepOrder_57 : decode cX2_stepOrder 57 = .ok (.if_icmp .le 30, 3) := by decide +kernel
theorem dX2_stepOrder_60 : decode cX2_stepOrder 60 = .ok (.iload_n 2, 1) := by decide +kernel
theorem dX2_stepOrder_61 : decode cX2_stepOrder 61 = .ok (.bipush 6, 2) := by decide +kernel
theorem dX2_stepOrder_63 : decode cX2_stepOrder 63 = .ok (.if_icmp .ge 24, 3) := by decide +kernel
theorem dX2_stepOrder_66 : decode cX2_stepOrder 66 = .ok (.aload_n 0, 1) := by decide +kernel
theorem dX2_stepOrder_67 : decode cX2_stepOrder 67 = .ok (.getfield 18, 3) := by decide +kernel
theorem dX2_stepOrder_70 : decode cX2_stepOrder 70 = .ok (.iload_n 2, 1) := by decide +kernel
theorem dX2_stepOrder_71 : decode cX2_stepOrder 71 = .ok (.iaload, 1) := by decide +kernel
theorem dX2_stepOrder_72 : decode cX2_stepOrder 72 = .ok (.aload_n 0, 1) := by decide +kernel
theorem dX2_stepOrder_73 : decode cX2_stepOrder 73 = .ok (.getfield 18, 3) := by decide +kernel
theorem dX2_stepOrder_76 : decode cX2_stepOrder 76 = .ok (.iload_n 1, 1) := by decide +kernel
theorem dX2_stepOrder_77 : decode cX2_stepOrder 77 = .ok (.iaload, 1) := by decide +kernel
theorem dX2_stepOrder_78 : decode cX2_stepOrder 78 = .ok (.if_icmp .ge 9, 3) := by decide +kernel
theorem dX2_stepOrder_81 : decode cX2_stepOrder 81 = .ok (.iinc 2 (-1), 3) := by decide +kernel
theorem dX2_stepOrder_84 : decode cX2_stepOrder 84 = .ok (.goto (-29), 3) := by decide +kernel
theorem dX2_stepOrder_87 : decode cX2_stepOrder 87 = .ok (.aload_n 0, 1) := by decide +kernel
theorem dX2_stepOrder_88 : decode cX2_stepOrder 88 = .ok (.iload_n 1, 1) := by decide +kernel
theorem dX2_stepOrder_89 : decode cX2_stepOrder 89 = .ok (.iload_n 2, 1) := by decide +kernel
theorem dX2_stepOrder_90 : decode cX2_stepOrder 90 = .ok (.invokevirtual 109, 3) := by decide +kernel
theorem dX2_stepOrder_93 : decode cX2_stepOrder 93 = .ok (.iload_n 1, 1) := by decide +kernel
theorem dX2_stepOrder_94 : decode cX2_stepOrder 94 = .ok (.iconst 1, 1) := by decide +kernel
theorem dX2_stepOrder_95 : decode cX2_stepOrder 95 = .ok (.iadd, 1) := by decide +kernel
theorem dX2_stepOrder_96 : decode cX2_stepOrder 96 = .ok (.istore_n 3, 1) := by decide +kernel
theorem dX2_stepOrder_97 : decode cX2_stepOrder 97 = .ok (.aload_n 0, 1) := by decide +kernel
theorem dX2_stepOrder_98 : decode cX2_stepOrder 98 = .ok (.getfield 85, 3) := by decide +kernel
theorem dX2_stepOrder_101 : decode cX2_stepOrder 101 = .ok (.iconst 1, 1) := by decide +kernel
theorem dX2_stepOrder_102 : decode cX2_stepOrder 102 = .ok (.isub, 1) := by decide +kernel
theorem dX2_stepOrder_103 : decode cX2_stepOrder 103 = .ok (.istore 4, 2) := by decide +kernel
theorem dX2_stepOrder_105 : decode cX2_stepOrder 105 = .ok (.iload_n 3, 1) := by decide +kernel
theorem dX2_stepOrder_106 : decode cX2_stepOrder 106 = .ok (.iload 4, 2) := by decide +kernel
theorem dX2_stepOrder_108 : decode cX2_stepOrder 108 = .ok (.if_icmp .ge 19, 3) := by decide +kernel
theorem dX2_stepOrder_111 : decode cX2_stepOrder 111 = .ok (.aload_n 0, 1) := by decide +kernel
theorem dX2_stepOrder_112 : decode cX2_stepOrder 112 = .ok (.iload_n 3, 1) := by decide +kernel
theorem dX2_stepOrder_113 : decode cX2_stepOrder 113 = .ok (.iload 4, 2) := by decide +kernel
theorem dX2_stepOrder_115 : decode cX2_stepOrder 115 = .ok (.invokevirtual 109, 3) := by decide +kernel
theorem dX2_stepOrder_118 : decode cX2_stepOrder 118 = .ok (.iinc 3 1, 3) := by decide +kernel
theorem dX2_stepOrder_121 : decode cX2_stepOrder 121 = .ok (.iinc 4 (-1), 3) := by decide +kernel
theorem dX2_stepOrder_124 : decode cX2_stepOrder 124 = .ok (.goto (-19), 3) := by decide +kernel
theorem dX2_stepOrder_127 : decode cX2_stepOrder 127 = .ok (.iconst 1, 1) := by decide +kernel
theorem dX2_stepOrder_128 : decode cX2_stepOrder 128 = .ok (.ireturn, 1) := by decide +kernel
theorem dX2_swap_0 : decode cX2_swap 0 = .ok (.iload_n 1, 1) := by decide +kernel
theorem dX2_swap_1 : decode cX2_swap 1 = .ok (.ifCond .lt 45, 3) := by decide +kernel
theorem dX2_swap_4 : decode cX2_swap 4 = .ok (.iload_n 2, 1) := by decide +kernel
theorem dX2_swap_5 : decode cX2_swap 5 = .ok (.ifCond .lt 41, 3) := by decide +kernel
theorem dX2_swap_8 : decode cX2_swap 8 = .ok (.iload_n 1, 1) := by decide +kernel
theorem dX2_swap_9 : decode cX2_swap 9 = .ok (.bipush 6, 2) := by decide +kernel
theorem dX2_swap_11 : decode cX2_swap 11 = .ok (.if_icmp .ge 35, 3) := by decide +kernel
theorem dX2_swap_14 : decode cX2_swap 14 = .ok (.iload_n 2, 1) := by decide +kernel
theorem dX2_swap_15 : decode cX2_swap 15 = .ok (.bipush 6, 2) := by decide +kernel
theorem dX2_swap_17 : decode cX2_swap 17 = .ok (.if_icmp .ge 29, 3) := by decide +kernel
theorem dX2_swap_20 : decode cX2_swap 20 = .ok (.aload_n 0, 1) := by decide +kernel
theorem dX2_swap_21 : decode cX2_swap 21 = .ok (.getfield 18, 3) := by decide +kernel
theorem dX2_swap_24 : decode cX2_swap 24 = .ok (.iload_n 1, 1) := by decide +kernel
theorem dX2_swap_25 : decode cX2_swap 25 = .ok (.iaload, 1) := by decide +kernel
theorem dX2_swap_26 : decode cX2_swap 26 = .ok (.istore_n 3, 1) := by decide +kernel
theorem dX2_swap_27 : decode cX2_swap 27 = .ok (.aload_n 0, 1) := by decide +kernel
theorem dX2_swap_28 : decode cX2_swap 28 = .ok (.getfield 18, 3) := by decide +kernel
theorem dX2_swap_31 : decode cX2_swap 31 = .ok (.iload_n 1, 1) := by decide +kernel
theorem dX2_swap_32 : decode cX2_swap 32 = .ok (.aload_n 0, 1) := by decide +kernel
theorem dX2_swap_33 : decode cX2_swap 33 = .ok (.getfield 18, 3) := by decide +kernel
theorem dX2_swap_36 : decode cX2_swap 36 = .ok (.iload_n 2, 1) := by decide +kernel
theorem dX2_swap_37 : decode cX2_swap 37 = .ok (.iaload, 1) := by decide +kernel
theorem dX2_swap_38 : decode cX2_swap 38 = .ok (.iastore, 1) := by decide +kernel
theorem dX2_swap_39 : decode cX2_swap 39 = .ok (.aload_n 0, 1) := by decide +kernel
theorem dX2_swap_40 : decode cX2_swap 40 = .ok (.getfield 18, 3) := by decide +kernel
theorem dX2_swap_43 : decode cX2_swap 43 = .ok (.iload_n 2, 1) := by decide +kernel
theorem dX2_swap_44 : decode cX2_swap 44 = .ok (.iload_n 3, 1) := by decide +kernel
theorem dX2_swap_45 : decode cX2_swap 45 = .ok (.iastore, 1) := by decide +kernel
theorem dX2_swap_46 : decode cX2_swap 46 = .ok (.return_, 1) := by decide +kernel
theorem dX2_takeYears_0 : decode cX2_takeYears 0 = .ok (.aload_n 0, 1) := by decide +kernel
theorem dX2_takeYears_1 : decode cX2_takeYears 1 = .ok (.iconst 0, 1) := by decide +kernel
theorem dX2_takeYears_2 : decode cX2_takeYears 2 = .ok (.putfield 113, 3) := by decide +kernel
theorem dX2_takeYears_5 : decode cX2_takeYears 5 = .ok (.iconst 0, 1) := by decide +kernel
theorem dX2_takeYears_6 : decode cX2_takeYears 6 = .ok (.istore 4, 2) := by decide +kernel
theorem dX2_takeYears_8 : decode cX2_takeYears 8 = .ok (.iload 4, 2) := by decide +kernel
theorem dX2_takeYears_10 : decode cX2_takeYears 10 = .ok (.aload_n 1, 1) := by decide +kernel
theorem dX2_takeYears_11 : decode cX2_takeYears 11 = .ok (.getfield 88, 3) := by decide +kernel
theorem dX2_takeYears_14 : decode cX2_takeYears 14 = .ok (.if_icmp .ge 69, 3) := by decide +kernel
theorem dX2_takeYears_17 : decode cX2_takeYears 17 = .ok (.iload 4, 2) := by decide +kernel
theorem dX2_takeYears_19 : decode cX2_takeYears 19 = .ok (.bipush 6, 2) := by decide +kernel
theorem dX2_takeYears_21 : decode cX2_takeYears 21 = .ok (.if_icmp .ge 62, 3) := by decide +kernel
theorem dX2_takeYears_24 : decode cX2_takeYears 24 = .ok (.aload_n 2, 1) := by decide +kernel
theorem dX2_takeYears_25 : decode cX2_takeYears 25 = .ok (.iload_n 3, 1) := by decide +kernel
theorem dX2_takeYears_26 : decode cX2_takeYears 26 = .ok (.iload 4, 2) := by decide +kernel
theorem dX2_takeYears_28 : decode cX2_takeYears 28 = .ok (.invokevirtual 116, 3) := by decide +kernel
theorem dX2_takeYears_31 : decode cX2_takeYears 31 = .ok (.istore 5, 2) := by decide +kernel
theorem dX2_takeYears_33 : decode cX2_takeYears 33 = .ok (.iload 5, 2) := by decide +kernel
theorem dX2_takeYears_35 : decode cX2_takeYears 35 = .ok (.iconst (-1), 1) := by decide +kernel
theorem dX2_takeYears_36 : decode cX2_takeYears 36 = .ok (.if_icmp .lt 12, 3) := by decide +kernel
theorem dX2_takeYears_39 : decode cX2_takeYears 39 = .ok (.iload 5, 2) := by decide +kernel
theorem dX2_takeYears_41 : decode cX2_takeYears 41 = .ok (.aload_n 1, 1) := by decide +kernel
theorem dX2_takeYears_42 : decode cX2_takeYears 42 = .ok (.getfield 28, 3) := by decide +kernel
theorem dX2_takeYears_45 : decode cX2_takeYears 45 = .ok (.if_icmp .le 5, 3) := by decide +kernel
theorem dX2_takeYears_48 : decode cX2_takeYears 48 = .ok (.iconst 0, 1) := by decide +kernel
theorem dX2_takeYears_49 : decode cX2_takeYears 49 = .ok (.ireturn, 1) := by decide +kernel
theorem dX2_takeYears_50 : decode cX2_takeYears 50 = .ok (.aload_n 0, 1) := by decide +kernel
theorem dX2_takeYears_51 : decode cX2_takeYears 51 = .ok (.getfield 25, 3) := by decide +kernel
theorem dX2_takeYears_54 : decode cX2_takeYears 54 = .ok (.iload 4, 2) := by decide +kernel
theorem dX2_takeYears_56 : decode cX2_takeYears 56 = .ok (.iload 5, 2) := by decide +kernel
theorem dX2_takeYears_58 : decode cX2_takeYears 58 = .ok (.iastore, 1) := by decide +kernel
theorem dX2_takeYears_59 : decode cX2_takeYears 59 = .ok (.iload 5, 2) := by decide +kernel
theorem dX2_takeYears_61 : decode cX2_takeYears 61 = .ok (.ifCond .lt 16, 3) := by decide +kernel
theorem dX2_takeYears_64 : decode cX2_takeYears 64 = .ok (.aload_n 0, 1) := by decide +kernel
theorem dX2_takeYears_65 : decode cX2_takeYears 65 = .ok (.dup, 1) := by decide +kernel
theorem dX2_takeYears_66 : decode cX2_takeYears 66 = .ok (.getfield 113, 3) := by decide +kernel
theorem dX2_takeYears_69 : decode cX2_takeYears 69 = .ok (.iconst 1, 1) := by decide +kernel
theorem dX2_takeYears_70 : decode cX2_takeYears 70 = .ok (.iload 4, 2) := by decide +kernel
theorem dX2_takeYears_72 : decode cX2_takeYears 72 = .ok (.ishl, 1) := by decide +kernel
theorem dX2_takeYears_73 : decode cX2_takeYears 73 = .ok (.ior, 1) := by decide +kernel
theorem dX2_takeYears_74 : decode cX2_takeYears 74 = .ok (.putfield 113, 3) := by decide +kernel
theorem dX2_takeYears_77 : decode cX2_takeYears 77 = .ok (.iinc 4 1, 3) := by decide +kernel
theorem dX2_takeYears_80 : decode cX2_takeYears 80 = .ok (.goto (-72), 3) := by decide +kernel
theorem dX2_takeYears_83 : decode cX2_takeYears 83 = .ok (.iconst 1, 1) := by decide +kernel
theorem dX2_takeYears_84 : decode cX2_takeYears 84 = .ok (.ireturn, 1) := by decide +kernel
theorem dX2_countFits_0 : decode cX2_countFits 0 = .ok (.aload_n 0, 1) := by decide +kernel
theorem dX2_countFits_1 : decode cX2_countFits 1 = .ok (.getfield 12, 3) := by decide +kernel
theorem dX2_countFits_4 : decode cX2_countFits 4 = .ok (.aload_n 1, 1) := by decide +kernel
theorem dX2_countFits_5 : decode cX2_countFits 5 = .ok (.invokevirtual 121, 3) := by decide +kernel
theorem dX2_countFits_8 : decode cX2_countFits 8 = .ok (.iconst 0, 1) := by decide +kernel
theorem dX2_countFits_9 : decode cX2_countFits 9 = .ok (.istore_n 2, 1) := by decide +kernel
theorem dX2_countFits_10 : decode cX2_countFits 10 = .ok (.iconst 0, 1) := by decide +kernel
theorem dX2_countFits_11 : decode cX2_countFits 11 = .ok (.istore_n 3, 1) := by decide +kernel
theorem dX2_countFits_12 : decode cX2_countFits 12 = .ok (.iload_n 3, 1) := by decide +kernel
theorem dX2_countFits_13 : decode cX2_countFits 13 = .ok (.iconst 1, 1) := by decide +kernel
theorem dX2_countFits_14 : decode cX2_countFits 14 = .ok (.aload_n 1, 1) := by decide +kernel
theorem dX2_countFits_15 : decode cX2_countFits 15 = .ok (.getfield 88, 3) := by decide +kernel
theorem dX2_countFits_18 : decode cX2_countFits 18 = .ok (.ishl, 1) := by decide +kernel
theorem dX2_countFits_19 : decode cX2_countFits 19 = .ok (.if_icmp .ge 20, 3) := by decide +kernel
theorem dX2_countFits_22 : decode cX2_countFits 22 = .ok (.aload_n 0, 1) := by decide +kernel
theorem dX2_countFits_23 : decode cX2_countFits 23 = .ok (.iload_n 3, 1) := by decide +kernel
theorem dX2_countFits_24 : decode cX2_countFits 24 = .ok (.invokevirtual 125, 3) := by decide +kernel
theorem dX2_countFits_27 : decode cX2_countFits 27 = .ok (.ifCond .eq 6, 3) := by decide +kernel
theorem dX2_countFits_30 : decode cX2_countFits 30 = .ok (.iinc 2 1, 3) := by decide +kernel
theorem dX2_countFits_33 : decode cX2_countFits 33 = .ok (.iinc 3 1, 3) := by decide +kernel
theorem dX2_countFits_36 : decode cX2_countFits 36 = .ok (.goto (-24), 3) := by decide +kernel
theorem dX2_countFits_39 : decode cX2_countFits 39 = .ok (.iload_n 2, 1) := by decide +kernel
theorem dX2_countFits_40 : decode cX2_countFits 40 = .ok (.ireturn, 1) := by decide +kernel
theorem dX2_fitAt_0 : decode cX2_fitAt 0 = .ok (.aload_n 0, 1) := by decide +kernel
theorem dX2_fitAt_1 : decode cX2_fitAt 1 = .ok (.getfield 12, 3) := by decide +kernel
theorem dX2_fitAt_4 : decode cX2_fitAt 4 = .ok (.aload_n 1, 1) := by decide +kernel
theorem dX2_fitAt_5 : decode cX2_fitAt 5 = .ok (.invokevirtual 121, 3) := by decide +kernel
theorem dX2_fitAt_8 : decode cX2_fitAt 8 = .ok (.iload_n 2, 1) := by decide +kernel
theorem dX2_fitAt_9 : decode cX2_fitAt 9 = .ok (.istore_n 3, 1) := by decide +kernel
theorem dX2_fitAt_10 : decode cX2_fitAt 10 = .ok (.iconst 0, 1) := by decide +kernel
theorem dX2_fitAt_11 : decode cX2_fitAt 11 = .ok (.istore 4, 2) := by decide +kernel
theorem dX2_fitAt_13 : decode cX2_fitAt 13 = .ok (.iload 4, 2) := by decide +kernel
theorem dX2_fitAt_15 : decode cX2_fitAt 15 = .ok (.iconst 1, 1) := by decide +kernel
theorem dX2_fitAt_16 : decode cX2_fitAt 16 = .ok (.aload_n 1, 1) := by decide +kernel
theorem dX2_fitAt_17 : decode cX2_fitAt 17 = .ok (.getfield 88, 3) := by decide +kernel
theorem dX2_fitAt_20 : decode cX2_fitAt 20 = .ok (.ishl, 1) := by decide +kernel
theorem dX2_fitAt_21 : decode cX2_fitAt 21 = .ok (.if_icmp .ge 28, 3) := by decide +kernel
theorem dX2_fitAt_24 : decode cX2_fitAt 24 = .ok (.aload_n 0, 1) := by decide +kernel
theorem dX2_fitAt_25 : decode cX2_fitAt 25 = .ok (.iload 4, 2) := by decide +kernel
theorem dX2_fitAt_27 : decode cX2_fitAt 27 = .ok (.invokevirtual 125, 3) := by decide +kernel
theorem dX2_fitAt_30 : decode cX2_fitAt 30 = .ok (.ifCond .eq 13, 3) := by decide +kernel
theorem dX2_fitAt_33 : decode cX2_fitAt 33 = .ok (.iload_n 3, 1) := by decide +kernel
theorem dX2_fitAt_34 : decode cX2_fitAt 34 = .ok (.ifCond .ne 6, 3) := by decide +kernel
theorem dX2_fitAt_37 : decode cX2_fitAt 37 = .ok (.iload 4, 2) := by decide +kernel
theorem dX2_fitAt_39 : decode cX2_fitAt 39 = .ok (.ireturn, 1) := by decide +kernel
theorem dX2_fitAt_40 : decode cX2_fitAt 40 = .ok (.iinc 3 (-1), 3) := by decide +kernel
theorem dX2_fitAt_43 : decode cX2_fitAt 43 = .ok (.iinc 4 1, 3) := by decide +kernel
theorem dX2_fitAt_46 : decode cX2_fitAt 46 = .ok (.goto (-33), 3) := by decide +kernel
theorem dX2_fitAt_49 : decode cX2_fitAt 49 = .ok (.ldc 58, 2) := by decide +kernel
theorem dX2_fitAt_51 : decode cX2_fitAt 51 = .ok (.ireturn, 1) := by decide +kernel
theorem dX2_isFit_0 : decode cX2_isFit 0 = .ok (.iload_n 1, 1) := by decide +kernel
theorem dX2_isFit_1 : decode cX2_isFit 1 = .ok (.aload_n 0, 1) := by decide +kernel
theorem dX2_isFit_2 : decode cX2_isFit 2 = .ok (.getfield 113, 3) := by decide +kernel
theorem dX2_isFit_5 : decode cX2_isFit 5 = .ok (.iand, 1) := by decide +kernel
theorem dX2_isFit_6 : decode cX2_isFit 6 = .ok (.aload_n 0, 1) := by decide +kernel
theorem dX2_isFit_7 : decode cX2_isFit 7 = .ok (.getfield 113, 3) := by decide +kernel
theorem dX2_isFit_10 : decode cX2_isFit 10 = .ok (.if_icmp .eq 5, 3) := by decide +kernel
theorem dX2_isFit_13 : decode cX2_isFit 13 = .ok (.iconst 0, 1) := by decide +kernel
theorem dX2_isFit_14 : decode cX2_isFit 14 = .ok (.ireturn, 1) := by decide +kernel
theorem dX2_isFit_15 : decode cX2_isFit 15 = .ok (.aload_n 0, 1) := by decide +kernel
theorem dX2_isFit_16 : decode cX2_isFit 16 = .ok (.getfield 12, 3) := by decide +kernel
theorem dX2_isFit_19 : decode cX2_isFit 19 = .ok (.iload_n 1, 1) := by decide +kernel
theorem dX2_isFit_20 : decode cX2_isFit 20 = .ok (.invokevirtual 129, 3) := by decide +kernel
theorem dX2_isFit_23 : decode cX2_isFit 23 = .ok (.iconst 0, 1) := by decide +kernel
theorem dX2_isFit_24 : decode cX2_isFit 24 = .ok (.istore_n 2, 1) := by decide +kernel
theorem dX2_isFit_25 : decode cX2_isFit 25 = .ok (.iload_n 2, 1) := by decide +kernel
theorem dX2_isFit_26 : decode cX2_isFit 26 = .ok (.aload_n 0, 1) := by decide +kernel
theorem dX2_isFit_27 : decode cX2_isFit 27 = .ok (.getfield 12, 3) := by decide +kernel
theorem dX2_isFit_30 : decode cX2_isFit 30 = .ok (.getfield 28, 3) := by decide +kernel
theorem dX2_isFit_33 : decode cX2_isFit 33 = .ok (.if_icmp .gt 39, 3) := by decide +kernel
theorem dX2_isFit_36 : decode cX2_isFit 36 = .ok (.aload_n 0, 1) := by decide +kernel
theorem dX2_isFit_37 : decode cX2_isFit 37 = .ok (.getfield 12, 3) := by decide +kernel
theorem dX2_isFit_40 : decode cX2_isFit 40 = .ok (.invokevirtual 132, 3) := by decide +kernel
theorem dX2_isFit_43 : decode cX2_isFit 43 = .ok (.aload_n 0, 1) := by decide +kernel
theorem dX2_isFit_44 : decode cX2_isFit 44 = .ok (.iload_n 2, 1) := by decide +kernel
theorem dX2_isFit_45 : decode cX2_isFit 45 = .ok (.invokevirtual 135, 3) := by decide +kernel
theorem dX2_isFit_48 : decode cX2_isFit 48 = .ok (.ifCond .ne 5, 3) := by decide +kernel
theorem dX2_isFit_51 : decode cX2_isFit 51 = .ok (.iconst 0, 1) := by decide +kernel
theorem dX2_isFit_52 : decode cX2_isFit 52 = .ok (.ireturn, 1) := by decide +kernel
theorem dX2_isFit_53 : decode cX2_isFit 53 = .ok (.aload_n 0, 1) := by decide +kernel
theorem dX2_isFit_54 : decode cX2_isFit 54 = .ok (.getfield 12, 3) := by decide +kernel
theorem dX2_isFit_57 : decode cX2_isFit 57 = .ok (.dup, 1) := by decide +kernel
theorem dX2_isFit_58 : decode cX2_isFit 58 = .ok (.getfield 138, 3) := by decide +kernel
theorem dX2_isFit_61 : decode cX2_isFit 61 = .ok (.iconst 1, 1) := by decide +kernel
theorem dX2_isFit_62 : decode cX2_isFit 62 = .ok (.iadd, 1) := by decide +kernel
theorem dX2_isFit_63 : decode cX2_isFit 63 = .ok (.putfield 138, 3) := by decide +kernel
theorem dX2_isFit_66 : decode cX2_isFit 66 = .ok (.iinc 2 1, 3) := by decide +kernel
theorem dX2_isFit_69 : decode cX2_isFit 69 = .ok (.goto (-44), 3) := by decide +kernel
theorem dX2_isFit_72 : decode cX2_isFit 72 = .ok (.iconst 1, 1) := by decide +kernel
theorem dX2_isFit_73 : decode cX2_isFit 73 = .ok (.ireturn, 1) := by decide +kernel
theorem dX2_hasSoldJustSo_0 : decode cX2_hasSoldJustSo 0 = .ok (.iconst 0, 1) := by decide +kernel
theorem dX2_hasSoldJustSo_1 : decode cX2_hasSoldJustSo 1 = .ok (.istore_n 2, 1) := by decide +kernel
theorem dX2_hasSoldJustSo_2 : decode cX2_hasSoldJustSo 2 = .ok (.iload_n 2, 1) := by decide +kernel
theorem dX2_hasSoldJustSo_3 : decode cX2_hasSoldJustSo 3 = .ok (.aload_n 0, 1) := by decide +kernel
theorem dX2_hasSoldJustSo_4 : decode cX2_hasSoldJustSo 4 = .ok (.getfield 12, 3) := by decide +kernel
theorem dX2_hasSoldJustSo_7 : decode cX2_hasSoldJustSo 7 = .ok (.getfield 88, 3) := by decide +kernel
theorem dX2_hasSoldJustSo_10 : decode cX2_hasSoldJustSo 10 = .ok (.if_icmp .ge 63, 3) := by decide +kernel
theorem dX2_hasSoldJustSo_13 : decode cX2_hasSoldJustSo 13 = .ok (.iload_n 2, 1) := by decide +kernel
theorem dX2_hasSoldJustSo_14 : decode cX2_hasSoldJustSo 14 = .ok (.bipush 6, 2) := by decide +kernel
theorem dX2_hasSoldJustSo_16 : decode cX2_hasSoldJustSo 16 = .ok (.if_icmp .ge 57, 3) := by decide +kernel
theorem dX2_hasSoldJustSo_19 : decode cX2_hasSoldJustSo 19 = .ok (.aload_n 0, 1) := by decide +kernel
theorem dX2_hasSoldJustSo_20 : decode cX2_hasSoldJustSo 20 = .ok (.getfield 25, 3) := by decide +kernel
theorem dX2_hasSoldJustSo_23 : decode cX2_hasSoldJustSo 23 = .ok (.iload_n 2, 1) := by decide +kernel
theorem dX2_hasSoldJustSo_24 : decode cX2_hasSoldJustSo 24 = .ok (.iaload, 1) := by decide +kernel
theorem dX2_hasSoldJustSo_25 : decode cX2_hasSoldJustSo 25 = .ok (.ifCond .lt 17, 3) := by decide +kernel
theorem dX2_hasSoldJustSo_28 : decode cX2_hasSoldJustSo 28 = .ok (.aload_n 0, 1) := by decide +kernel
theorem dX2_hasSoldJustSo_29 : decode cX2_hasSoldJustSo 29 = .ok (.getfield 25, 3) := by decide +kernel
theorem dX2_hasSoldJustSo_32 : decode cX2_hasSoldJustSo 32 = .ok (.iload_n 2, 1) := by decide +kernel
theorem dX2_hasSoldJustSo_33 : decode cX2_hasSoldJustSo 33 = .ok (.iaload, 1) := by decide +kernel
theorem dX2_hasSoldJustSo_34 : decode cX2_hasSoldJustSo 34 = .ok (.iload_n 1, 1) := by decide +kernel
theorem dX2_hasSoldJustSo_35 : decode cX2_hasSoldJustSo 35 = .ok (.if_icmp .gt 7, 3) := by decide +kernel
theorem dX2_hasSoldJustSo_38 : decode cX2_hasSoldJustSo 38 = .ok (.iconst 1, 1) := by decide +kernel
theorem dX2_hasSoldJustSo_39 : decode cX2_hasSoldJustSo 39 = .ok (.goto 4, 3) := by decide +kernel
theorem dX2_hasSoldJustSo_42 : decode cX2_hasSoldJustSo 42 = .ok (.iconst 0, 1) := by decide +kernel
theorem dX2_hasSoldJustSo_43 : decode cX2_hasSoldJustSo 43 = .ok (.istore_n 3, 1) := by decide +kernel
theorem dX2_hasSoldJustSo_44 : decode cX2_hasSoldJustSo 44 = .ok (.iload_n 3, 1) := by decide +kernel
theorem dX2_hasSoldJustSo_45 : decode cX2_hasSoldJustSo 45 = .ok (.aload_n 0, 1) := by decide +kernel
theorem dX2_hasSoldJustSo_46 : decode cX2_hasSoldJustSo 46 = .ok (.getfield 12, 3) := by decide +kernel
theorem dX2_hasSoldJustSo_49 : decode cX2_hasSoldJustSo 49 = .ok (.iload_n 2, 1) := by decide +kernel
theorem dX2_hasSoldJustSo_50 : decode cX2_hasSoldJustSo 50 = .ok (.invokevirtual 141, 3) := by decide +kernel
theorem dX2_hasSoldJustSo_53 : decode cX2_hasSoldJustSo 53 = .ok (.iconst 1, 1) := by decide +kernel
theorem dX2_hasSoldJustSo_54 : decode cX2_hasSoldJustSo 54 = .ok (.if_icmp .ne 7, 3) := by decide +kernel
theorem dX2_hasSoldJustSo_57 : decode cX2_hasSoldJustSo 57 = .ok (.iconst 1, 1) := by decide +kernel
theorem dX2_hasSoldJustSo_58 : decode cX2_hasSoldJustSo 58 = .ok (.goto 4, 3) := by decide +kernel
theorem dX2_hasSoldJustSo_61 : decode cX2_hasSoldJustSo 61 = .ok (.iconst 0, 1) := by decide +kernel
theorem dX2_hasSoldJustSo_62 : decode cX2_hasSoldJustSo 62 = .ok (.if_icmp .eq 5, 3) := by decide +kernel
theorem dX2_hasSoldJustSo_65 : decode cX2_hasSoldJustSo 65 = .ok (.iconst 0, 1) := by decide +kernel
theorem dX2_hasSoldJustSo_66 : decode cX2_hasSoldJustSo 66 = .ok (.ireturn, 1) := by decide +kernel
theorem dX2_hasSoldJustSo_67 : decode cX2_hasSoldJustSo 67 = .ok (.iinc 2 1, 3) := by decide +kernel
theorem dX2_hasSoldJustSo_70 : decode cX2_hasSoldJustSo 70 = .ok (.goto (-68), 3) := by decide +kernel
theorem dX2_hasSoldJustSo_73 : decode cX2_hasSoldJustSo 73 = .ok (.iconst 1, 1) := by decide +kernel
theorem dX2_hasSoldJustSo_74 : decode cX2_hasSoldJustSo 74 = .ok (.ireturn, 1) := by decide +kernel
theorem dX2_earnedByLaw_0 : decode cX2_earnedByLaw 0 = .ok (.aload_n 0, 1) := by decide +kernel
theorem dX2_earnedByLaw_1 : decode cX2_earnedByLaw 1 = .ok (.getfield 12, 3) := by decide +kernel
theorem dX2_earnedByLaw_4 : decode cX2_earnedByLaw 4 = .ok (.aload_n 1, 1) := by decide +kernel
theorem dX2_earnedByLaw_5 : decode cX2_earnedByLaw 5 = .ok (.invokevirtual 121, 3) := by decide +kernel
theorem dX2_earnedByLaw_8 : decode cX2_earnedByLaw 8 = .ok (.aload_n 0, 1) := by decide +kernel
theorem dX2_earnedByLaw_9 : decode cX2_earnedByLaw 9 = .ok (.getfield 12, 3) := by decide +kernel
theorem dX2_earnedByLaw_12 : decode cX2_earnedByLaw 12 = .ok (.iload_n 2, 1) := by decide +kernel
theorem dX2_earnedByLaw_13 : decode cX2_earnedByLaw 13 = .ok (.putfield 144, 3) := by decide +kernel
theorem dX2_earnedByLaw_16 : decode cX2_earnedByLaw 16 = .ok (.aload_n 0, 1) := by decide +kernel
theorem dX2_earnedByLaw_17 : decode cX2_earnedByLaw 17 = .ok (.getfield 12, 3) := by decide +kernel
theorem dX2_earnedByLaw_20 : decode cX2_earnedByLaw 20 = .ok (.iconst 0, 1) := by decide +kernel
theorem dX2_earnedByLaw_21 : decode cX2_earnedByLaw 21 = .ok (.putfield 46, 3) := by decide +kernel
theorem dX2_earnedByLaw_24 : decode cX2_earnedByLaw 24 = .ok (.aload_n 0, 1) := by decide +kernel
theorem dX2_earnedByLaw_25 : decode cX2_earnedByLaw 25 = .ok (.getfield 12, 3) := by decide +kernel
theorem dX2_earnedByLaw_28 : decode cX2_earnedByLaw 28 = .ok (.invokevirtual 147, 3) := by decide +kernel
theorem dX2_earnedByLaw_31 : decode cX2_earnedByLaw 31 = .ok (.aload_n 0, 1) := by decide +kernel
theorem dX2_earnedByLaw_32 : decode cX2_earnedByLaw 32 = .ok (.getfield 12, 3) := by decide +kernel
theorem dX2_earnedByLaw_35 : decode cX2_earnedByLaw 35 = .ok (.aload_n 0, 1) := by decide +kernel
theorem dX2_earnedByLaw_36 : decode cX2_earnedByLaw 36 = .ok (.getfield 12, 3) := by decide +kernel
theorem dX2_earnedByLaw_39 : decode cX2_earnedByLaw 39 = .ok (.getfield 28, 3) := by decide +kernel
theorem dX2_earnedByLaw_42 : decode cX2_earnedByLaw 42 = .ok (.iconst 1, 1) := by decide +kernel
theorem dX2_earnedByLaw_43 : decode cX2_earnedByLaw 43 = .ok (.iadd, 1) := by decide +kernel
theorem dX2_earnedByLaw_44 : decode cX2_earnedByLaw 44 = .ok (.iconst 1, 1) := by decide +kernel
theorem dX2_earnedByLaw_45 : decode cX2_earnedByLaw 45 = .ok (.invokevirtual 150, 3) := by decide +kernel
theorem dX2_earnedByLaw_48 : decode cX2_earnedByLaw 48 = .ok (.aload_n 0, 1) := by decide +kernel
theorem dX2_earnedByLaw_49 : decode cX2_earnedByLaw 49 = .ok (.getfield 12, 3) := by decide +kernel
theorem dX2_earnedByLaw_52 : decode cX2_earnedByLaw 52 = .ok (.invokevirtual 153, 3) := by decide +kernel
theorem dX2_earnedByLaw_55 : decode cX2_earnedByLaw 55 = .ok (.ireturn, 1) := by decide +kernel
theorem dX3_init_0 : decode cX3_init 0 = .ok (.aload_n 0, 1) := by decide +kernel
theorem dX3_init_1 : decode cX3_init 1 = .ok (.invokespecial 1, 3) := by decide +kernel
theorem dX3_init_4 : decode cX3_init 4 = .ok (.aload_n 0, 1) := by decide +kernel
theorem dX3_init_5 : decode cX3_init 5 = .ok (.iload_n 1, 1) := by decide +kernel
theorem dX3_init_6 : decode cX3_init 6 = .ok (.putfield 7, 3) := by decide +kernel
theorem dX3_init_9 : decode cX3_init 9 = .ok (.aload_n 0, 1) := by decide +kernel
theorem dX3_init_10 : decode cX3_init 10 = .ok (.iload_n 2, 1) := by decide +kernel
theorem dX3_init_11 : decode cX3_init 11 = .ok (.putfield 13, 3) := by decide +kernel
theorem dX3_init_14 : decode cX3_init 14 = .ok (.aload_n 0, 1) := by decide +kernel
theorem dX3_init_15 : decode cX3_init 15 = .ok (.iload_n 3, 1) := by decide +kernel
theorem dX3_init_16 : decode cX3_init 16 = .ok (.putfield 16, 3) := by decide +kernel
theorem dX3_init_19 : decode cX3_init 19 = .ok (.return_, 1) := by decide +kernel
theorem dX3_ofKind_0 : decode cX3_ofKind 0 = .ok (.iload_n 0, 1) := by decide +kernel
theorem dX3_ofKind_1 : decode cX3_ofKind 1 = .ok (.tableswitch 75 1 4 #[31, 42, 53, 64], 31) := by decide +kernel
theorem dX3_ofKind_32 : decode cX3_ofKind 32 = .ok (.new 19, 3) := by decide +kernel
theorem dX3_ofKind_35 : decode cX3_ofKind 35 = .ok (.dup, 1) := by decide +kernel
theorem dX3_ofKind_36 : decode cX3_ofKind 36 = .ok (.iload_n 1, 1) := by decide +kernel
theorem dX3_ofKind_37 : decode cX3_ofKind 37 = .ok (.iload_n 2, 1) := by decide +kernel
theorem dX3_ofKind_38 : decode cX3_ofKind 38 = .ok (.iload_n 3, 1) := by decide +kernel
theorem dX3_ofKind_39 : decode cX3_ofKind 39 = .ok (.invokespecial 21, 3) := by decide +kernel
theorem dX3_ofKind_42 : decode cX3_ofKind 42 = .ok (.areturn, 1) := by decide +kernel
theorem dX3_ofKind_43 : decode cX3_ofKind 43 = .ok (.new 24, 3) := by decide +kernel
theorem dX3_ofKind_46 : decode cX3_ofKind 46 = .ok (.dup, 1) := by decide +kernel
theorem dX3_ofKind_47 : decode cX3_ofKind 47 = .ok (.iload_n 1, 1) := by decide +kernel
theorem dX3_ofKind_48 : decode cX3_ofKind 48 = .ok (.iload_n 2, 1) := by decide +kernel
theorem dX3_ofKind_49 : decode cX3_ofKind 49 = .ok (.iload_n 3, 1) := by decide +kernel
theorem dX3_ofKind_50 : decode cX3_ofKind 50 = .ok (.invokespecial 26, 3) := by decide +kernel
theorem dX3_ofKind_53 : decode cX3_ofKind 53 = .ok (.areturn, 1) := by decide +kernel
theorem dX3_ofKind_54 : decode cX3_ofKind 54 = .ok (.new 27, 3) := by decide +kernel
theorem dX3_ofKind_57 : decode cX3_ofKind 57 = .ok (.dup, 1) := by decide +kernel
theorem dX3_ofKind_58 : decode cX3_ofKind 58 = .ok (.iload_n 1, 1) := by decide +kernel
theorem dX3_ofKind_59 : decode cX3_ofKind 59 = .ok (.iload_n 2, 1) := by decide +kernel
theorem dX3_ofKind_60 : decode cX3_ofKind 60 = .ok (.iload_n 3, 1) := by decide +kernel
theorem dX3_ofKind_61 : decode cX3_ofKind 61 = .ok (.invokespecial 29, 3) := by decide +kernel
theorem dX3_ofKind_64 : decode cX3_ofKind 64 = .ok (.areturn, 1) := by decide +kernel
theorem dX3_ofKind_65 : decode cX3_ofKind 65 = .ok (.new 30, 3) := by decide +kernel
theorem dX3_ofKind_68 : decode cX3_ofKind 68 = .ok (.dup, 1) := by decide +kernel
theorem dX3_ofKind_69 : decode cX3_ofKind 69 = .ok (.iload_n 1, 1) := by decide +kernel
theorem dX3_ofKind_70 : decode cX3_ofKind 70 = .ok (.iload_n 2, 1) := by decide +kernel
theorem dX3_ofKind_71 : decode cX3_ofKind 71 = .ok (.iload_n 3, 1) := by decide +kernel
theorem dX3_ofKind_72 : decode cX3_ofKind 72 = .ok (.invokespecial 32, 3) := by decide +kernel
theorem dX3_ofKind_75 : decode cX3_ofKind 75 = .ok (.areturn, 1) := by decide +kernel
theorem dX3_ofKind_76 : decode cX3_ofKind 76 = .ok (.new 33, 3) := by decide +kernel
theorem dX3_ofKind_79 : decode cX3_ofKind 79 = .ok (.dup, 1) := by decide +kernel
theorem dX3_ofKind_80 : decode cX3_ofKind 80 = .ok (.iload_n 1, 1) := by decide +kernel
theorem dX3_ofKind_81 : decode cX3_ofKind 81 = .ok (.iload_n 2, 1) := by decide +kernel
theorem dX3_ofKind_82 : decode cX3_ofKind 82 = .ok (.iload_n 3, 1) := by decide +kernel
theorem dX3_ofKind_83 : decode cX3_ofKind 83 = .ok (.invokespecial 35, 3) := by decide +kernel
theorem dX3_ofKind_86 : decode cX3_ofKind 86 = .ok (.areturn, 1) := by decide +kernel
theorem dX3_isOf_0 : decode cX3_isOf 0 = .ok (.iload_n 1, 1) := by decide +kernel
theorem dX3_isOf_1 : decode cX3_isOf 1 = .ok (.ifCond .eq 11, 3) := by decide +kernel
theorem dX3_isOf_4 : decode cX3_isOf 4 = .ok (.iload_n 1, 1) := by decide +kernel
theorem dX3_isOf_5 : decode cX3_isOf 5 = .ok (.aload_n 0, 1) := by decide +kernel
theorem dX3_isOf_6 : decode cX3_isOf 6 = .ok (.invokevirtual 36, 3) := by decide +kernel
theorem dX3_isOf_9 : decode cX3_isOf 9 = .ok (.if_icmp .ne 7, 3) := by decide +kernel
theorem dX3_isOf_12 : decode cX3_isOf 12 = .ok (.iconst 1, 1) := by decide +kernel
theorem dX3_isOf_13 : decode cX3_isOf 13 = .ok (.goto 4, 3) := by decide +kernel
theorem dX3_isOf_16 : decode cX3_isOf 16 = .ok (.iconst 0, 1) := by decide +kernel
theorem dX3_isOf_17 : decode cX3_isOf 17 = .ok (.ireturn, 1) := by decide +kernel
theorem dX3_sizeAsked_0 : decode cX3_sizeAsked 0 = .ok (.aload_n 2, 1) := by decide +kernel
theorem dX3_sizeAsked_1 : decode cX3_sizeAsked 1 = .ok (.bipush 10, 2) := by decide +kernel
theorem dX3_sizeAsked_3 : decode cX3_sizeAsked 3 = .ok (.invokevirtual 40, 3) := by decide +kernel
theorem dX3_sizeAsked_6 : decode cX3_sizeAsked 6 = .ok (.aload_n 1, 1) := by decide +kernel
theorem dX3_sizeAsked_7 : decode cX3_sizeAsked 7 = .ok (.aload_n 0, 1) := by decide +kernel
theorem dX3_sizeAsked_8 : decode cX3_sizeAsked 8 = .ok (.getfield 7, 3) := by decide +kernel
theorem dX3_sizeAsked_11 : decode cX3_sizeAsked 11 = .ok (.invokevirtual 46, 3) := by decide +kernel
theorem dX3_sizeAsked_14 : decode cX3_sizeAsked 14 = .ok (.ireturn, 1) := by decide +kernel
theorem dX3_markAsked_0 : decode cX3_markAsked 0 = .ok (.aload_n 2, 1) := by decide +kernel
theorem dX3_markAsked_1 : decode cX3_markAsked 1 = .ok (.bipush 20, 2) := by decide +kernel
theorem dX3_markAsked_3 : decode cX3_markAsked 3 = .ok (.invokevirtual 40, 3) := by decide +kernel
theorem dX3_markAsked_6 : decode cX3_markAsked 6 = .ok (.aload_n 0, 1) := by decide +kernel
theorem dX3_markAsked_7 : decode cX3_markAsked 7 = .ok (.getfield 7, 3) := by decide +kernel
theorem dX3_markAsked_10 : decode cX3_markAsked 10 = .ok (.ireturn, 1) := by decide +kernel
theorem dX4_init_0 : decode cX4_init 0 = .ok (.aload_n 0, 1) := by decide +kernel
theorem dX4_init_1 : decode cX4_init 1 = .ok (.invokespecial 3, 3) := by decide +kernel
theorem dX4_init_4 : decode cX4_init 4 = .ok (.aload_n 0, 1) := by decide +kernel
theorem dX4_init_5 : decode cX4_init 5 = .ok (.bipush 8, 2) := by decide +kernel
theorem dX4_init_7 : decode cX4_init 7 = .ok (.newarray .int, 2) := by decide +kernel
theorem dX4_init_9 : decode cX4_init 9 = .ok (.putfield 11, 3) := by decide +kernel
theorem dX4_init_12 : decode cX4_init 12 = .ok (.aload_n 0, 1) := by decide +kernel
theorem dX4_init_13 : decode cX4_init 13 = .ok (.bipush 8, 2) := by decide +kernel
theorem dX4_init_15 : decode cX4_init 15 = .ok (.newarray .int, 2) := by decide +kernel
theorem dX4_init_17 : decode cX4_init 17 = .ok (.putfield 15, 3) := by decide +kernel
theorem dX4_init_20 : decode cX4_init 20 = .ok (.aload_n 0, 1) := by decide +kernel
theorem dX4_init_21 : decode cX4_init 21 = .ok (.bipush 6, 2) := by decide +kernel
theorem dX4_init_23 : decode cX4_init 23 = .ok (.anewarray 18, 3) := by decide +kernel
theorem dX4_init_26 : decode cX4_init 26 = .ok (.putfield 20, 3) := by decide +kernel
theorem dX4_init_29 : decode cX4_init 29 = .ok (.aload_n 0, 1) := by decide +kernel
theorem dX4_init_30 : decode cX4_init 30 = .ok (.bipush 8, 2) := by decide +kernel
theorem dX4_init_32 : decode cX4_init 32 = .ok (.newarray .int, 2) := by decide +kernel
theorem dX4_init_34 : decode cX4_init 34 = .ok (.putfield 24, 3) := by decide +kernel
theorem dX4_init_37 : decode cX4_init 37 = .ok (.aload_n 0, 1) := by decide +kernel
theorem dX4_init_38 : decode cX4_init 38 = .ok (.bipush 8, 2) := by decide +kernel
theorem dX4_init_40 : decode cX4_init 40 = .ok (.newarray .int, 2) := by decide +kernel
theorem dX4_init_42 : decode cX4_init 42 = .ok (.putfield 27, 3) := by decide +kernel
theorem dX4_init_45 : decode cX4_init 45 = .ok (.aload_n 0, 1) := by decide +kernel
theorem dX4_init_46 : decode cX4_init 46 = .ok (.bipush 48, 2) := by decide +kernel
theorem dX4_init_48 : decode cX4_init 48 = .ok (.newarray .int, 2) := by decide +kernel
theorem dX4_init_50 : decode cX4_init 50 = .ok (.putfield 30, 3) := by decide +kernel
theorem dX4_init_53 : decode cX4_init 53 = .ok (.aload_n 0, 1) := by decide +kernel
theorem dX4_init_54 : decode cX4_init 54 = .ok (.bipush 6, 2) := by decide +kernel
theorem dX4_init_56 : decode cX4_init 56 = .ok (.newarray .int, 2) := by decide +kernel
theorem dX4_init_58 : decode cX4_init 58 = .ok (.putfield 33, 3) := by decide +kernel
theorem dX4_init_61 : decode cX4_init 61 = .ok (.aload_n 0, 1) := by decide +kernel
theorem dX4_init_62 : decode cX4_init 62 = .ok (.bipush 6, 2) := by decide +kernel
theorem dX4_init_64 : decode cX4_init 64 = .ok (.newarray .int, 2) := by decide +kernel
theorem dX4_init_66 : decode cX4_init 66 = .ok (.putfield 36, 3) := by decide +kernel
theorem dX4_init_69 : decode cX4_init 69 = .ok (.aload_n 0, 1) := by decide +kernel
theorem dX4_init_70 : decode cX4_init 70 = .ok (.bipush 8, 2) := by decide +kernel
theorem dX4_init_72 : decode cX4_init 72 = .ok (.newarray .int, 2) := by decide +kernel
theorem dX4_init_74 : decode cX4_init 74 = .ok (.putfield 39, 3) := by decide +kernel
theorem dX4_init_77 : decode cX4_init 77 = .ok (.aload_n 0, 1) := by decide +kernel
theorem dX4_init_78 : decode cX4_init 78 = .ok (.bipush 8, 2) := by decide +kernel
theorem dX4_init_80 : decode cX4_init 80 = .ok (.newarray .int, 2) := by decide +kernel
theorem dX4_init_82 : decode cX4_init 82 = .ok (.putfield 42, 3) := by decide +kernel
theorem dX4_init_85 : decode cX4_init 85 = .ok (.return_, 1) := by decide +kernel
theorem dX4_isTold_0 : decode cX4_isTold 0 = .ok (.aload_n 0, 1) := by decide +kernel
theorem dX4_isTold_1 : decode cX4_isTold 1 = .ok (.getfield 45, 3) := by decide +kernel
theorem dX4_isTold_4 : decode cX4_isTold 4 = .ok (.ifCond .le 7, 3) := by decide +kernel
theorem dX4_isTold_7 : decode cX4_isTold 7 = .ok (.iconst 1, 1) := by decide +kernel
theorem dX4_isTold_8 : decode cX4_isTold 8 = .ok (.goto 4, 3) := by decide +kernel
theorem dX4_isTold_11 : decode cX4_isTold 11 = .ok (.iconst 0, 1) := by decide +kernel
theorem dX4_isTold_12 : decode cX4_isTold 12 = .ok (.ireturn, 1) := by decide +kernel
theorem dX4_isKeeper_0 : decode cX4_isKeeper 0 = .ok (.iload_n 1, 1) := by decide +kernel
theorem dX4_isKeeper_1 : decode cX4_isKeeper 1 = .ok (.ifCond .lt 21, 3) := by decide +kernel
theorem dX4_isKeeper_4 : decode cX4_isKeeper 4 = .ok (.iload_n 1, 1) := by decide +kernel
theorem dX4_isKeeper_5 : decode cX4_isKeeper 5 = .ok (.aload_n 0, 1) := by decide +kernel
theorem dX4_isKeeper_6 : decode cX4_isKeeper 6 = .ok (.getfield 45, 3) := by decide +kernel
theorem dX4_isKeeper_9 : decode cX4_isKeeper 9 = .ok (.if_icmp .ge 13, 3) := by decide +kernel
theorem dX4_isKeeper_12 : decode cX4_isKeeper 12 = .ok (.iload_n 1, 1) := by decide +kernel
theorem dX4_isKeeper_13 : decode cX4_isKeeper 13 = .ok (.bipush 6, 2) := by decide +kernel
theorem dX4_isKeeper_15 : decode cX4_isKeeper 15 = .ok (.if_icmp .ge 7, 3) := by decide +kernel
theorem dX4_isKeeper_18 : decode cX4_isKeeper 18 = .ok (.iconst 1, 1) := by decide +kernel
theorem dX4_isKeeper_19 : decode cX4_isKeeper 19 = .ok (.goto 4, 3) := by decide +kernel
theorem dX4_isKeeper_22 : decode cX4_isKeeper 22 = .ok (.iconst 0, 1) := by decide +kernel
theorem dX4_isKeeper_23 : decode cX4_isKeeper 23 = .ok (.ireturn, 1) := by decide +kernel
theorem dX4_isPiece_0 : decode cX4_isPiece 0 = .ok (.iload_n 1, 1) := by decide +kernel
theorem dX4_isPiece_1 : decode cX4_isPiece 1 = .ok (.ifCond .lt 21, 3) := by decide +kernel
theorem dX4_isPiece_4 : decode cX4_isPiece 4 = .ok (.iload_n 1, 1) := by decide +kernel
theorem dX4_isPiece_5 : decode cX4_isPiece 5 = .ok (.aload_n 0, 1) := by decide +kernel
theorem dX4_isPiece_6 : decode cX4_isPiece 6 = .ok (.getfield 49, 3) := by decide +kernel
theorem dX4_isPiece_9 : decode cX4_isPiece 9 = .ok (.if_icmp .ge 13, 3) := by decide +kernel
theorem dX4_isPiece_12 : decode cX4_isPiece 12 = .ok (.iload_n 1, 1) := by decide +kernel
theorem dX4_isPiece_13 : decode cX4_isPiece 13 = .ok (.bipush 8, 2) := by decide +kernel
theorem dX4_isPiece_15 : decode cX4_isPiece 15 = .ok (.if_icmp .ge 7, 3) := by decide +kernel
theorem dX4_isPiece_18 : decode cX4_isPiece 18 = .ok (.iconst 1, 1) := by decide +kernel
theorem dX4_isPiece_19 : decode cX4_isPiece 19 = .ok (.goto 4, 3) := by decide +kernel
theorem dX4_isPiece_22 : decode cX4_isPiece 22 = .ok (.iconst 0, 1) := by decide +kernel
theorem dX4_isPiece_23 : decode cX4_isPiece 23 = .ok (.ireturn, 1) := by decide +kernel
theorem dX4_forget_0 : decode cX4_forget 0 = .ok (.aload_n 0, 1) := by decide +kernel
theorem dX4_forget_1 : decode cX4_forget 1 = .ok (.iconst 0, 1) := by decide +kernel
theorem dX4_forget_2 : decode cX4_forget 2 = .ok (.putfield 52, 3) := by decide +kernel
theorem dX4_forget_5 : decode cX4_forget 5 = .ok (.aload_n 0, 1) := by decide +kernel
theorem dX4_forget_6 : decode cX4_forget 6 = .ok (.iconst 0, 1) := by decide +kernel
theorem dX4_forget_7 : decode cX4_forget 7 = .ok (.putfield 45, 3) := by decide +kernel
theorem dX4_forget_10 : decode cX4_forget 10 = .ok (.aload_n 0, 1) := by decide +kernel
theorem dX4_forget_11 : decode cX4_forget 11 = .ok (.iconst 0, 1) := by decide +kernel
theorem dX4_forget_12 : decode cX4_forget 12 = .ok (.putfield 49, 3) := by decide +kernel
theorem dX4_forget_15 : decode cX4_forget 15 = .ok (.return_, 1) := by decide +kernel
theorem dX4_addPoint_0 : decode cX4_addPoint 0 = .ok (.aload_n 0, 1) := by decide +kernel
theorem dX4_addPoint_1 : decode cX4_addPoint 1 = .ok (.getfield 52, 3) := by decide +kernel
theorem dX4_addPoint_4 : decode cX4_addPoint 4 = .ok (.ifCond .lt 42, 3) := by decide +kernel
theorem dX4_addPoint_7 : decode cX4_addPoint 7 = .ok (.aload_n 0, 1) := by decide +kernel
theorem dX4_addPoint_8 : decode cX4_addPoint 8 = .ok (.getfield 52, 3) := by decide +kernel
theorem dX4_addPoint_11 : decode cX4_addPoint 11 = .ok (.bipush 8, 2) := by decide +kernel
theorem dX4_addPoint_13 : decode cX4_addPoint 13 = .ok (.if_icmp .ge 33, 3) := by decide +kernel
theorem dX4_addPoint_16 : decode cX4_addPoint 16 = .ok (.aload_n 0, 1) := by decide +kernel
theorem dX4_addPoint_17 : decode cX4_addPoint 17 = .ok (.getfield 11, 3) := by decide +kernel
theorem dX4_addPoint_20 : decode cX4_addPoint 20 = .ok (.aload_n 0, 1) := by decide +kernel
theorem dX4_addPoint_21 : decode cX4_addPoint 21 = .ok (.getfield 52, 3) := by decide +kernel
theorem dX4_addPoint_24 : decode cX4_addPoint 24 = .ok (.iload_n 1, 1) := by decide +kernel
theorem dX4_addPoint_25 : decode cX4_addPoint 25 = .ok (.iastore, 1) := by decide +kernel
theorem dX4_addPoint_26 : decode cX4_addPoint 26 = .ok (.aload_n 0, 1) := by decide +kernel
theorem dX4_addPoint_27 : decode cX4_addPoint 27 = .ok (.getfield 15, 3) := by decide +kernel
theorem dX4_addPoint_30 : decode cX4_addPoint 30 = .ok (.aload_n 0, 1) := by decide +kernel
theorem dX4_addPoint_31 : decode cX4_addPoint 31 = .ok (.getfield 52, 3) := by decide +kernel
theorem dX4_addPoint_34 : decode cX4_addPoint 34 = .ok (.iload_n 2, 1) := by decide +kernel
theorem dX4_addPoint_35 : decode cX4_addPoint 35 = .ok (.iastore, 1) := by decide +kernel
theorem dX4_addPoint_36 : decode cX4_addPoint 36 = .ok (.aload_n 0, 1) := by decide +kernel
theorem dX4_addPoint_37 : decode cX4_addPoint 37 = .ok (.dup, 1) := by decide +kernel
theorem dX4_addPoint_38 : decode cX4_addPoint 38 = .ok (.getfield 52, 3) := by decide +kernel
theorem dX4_addPoint_41 : decode cX4_addPoint 41 = .ok (.iconst 1, 1) := by decide +kernel
theorem dX4_addPoint_42 : decode cX4_addPoint 42 = .ok (.iadd, 1) := by decide +kernel
theorem dX4_addPoint_43 : decode cX4_addPoint 43 = .ok (.putfield 52, 3) := by decide +kernel
theorem dX4_addPoint_46 : decode cX4_addPoint 46 = .ok (.return_, 1) := by decide +kernel
theorem dX4_addKeeper_0 : decode cX4_addKeeper 0 = .ok (.aload_n 0, 1) := by decide +kernel
theorem dX4_addKeeper_1 : decode cX4_addKeeper 1 = .ok (.getfield 45, 3) := by decide +kernel
theorem dX4_addKeeper_4 : decode cX4_addKeeper 4 = .ok (.ifCond .lt 32, 3) := by decide +kernel
theorem dX4_addKeeper_7 : decode cX4_addKeeper 7 = .ok (.aload_n 0, 1) := by decide +kernel
theorem dX4_addKeeper_8 : decode cX4_addKeeper 8 = .ok (.getfield 45, 3) := by decide +kernel
theorem dX4_addKeeper_11 : decode cX4_addKeeper 11 = .ok (.bipush 6, 2) := by decide +kernel
theorem dX4_addKeeper_13 : decode cX4_addKeeper 13 = .ok (.if_icmp .ge 23, 3) := by decide +kernel
theorem dX4_addKeeper_16 : decode cX4_addKeeper 16 = .ok (.aload_n 0, 1) := by decide +kernel
theorem dX4_addKeeper_17 : decode cX4_addKeeper 17 = .ok (.getfield 20, 3) := by decide +kernel
theorem dX4_addKeeper_20 : decode cX4_addKeeper 20 = .ok (.aload_n 0, 1) := by decide +kernel
theorem dX4_addKeeper_21 : decode cX4_addKeeper 21 = .ok (.getfield 45, 3) := by decide +kernel
theorem dX4_addKeeper_24 : decode cX4_addKeeper 24 = .ok (.aload_n 1, 1) := by decide +kernel
theorem dX4_addKeeper_25 : decode cX4_addKeeper 25 = .ok (.aastore, 1) := by decide +kernel
theorem dX4_addKeeper_26 : decode cX4_addKeeper 26 = .ok (.aload_n 0, 1) := by decide +kernel
theorem dX4_addKeeper_27 : decode cX4_addKeeper 27 = .ok (.dup, 1) := by decide +kernel
theorem dX4_addKeeper_28 : decode cX4_addKeeper 28 = .ok (.getfield 45, 3) := by decide +kernel
theorem dX4_addKeeper_31 : decode cX4_addKeeper 31 = .ok (.iconst 1, 1) := by decide +kernel
theorem dX4_addKeeper_32 : decode cX4_addKeeper 32 = .ok (.iadd, 1) := by decide +kernel
theorem dX4_addKeeper_33 : decode cX4_addKeeper 33 = .ok (.putfield 45, 3) := by decide +kernel
theorem dX4_addKeeper_36 : decode cX4_addKeeper 36 = .ok (.return_, 1) := by decide +kernel
theorem dX4_addPiece_0 : decode cX4_addPiece 0 = .ok (.aload_n 0, 1) := by decide +kernel
theorem dX4_addPiece_1 : decode cX4_addPiece 1 = .ok (.getfield 49, 3) := by decide +kernel
theorem dX4_addPiece_4 : decode cX4_addPiece 4 = .ok (.ifCond .lt 42, 3) := by decide +kernel
theorem dX4_addPiece_7 : decode cX4_addPiece 7 = .ok (.aload_n 0, 1) := by decide +kernel
theorem dX4_addPiece_8 : decode cX4_addPiece 8 = .ok (.getfield 49, 3) := by decide +kernel
theorem dX4_addPiece_11 : decode cX4_addPiece 11 = .ok (.bipush 8, 2) := by decide +kernel
theorem dX4_addPiece_13 : decode cX4_addPiece 13 = .ok (.if_icmp .ge 33, 3) := by decide +kernel
theorem dX4_addPiece_16 : decode cX4_addPiece 16 = .ok (.aload_n 0, 1) := by decide +kernel
theorem dX4_addPiece_17 : decode cX4_addPiece 17 = .ok (.getfield 24, 3) := by decide +kernel
theorem dX4_addPiece_20 : decode cX4_addPiece 20 = .ok (.aload_n 0, 1) := by decide +kernel
theorem dX4_addPiece_21 : decode cX4_addPiece 21 = .ok (.getfield 49, 3) := by decide +kernel
theorem dX4_addPiece_24 : decode cX4_addPiece 24 = .ok (.iload_n 1, 1) := by decide +kernel
theorem dX4_addPiece_25 : decode cX4_addPiece 25 = .ok (.iastore, 1) := by decide +kernel
theorem dX4_addPiece_26 : decode cX4_addPiece 26 = .ok (.aload_n 0, 1) := by decide +kernel
theorem dX4_addPiece_27 : decode cX4_addPiece 27 = .ok (.getfield 27, 3) := by decide +kernel
theorem dX4_addPiece_30 : decode cX4_addPiece 30 = .ok (.aload_n 0, 1) := by decide +kernel
theorem dX4_addPiece_31 : decode cX4_addPiece 31 = .ok (.getfield 49, 3) := by decide +kernel
theorem dX4_addPiece_34 : decode cX4_addPiece 34 = .ok (.iload_n 2, 1) := by decide +kernel
theorem dX4_addPiece_35 : decode cX4_addPiece 35 = .ok (.iastore, 1) := by decide +kernel
theorem dX4_addPiece_36 : decode cX4_addPiece 36 = .ok (.aload_n 0, 1) := by decide +kernel
theorem dX4_addPiece_37 : decode cX4_addPiece 37 = .ok (.dup, 1) := by decide +kernel
theorem dX4_addPiece_38 : decode cX4_addPiece 38 = .ok (.getfield 49, 3) := by decide +kernel
theorem dX4_addPiece_41 : decode cX4_addPiece 41 = .ok (.iconst 1, 1) := by decide +kernel
theorem dX4_addPiece_42 : decode cX4_addPiece 42 = .ok (.iadd, 1) := by decide +kernel
theorem dX4_addPiece_43 : decode cX4_addPiece 43 = .ok (.putfield 49, 3) := by decide +kernel
theorem dX4_addPiece_46 : decode cX4_addPiece 46 = .ok (.return_, 1) := by decide +kernel
theorem dX4_begin_0 : decode cX4_begin 0 = .ok (.aload_n 0, 1) := by decide +kernel
theorem dX4_begin_1 : decode cX4_begin 1 = .ok (.iconst 0, 1) := by decide +kernel
theorem dX4_begin_2 : decode cX4_begin 2 = .ok (.putfield 55, 3) := by decide +kernel
theorem dX4_begin_5 : decode cX4_begin 5 = .ok (.aload_n 0, 1) := by decide +kernel
theorem dX4_begin_6 : decode cX4_begin 6 = .ok (.getfield 30, 3) := by decide +kernel
theorem dX4_begin_9 : decode cX4_begin 9 = .ok (.iconst 0, 1) := by decide +kernel
theorem dX4_begin_10 : decode cX4_begin 10 = .ok (.invokestatic 58, 3) := by decide +kernel
theorem dX4_begin_13 : decode cX4_begin 13 = .ok (.aload_n 0, 1) := by decide +kernel
theorem dX4_begin_14 : decode cX4_begin 14 = .ok (.getfield 33, 3) := by decide +kernel
theorem dX4_begin_17 : decode cX4_begin 17 = .ok (.iconst 0, 1) := by decide +kernel
theorem dX4_begin_18 : decode cX4_begin 18 = .ok (.invokestatic 58, 3) := by decide +kernel
theorem dX4_begin_21 : decode cX4_begin 21 = .ok (.aload_n 0, 1) := by decide +kernel
theorem dX4_begin_22 : decode cX4_begin 22 = .ok (.getfield 36, 3) := by decide +kernel
theorem dX4_begin_25 : decode cX4_begin 25 = .ok (.iconst 0, 1) := by decide +kernel
theorem dX4_begin_26 : decode cX4_begin 26 = .ok (.invokestatic 58, 3) := by decide +kernel
theorem dX4_begin_29 : decode cX4_begin 29 = .ok (.aload_n 0, 1) := by decide +kernel
theorem dX4_begin_30 : decode cX4_begin 30 = .ok (.getfield 39, 3) := by decide +kernel
theorem dX4_begin_33 : decode cX4_begin 33 = .ok (.iconst 0, 1) := by decide +kernel
theorem dX4_begin_34 : decode cX4_begin 34 = .ok (.invokestatic 58, 3) := by decide +kernel
theorem dX4_begin_37 : decode cX4_begin 37 = .ok (.aload_n 0, 1) := by decide +kernel
theorem dX4_begin_38 : decode cX4_begin 38 = .ok (.getfield 42, 3) := by decide +kernel
theorem dX4_begin_41 : decode cX4_begin 41 = .ok (.ldc 64, 2) := by decide +kernel
theorem dX4_begin_43 : decode cX4_begin 43 = .ok (.invokestatic 58, 3) := by decide +kernel
theorem dX4_begin_46 : decode cX4_begin 46 = .ok (.iconst 0, 1) := by decide +kernel
theorem dX4_begin_47 : decode cX4_begin 47 = .ok (.istore_n 1, 1) := by decide +kernel
theorem dX4_begin_48 : decode cX4_begin 48 = .ok (.iload_n 1, 1) := by decide +kernel
theorem dX4_begin_49 : decode cX4_begin 49 = .ok (.bipush 6, 2) := by decide +kernel
theorem dX4_begin_51 : decode cX4_begin 51 = .ok (.if_icmp .ge 70, 3) := by decide +kernel
theorem dX4_begin_54 : decode cX4_begin 54 = .ok (.aload_n 0, 1) := by decide +kernel
theorem dX4_begin_55 : decode cX4_begin 55 = .ok (.iload_n 1, 1) := by decide +kernel
theorem dX4_begin_56 : decode cX4_begin 56 = .ok (.invokevirtual 65, 3) := by decide +kernel
theorem dX4_begin_59 : decode cX4_begin 59 = .ok (.astore_n 2, 1) := by decide +kernel
theorem dX4_begin_60 : decode cX4_begin 60 = .ok (.iconst 0, 1) := by decide +kernel
theorem dX4_begin_61 : decode cX4_begin 61 = .ok (.istore_n 3, 1) := by decide +kernel
theorem dX4_begin_62 : decode cX4_begin 62 = .ok (.iload_n 3, 1) := by decide +kernel
theorem dX4_begin_63 : decode cX4_begin 63 = .ok (.bipush 8, 2) := by decide +kernel
theorem dX4_begin_65 : decode cX4_begin 65 = .ok (.if_icmp .ge 50, 3) := by decide +kernel
theorem dX4_begin_68 : decode cX4_begin 68 = .ok (.aload_n 2, 1) := by decide +kernel
theorem dX4_begin_69 : decode cX4_begin 69 = .ok (.ifnull 46, 3) := by decide +kernel
theorem dX4_begin_72 : decode cX4_begin 72 = .ok (.iload_n 3, 1) := by decide +kernel
theorem dX4_begin_73 : decode cX4_begin 73 = .ok (.aload_n 0, 1) := by decide +kernel
theorem dX4_begin_74 : decode cX4_begin 74 = .ok (.getfield 49, 3) := by decide +kernel
theorem dX4_begin_77 : decode cX4_begin 77 = .ok (.if_icmp .ge 32, 3) := by decide +kernel
theorem dX4_begin_80 : decode cX4_begin 80 = .ok (.aload_n 0, 1) := by decide +kernel
theorem dX4_begin_81 : decode cX4_begin 81 = .ok (.getfield 27, 3) := by decide +kernel
theorem dX4_begin_84 : decode cX4_begin 84 = .ok (.iload_n 3, 1) := by decide +kernel
theorem dX4_begin_85 : decode cX4_begin 85 = .ok (.iaload, 1) := by decide +kernel
theorem dX4_begin_86 : decode cX4_begin 86 = .ok (.iload_n 1, 1) := by decide +kernel
theorem dX4_begin_87 : decode cX4_begin 87 = .ok (.ishr, 1) := by decide +kernel
theorem dX4_begin_88 : decode cX4_begin 88 = .ok (.iconst 1, 1) := by decide +kernel
theorem dX4_begin_89 : decode cX4_begin 89 = .ok (.iand, 1) := by decide +kernel
theorem dX4_begin_90 : decode cX4_begin 90 = .ok (.iconst 1, 1) := by decide +kernel
theorem dX4_begin_91 : decode cX4_begin 91 = .ok (.if_icmp .ne 18, 3) := by decide +kernel
theorem dX4_begin_94 : decode cX4_begin 94 = .ok (.aload_n 0, 1) := by decide +kernel
theorem dX4_begin_95 : decode cX4_begin 95 = .ok (.getfield 30, 3) := by decide +kernel
theorem dX4_begin_98 : decode cX4_begin 98 = .ok (.iload_n 1, 1) := by decide +kernel
theorem dX4_begin_99 : decode cX4_begin 99 = .ok (.bipush 8, 2) := by decide +kernel
theorem dX4_begin_101 : decode cX4_begin 101 = .ok (.imul, 1) := by decide +kernel
theorem dX4_begin_102 : decode cX4_begin 102 = .ok (.iload_n 3, 1) := by decide +kernel
theorem dX4_begin_103 : decode cX4_begin 103 = .ok (.iadd, 1) := by decide +kernel
theorem dX4_begin_104 : decode cX4_begin 104 = .ok (.aload_n 2, 1) := by decide +kernel
theorem dX4_begin_105 : decode cX4_begin 105 = .ok (.getfield 69, 3) := by decide +kernel
theorem dX4_begin_108 : decode cX4_begin 108 = .ok (.iastore, 1) := by decide +kernel
theorem dX4_begin_109 : decode cX4_begin 109 = .ok (.iinc 3 1, 3) := by decide +kernel
theorem dX4_begin_112 : decode cX4_begin 112 = .ok (.goto (-50), 3) := by decide +kernel
theorem dX4_begin_115 : decode cX4_begin 115 = .ok (.iinc 1 1, 3) := by decide +kernel
theorem dX4_begin_118 : decode cX4_begin 118 = .ok (.goto (-70), 3) := by decide +kernel
theorem dX4_begin_121 : decode cX4_begin 121 = .ok (.return_, 1) := by decide +kernel
theorem dX4_beginWith_0 : decode cX4_beginWith 0 = .ok (.aload_n 0, 1) := by decide +kernel
theorem dX4_beginWith_1 : decode cX4_beginWith 1 = .ok (.iconst 1, 1) := by decide +kernel
theorem dX4_beginWith_2 : decode cX4_beginWith 2 = .ok (.putfield 49, 3) := by decide +kernel
theorem dX4_beginWith_5 : decode cX4_beginWith 5 = .ok (.aload_n 0, 1) := by decide +kernel
theorem dX4_beginWith_6 : decode cX4_beginWith 6 = .ok (.getfield 27, 3) := by decide +kernel
theorem dX4_beginWith_9 : decode cX4_beginWith 9 = .ok (.iconst 0, 1) := by decide +kernel
theorem dX4_beginWith_10 : decode cX4_beginWith 10 = .ok (.iload_n 1, 1) := by decide +kernel
theorem dX4_beginWith_11 : decode cX4_beginWith 11 = .ok (.iastore, 1) := by decide +kernel
theorem dX4_beginWith_12 : decode cX4_beginWith 12 = .ok (.aload_n 0, 1) := by decide +kernel
theorem dX4_beginWith_13 : decode cX4_beginWith 13 = .ok (.invokevirtual 72, 3) := by decide +kernel
theorem dX4_beginWith_16 : decode cX4_beginWith 16 = .ok (.return_, 1) := by decide +kernel
theorem dX4_takeFrom_0 : decode cX4_takeFrom 0 = .ok (.aload_n 0, 1) := by decide +kernel
theorem dX4_takeFrom_1 : decode cX4_takeFrom 1 = .ok (.aload_n 1, 1) := by decide +kernel
theorem dX4_takeFrom_2 : decode cX4_takeFrom 2 = .ok (.getfield 75, 3) := by decide +kernel
theorem dX4_takeFrom_5 : decode cX4_takeFrom 5 = .ok (.putfield 75, 3) := by decide +kernel
theorem dX4_takeFrom_8 : decode cX4_takeFrom 8 = .ok (.aload_n 0, 1) := by decide +kernel
theorem dX4_takeFrom_9 : decode cX4_takeFrom 9 = .ok (.aload_n 1, 1) := by decide +kernel
theorem dX4_takeFrom_10 : decode cX4_takeFrom 10 = .ok (.getfield 78, 3) := by decide +kernel
theorem dX4_takeFrom_13 : decode cX4_takeFrom 13 = .ok (.putfield 78, 3) := by decide +kernel
theorem dX4_takeFrom_16 : decode cX4_takeFrom 16 = .ok (.aload_n 0, 1) := by decide +kernel
theorem dX4_takeFrom_17 : decode cX4_takeFrom 17 = .ok (.aload_n 1, 1) := by decide +kernel
theorem dX4_takeFrom_18 : decode cX4_takeFrom 18 = .ok (.getfield 52, 3) := by decide +kernel
theorem dX4_takeFrom_21 : decode cX4_takeFrom 21 = .ok (.putfield 52, 3) := by decide +kernel
theorem dX4_takeFrom_24 : decode cX4_takeFrom 24 = .ok (.aload_n 0, 1) := by decide +kernel
theorem dX4_takeFrom_25 : decode cX4_takeFrom 25 = .ok (.aload_n 1, 1) := by decide +kernel
theorem dX4_takeFrom_26 : decode cX4_takeFrom 26 = .ok (.getfield 81, 3) := by decide +kernel
theorem dX4_takeFrom_29 : decode cX4_takeFrom 29 = .ok (.putfield 81, 3) := by decide +kernel
theorem dX4_takeFrom_32 : decode cX4_takeFrom 32 = .ok (.aload_n 0, 1) := by decide +kernel
theorem dX4_takeFrom_33 : decode cX4_takeFrom 33 = .ok (.aload_n 1, 1) := by decide +kernel
theorem dX4_takeFrom_34 : decode cX4_takeFrom 34 = .ok (.getfield 84, 3) := by decide +kernel
theorem dX4_takeFrom_37 : decode cX4_takeFrom 37 = .ok (.putfield 84, 3) := by decide +kernel
theorem dX4_takeFrom_40 : decode cX4_takeFrom 40 = .ok (.aload_n 0, 1) := by decide +kernel
theorem dX4_takeFrom_41 : decode cX4_takeFrom 41 = .ok (.aload_n 1, 1) := by decide +kernel
theorem dX4_takeFrom_42 : decode cX4_takeFrom 42 = .ok (.getfield 87, 3) := by decide +kernel
theorem dX4_takeFrom_45 : decode cX4_takeFrom 45 = .ok (.putfield 87, 3) := by decide +kernel
theorem dX4_takeFrom_48 : decode cX4_takeFrom 48 = .ok (.aload_n 0, 1) := by decide +kernel
theorem dX4_takeFrom_49 : decode cX4_takeFrom 49 = .ok (.aload_n 1, 1) := by decide +kernel
theorem dX4_takeFrom_50 : decode cX4_takeFrom 50 = .ok (.getfield 45, 3) := by decide +kernel
theorem dX4_takeFrom_53 : decode cX4_takeFrom 53 = .ok (.putfield 45, 3) := by decide +kernel
theorem dX4_takeFrom_56 : decode cX4_takeFrom 56 = .ok (.aload_n 0, 1) := by decide +kernel
theorem dX4_takeFrom_57 : decode cX4_takeFrom 57 = .ok (.aload_n 1, 1) := by decide +kernel
theorem dX4_takeFrom_58 : decode cX4_takeFrom 58 = .ok (.getfield 49, 3) := by decide +kernel
theorem dX4_takeFrom_61 : decode cX4_takeFrom 61 = .ok (.putfield 49, 3) := by decide +kernel
theorem dX4_takeFrom_64 : decode cX4_takeFrom 64 = .ok (.aload_n 0, 1) := by decide +kernel
theorem dX4_takeFrom_65 : decode cX4_takeFrom 65 = .ok (.aload_n 1, 1) := by decide +kernel
theorem dX4_takeFrom_66 : decode cX4_takeFrom 66 = .ok (.getfield 55, 3) := by decide +kernel
theorem dX4_takeFrom_69 : decode cX4_takeFrom 69 = .ok (.putfield 55, 3) := by decide +kernel
theorem dX4_takeFrom_72 : decode cX4_takeFrom 72 = .ok (.aload_n 1, 1) := by decide +kernel
theorem dX4_takeFrom_73 : decode cX4_takeFrom 73 = .ok (.getfield 11, 3) := by decide +kernel
theorem dX4_takeFrom_76 : decode cX4_takeFrom 76 = .ok (.iconst 0, 1) := by decide +kernel
theorem dX4_takeFrom_77 : decode cX4_takeFrom 77 = .ok (.aload_n 0, 1) := by decide +kernel
theorem dX4_takeFrom_78 : decode cX4_takeFrom 78 = .ok (.getfield 11, 3) := by decide +kernel
theorem dX4_takeFrom_81 : decode cX4_takeFrom 81 = .ok (.iconst 0, 1) := by decide +kernel
theorem dX4_takeFrom_82 : decode cX4_takeFrom 82 = .ok (.bipush 8, 2) := by decide +kernel
theorem dX4_takeFrom_84 : decode cX4_takeFrom 84 = .ok (.invokestatic 90, 3) := by decide +kernel
theorem dX4_takeFrom_87 : decode cX4_takeFrom 87 = .ok (.aload_n 1, 1) := by decide +kernel
theorem dX4_takeFrom_88 : decode cX4_takeFrom 88 = .ok (.getfield 15, 3) := by decide +kernel
theorem dX4_takeFrom_91 : decode cX4_takeFrom 91 = .ok (.iconst 0, 1) := by decide +kernel
theorem dX4_takeFrom_92 : decode cX4_takeFrom 92 = .ok (.aload_n 0, 1) := by decide +kernel
theorem dX4_takeFrom_93 : decode cX4_takeFrom 93 = .ok (.getfield 15, 3) := by decide +kernel
theorem dX4_takeFrom_96 : decode cX4_takeFrom 96 = .ok (.iconst 0, 1) := by decide +kernel
theorem dX4_takeFrom_97 : decode cX4_takeFrom 97 = .ok (.bipush 8, 2) := by decide +kernel
theorem dX4_takeFrom_99 : decode cX4_takeFrom 99 = .ok (.invokestatic 90, 3) := by decide +kernel
theorem dX4_takeFrom_102 : decode cX4_takeFrom 102 = .ok (.aload_n 1, 1) := by decide +kernel
theorem dX4_takeFrom_103 : decode cX4_takeFrom 103 = .ok (.getfield 24, 3) := by decide +kernel
theorem dX4_takeFrom_106 : decode cX4_takeFrom 106 = .ok (.iconst 0, 1) := by decide +kernel
theorem dX4_takeFrom_107 : decode cX4_takeFrom 107 = .ok (.aload_n 0, 1) := by decide +kernel
theorem dX4_takeFrom_108 : decode cX4_takeFrom 108 = .ok (.getfield 24, 3) := by decide +kernel
theorem dX4_takeFrom_111 : decode cX4_takeFrom 111 = .ok (.iconst 0, 1) := by decide +kernel
theorem dX4_takeFrom_112 : decode cX4_takeFrom 112 = .ok (.bipush 8, 2) := by decide +kernel
theorem dX4_takeFrom_114 : decode cX4_takeFrom 114 = .ok (.invokestatic 90, 3) := by decide +kernel
theorem dX4_takeFrom_117 : decode cX4_takeFrom 117 = .ok (.aload_n 1, 1) := by decide +kernel
theorem dX4_takeFrom_118 : decode cX4_takeFrom 118 = .ok (.getfield 27, 3) := by decide +kernel
theorem dX4_takeFrom_121 : decode cX4_takeFrom 121 = .ok (.iconst 0, 1) := by decide +kernel
theorem dX4_takeFrom_122 : decode cX4_takeFrom 122 = .ok (.aload_n 0, 1) := by decide +kernel
theorem dX4_takeFrom_123 : decode cX4_takeFrom 123 = .ok (.getfield 27, 3) := by decide +kernel
theorem dX4_takeFrom_126 : decode cX4_takeFrom 126 = .ok (.iconst 0, 1) := by decide +kernel
theorem dX4_takeFrom_127 : decode cX4_takeFrom 127 = .ok (.bipush 8, 2) := by decide +kernel
theorem dX4_takeFrom_129 : decode cX4_takeFrom 129 = .ok (.invokestatic 90, 3) := by decide +kernel
theorem dX4_takeFrom_132 : decode cX4_takeFrom 132 = .ok (.aload_n 1, 1) := by decide +kernel
theorem dX4_takeFrom_133 : decode cX4_takeFrom 133 = .ok (.getfield 30, 3) := by decide +kernel
theorem dX4_takeFrom_136 : decode cX4_takeFrom 136 = .ok (.iconst 0, 1) := by decide +kernel
theorem dX4_takeFrom_137 : decode cX4_takeFrom 137 = .ok (.aload_n 0, 1) := by decide +kernel
theorem dX4_takeFrom_138 : decode cX4_takeFrom 138 = .ok (.getfield 30, 3) := by decide +kernel
theorem dX4_takeFrom_141 : decode cX4_takeFrom 141 = .ok (.iconst 0, 1) := by decide +kernel
theorem dX4_takeFrom_142 : decode cX4_takeFrom 142 = .ok (.bipush 48, 2) := by decide +kernel
theorem dX4_takeFrom_144 : decode cX4_takeFrom 144 = .ok (.invokestatic 90, 3) := by decide +kernel
theorem dX4_takeFrom_147 : decode cX4_takeFrom 147 = .ok (.aload_n 1, 1) := by decide +kernel
theorem dX4_takeFrom_148 : decode cX4_takeFrom 148 = .ok (.getfield 33, 3) := by decide +kernel
theorem dX4_takeFrom_151 : decode cX4_takeFrom 151 = .ok (.iconst 0, 1) := by decide +kernel
theorem dX4_takeFrom_152 : decode cX4_takeFrom 152 = .ok (.aload_n 0, 1) := by decide +kernel
theorem dX4_takeFrom_153 : decode cX4_takeFrom 153 = .ok (.getfield 33, 3) := by decide +kernel
theorem dX4_takeFrom_156 : decode cX4_takeFrom 156 = .ok (.iconst 0, 1) := by decide +kernel
theorem dX4_takeFrom_157 : decode cX4_takeFrom 157 = .ok (.bipush 6, 2) := by decide +kernel
theorem dX4_takeFrom_159 : decode cX4_takeFrom 159 = .ok (.invokestatic 90, 3) := by decide +kernel
theorem dX4_takeFrom_162 : decode cX4_takeFrom 162 = .ok (.aload_n 1, 1) := by decide +kernel
theorem dX4_takeFrom_163 : decode cX4_takeFrom 163 = .ok (.getfield 36, 3) := by decide +kernel
theorem dX4_takeFrom_166 : decode cX4_takeFrom 166 = .ok (.iconst 0, 1) := by decide +kernel
theorem dX4_takeFrom_167 : decode cX4_takeFrom 167 = .ok (.aload_n 0, 1) := by decide +kernel
theorem dX4_takeFrom_168 : decode cX4_takeFrom 168 = .ok (.getfield 36, 3) := by decide +kernel
theorem dX4_takeFrom_171 : decode cX4_takeFrom 171 = .ok (.iconst 0, 1) := by decide +kernel
theorem dX4_takeFrom_172 : decode cX4_takeFrom 172 = .ok (.bipush 6, 2) := by decide +kernel
theorem dX4_takeFrom_174 : decode cX4_takeFrom 174 = .ok (.invokestatic 90, 3) := by decide +kernel
theorem dX4_takeFrom_177 : decode cX4_takeFrom 177 = .ok (.aload_n 1, 1) := by decide +kernel
theorem dX4_takeFrom_178 : decode cX4_takeFrom 178 = .ok (.getfield 39, 3) := by decide +kernel
theorem dX4_takeFrom_181 : decode cX4_takeFrom 181 = .ok (.iconst 0, 1) := by decide +kernel
theorem dX4_takeFrom_182 : decode cX4_takeFrom 182 = .ok (.aload_n 0, 1) := by decide +kernel
theorem dX4_takeFrom_183 : decode cX4_takeFrom 183 = .ok (.getfield 39, 3) := by decide +kernel
theorem dX4_takeFrom_186 : decode cX4_takeFrom 186 = .ok (.iconst 0, 1) := by decide +kernel
theorem dX4_takeFrom_187 : decode cX4_takeFrom 187 = .ok (.bipush 8, 2) := by decide +kernel
theorem dX4_takeFrom_189 : decode cX4_takeFrom 189 = .ok (.invokestatic 90, 3) := by decide +kernel
theorem dX4_takeFrom_192 : decode cX4_takeFrom 192 = .ok (.aload_n 1, 1) := by decide +kernel
theorem dX4_takeFrom_193 : decode cX4_takeFrom 193 = .ok (.getfield 42, 3) := by decide +kernel
theorem dX4_takeFrom_196 : decode cX4_takeFrom 196 = .ok (.iconst 0, 1) := by decide +kernel
theorem dX4_takeFrom_197 : decode cX4_takeFrom 197 = .ok (.aload_n 0, 1) := by decide +kernel
theorem dX4_takeFrom_198 : decode cX4_takeFrom 198 = .ok (.getfield 42, 3) := by decide +kernel
theorem dX4_takeFrom_201 : decode cX4_takeFrom 201 = .ok (.iconst 0, 1) := by decide +kernel
theorem dX4_takeFrom_202 : decode cX4_takeFrom 202 = .ok (.bipush 8, 2) := by decide +kernel
theorem dX4_takeFrom_204 : decode cX4_takeFrom 204 = .ok (.invokestatic 90, 3) := by decide +kernel
theorem dX4_takeFrom_207 : decode cX4_takeFrom 207 = .ok (.iconst 0, 1) := by decide +kernel
theorem dX4_takeFrom_208 : decode cX4_takeFrom 208 = .ok (.istore_n 2, 1) := by decide +kernel
theorem dX4_takeFrom_209 : decode cX4_takeFrom 209 = .ok (.iload_n 2, 1) := by decide +kernel
theorem dX4_takeFrom_210 : decode cX4_takeFrom 210 = .ok (.bipush 6, 2) := by decide +kernel
theorem dX4_takeFrom_212 : decode cX4_takeFrom 212 = .ok (.if_icmp .ge 21, 3) := by decide +kernel
theorem dX4_takeFrom_215 : decode cX4_takeFrom 215 = .ok (.aload_n 0, 1) := by decide +kernel
theorem dX4_takeFrom_216 : decode cX4_takeFrom 216 = .ok (.getfield 20, 3) := by decide +kernel
theorem dX4_takeFrom_219 : decode cX4_takeFrom 219 = .ok (.iload_n 2, 1) := by decide +kernel
theorem dX4_takeFrom_220 : decode cX4_takeFrom 220 = .ok (.aload_n 1, 1) := by decide +kernel
theorem dX4_takeFrom_221 : decode cX4_takeFrom 221 = .ok (.getfield 20, 3) := by decide +kernel
theorem dX4_takeFrom_224 : decode cX4_takeFrom 224 = .ok (.iload_n 2, 1) := by decide +kernel
theorem dX4_takeFrom_225 : decode cX4_takeFrom 225 = .ok (.aaload, 1) := by decide +kernel
theorem dX4_takeFrom_226 : decode cX4_takeFrom 226 = .ok (.aastore, 1) := by decide +kernel
theorem dX4_takeFrom_227 : decode cX4_takeFrom 227 = .ok (.iinc 2 1, 3) := by decide +kernel
theorem dX4_takeFrom_230 : decode cX4_takeFrom 230 = .ok (.goto (-21), 3) := by decide +kernel
theorem dX4_takeFrom_233 : decode cX4_takeFrom 233 = .ok (.return_, 1) := by decide +kernel
theorem dX4_valueAt_0 : decode cX4_valueAt 0 = .ok (.aload_n 0, 1) := by decide +kernel
theorem dX4_valueAt_1 : decode cX4_valueAt 1 = .ok (.getfield 75, 3) := by decide +kernel
theorem dX4_valueAt_4 : decode cX4_valueAt 4 = .ok (.iconst 1, 1) := by decide +kernel
theorem dX4_valueAt_5 : decode cX4_valueAt 5 = .ok (.if_icmp .ne 16, 3) := by decide +kernel
theorem dX4_valueAt_8 : decode cX4_valueAt 8 = .ok (.aload_n 0, 1) := by decide +kernel
theorem dX4_valueAt_9 : decode cX4_valueAt 9 = .ok (.getfield 78, 3) := by decide +kernel
theorem dX4_valueAt_12 : decode cX4_valueAt 12 = .ok (.iload_n 1, 1) := by decide +kernel
theorem dX4_valueAt_13 : decode cX4_valueAt 13 = .ok (.isub, 1) := by decide +kernel
theorem dX4_valueAt_14 : decode cX4_valueAt 14 = .ok (.iconst 0, 1) := by decide +kernel
theorem dX4_valueAt_15 : decode cX4_valueAt 15 = .ok (.invokestatic 96, 3) := by decide +kernel
theorem dX4_valueAt_18 : decode cX4_valueAt 18 = .ok (.goto 4, 3) := by decide +kernel
theorem dX4_valueAt_21 : decode cX4_valueAt 21 = .ok (.iload_n 1, 1) := by decide +kernel
theorem dX4_valueAt_22 : decode cX4_valueAt 22 = .ok (.istore_n 2, 1) := by decide +kernel
theorem dX4_valueAt_23 : decode cX4_valueAt 23 = .ok (.iconst 0, 1) := by decide +kernel
theorem dX4_valueAt_24 : decode cX4_valueAt 24 = .ok (.istore_n 3, 1) := by decide +kernel
theorem dX4_valueAt_25 : decode cX4_valueAt 25 = .ok (.iload_n 3, 1) := by decide +kernel
theorem dX4_valueAt_26 : decode cX4_valueAt 26 = .ok (.aload_n 0, 1) := by decide +kernel
theorem dX4_valueAt_27 : decode cX4_valueAt 27 = .ok (.getfield 52, 3) := by decide +kernel
theorem dX4_valueAt_30 : decode cX4_valueAt 30 = .ok (.if_icmp .ge 48, 3) := by decide +kernel
theorem dX4_valueAt_33 : decode cX4_valueAt 33 = .ok (.iload_n 3, 1) := by decide +kernel
theorem dX4_valueAt_34 : decode cX4_valueAt 34 = .ok (.bipush 8, 2) := by decide +kernel
theorem dX4_valueAt_36 : decode cX4_valueAt 36 = .ok (.if_icmp .ge 42, 3) := by decide +kernel
theorem dX4_valueAt_39 : decode cX4_valueAt 39 = .ok (.iload_n 2, 1) := by decide +kernel
theorem dX4_valueAt_40 : decode cX4_valueAt 40 = .ok (.aload_n 0, 1) := by decide +kernel
theorem dX4_valueAt_41 : decode cX4_valueAt 41 = .ok (.getfield 11, 3) := by decide +kernel
theorem dX4_valueAt_44 : decode cX4_valueAt 44 = .ok (.iload_n 3, 1) := by decide +kernel
theorem dX4_valueAt_45 : decode cX4_valueAt 45 = .ok (.iaload, 1) := by decide +kernel
theorem dX4_valueAt_46 : decode cX4_valueAt 46 = .ok (.if_icmp .ge 26, 3) := by decide +kernel
theorem dX4_valueAt_49 : decode cX4_valueAt 49 = .ok (.iload_n 3, 1) := by decide +kernel
theorem dX4_valueAt_50 : decode cX4_valueAt 50 = .ok (.ifCond .ne 12, 3) := by decide +kernel
theorem dX4_valueAt_53 : decode cX4_valueAt 53 = .ok (.aload_n 0, 1) := by decide +kernel
theorem dX4_valueAt_54 : decode cX4_valueAt 54 = .ok (.getfield 15, 3) := by decide +kernel
theorem dX4_valueAt_57 : decode cX4_valueAt 57 = .ok (.iconst 0, 1) := by decide +kernel
theorem dX4_valueAt_58 : decode cX4_valueAt 58 = .ok (.iaload, 1) := by decide +kernel
theorem dX4_valueAt_59 : decode cX4_valueAt 59 = .ok (.goto 12, 3) := by decide +kernel
theorem dX4_valueAt_62 : decode cX4_valueAt 62 = .ok (.aload_n 0, 1) := by decide +kernel
theorem dX4_valueAt_63 : decode cX4_valueAt 63 = .ok (.iload_n 3, 1) := by decide +kernel
theorem dX4_valueAt_64 : decode cX4_valueAt 64 = .ok (.iconst 1, 1) := by decide +kernel
theorem dX4_valueAt_65 : decode cX4_valueAt 65 = .ok (.isub, 1) := by decide +kernel
theorem dX4_valueAt_66 : decode cX4_valueAt 66 = .ok (.iload_n 3, 1) := by decide +kernel
theorem dX4_valueAt_67 : decode cX4_valueAt 67 = .ok (.iload_n 2, 1) := by decide +kernel
theorem dX4_valueAt_68 : decode cX4_valueAt 68 = .ok (.invokevirtual 102, 3) := by decide +kernel
theorem dX4_valueAt_71 : decode cX4_valueAt 71 = .ok (.ireturn, 1) := by decide +kernel
theorem dX4_valueAt_72 : decode cX4_valueAt 72 = .ok (.iinc 3 1, 3) := by decide +kernel
theorem dX4_valueAt_75 : decode cX4_valueAt 75 = .ok (.goto (-50), 3) := by decide +kernel
theorem dX4_valueAt_78 : decode cX4_valueAt 78 = .ok (.aload_n 0, 1) := by decide +kernel
theorem dX4_valueAt_79 : decode cX4_valueAt 79 = .ok (.getfield 52, 3) := by decide +kernel
theorem dX4_valueAt_82 : decode cX4_valueAt 82 = .ok (.ifCond .le 26, 3) := by decide +kernel
theorem dX4_valueAt_85 : decode cX4_valueAt 85 = .ok (.aload_n 0, 1) := by decide +kernel
theorem dX4_valueAt_86 : decode cX4_valueAt 86 = .ok (.getfield 52, 3) := by decide +kernel
theorem dX4_valueAt_89 : decode cX4_valueAt 89 = .ok (.bipush 8, 2) := by decide +kernel
theorem dX4_valueAt_91 : decode cX4_valueAt 91 = .ok (.if_icmp .gt 17, 3) := by decide +kernel
theorem dX4_valueAt_94 : decode cX4_valueAt 94 = .ok (.aload_n 0, 1) := by decide +kernel
theorem dX4_valueAt_95 : decode cX4_valueAt 95 = .ok (.getfield 15, 3) := by decide +kernel
theorem dX4_valueAt_98 : decode cX4_valueAt 98 = .ok (.aload_n 0, 1) := by decide +kernel
theorem dX4_valueAt_99 : decode cX4_valueAt 99 = .ok (.getfield 52, 3) := by decide +kernel
theorem dX4_valueAt_102 : decode cX4_valueAt 102 = .ok (.iconst 1, 1) := by decide +kernel
theorem dX4_valueAt_103 : decode cX4_valueAt 103 = .ok (.isub, 1) := by decide +kernel
theorem dX4_valueAt_104 : decode cX4_valueAt 104 = .ok (.iaload, 1) := by decide +kernel
theorem dX4_valueAt_105 : decode cX4_valueAt 105 = .ok (.goto 4, 3) := by decide +kernel
theorem dX4_valueAt_108 : decode cX4_valueAt 108 = .ok (.iconst 0, 1) := by decide +kernel
theorem dX4_valueAt_109 : decode cX4_valueAt 109 = .ok (.ireturn, 1) := by decide +kernel
theorem dX4_valueBetween_0 : decode cX4_valueBetween 0 = .ok (.iload_n 1, 1) := by decide +kernel
theorem dX4_valueBetween_1 : decode cX4_valueBetween 1 = .ok (.ifCond .lt 19, 3) := by decide +kernel
theorem dX4_valueBetween_4 : decode cX4_valueBetween 4 = .ok (.iload_n 2, 1) := by decide +kernel
theorem dX4_valueBetween_5 : decode cX4_valueBetween 5 = .ok (.ifCond .lt 15, 3) := by decide +kernel
theorem dX4_valueBetween_8 : decode cX4_valueBetween 8 = .ok (.iload_n 1, 1) := by decide +kernel
theorem dX4_valueBetween_9 : decode cX4_valueBetween 9 = .ok (.bipush 8, 2) := by decide +kernel
theorem dX4_valueBetween_11 : decode cX4_valueBetween 11 = .ok (.if_icmp .ge 9, 3) := by decide +kernel
theorem dX4_valueBetween_14 : decode cX4_valueBetween 14 = .ok (.iload_n 2, 1) := by decide +kernel
theorem dX4_valueBetween_15 : decode cX4_valueBetween 15 = .ok (.bipush 8, 2) := by decide +kernel
theorem dX4_valueBetween_17 : decode cX4_valueBetween 17 = .ok (.if_icmp .lt 5, 3) := by decide +kernel
theorem dX4_valueBetween_20 : decode cX4_valueBetween 20 = .ok (.iconst 0, 1) := by decide +kernel
theorem dX4_valueBetween_21 : decode cX4_valueBetween 21 = .ok (.ireturn, 1) := by decide +kernel
theorem dX4_valueBetween_22 : decode cX4_valueBetween 22 = .ok (.aload_n 0, 1) := by decide +kernel
theorem dX4_valueBetween_23 : decode cX4_valueBetween 23 = .ok (.getfield 11, 3) := by decide +kernel
theorem dX4_valueBetween_26 : decode cX4_valueBetween 26 = .ok (.iload_n 2, 1) := by decide +kernel
theorem dX4_valueBetween_27 : decode cX4_valueBetween 27 = .ok (.iaload, 1) := by decide +kernel
theorem dX4_valueBetween_28 : decode cX4_valueBetween 28 = .ok (.aload_n 0, 1) := by decide +kernel
theorem dX4_valueBetween_29 : decode cX4_valueBetween 29 = .ok (.getfield 11, 3) := by decide +kernel
theorem dX4_valueBetween_32 : decode cX4_valueBetween 32 = .ok (.iload_n 1, 1) := by decide +kernel
theorem dX4_valueBetween_33 : decode cX4_valueBetween 33 = .ok (.iaload, 1) := by decide +kernel
theorem dX4_valueBetween_34 : decode cX4_valueBetween 34 = .ok (.isub, 1) := by decide +kernel
theorem dX4_valueBetween_35 : decode cX4_valueBetween 35 = .ok (.istore 4, 2) := by decide +kernel
theorem dX4_valueBetween_37 : decode cX4_valueBetween 37 = .ok (.iload 4, 2) := by decide +kernel
theorem dX4_valueBetween_39 : decode cX4_valueBetween 39 = .ok (.ifCond .gt 10, 3) := by decide +kernel
theorem dX4_valueBetween_42 : decode cX4_valueBetween 42 = .ok (.aload_n 0, 1) := by decide +kernel
theorem dX4_valueBetween_43 : decode cX4_valueBetween 43 = .ok (.getfield 15, 3) := by decide +kernel
theorem dX4_valueBetween_46 : decode cX4_valueBetween 46 = .ok (.iload_n 1, 1) := by decide +kernel
theorem dX4_valueBetween_47 : decode cX4_valueBetween 47 = .ok (.iaload, 1) := by decide +kernel
theorem dX4_valueBetween_48 : decode cX4_valueBetween 48 = .ok (.ireturn, 1) := by decide +kernel
theorem dX4_valueBetween_49 : decode cX4_valueBetween 49 = .ok (.aload_n 0, 1) := by decide +kernel
theorem dX4_valueBetween_50 : decode cX4_valueBetween 50 = .ok (.getfield 15, 3) := by decide +kernel
theorem dX4_valueBetween_53 : decode cX4_valueBetween 53 = .ok (.iload_n 1, 1) := by decide +kernel
theorem dX4_valueBetween_54 : decode cX4_valueBetween 54 = .ok (.iaload, 1) := by decide +kernel
theorem dX4_valueBetween_55 : decode cX4_valueBetween 55 = .ok (.aload_n 0, 1) := by decide +kernel
theorem dX4_valueBetween_56 : decode cX4_valueBetween 56 = .ok (.getfield 15, 3) := by decide +kernel
theorem dX4_valueBetween_59 : decode cX4_valueBetween 59 = .ok (.iload_n 2, 1) := by decide +kernel
theorem dX4_valueBetween_60 : decode cX4_valueBetween 60 = .ok (.iaload, 1) := by decide +kernel
theorem dX4_valueBetween_61 : decode cX4_valueBetween 61 = .ok (.aload_n 0, 1) := by decide +kernel
theorem dX4_valueBetween_62 : decode cX4_valueBetween 62 = .ok (.getfield 15, 3) := by decide +kernel
theorem dX4_valueBetween_65 : decode cX4_valueBetween 65 = .ok (.iload_n 1, 1) := by decide +kernel
theorem dX4_valueBetween_66 : decode cX4_valueBetween 66 = .ok (.iaload, 1) := by decide +kernel
theorem dX4_valueBetween_67 : decode cX4_valueBetween 67 = .ok (.isub, 1) := by decide +kernel
theorem dX4_valueBetween_68 : decode cX4_valueBetween 68 = .ok (.iload_n 3, 1) := by decide +kernel
theorem dX4_valueBetween_69 : decode cX4_valueBetween 69 = .ok (.aload_n 0, 1) := by decide +kernel
theorem dX4_valueBetween_70 : decode cX4_valueBetween 70 = .ok (.getfield 11, 3) := by decide +kernel
theorem dX4_valueBetween_73 : decode cX4_valueBetween 73 = .ok (.iload_n 1, 1) := by decide +kernel
theorem dX4_valueBetween_74 : decode cX4_valueBetween 74 = .ok (.iaload, 1) := by decide +kernel
theorem dX4_valueBetween_75 : decode cX4_valueBetween 75 = .ok (.isub, 1) := by decide +kernel
theorem dX4_valueBetween_76 : decode cX4_valueBetween 76 = .ok (.imul, 1) := by decide +kernel
theorem dX4_valueBetween_77 : decode cX4_valueBetween 77 = .ok (.iload 4, 2) := by decide +kernel
theorem dX4_valueBetween_79 : decode cX4_valueBetween 79 = .ok (.idiv, 1) := by decide +kernel
theorem dX4_valueBetween_80 : decode cX4_valueBetween 80 = .ok (.iadd, 1) := by decide +kernel
theorem dX4_valueBetween_81 : decode cX4_valueBetween 81 = .ok (.ireturn, 1) := by decide +kernel
theorem dX4_worthIn_0 : decode cX4_worthIn 0 = .ok (.iload_n 2, 1) := by decide +kernel
theorem dX4_worthIn_1 : decode cX4_worthIn 1 = .ok (.bipush 6, 2) := by decide +kernel
theorem dX4_worthIn_3 : decode cX4_worthIn 3 = .ok (.if_icmp .le 7, 3) := by decide +kernel
theorem dX4_worthIn_6 : decode cX4_worthIn 6 = .ok (.iconst 0, 1) := by decide +kernel
theorem dX4_worthIn_7 : decode cX4_worthIn 7 = .ok (.goto 14, 3) := by decide +kernel
theorem dX4_worthIn_10 : decode cX4_worthIn 10 = .ok (.aload_n 0, 1) := by decide +kernel
theorem dX4_worthIn_11 : decode cX4_worthIn 11 = .ok (.iload_n 1, 1) := by decide +kernel
theorem dX4_worthIn_12 : decode cX4_worthIn 12 = .ok (.invokevirtual 106, 3) := by decide +kernel
theorem dX4_worthIn_15 : decode cX4_worthIn 15 = .ok (.iload_n 2, 1) := by decide +kernel
theorem dX4_worthIn_16 : decode cX4_worthIn 16 = .ok (.iconst 1, 1) := by decide +kernel
theorem dX4_worthIn_17 : decode cX4_worthIn 17 = .ok (.invokestatic 96, 3) := by decide +kernel
theorem dX4_worthIn_20 : decode cX4_worthIn 20 = .ok (.idiv, 1) := by decide +kernel
theorem dX4_worthIn_21 : decode cX4_worthIn 21 = .ok (.ireturn, 1) := by decide +kernel
theorem dX4_keeperAt_0 : decode cX4_keeperAt 0 = .ok (.iload_n 1, 1) := by decide +kernel
theorem dX4_keeperAt_1 : decode cX4_keeperAt 1 = .ok (.ifCond .lt 26, 3) := by decide +kernel
theorem dX4_keeperAt_4 : decode cX4_keeperAt 4 = .ok (.iload_n 1, 1) := by decide +kernel
theorem dX4_keeperAt_5 : decode cX4_keeperAt 5 = .ok (.aload_n 0, 1) := by decide +kernel
theorem dX4_keeperAt_6 : decode cX4_keeperAt 6 = .ok (.getfield 45, 3) := by decide +kernel
theorem dX4_keeperAt_9 : decode cX4_keeperAt 9 = .ok (.if_icmp .ge 18, 3) := by decide +kernel
theorem dX4_keeperAt_12 : decode cX4_keeperAt 12 = .ok (.iload_n 1, 1) := by decide +kernel
theorem dX4_keeperAt_13 : decode cX4_keeperAt 13 = .ok (.bipush 6, 2) := by decide +kernel
theorem dX4_keeperAt_15 : decode cX4_keeperAt 15 = .ok (.if_icmp .ge 12, 3) := by decide +kernel
theorem dX4_keeperAt_18 : decode cX4_keeperAt 18 = .ok (.aload_n 0, 1) := by decide +kernel
theorem dX4_keeperAt_19 : decode cX4_keeperAt 19 = .ok (.getfield 20, 3) := by decide +kernel
theorem dX4_keeperAt_22 : decode cX4_keeperAt 22 = .ok (.iload_n 1, 1) := by decide +kernel
theorem dX4_keeperAt_23 : decode cX4_keeperAt 23 = .ok (.aaload, 1) := by decide +kernel
theorem dX4_keeperAt_24 : decode cX4_keeperAt 24 = .ok (.goto 4, 3) := by decide +kernel
theorem dX4_keeperAt_27 : decode cX4_keeperAt 27 = .ok (.aconst_null, 1) := by decide +kernel
theorem dX4_keeperAt_28 : decode cX4_keeperAt 28 = .ok (.areturn, 1) := by decide +kernel
theorem dX4_countOf_0 : decode cX4_countOf 0 = .ok (.iload_n 1, 1) := by decide +kernel
theorem dX4_countOf_1 : decode cX4_countOf 1 = .ok (.ifCond .lt 39, 3) := by decide +kernel
theorem dX4_countOf_4 : decode cX4_countOf 4 = .ok (.iload_n 1, 1) := by decide +kernel
theorem dX4_countOf_5 : decode cX4_countOf 5 = .ok (.aload_n 0, 1) := by decide +kernel
theorem dX4_countOf_6 : decode cX4_countOf 6 = .ok (.getfield 45, 3) := by decide +kernel
theorem dX4_countOf_9 : decode cX4_countOf 9 = .ok (.if_icmp .ge 31, 3) := by decide +kernel
theorem dX4_countOf_12 : decode cX4_countOf 12 = .ok (.iload_n 1, 1) := by decide +kernel
theorem dX4_countOf_13 : decode cX4_countOf 13 = .ok (.bipush 6, 2) := by decide +kernel
theorem dX4_countOf_15 : decode cX4_countOf 15 = .ok (.if_icmp .ge 25, 3) := by decide +kernel
theorem dX4_countOf_18 : decode cX4_countOf 18 = .ok (.iload_n 2, 1) := by decide +kernel
theorem dX4_countOf_19 : decode cX4_countOf 19 = .ok (.ifCond .lt 21, 3) := by decide +kernel
theorem dX4_countOf_22 : decode cX4_countOf 22 = .ok (.iload_n 2, 1) := by decide +kernel
theorem dX4_countOf_23 : decode cX4_countOf 23 = .ok (.aload_n 0, 1) := by decide +kernel
theorem dX4_countOf_24 : decode cX4_countOf 24 = .ok (.getfield 49, 3) := by decide +kernel
theorem dX4_countOf_27 : decode cX4_countOf 27 = .ok (.if_icmp .ge 13, 3) := by decide +kernel
theorem dX4_countOf_30 : decode cX4_countOf 30 = .ok (.iload_n 2, 1) := by decide +kernel
theorem dX4_countOf_31 : decode cX4_countOf 31 = .ok (.bipush 8, 2) := by decide +kernel
theorem dX4_countOf_33 : decode cX4_countOf 33 = .ok (.if_icmp .ge 7, 3) := by decide +kernel
theorem dX4_countOf_36 : decode cX4_countOf 36 = .ok (.iconst 1, 1) := by decide +kernel
theorem dX4_countOf_37 : decode cX4_countOf 37 = .ok (.goto 4, 3) := by decide +kernel
theorem dX4_countOf_40 : decode cX4_countOf 40 = .ok (.iconst 0, 1) := by decide +kernel
theorem dX4_countOf_41 : decode cX4_countOf 41 = .ok (.istore_n 3, 1) := by decide +kernel
theorem dX4_countOf_42 : decode cX4_countOf 42 = .ok (.iload_n 3, 1) := by decide +kernel
theorem dX4_countOf_43 : decode cX4_countOf 43 = .ok (.ifCond .eq 17, 3) := by decide +kernel
theorem dX4_countOf_46 : decode cX4_countOf 46 = .ok (.aload_n 0, 1) := by decide +kernel
theorem dX4_countOf_47 : decode cX4_countOf 47 = .ok (.getfield 30, 3) := by decide +kernel
theorem dX4_countOf_50 : decode cX4_countOf 50 = .ok (.iload_n 1, 1) := by decide +kernel
theorem dX4_countOf_51 : decode cX4_countOf 51 = .ok (.bipush 8, 2) := by decide +kernel
theorem dX4_countOf_53 : decode cX4_countOf 53 = .ok (.imul, 1) := by decide +kernel
theorem dX4_countOf_54 : decode cX4_countOf 54 = .ok (.iload_n 2, 1) := by decide +kernel
theorem dX4_countOf_55 : decode cX4_countOf 55 = .ok (.iadd, 1) := by decide +kernel
theorem dX4_countOf_56 : decode cX4_countOf 56 = .ok (.iaload, 1) := by decide +kernel
theorem dX4_countOf_57 : decode cX4_countOf 57 = .ok (.goto 4, 3) := by decide +kernel
theorem dX4_countOf_60 : decode cX4_countOf 60 = .ok (.iconst 0, 1) := by decide +kernel
theorem dX4_countOf_61 : decode cX4_countOf 61 = .ok (.ireturn, 1) := by decide +kernel
theorem dX4_hasUnsold_0 : decode cX4_hasUnsold 0 = .ok (.aload_n 0, 1) := by decide +kernel
theorem dX4_hasUnsold_1 : decode cX4_hasUnsold 1 = .ok (.iload_n 1, 1) := by decide +kernel
theorem dX4_hasUnsold_2 : decode cX4_hasUnsold 2 = .ok (.iload_n 2, 1) := by decide +kernel
theorem dX4_hasUnsold_3 : decode cX4_hasUnsold 3 = .ok (.invokevirtual 110, 3) := by decide +kernel
theorem dX4_hasUnsold_6 : decode cX4_hasUnsold 6 = .ok (.ifCond .le 20, 3) := by decide +kernel
theorem dX4_hasUnsold_9 : decode cX4_hasUnsold 9 = .ok (.aload_n 0, 1) := by decide +kernel
theorem dX4_hasUnsold_10 : decode cX4_hasUnsold 10 = .ok (.getfield 36, 3) := by decide +kernel
theorem dX4_hasUnsold_13 : decode cX4_hasUnsold 13 = .ok (.iload_n 1, 1) := by decide +kernel
theorem dX4_hasUnsold_14 : decode cX4_hasUnsold 14 = .ok (.iaload, 1) := by decide +kernel
theorem dX4_hasUnsold_15 : decode cX4_hasUnsold 15 = .ok (.iload_n 2, 1) := by decide +kernel
theorem dX4_hasUnsold_16 : decode cX4_hasUnsold 16 = .ok (.ishr, 1) := by decide +kernel
theorem dX4_hasUnsold_17 : decode cX4_hasUnsold 17 = .ok (.iconst 1, 1) := by decide +kernel
theorem dX4_hasUnsold_18 : decode cX4_hasUnsold 18 = .ok (.iand, 1) := by decide +kernel
theorem dX4_hasUnsold_19 : decode cX4_hasUnsold 19 = .ok (.ifCond .ne 7, 3) := by decide +kernel
theorem dX4_hasUnsold_22 : decode cX4_hasUnsold 22 = .ok (.iconst 1, 1) := by decide +kernel
theorem dX4_hasUnsold_23 : decode cX4_hasUnsold 23 = .ok (.goto 4, 3) := by decide +kernel
theorem dX4_hasUnsold_26 : decode cX4_hasUnsold 26 = .ok (.iconst 0, 1) := by decide +kernel
theorem dX4_hasUnsold_27 : decode cX4_hasUnsold 27 = .ok (.ireturn, 1) := by decide +kernel
theorem dX4_keepersWith_0 : decode cX4_keepersWith 0 = .ok (.iconst 0, 1) := by decide +kernel
theorem dX4_keepersWith_1 : decode cX4_keepersWith 1 = .ok (.istore_n 2, 1) := by decide +kernel
theorem dX4_keepersWith_2 : decode cX4_keepersWith 2 = .ok (.iconst 0, 1) := by decide +kernel
theorem dX4_keepersWith_3 : decode cX4_keepersWith 3 = .ok (.istore_n 3, 1) := by decide +kernel
theorem dX4_keepersWith_4 : decode cX4_keepersWith 4 = .ok (.iload_n 3, 1) := by decide +kernel
theorem dX4_keepersWith_5 : decode cX4_keepersWith 5 = .ok (.aload_n 0, 1) := by decide +kernel
theorem dX4_keepersWith_6 : decode cX4_keepersWith 6 = .ok (.getfield 45, 3) := by decide +kernel
theorem dX4_keepersWith_9 : decode cX4_keepersWith 9 = .ok (.if_icmp .ge 21, 3) := by decide +kernel
theorem dX4_keepersWith_12 : decode cX4_keepersWith 12 = .ok (.aload_n 0, 1) := by decide +kernel
theorem dX4_keepersWith_13 : decode cX4_keepersWith 13 = .ok (.iload_n 3, 1) := by decide +kernel
theorem dX4_keepersWith_14 : decode cX4_keepersWith 14 = .ok (.iload_n 1, 1) := by decide +kernel
theorem dX4_keepersWith_15 : decode cX4_keepersWith 15 = .ok (.invokevirtual 110, 3) := by decide +kernel
theorem dX4_keepersWith_18 : decode cX4_keepersWith 18 = .ok (.ifCond .le 6, 3) := by decide +kernel
theorem dX4_keepersWith_21 : decode cX4_keepersWith 21 = .ok (.iinc 2 1, 3) := by decide +kernel
theorem dX4_keepersWith_24 : decode cX4_keepersWith 24 = .ok (.iinc 3 1, 3) := by decide +kernel
theorem dX4_keepersWith_27 : decode cX4_keepersWith 27 = .ok (.goto (-23), 3) := by decide +kernel
theorem dX4_keepersWith_30 : decode cX4_keepersWith 30 = .ok (.iload_n 2, 1) := by decide +kernel
theorem dX4_keepersWith_31 : decode cX4_keepersWith 31 = .ok (.ireturn, 1) := by decide +kernel
theorem dX4_hadBy_0 : decode cX4_hadBy 0 = .ok (.aload_n 0, 1) := by decide +kernel
theorem dX4_hadBy_1 : decode cX4_hadBy 1 = .ok (.iload_n 1, 1) := by decide +kernel
theorem dX4_hadBy_2 : decode cX4_hadBy 2 = .ok (.invokevirtual 113, 3) := by decide +kernel
theorem dX4_hadBy_5 : decode cX4_hadBy 5 = .ok (.aload_n 0, 1) := by decide +kernel
theorem dX4_hadBy_6 : decode cX4_hadBy 6 = .ok (.iload_n 1, 1) := by decide +kernel
theorem dX4_hadBy_7 : decode cX4_hadBy 7 = .ok (.invokevirtual 116, 3) := by decide +kernel
theorem dX4_hadBy_10 : decode cX4_hadBy 10 = .ok (.iadd, 1) := by decide +kernel
theorem dX4_hadBy_11 : decode cX4_hadBy 11 = .ok (.ireturn, 1) := by decide +kernel
theorem dX4_knownBy_0 : decode cX4_knownBy 0 = .ok (.aload_n 0, 1) := by decide +kernel
theorem dX4_knownBy_1 : decode cX4_knownBy 1 = .ok (.iload_n 1, 1) := by decide +kernel
theorem dX4_knownBy_2 : decode cX4_knownBy 2 = .ok (.invokevirtual 119, 3) := by decide +kernel
theorem dX4_knownBy_5 : decode cX4_knownBy 5 = .ok (.ifCond .eq 12, 3) := by decide +kernel
theorem dX4_knownBy_8 : decode cX4_knownBy 8 = .ok (.aload_n 0, 1) := by decide +kernel
theorem dX4_knownBy_9 : decode cX4_knownBy 9 = .ok (.getfield 39, 3) := by decide +kernel
theorem dX4_knownBy_12 : decode cX4_knownBy 12 = .ok (.iload_n 1, 1) := by decide +kernel
theorem dX4_knownBy_13 : decode cX4_knownBy 13 = .ok (.iaload, 1) := by decide +kernel
theorem dX4_knownBy_14 : decode cX4_knownBy 14 = .ok (.goto 4, 3) := by decide +kernel
theorem dX4_knownBy_17 : decode cX4_knownBy 17 = .ok (.iconst 0, 1) := by decide +kernel
theorem dX4_knownBy_18 : decode cX4_knownBy 18 = .ok (.ireturn, 1) := by decide +kernel
theorem dX4_useOf_0 : decode cX4_useOf 0 = .ok (.aload_n 0, 1) := by decide +kernel
theorem dX4_useOf_1 : decode cX4_useOf 1 = .ok (.iload_n 1, 1) := by decide +kernel
theorem dX4_useOf_2 : decode cX4_useOf 2 = .ok (.invokevirtual 119, 3) := by decide +kernel
theorem dX4_useOf_5 : decode cX4_useOf 5 = .ok (.ifCond .eq 12, 3) := by decide +kernel
theorem dX4_useOf_8 : decode cX4_useOf 8 = .ok (.aload_n 0, 1) := by decide +kernel
theorem dX4_useOf_9 : decode cX4_useOf 9 = .ok (.getfield 24, 3) := by decide +kernel
theorem dX4_useOf_12 : decode cX4_useOf 12 = .ok (.iload_n 1, 1) := by decide +kernel
theorem dX4_useOf_13 : decode cX4_useOf 13 = .ok (.iaload, 1) := by decide +kernel
theorem dX4_useOf_14 : decode cX4_useOf 14 = .ok (.goto 4, 3) := by decide +kernel
theorem dX4_useOf_17 : decode cX4_useOf 17 = .ok (.iconst 0, 1) := by decide +kernel
theorem dX4_useOf_18 : decode cX4_useOf 18 = .ok (.ireturn, 1) := by decide +kernel
theorem dX4_firstSale_0 : decode cX4_firstSale 0 = .ok (.aload_n 0, 1) := by decide +kernel
theorem dX4_firstSale_1 : decode cX4_firstSale 1 = .ok (.iload_n 1, 1) := by decide +kernel
theorem dX4_firstSale_2 : decode cX4_firstSale 2 = .ok (.invokevirtual 119, 3) := by decide +kernel
theorem dX4_firstSale_5 : decode cX4_firstSale 5 = .ok (.ifCond .eq 12, 3) := by decide +kernel
theorem dX4_firstSale_8 : decode cX4_firstSale 8 = .ok (.aload_n 0, 1) := by decide +kernel
theorem dX4_firstSale_9 : decode cX4_firstSale 9 = .ok (.getfield 42, 3) := by decide +kernel
theorem dX4_firstSale_12 : decode cX4_firstSale 12 = .ok (.iload_n 1, 1) := by decide +kernel
theorem dX4_firstSale_13 : decode cX4_firstSale 13 = .ok (.iaload, 1) := by decide +kernel
theorem dX4_firstSale_14 : decode cX4_firstSale 14 = .ok (.goto 5, 3) := by decide +kernel
theorem dX4_firstSale_17 : decode cX4_firstSale 17 = .ok (.ldc 64, 2) := by decide +kernel
theorem dX4_firstSale_19 : decode cX4_firstSale 19 = .ok (.ireturn, 1) := by decide +kernel
theorem dX4_earnedBy_0 : decode cX4_earnedBy 0 = .ok (.aload_n 0, 1) := by decide +kernel
theorem dX4_earnedBy_1 : decode cX4_earnedBy 1 = .ok (.iload_n 1, 1) := by decide +kernel
theorem dX4_earnedBy_2 : decode cX4_earnedBy 2 = .ok (.invokevirtual 123, 3) := by decide +kernel
theorem dX4_earnedBy_5 : decode cX4_earnedBy 5 = .ok (.ifCond .eq 12, 3) := by decide +kernel
theorem dX4_earnedBy_8 : decode cX4_earnedBy 8 = .ok (.aload_n 0, 1) := by decide +kernel
theorem dX4_earnedBy_9 : decode cX4_earnedBy 9 = .ok (.getfield 33, 3) := by decide +kernel
theorem dX4_earnedBy_12 : decode cX4_earnedBy 12 = .ok (.iload_n 1, 1) := by decide +kernel
theorem dX4_earnedBy_13 : decode cX4_earnedBy 13 = .ok (.iaload, 1) := by decide +kernel
theorem dX4_earnedBy_14 : decode cX4_earnedBy 14 = .ok (.goto 4, 3) := by decide +kernel
theorem dX4_earnedBy_17 : decode cX4_earnedBy 17 = .ok (.iconst 0, 1) := by decide +kernel
theorem dX4_earnedBy_18 : decode cX4_earnedBy 18 = .ok (.ireturn, 1) := by decide +kernel
theorem dX4_soldBy_0 : decode cX4_soldBy 0 = .ok (.aload_n 0, 1) := by decide +kernel
theorem dX4_soldBy_1 : decode cX4_soldBy 1 = .ok (.iload_n 1, 1) := by decide +kernel
theorem dX4_soldBy_2 : decode cX4_soldBy 2 = .ok (.invokevirtual 123, 3) := by decide +kernel
theorem dX4_soldBy_5 : decode cX4_soldBy 5 = .ok (.ifCond .eq 12, 3) := by decide +kernel
theorem dX4_soldBy_8 : decode cX4_soldBy 8 = .ok (.aload_n 0, 1) := by decide +kernel
theorem dX4_soldBy_9 : decode cX4_soldBy 9 = .ok (.getfield 36, 3) := by decide +kernel
theorem dX4_soldBy_12 : decode cX4_soldBy 12 = .ok (.iload_n 1, 1) := by decide +kernel
theorem dX4_soldBy_13 : decode cX4_soldBy 13 = .ok (.iaload, 1) := by decide +kernel
theorem dX4_soldBy_14 : decode cX4_soldBy 14 = .ok (.goto 4, 3) := by decide +kernel
theorem dX4_soldBy_17 : decode cX4_soldBy 17 = .ok (.iconst 0, 1) := by decide +kernel
theorem dX4_soldBy_18 : decode cX4_soldBy 18 = .ok (.ireturn, 1) := by decide +kernel
theorem dX4_piecesOf_0 : decode cX4_piecesOf 0 = .ok (.iconst 0, 1) := by decide +kernel
theorem dX4_piecesOf_1 : decode cX4_piecesOf 1 = .ok (.istore_n 2, 1) := by decide +kernel
theorem dX4_piecesOf_2 : decode cX4_piecesOf 2 = .ok (.iconst 0, 1) := by decide +kernel
theorem dX4_piecesOf_3 : decode cX4_piecesOf 3 = .ok (.istore_n 3, 1) := by decide +kernel
theorem dX4_piecesOf_4 : decode cX4_piecesOf 4 = .ok (.iload_n 3, 1) := by decide +kernel
theorem dX4_piecesOf_5 : decode cX4_piecesOf 5 = .ok (.aload_n 0, 1) := by decide +kernel
theorem dX4_piecesOf_6 : decode cX4_piecesOf 6 = .ok (.getfield 49, 3) := by decide +kernel
theorem dX4_piecesOf_9 : decode cX4_piecesOf 9 = .ok (.if_icmp .ge 18, 3) := by decide +kernel
theorem dX4_piecesOf_12 : decode cX4_piecesOf 12 = .ok (.iload_n 2, 1) := by decide +kernel
theorem dX4_piecesOf_13 : decode cX4_piecesOf 13 = .ok (.aload_n 0, 1) := by decide +kernel
theorem dX4_piecesOf_14 : decode cX4_piecesOf 14 = .ok (.iload_n 1, 1) := by decide +kernel
theorem dX4_piecesOf_15 : decode cX4_piecesOf 15 = .ok (.iload_n 3, 1) := by decide +kernel
theorem dX4_piecesOf_16 : decode cX4_piecesOf 16 = .ok (.invokevirtual 110, 3) := by decide +kernel
theorem dX4_piecesOf_19 : decode cX4_piecesOf 19 = .ok (.iadd, 1) := by decide +kernel
theorem dX4_piecesOf_20 : decode cX4_piecesOf 20 = .ok (.istore_n 2, 1) := by decide +kernel
theorem dX4_piecesOf_21 : decode cX4_piecesOf 21 = .ok (.iinc 3 1, 3) := by decide +kernel
theorem dX4_piecesOf_24 : decode cX4_piecesOf 24 = .ok (.goto (-20), 3) := by decide +kernel
theorem dX4_piecesOf_27 : decode cX4_piecesOf 27 = .ok (.iload_n 2, 1) := by decide +kernel
theorem dX4_piecesOf_28 : decode cX4_piecesOf 28 = .ok (.ireturn, 1) := by decide +kernel
theorem dX4_earnedByAll_0 : decode cX4_earnedByAll 0 = .ok (.iconst 0, 1) := by decide +kernel
theorem dX4_earnedByAll_1 : decode cX4_earnedByAll 1 = .ok (.istore_n 1, 1) := by decide +kernel
theorem dX4_earnedByAll_2 : decode cX4_earnedByAll 2 = .ok (.iconst 0, 1) := by decide +kernel
theorem dX4_earnedByAll_3 : decode cX4_earnedByAll 3 = .ok (.istore_n 2, 1) := by decide +kernel
theorem dX4_earnedByAll_4 : decode cX4_earnedByAll 4 = .ok (.iload_n 2, 1) := by decide +kernel
theorem dX4_earnedByAll_5 : decode cX4_earnedByAll 5 = .ok (.aload_n 0, 1) := by decide +kernel
theorem dX4_earnedByAll_6 : decode cX4_earnedByAll 6 = .ok (.getfield 45, 3) := by decide +kernel
theorem dX4_earnedByAll_9 : decode cX4_earnedByAll 9 = .ok (.if_icmp .ge 17, 3) := by decide +kernel
theorem dX4_earnedByAll_12 : decode cX4_earnedByAll 12 = .ok (.iload_n 1, 1) := by decide +kernel
theorem dX4_earnedByAll_13 : decode cX4_earnedByAll 13 = .ok (.aload_n 0, 1) := by decide +kernel
theorem dX4_earnedByAll_14 : decode cX4_earnedByAll 14 = .ok (.iload_n 2, 1) := by decide +kernel
theorem dX4_earnedByAll_15 : decode cX4_earnedByAll 15 = .ok (.invokevirtual 126, 3) := by decide +kernel
theorem dX4_earnedByAll_18 : decode cX4_earnedByAll 18 = .ok (.iadd, 1) := by decide +kernel
theorem dX4_earnedByAll_19 : decode cX4_earnedByAll 19 = .ok (.istore_n 1, 1) := by decide +kernel
theorem dX4_earnedByAll_20 : decode cX4_earnedByAll 20 = .ok (.iinc 2 1, 3) := by decide +kernel
theorem dX4_earnedByAll_23 : decode cX4_earnedByAll 23 = .ok (.goto (-19), 3) := by decide +kernel
theorem dX4_earnedByAll_26 : decode cX4_earnedByAll 26 = .ok (.iload_n 1, 1) := by decide +kernel
theorem dX4_earnedByAll_27 : decode cX4_earnedByAll 27 = .ok (.ireturn, 1) := by decide +kernel
theorem dX4_addOne_0 : decode cX4_addOne 0 = .ok (.aload_n 0, 1) := by decide +kernel
theorem dX4_addOne_1 : decode cX4_addOne 1 = .ok (.iload_n 1, 1) := by decide +kernel
theorem dX4_addOne_2 : decode cX4_addOne 2 = .ok (.invokevirtual 123, 3) := by decide +kernel
theorem dX4_addOne_5 : decode cX4_addOne 5 = .ok (.ifCond .eq 26, 3) := by decide +kernel
theorem dX4_addOne_8 : decode cX4_addOne 8 = .ok (.aload_n 0, 1) := by decide +kernel
theorem dX4_addOne_9 : decode cX4_addOne 9 = .ok (.iload_n 2, 1) := by decide +kernel
theorem dX4_addOne_10 : decode cX4_addOne 10 = .ok (.invokevirtual 119, 3) := by decide +kernel
theorem dX4_addOne_13 : decode cX4_addOne 13 = .ok (.ifCond .eq 18, 3) := by decide +kernel
theorem dX4_addOne_16 : decode cX4_addOne 16 = .ok (.aload_n 0, 1) := by decide +kernel
theorem dX4_addOne_17 : decode cX4_addOne 17 = .ok (.getfield 30, 3) := by decide +kernel
theorem dX4_addOne_20 : decode cX4_addOne 20 = .ok (.iload_n 1, 1) := by decide +kernel
theorem dX4_addOne_21 : decode cX4_addOne 21 = .ok (.bipush 8, 2) := by decide +kernel
theorem dX4_addOne_23 : decode cX4_addOne 23 = .ok (.imul, 1) := by decide +kernel
theorem dX4_addOne_24 : decode cX4_addOne 24 = .ok (.iload_n 2, 1) := by decide +kernel
theorem dX4_addOne_25 : decode cX4_addOne 25 = .ok (.iadd, 1) := by decide +kernel
theorem dX4_addOne_26 : decode cX4_addOne 26 = .ok (.dup2, 1) := by decide +kernel
theorem dX4_addOne_27 : decode cX4_addOne 27 = .ok (.iaload, 1) := by decide +kernel
theorem dX4_addOne_28 : decode cX4_addOne 28 = .ok (.iconst 1, 1) := by decide +kernel
theorem dX4_addOne_29 : decode cX4_addOne 29 = .ok (.iadd, 1) := by decide +kernel
theorem dX4_addOne_30 : decode cX4_addOne 30 = .ok (.iastore, 1) := by decide +kernel
theorem dX4_addOne_31 : decode cX4_addOne 31 = .ok (.aload_n 0, 1) := by decide +kernel
theorem dX4_addOne_32 : decode cX4_addOne 32 = .ok (.iload_n 1, 1) := by decide +kernel
theorem dX4_addOne_33 : decode cX4_addOne 33 = .ok (.iload_n 2, 1) := by decide +kernel
theorem dX4_addOne_34 : decode cX4_addOne 34 = .ok (.invokevirtual 110, 3) := by decide +kernel
theorem dX4_addOne_37 : decode cX4_addOne 37 = .ok (.ireturn, 1) := by decide +kernel
theorem dX4_passYears_0 : decode cX4_passYears 0 = .ok (.iload_n 2, 1) := by decide +kernel
theorem dX4_passYears_1 : decode cX4_passYears 1 = .ok (.istore_n 3, 1) := by decide +kernel
theorem dX4_passYears_2 : decode cX4_passYears 2 = .ok (.iconst 0, 1) := by decide +kernel
theorem dX4_passYears_3 : decode cX4_passYears 3 = .ok (.istore 4, 2) := by decide +kernel
theorem dX4_passYears_5 : decode cX4_passYears 5 = .ok (.iload 4, 2) := by decide +kernel
theorem dX4_passYears_7 : decode cX4_passYears 7 = .ok (.iload_n 1, 1) := by decide +kernel
theorem dX4_passYears_8 : decode cX4_passYears 8 = .ok (.if_icmp .ge 37, 3) := by decide +kernel
theorem dX4_passYears_11 : decode cX4_passYears 11 = .ok (.aload_n 0, 1) := by decide +kernel
theorem dX4_passYears_12 : decode cX4_passYears 12 = .ok (.invokevirtual 129, 3) := by decide +kernel
theorem dX4_passYears_15 : decode cX4_passYears 15 = .ok (.aload_n 0, 1) := by decide +kernel
theorem dX4_passYears_16 : decode cX4_passYears 16 = .ok (.iload_n 3, 1) := by decide +kernel
theorem dX4_passYears_17 : decode cX4_passYears 17 = .ok (.invokevirtual 132, 3) := by decide +kernel
theorem dX4_passYears_20 : decode cX4_passYears 20 = .ok (.istore_n 3, 1) := by decide +kernel
theorem dX4_passYears_21 : decode cX4_passYears 21 = .ok (.aload_n 0, 1) := by decide +kernel
theorem dX4_passYears_22 : decode cX4_passYears 22 = .ok (.invokevirtual 135, 3) := by decide +kernel
theorem dX4_passYears_25 : decode cX4_passYears 25 = .ok (.aload_n 0, 1) := by decide +kernel
theorem dX4_passYears_26 : decode cX4_passYears 26 = .ok (.invokevirtual 138, 3) := by decide +kernel
theorem dX4_passYears_29 : decode cX4_passYears 29 = .ok (.aload_n 0, 1) := by decide +kernel
theorem dX4_passYears_30 : decode cX4_passYears 30 = .ok (.dup, 1) := by decide +kernel
theorem dX4_passYears_31 : decode cX4_passYears 31 = .ok (.getfield 55, 3) := by decide +kernel
theorem dX4_passYears_34 : decode cX4_passYears 34 = .ok (.iconst 1, 1) := by decide +kernel
theorem dX4_passYears_35 : decode cX4_passYears 35 = .ok (.iadd, 1) := by decide +kernel
theorem dX4_passYears_36 : decode cX4_passYears 36 = .ok (.putfield 55, 3) := by decide +kernel
theorem dX4_passYears_39 : decode cX4_passYears 39 = .ok (.iinc 4 1, 3) := by decide +kernel
theorem dX4_passYears_42 : decode cX4_passYears 42 = .ok (.goto (-37), 3) := by decide +kernel
theorem dX4_passYears_45 : decode cX4_passYears 45 = .ok (.return_, 1) := by decide +kernel
theorem dX4_sellAll_0 : decode cX4_sellAll 0 = .ok (.iconst 0, 1) := by decide +kernel
theorem dX4_sellAll_1 : decode cX4_sellAll 1 = .ok (.istore_n 1, 1) := by decide +kernel
theorem dX4_sellAll_2 : decode cX4_sellAll 2 = .ok (.iload_n 1, 1) := by decide +kernel
theorem dX4_sellAll_3 : decode cX4_sellAll 3 = .ok (.aload_n 0, 1) := by decide +kernel
theorem dX4_sellAll_4 : decode cX4_sellAll 4 = .ok (.getfield 45, 3) := by decide +kernel
theorem dX4_sellAll_7 : decode cX4_sellAll 7 = .ok (.if_icmp .ge 59, 3) := by decide +kernel
theorem dX4_sellAll_10 : decode cX4_sellAll 10 = .ok (.aload_n 0, 1) := by decide +kernel
theorem dX4_sellAll_11 : decode cX4_sellAll 11 = .ok (.iload_n 1, 1) := by decide +kernel
theorem dX4_sellAll_12 : decode cX4_sellAll 12 = .ok (.invokevirtual 65, 3) := by decide +kernel
theorem dX4_sellAll_15 : decode cX4_sellAll 15 = .ok (.astore_n 2, 1) := by decide +kernel
theorem dX4_sellAll_16 : decode cX4_sellAll 16 = .ok (.iconst 0, 1) := by decide +kernel
theorem dX4_sellAll_17 : decode cX4_sellAll 17 = .ok (.istore_n 3, 1) := by decide +kernel
theorem dX4_sellAll_18 : decode cX4_sellAll 18 = .ok (.iload_n 3, 1) := by decide +kernel
theorem dX4_sellAll_19 : decode cX4_sellAll 19 = .ok (.aload_n 0, 1) := by decide +kernel
theorem dX4_sellAll_20 : decode cX4_sellAll 20 = .ok (.getfield 49, 3) := by decide +kernel
theorem dX4_sellAll_23 : decode cX4_sellAll 23 = .ok (.if_icmp .ge 37, 3) := by decide +kernel
theorem dX4_sellAll_26 : decode cX4_sellAll 26 = .ok (.aload_n 2, 1) := by decide +kernel
theorem dX4_sellAll_27 : decode cX4_sellAll 27 = .ok (.ifnull 33, 3) := by decide +kernel
theorem dX4_sellAll_30 : decode cX4_sellAll 30 = .ok (.aload_n 0, 1) := by decide +kernel
theorem dX4_sellAll_31 : decode cX4_sellAll 31 = .ok (.iload_n 1, 1) := by decide +kernel
theorem dX4_sellAll_32 : decode cX4_sellAll 32 = .ok (.iload_n 3, 1) := by decide +kernel
theorem dX4_sellAll_33 : decode cX4_sellAll 33 = .ok (.invokevirtual 141, 3) := by decide +kernel
theorem dX4_sellAll_36 : decode cX4_sellAll 36 = .ok (.ifCond .eq 18, 3) := by decide +kernel
theorem dX4_sellAll_39 : decode cX4_sellAll 39 = .ok (.aload_n 2, 1) := by decide +kernel
theorem dX4_sellAll_40 : decode cX4_sellAll 40 = .ok (.aload_n 0, 1) := by decide +kernel
theorem dX4_sellAll_41 : decode cX4_sellAll 41 = .ok (.iload_n 3, 1) := by decide +kernel
theorem dX4_sellAll_42 : decode cX4_sellAll 42 = .ok (.invokevirtual 145, 3) := by decide +kernel
theorem dX4_sellAll_45 : decode cX4_sellAll 45 = .ok (.ifCond .eq 9, 3) := by decide +kernel
theorem dX4_sellAll_48 : decode cX4_sellAll 48 = .ok (.aload_n 0, 1) := by decide +kernel
theorem dX4_sellAll_49 : decode cX4_sellAll 49 = .ok (.iload_n 1, 1) := by decide +kernel
theorem dX4_sellAll_50 : decode cX4_sellAll 50 = .ok (.iload_n 3, 1) := by decide +kernel
theorem dX4_sellAll_51 : decode cX4_sellAll 51 = .ok (.invokevirtual 149, 3) := by decide +kernel
theorem dX4_sellAll_54 : decode cX4_sellAll 54 = .ok (.iinc 3 1, 3) := by decide +kernel
theorem dX4_sellAll_57 : decode cX4_sellAll 57 = .ok (.goto (-39), 3) := by decide +kernel
theorem dX4_sellAll_60 : decode cX4_sellAll 60 = .ok (.iinc 1 1, 3) := by decide +kernel
theorem dX4_sellAll_63 : decode cX4_sellAll 63 = .ok (.goto (-61), 3) := by decide +kernel
theorem dX4_sellAll_66 : decode cX4_sellAll 66 = .ok (.return_, 1) := by decide +kernel
theorem dX4_sell_0 : decode cX4_sell 0 = .ok (.aload_n 0, 1) := by decide +kernel
theorem dX4_sell_1 : decode cX4_sell 1 = .ok (.iload_n 1, 1) := by decide +kernel
theorem dX4_sell_2 : decode cX4_sell 2 = .ok (.invokevirtual 123, 3) := by decide +kernel
theorem dX4_sell_5 : decode cX4_sell 5 = .ok (.ifCond .eq 11, 3) := by decide +kernel
theorem dX4_sell_8 : decode cX4_sell 8 = .ok (.aload_n 0, 1) := by decide +kernel
theorem dX4_sell_9 : decode cX4_sell 9 = .ok (.iload_n 2, 1) := by decide +kernel
theorem dX4_sell_10 : decode cX4_sell 10 = .ok (.invokevirtual 119, 3) := by decide +kernel
theorem dX4_sell_13 : decode cX4_sell 13 = .ok (.ifCond .ne 4, 3) := by decide +kernel
theorem dX4_sell_16 : decode cX4_sell 16 = .ok (.return_, 1) := by decide +kernel
theorem dX4_sell_17 : decode cX4_sell 17 = .ok (.aload_n 0, 1) := by decide +kernel
theorem dX4_sell_18 : decode cX4_sell 18 = .ok (.getfield 33, 3) := by decide +kernel
theorem dX4_sell_21 : decode cX4_sell 21 = .ok (.iload_n 1, 1) := by decide +kernel
theorem dX4_sell_22 : decode cX4_sell 22 = .ok (.dup2, 1) := by decide +kernel
theorem dX4_sell_23 : decode cX4_sell 23 = .ok (.iaload, 1) := by decide +kernel
theorem dX4_sell_24 : decode cX4_sell 24 = .ok (.aload_n 0, 1) := by decide +kernel
theorem dX4_sell_25 : decode cX4_sell 25 = .ok (.aload_n 0, 1) := by decide +kernel
theorem dX4_sell_26 : decode cX4_sell 26 = .ok (.getfield 55, 3) := by decide +kernel
theorem dX4_sell_29 : decode cX4_sell 29 = .ok (.aload_n 0, 1) := by decide +kernel
theorem dX4_sell_30 : decode cX4_sell 30 = .ok (.iload_n 2, 1) := by decide +kernel
theorem dX4_sell_31 : decode cX4_sell 31 = .ok (.invokevirtual 153, 3) := by decide +kernel
theorem dX4_sell_34 : decode cX4_sell 34 = .ok (.invokevirtual 156, 3) := by decide +kernel
theorem dX4_sell_37 : decode cX4_sell 37 = .ok (.iadd, 1) := by decide +kernel
theorem dX4_sell_38 : decode cX4_sell 38 = .ok (.iastore, 1) := by decide +kernel
theorem dX4_sell_39 : decode cX4_sell 39 = .ok (.aload_n 0, 1) := by decide +kernel
theorem dX4_sell_40 : decode cX4_sell 40 = .ok (.getfield 36, 3) := by decide +kernel
theorem dX4_sell_43 : decode cX4_sell 43 = .ok (.iload_n 1, 1) := by decide +kernel
theorem dX4_sell_44 : decode cX4_sell 44 = .ok (.dup2, 1) := by decide +kernel
theorem dX4_sell_45 : decode cX4_sell 45 = .ok (.iaload, 1) := by decide +kernel
theorem dX4_sell_46 : decode cX4_sell 46 = .ok (.iconst 1, 1) := by decide +kernel
theorem dX4_sell_47 : decode cX4_sell 47 = .ok (.iload_n 2, 1) := by decide +kernel
theorem dX4_sell_48 : decode cX4_sell 48 = .ok (.ishl, 1) := by decide +kernel
theorem dX4_sell_49 : decode cX4_sell 49 = .ok (.ior, 1) := by decide +kernel
theorem dX4_sell_50 : decode cX4_sell 50 = .ok (.iastore, 1) := by decide +kernel
theorem dX4_sell_51 : decode cX4_sell 51 = .ok (.aload_n 0, 1) := by decide +kernel
theorem dX4_sell_52 : decode cX4_sell 52 = .ok (.getfield 42, 3) := by decide +kernel
theorem dX4_sell_55 : decode cX4_sell 55 = .ok (.iload_n 2, 1) := by decide +kernel
theorem dX4_sell_56 : decode cX4_sell 56 = .ok (.iaload, 1) := by decide +kernel
theorem dX4_sell_57 : decode cX4_sell 57 = .ok (.ldc 64, 2) := by decide +kernel
theorem dX4_sell_59 : decode cX4_sell 59 = .ok (.if_icmp .ne 13, 3) := by decide +kernel
theorem dX4_sell_62 : decode cX4_sell 62 = .ok (.aload_n 0, 1) := by decide +kernel
theorem dX4_sell_63 : decode cX4_sell 63 = .ok (.getfield 42, 3) := by decide +kernel
theorem dX4_sell_66 : decode cX4_sell 66 = .ok (.iload_n 2, 1) := by decide +kernel
theorem dX4_sell_67 : decode cX4_sell 67 = .ok (.aload_n 0, 1) := by decide +kernel
theorem dX4_sell_68 : decode cX4_sell 68 = .ok (.getfield 55, 3) := by decide +kernel
theorem dX4_sell_71 : decode cX4_sell 71 = .ok (.iastore, 1) := by decide +kernel
theorem dX4_sell_72 : decode cX4_sell 72 = .ok (.return_, 1) := by decide +kernel
theorem dX4_loseByChance_0 : decode cX4_loseByChance 0 = .ok (.iload_n 1, 1) := by decide +kernel
theorem dX4_loseByChance_1 : decode cX4_loseByChance 1 = .ok (.istore_n 2, 1) := by decide +kernel
theorem dX4_loseByChance_2 : decode cX4_loseByChance 2 = .ok (.iconst 0, 1) := by decide +kernel
theorem dX4_loseByChance_3 : decode cX4_loseByChance 3 = .ok (.istore_n 3, 1) := by decide +kernel
theorem dX4_loseByChance_4 : decode cX4_loseByChance 4 = .ok (.iload_n 3, 1) := by decide +kernel
theorem dX4_loseByChance_5 : decode cX4_loseByChance 5 = .ok (.aload_n 0, 1) := by decide +kernel
theorem dX4_loseByChance_6 : decode cX4_loseByChance 6 = .ok (.getfield 45, 3) := by decide +kernel
theorem dX4_loseByChance_9 : decode cX4_loseByChance 9 = .ok (.if_icmp .ge 110, 3) := by decide +kernel
theorem dX4_loseByChance_12 : decode cX4_loseByChance 12 = .ok (.iload_n 3, 1) := by decide +kernel
theorem dX4_loseByChance_13 : decode cX4_loseByChance 13 = .ok (.bipush 6, 2) := by decide +kernel
theorem dX4_loseByChance_15 : decode cX4_loseByChance 15 = .ok (.if_icmp .ge 104, 3) := by decide +kernel
theorem dX4_loseByChance_18 : decode cX4_loseByChance 18 = .ok (.iconst 0, 1) := by decide +kernel
theorem dX4_loseByChance_19 : decode cX4_loseByChance 19 = .ok (.istore 4, 2) := by decide +kernel
theorem dX4_loseByChance_21 : decode cX4_loseByChance 21 = .ok (.iload 4, 2) := by decide +kernel
theorem dX4_loseByChance_23 : decode cX4_loseByChance 23 = .ok (.aload_n 0, 1) := by decide +kernel
theorem dX4_loseByChance_24 : decode cX4_loseByChance 24 = .ok (.getfield 49, 3) := by decide +kernel
theorem dX4_loseByChance_27 : decode cX4_loseByChance 27 = .ok (.if_icmp .ge 86, 3) := by decide +kernel
theorem dX4_loseByChance_30 : decode cX4_loseByChance 30 = .ok (.iload 4, 2) := by decide +kernel
theorem dX4_loseByChance_32 : decode cX4_loseByChance 32 = .ok (.bipush 8, 2) := by decide +kernel
theorem dX4_loseByChance_34 : decode cX4_loseByChance 34 = .ok (.if_icmp .ge 79, 3) := by decide +kernel
theorem dX4_loseByChance_37 : decode cX4_loseByChance 37 = .ok (.aload_n 0, 1) := by decide +kernel
theorem dX4_loseByChance_38 : decode cX4_loseByChance 38 = .ok (.getfield 30, 3) := by decide +kernel
theorem dX4_loseByChance_41 : decode cX4_loseByChance 41 = .ok (.iload_n 3, 1) := by decide +kernel
theorem dX4_loseByChance_42 : decode cX4_loseByChance 42 = .ok (.bipush 8, 2) := by decide +kernel
theorem dX4_loseByChance_44 : decode cX4_loseByChance 44 = .ok (.imul, 1) := by decide +kernel
theorem dX4_loseByChance_45 : decode cX4_loseByChance 45 = .ok (.iload 4, 2) := by decide +kernel
theorem dX4_loseByChance_47 : decode cX4_loseByChance 47 = .ok (.iadd, 1) := by decide +kernel
theorem dX4_loseByChance_48 : decode cX4_loseByChance 48 = .ok (.iaload, 1) := by decide +kernel
theorem dX4_loseByChance_49 : decode cX4_loseByChance 49 = .ok (.istore 5, 2) := by decide +kernel
theorem dX4_loseByChance_51 : decode cX4_loseByChance 51 = .ok (.iconst 0, 1) := by decide +kernel
theorem dX4_loseByChance_52 : decode cX4_loseByChance 52 = .ok (.istore 6, 2) := by decide +kernel
theorem dX4_loseByChance_54 : decode cX4_loseByChance 54 = .ok (.iload 6, 2) := by decide +kernel
theorem dX4_loseByChance_56 : decode cX4_loseByChance 56 = .ok (.iload 5, 2) := by decide +kernel
theorem dX4_loseByChance_58 : decode cX4_loseByChance 58 = .ok (.if_icmp .ge 49, 3) := by decide +kernel
theorem dX4_loseByChance_61 : decode cX4_loseByChance 61 = .ok (.iload_n 2, 1) := by decide +kernel
theorem dX4_loseByChance_62 : decode cX4_loseByChance 62 = .ok (.i2l, 1) := by decide +kernel
theorem dX4_loseByChance_63 : decode cX4_loseByChance 63 = .ok (.ldc2_w 159, 3) := by decide +kernel
theorem dX4_loseByChance_66 : decode cX4_loseByChance 66 = .ok (.lmul, 1) := by decide +kernel
theorem dX4_loseByChance_67 : decode cX4_loseByChance 67 = .ok (.ldc2_w 161, 3) := by decide +kernel
theorem dX4_loseByChance_70 : decode cX4_loseByChance 70 = .ok (.lrem, 1) := by decide +kernel
theorem dX4_loseByChance_71 : decode cX4_loseByChance 71 = .ok (.l2i, 1) := by decide +kernel
theorem dX4_loseByChance_72 : decode cX4_loseByChance 72 = .ok (.istore_n 2, 1) := by decide +kernel
theorem dX4_loseByChance_73 : decode cX4_loseByChance 73 = .ok (.iload_n 2, 1) := by decide +kernel
theorem dX4_loseByChance_74 : decode cX4_loseByChance 74 = .ok (.sipush 1000, 3) := by decide +kernel
theorem dX4_loseByChance_77 : decode cX4_loseByChance 77 = .ok (.irem, 1) := by decide +kernel
theorem dX4_loseByChance_78 : decode cX4_loseByChance 78 = .ok (.aload_n 0, 1) := by decide +kernel
theorem dX4_loseByChance_79 : decode cX4_loseByChance 79 = .ok (.getfield 81, 3) := by decide +kernel
theorem dX4_loseByChance_82 : decode cX4_loseByChance 82 = .ok (.if_icmp .ge 19, 3) := by decide +kernel
theorem dX4_loseByChance_85 : decode cX4_loseByChance 85 = .ok (.aload_n 0, 1) := by decide +kernel
theorem dX4_loseByChance_86 : decode cX4_loseByChance 86 = .ok (.getfield 30, 3) := by decide +kernel
theorem dX4_loseByChance_89 : decode cX4_loseByChance 89 = .ok (.iload_n 3, 1) := by decide +kernel
theorem dX4_loseByChance_90 : decode cX4_loseByChance 90 = .ok (.bipush 8, 2) := by decide +kernel
theorem dX4_loseByChance_92 : decode cX4_loseByChance 92 = .ok (.imul, 1) := by decide +kernel
theorem dX4_loseByChance_93 : decode cX4_loseByChance 93 = .ok (.iload 4, 2) := by decide +kernel
theorem dX4_loseByChance_95 : decode cX4_loseByChance 95 = .ok (.iadd, 1) := by decide +kernel
theorem dX4_loseByChance_96 : decode cX4_loseByChance 96 = .ok (.dup2, 1) := by decide +kernel
theorem dX4_loseByChance_97 : decode cX4_loseByChance 97 = .ok (.iaload, 1) := by decide +kernel
theorem dX4_loseByChance_98 : decode cX4_loseByChance 98 = .ok (.iconst 1, 1) := by decide +kernel
theorem dX4_loseByChance_99 : decode cX4_loseByChance 99 = .ok (.isub, 1) := by decide +kernel
theorem dX4_loseByChance_100 : decode cX4_loseByChance 100 = .ok (.iastore, 1) := by decide +kernel
theorem dX4_loseByChance_101 : decode cX4_loseByChance 101 = .ok (.iinc 6 1, 3) := by decide +kernel
theorem dX4_loseByChance_104 : decode cX4_loseByChance 104 = .ok (.goto (-50), 3) := by decide +kernel
theorem dX4_loseByChance_107 : decode cX4_loseByChance 107 = .ok (.iinc 4 1, 3) := by decide +kernel
theorem dX4_loseByChance_110 : decode cX4_loseByChance 110 = .ok (.goto (-89), 3) := by decide +kernel
theorem dX4_loseByChance_113 : decode cX4_loseByChance 113 = .ok (.iinc 3 1, 3) := by decide +kernel
theorem dX4_loseByChance_116 : decode cX4_loseByChance 116 = .ok (.goto (-112), 3) := by decide +kernel
theorem dX4_loseByChance_119 : decode cX4_loseByChance 119 = .ok (.iload_n 2, 1) := by decide +kernel
theorem dX4_loseByChance_120 : decode cX4_loseByChance 120 = .ok (.ireturn, 1) := by decide +kernel
theorem dX4_spreadSold_0 : decode cX4_spreadSold 0 = .ok (.iconst 0, 1) := by decide +kernel
theorem dX4_spreadSold_1 : decode cX4_spreadSold 1 = .ok (.istore_n 1, 1) := by decide +kernel
theorem dX4_spreadSold_2 : decode cX4_spreadSold 2 = .ok (.iload_n 1, 1) := by decide +kernel
theorem dX4_spreadSold_3 : decode cX4_spreadSold 3 = .ok (.aload_n 0, 1) := by decide +kernel
theorem dX4_spreadSold_4 : decode cX4_spreadSold 4 = .ok (.getfield 49, 3) := by decide +kernel
theorem dX4_spreadSold_7 : decode cX4_spreadSold 7 = .ok (.if_icmp .ge 39, 3) := by decide +kernel
theorem dX4_spreadSold_10 : decode cX4_spreadSold 10 = .ok (.iload_n 1, 1) := by decide +kernel
theorem dX4_spreadSold_11 : decode cX4_spreadSold 11 = .ok (.bipush 8, 2) := by decide +kernel
theorem dX4_spreadSold_13 : decode cX4_spreadSold 13 = .ok (.if_icmp .ge 33, 3) := by decide +kernel
theorem dX4_spreadSold_16 : decode cX4_spreadSold 16 = .ok (.aload_n 0, 1) := by decide +kernel
theorem dX4_spreadSold_17 : decode cX4_spreadSold 17 = .ok (.getfield 42, 3) := by decide +kernel
theorem dX4_spreadSold_20 : decode cX4_spreadSold 20 = .ok (.iload_n 1, 1) := by decide +kernel
theorem dX4_spreadSold_21 : decode cX4_spreadSold 21 = .ok (.iaload, 1) := by decide +kernel
theorem dX4_spreadSold_22 : decode cX4_spreadSold 22 = .ok (.ldc 64, 2) := by decide +kernel
theorem dX4_spreadSold_24 : decode cX4_spreadSold 24 = .ok (.if_icmp .eq 16, 3) := by decide +kernel
theorem dX4_spreadSold_27 : decode cX4_spreadSold 27 = .ok (.aload_n 0, 1) := by decide +kernel
theorem dX4_spreadSold_28 : decode cX4_spreadSold 28 = .ok (.getfield 39, 3) := by decide +kernel
theorem dX4_spreadSold_31 : decode cX4_spreadSold 31 = .ok (.iload_n 1, 1) := by decide +kernel
theorem dX4_spreadSold_32 : decode cX4_spreadSold 32 = .ok (.dup2, 1) := by decide +kernel
theorem dX4_spreadSold_33 : decode cX4_spreadSold 33 = .ok (.iaload, 1) := by decide +kernel
theorem dX4_spreadSold_34 : decode cX4_spreadSold 34 = .ok (.aload_n 0, 1) := by decide +kernel
theorem dX4_spreadSold_35 : decode cX4_spreadSold 35 = .ok (.getfield 84, 3) := by decide +kernel
theorem dX4_spreadSold_38 : decode cX4_spreadSold 38 = .ok (.iadd, 1) := by decide +kernel
theorem dX4_spreadSold_39 : decode cX4_spreadSold 39 = .ok (.iastore, 1) := by decide +kernel
theorem dX4_spreadSold_40 : decode cX4_spreadSold 40 = .ok (.iinc 1 1, 3) := by decide +kernel
theorem dX4_spreadSold_43 : decode cX4_spreadSold 43 = .ok (.goto (-41), 3) := by decide +kernel
theorem dX4_spreadSold_46 : decode cX4_spreadSold 46 = .ok (.return_, 1) := by decide +kernel
theorem dX4_payCost_0 : decode cX4_payCost 0 = .ok (.iconst 0, 1) := by decide +kernel
theorem dX4_payCost_1 : decode cX4_payCost 1 = .ok (.istore_n 1, 1) := by decide +kernel
theorem dX4_payCost_2 : decode cX4_payCost 2 = .ok (.iload_n 1, 1) := by decide +kernel
theorem dX4_payCost_3 : decode cX4_payCost 3 = .ok (.aload_n 0, 1) := by decide +kernel
theorem dX4_payCost_4 : decode cX4_payCost 4 = .ok (.getfield 45, 3) := by decide +kernel
theorem dX4_payCost_7 : decode cX4_payCost 7 = .ok (.if_icmp .ge 57, 3) := by decide +kernel
theorem dX4_payCost_10 : decode cX4_payCost 10 = .ok (.iload_n 1, 1) := by decide +kernel
theorem dX4_payCost_11 : decode cX4_payCost 11 = .ok (.bipush 6, 2) := by decide +kernel
theorem dX4_payCost_13 : decode cX4_payCost 13 = .ok (.if_icmp .ge 51, 3) := by decide +kernel
theorem dX4_payCost_16 : decode cX4_payCost 16 = .ok (.iconst 0, 1) := by decide +kernel
theorem dX4_payCost_17 : decode cX4_payCost 17 = .ok (.istore_n 2, 1) := by decide +kernel
theorem dX4_payCost_18 : decode cX4_payCost 18 = .ok (.iload_n 2, 1) := by decide +kernel
theorem dX4_payCost_19 : decode cX4_payCost 19 = .ok (.aload_n 0, 1) := by decide +kernel
theorem dX4_payCost_20 : decode cX4_payCost 20 = .ok (.getfield 49, 3) := by decide +kernel
theorem dX4_payCost_23 : decode cX4_payCost 23 = .ok (.if_icmp .ge 35, 3) := by decide +kernel
theorem dX4_payCost_26 : decode cX4_payCost 26 = .ok (.aload_n 0, 1) := by decide +kernel
theorem dX4_payCost_27 : decode cX4_payCost 27 = .ok (.getfield 33, 3) := by decide +kernel
theorem dX4_payCost_30 : decode cX4_payCost 30 = .ok (.iload_n 1, 1) := by decide +kernel
theorem dX4_payCost_31 : decode cX4_payCost 31 = .ok (.dup2, 1) := by decide +kernel
theorem dX4_payCost_32 : decode cX4_payCost 32 = .ok (.iaload, 1) := by decide +kernel
theorem dX4_payCost_33 : decode cX4_payCost 33 = .ok (.aload_n 0, 1) := by decide +kernel
theorem dX4_payCost_34 : decode cX4_payCost 34 = .ok (.iload_n 1, 1) := by decide +kernel
theorem dX4_payCost_35 : decode cX4_payCost 35 = .ok (.iload_n 2, 1) := by decide +kernel
theorem dX4_payCost_36 : decode cX4_payCost 36 = .ok (.invokevirtual 110, 3) := by decide +kernel
theorem dX4_payCost_39 : decode cX4_payCost 39 = .ok (.iconst 1, 1) := by decide +kernel
theorem dX4_payCost_40 : decode cX4_payCost 40 = .ok (.isub, 1) := by decide +kernel
theorem dX4_payCost_41 : decode cX4_payCost 41 = .ok (.iconst 0, 1) := by decide +kernel
theorem dX4_payCost_42 : decode cX4_payCost 42 = .ok (.invokestatic 96, 3) := by decide +kernel
theorem dX4_payCost_45 : decode cX4_payCost 45 = .ok (.aload_n 0, 1) := by decide +kernel
theorem dX4_payCost_46 : decode cX4_payCost 46 = .ok (.getfield 87, 3) := by decide +kernel
theorem dX4_payCost_49 : decode cX4_payCost 49 = .ok (.imul, 1) := by decide +kernel
theorem dX4_payCost_50 : decode cX4_payCost 50 = .ok (.isub, 1) := by decide +kernel
theorem dX4_payCost_51 : decode cX4_payCost 51 = .ok (.iastore, 1) := by decide +kernel
theorem dX4_payCost_52 : decode cX4_payCost 52 = .ok (.iinc 2 1, 3) := by decide +kernel
theorem dX4_payCost_55 : decode cX4_payCost 55 = .ok (.goto (-37), 3) := by decide +kernel
theorem dX4_payCost_58 : decode cX4_payCost 58 = .ok (.iinc 1 1, 3) := by decide +kernel
theorem dX4_payCost_61 : decode cX4_payCost 61 = .ok (.goto (-59), 3) := by decide +kernel
theorem dX4_payCost_64 : decode cX4_payCost 64 = .ok (.return_, 1) := by decide +kernel
theorem dX5_init_0 : decode cX5_init 0 = .ok (.aload_n 0, 1) := by decide +kernel
theorem dX5_init_1 : decode cX5_init 1 = .ok (.iload_n 1, 1) := by decide +kernel
theorem dX5_init_2 : decode cX5_init 2 = .ok (.iload_n 2, 1) := by decide +kernel
theorem dX5_init_3 : decode cX5_init 3 = .ok (.iload_n 3, 1) := by decide +kernel
theorem dX5_init_4 : decode cX5_init 4 = .ok (.invokespecial 1, 3) := by decide +kernel
theorem dX5_init_7 : decode cX5_init 7 = .ok (.return_, 1) := by decide +kernel
theorem dX5_kindTold_0 : decode cX5_kindTold 0 = .ok (.iconst 1, 1) := by decide +kernel
theorem dX5_kindTold_1 : decode cX5_kindTold 1 = .ok (.ireturn, 1) := by decide +kernel
theorem dX5_sells_0 : decode cX5_sells 0 = .ok (.iconst 1, 1) := by decide +kernel
theorem dX5_sells_1 : decode cX5_sells 1 = .ok (.ireturn, 1) := by decide +kernel
theorem dX5_markAsked_0 : decode cX5_markAsked 0 = .ok (.aload_n 2, 1) := by decide +kernel
theorem dX5_markAsked_1 : decode cX5_markAsked 1 = .ok (.bipush 23, 2) := by decide +kernel
theorem dX5_markAsked_3 : decode cX5_markAsked 3 = .ok (.invokevirtual 7, 3) := by decide +kernel
theorem dX5_markAsked_6 : decode cX5_markAsked 6 = .ok (.aload_n 0, 1) := by decide +kernel
theorem dX5_markAsked_7 : decode cX5_markAsked 7 = .ok (.aload_n 1, 1) := by decide +kernel
theorem dX5_markAsked_8 : decode cX5_markAsked 8 = .ok (.aload_n 2, 1) := by decide +kernel
theorem dX5_markAsked_9 : decode cX5_markAsked 9 = .ok (.invokespecial 13, 3) := by decide +kernel
theorem dX5_markAsked_12 : decode cX5_markAsked 12 = .ok (.aload_n 0, 1) := by decide +kernel
theorem dX5_markAsked_13 : decode cX5_markAsked 13 = .ok (.aload_n 1, 1) := by decide +kernel
theorem dX5_markAsked_14 : decode cX5_markAsked 14 = .ok (.aload_n 2, 1) := by decide +kernel
theorem dX5_markAsked_15 : decode cX5_markAsked 15 = .ok (.invokevirtual 17, 3) := by decide +kernel
theorem dX5_markAsked_18 : decode cX5_markAsked 18 = .ok (.isub, 1) := by decide +kernel
theorem dX5_markAsked_19 : decode cX5_markAsked 19 = .ok (.ireturn, 1) := by decide +kernel
theorem dX6_init_0 : decode cX6_init 0 = .ok (.aload_n 0, 1) := by decide +kernel
theorem dX6_init_1 : decode cX6_init 1 = .ok (.invokespecial 1, 3) := by decide +kernel
theorem dX6_init_4 : decode cX6_init 4 = .ok (.aload_n 0, 1) := by decide +kernel
theorem dX6_init_5 : decode cX6_init 5 = .ok (.sipush 500, 3) := by decide +kernel
theorem dX6_init_8 : decode cX6_init 8 = .ok (.newarray .byte, 2) := by decide +kernel
theorem dX6_init_10 : decode cX6_init 10 = .ok (.putfield 9, 3) := by decide +kernel
theorem dX6_init_13 : decode cX6_init 13 = .ok (.return_, 1) := by decide +kernel
theorem dX6_append_0 : decode cX6_append 0 = .ok (.iload_n 3, 1) := by decide +kernel
theorem dX6_append_1 : decode cX6_append 1 = .ok (.ifCond .lt 15, 3) := by decide +kernel
theorem dX6_append_4 : decode cX6_append 4 = .ok (.iload_n 3, 1) := by decide +kernel
theorem dX6_append_5 : decode cX6_append 5 = .ok (.sipush 500, 3) := by decide +kernel
theorem dX6_append_8 : decode cX6_append 8 = .ok (.aload_n 0, 1) := by decide +kernel
theorem dX6_append_9 : decode cX6_append 9 = .ok (.getfield 13, 3) := by decide +kernel
theorem dX6_append_12 : decode cX6_append 12 = .ok (.isub, 1) := by decide +kernel
theorem dX6_append_13 : decode cX6_append 13 = .ok (.if_icmp .le 5, 3) := by decide +kernel
theorem dX6_append_16 : decode cX6_append 16 = .ok (.iconst 0, 1) := by decide +kernel
theorem dX6_append_17 : decode cX6_append 17 = .ok (.ireturn, 1) := by decide +kernel
theorem dX6_append_18 : decode cX6_append 18 = .ok (.iload_n 3, 1) := by decide +kernel
theorem dX6_append_19 : decode cX6_append 19 = .ok (.iconst 1, 1) := by decide +kernel
theorem dX6_append_20 : decode cX6_append 20 = .ok (.isub, 1) := by decide +kernel
theorem dX6_append_21 : decode cX6_append 21 = .ok (.istore 4, 2) := by decide +kernel
theorem dX6_append_23 : decode cX6_append 23 = .ok (.iload 4, 2) := by decide +kernel
theorem dX6_append_25 : decode cX6_append 25 = .ok (.ifCond .lt 37, 3) := by decide +kernel
theorem dX6_append_28 : decode cX6_append 28 = .ok (.aload_n 0, 1) := by decide +kernel
theorem dX6_append_29 : decode cX6_append 29 = .ok (.getfield 9, 3) := by decide +kernel
theorem dX6_append_32 : decode cX6_append 32 = .ok (.aload_n 0, 1) := by decide +kernel
theorem dX6_append_33 : decode cX6_append 33 = .ok (.getfield 13, 3) := by decide +kernel
theorem dX6_append_36 : decode cX6_append 36 = .ok (.lload_n 1, 1) := by decide +kernel
theorem dX6_append_37 : decode cX6_append 37 = .ok (.bipush 8, 2) := by decide +kernel
theorem dX6_append_39 : decode cX6_append 39 = .ok (.iload 4, 2) := by decide +kernel
theorem dX6_append_41 : decode cX6_append 41 = .ok (.imul, 1) := by decide +kernel
theorem dX6_append_42 : decode cX6_append 42 = .ok (.lshr, 1) := by decide +kernel
theorem dX6_append_43 : decode cX6_append 43 = .ok (.l2i, 1) := by decide +kernel
theorem dX6_append_44 : decode cX6_append 44 = .ok (.i2b, 1) := by decide +kernel
theorem dX6_append_45 : decode cX6_append 45 = .ok (.bastore, 1) := by decide +kernel
theorem dX6_append_46 : decode cX6_append 46 = .ok (.aload_n 0, 1) := by decide +kernel
theorem dX6_append_47 : decode cX6_append 47 = .ok (.dup, 1) := by decide +kernel
theorem dX6_append_48 : decode cX6_append 48 = .ok (.getfield 13, 3) := by decide +kernel
theorem dX6_append_51 : decode cX6_append 51 = .ok (.iconst 1, 1) := by decide +kernel
theorem dX6_append_52 : decode cX6_append 52 = .ok (.iadd, 1) := by decide +kernel
theorem dX6_append_53 : decode cX6_append 53 = .ok (.putfield 13, 3) := by decide +kernel
theorem dX6_append_56 : decode cX6_append 56 = .ok (.iinc 4 (-1), 3) := by decide +kernel
theorem dX6_append_59 : decode cX6_append 59 = .ok (.goto (-36), 3) := by decide +kernel
theorem dX6_append_62 : decode cX6_append 62 = .ok (.iconst 1, 1) := by decide +kernel
theorem dX6_append_63 : decode cX6_append 63 = .ok (.ireturn, 1) := by decide +kernel
theorem dX6_empty_0 : decode cX6_empty 0 = .ok (.aload_n 0, 1) := by decide +kernel
theorem dX6_empty_1 : decode cX6_empty 1 = .ok (.iconst 0, 1) := by decide +kernel
theorem dX6_empty_2 : decode cX6_empty 2 = .ok (.putfield 13, 3) := by decide +kernel
theorem dX6_empty_5 : decode cX6_empty 5 = .ok (.return_, 1) := by decide +kernel
theorem dX6_readInto_0 : decode cX6_readInto 0 = .ok (.aload_n 1, 1) := by decide +kernel
theorem dX6_readInto_1 : decode cX6_readInto 1 = .ok (.invokevirtual 17, 3) := by decide +kernel
theorem dX6_readInto_4 : decode cX6_readInto 4 = .ok (.aload_n 0, 1) := by decide +kernel
theorem dX6_readInto_5 : decode cX6_readInto 5 = .ok (.iconst 0, 1) := by decide +kernel
theorem dX6_readInto_6 : decode cX6_readInto 6 = .ok (.putfield 22, 3) := by decide +kernel
theorem dX6_readInto_9 : decode cX6_readInto 9 = .ok (.aload_n 0, 1) := by decide +kernel
theorem dX6_readInto_10 : decode cX6_readInto 10 = .ok (.iconst 0, 1) := by decide +kernel
theorem dX6_readInto_11 : decode cX6_readInto 11 = .ok (.putfield 25, 3) := by decide +kernel
theorem dX6_readInto_14 : decode cX6_readInto 14 = .ok (.aload_n 0, 1) := by decide +kernel
theorem dX6_readInto_15 : decode cX6_readInto 15 = .ok (.invokevirtual 28, 3) := by decide +kernel
theorem dX6_readInto_18 : decode cX6_readInto 18 = .ok (.aload_n 0, 1) := by decide +kernel
theorem dX6_readInto_19 : decode cX6_readInto 19 = .ok (.aload_n 1, 1) := by decide +kernel
theorem dX6_readInto_20 : decode cX6_readInto 20 = .ok (.invokevirtual 31, 3) := by decide +kernel
theorem dX6_readInto_23 : decode cX6_readInto 23 = .ok (.aload_n 0, 1) := by decide +kernel
theorem dX6_readInto_24 : decode cX6_readInto 24 = .ok (.aload_n 1, 1) := by decide +kernel
theorem dX6_readInto_25 : decode cX6_readInto 25 = .ok (.invokevirtual 35, 3) := by decide +kernel
theorem dX6_readInto_28 : decode cX6_readInto 28 = .ok (.aload_n 0, 1) := by decide +kernel
theorem dX6_readInto_29 : decode cX6_readInto 29 = .ok (.aload_n 1, 1) := by decide +kernel
theorem dX6_readInto_30 : decode cX6_readInto 30 = .ok (.invokevirtual 38, 3) := by decide +kernel
theorem dX6_readInto_33 : decode cX6_readInto 33 = .ok (.aload_n 0, 1) := by decide +kernel
theorem dX6_readInto_34 : decode cX6_readInto 34 = .ok (.aload_n 1, 1) := by decide +kernel
theorem dX6_readInto_35 : decode cX6_readInto 35 = .ok (.invokevirtual 41, 3) := by decide +kernel
theorem dX6_readInto_38 : decode cX6_readInto 38 = .ok (.aload_n 0, 1) := by decide +kernel
theorem dX6_readInto_39 : decode cX6_readInto 39 = .ok (.aload_n 1, 1) := by decide +kernel
theorem dX6_readInto_40 : decode cX6_readInto 40 = .ok (.invokevirtual 44, 3) := by decide +kernel
theorem dX6_readInto_43 : decode cX6_readInto 43 = .ok (.aload_n 1, 1) := by decide +kernel
theorem dX6_readInto_44 : decode cX6_readInto 44 = .ok (.invokevirtual 47, 3) := by decide +kernel
theorem dX6_readInto_47 : decode cX6_readInto 47 = .ok (.aload_n 0, 1) := by decide +kernel
theorem dX6_readInto_48 : decode cX6_readInto 48 = .ok (.getfield 22, 3) := by decide +kernel
theorem dX6_readInto_51 : decode cX6_readInto 51 = .ok (.bipush 6, 2) := by decide +kernel
theorem dX6_readInto_53 : decode cX6_readInto 53 = .ok (.if_icmp .eq 7, 3) := by decide +kernel
theorem dX6_readInto_56 : decode cX6_readInto 56 = .ok (.iconst 1, 1) := by decide +kernel
theorem dX6_readInto_57 : decode cX6_readInto 57 = .ok (.goto 4, 3) := by decide +kernel
theorem dX6_readInto_60 : decode cX6_readInto 60 = .ok (.iconst 0, 1) := by decide +kernel
theorem dX6_readInto_61 : decode cX6_readInto 61 = .ok (.ireturn, 1) := by decide +kernel
theorem dX6_readLaw_0 : decode cX6_readLaw 0 = .ok (.aload_n 0, 1) := by decide +kernel
theorem dX6_readLaw_1 : decode cX6_readLaw 1 = .ok (.ldc 50, 2) := by decide +kernel
theorem dX6_readLaw_3 : decode cX6_readLaw 3 = .ok (.invokevirtual 52, 3) := by decide +kernel
theorem dX6_readLaw_6 : decode cX6_readLaw 6 = .ok (.aload_n 0, 1) := by decide +kernel
theorem dX6_readLaw_7 : decode cX6_readLaw 7 = .ok (.ldc 56, 2) := by decide +kernel
theorem dX6_readLaw_9 : decode cX6_readLaw 9 = .ok (.invokevirtual 58, 3) := by decide +kernel
theorem dX6_readLaw_12 : decode cX6_readLaw 12 = .ok (.ifCond .eq 17, 3) := by decide +kernel
theorem dX6_readLaw_15 : decode cX6_readLaw 15 = .ok (.aload_n 0, 1) := by decide +kernel
theorem dX6_readLaw_16 : decode cX6_readLaw 16 = .ok (.ldc 56, 2) := by decide +kernel
theorem dX6_readLaw_18 : decode cX6_readLaw 18 = .ok (.invokevirtual 52, 3) := by decide +kernel
theorem dX6_readLaw_21 : decode cX6_readLaw 21 = .ok (.aload_n 1, 1) := by decide +kernel
theorem dX6_readLaw_22 : decode cX6_readLaw 22 = .ok (.iconst 1, 1) := by decide +kernel
theorem dX6_readLaw_23 : decode cX6_readLaw 23 = .ok (.putfield 62, 3) := by decide +kernel
theorem dX6_readLaw_26 : decode cX6_readLaw 26 = .ok (.goto 14, 3) := by decide +kernel
theorem dX6_readLaw_29 : decode cX6_readLaw 29 = .ok (.aload_n 0, 1) := by decide +kernel
theorem dX6_readLaw_30 : decode cX6_readLaw 30 = .ok (.ldc 64, 2) := by decide +kernel
theorem dX6_readLaw_32 : decode cX6_readLaw 32 = .ok (.invokevirtual 52, 3) := by decide +kernel
theorem dX6_readLaw_35 : decode cX6_readLaw 35 = .ok (.aload_n 1, 1) := by decide +kernel
theorem dX6_readLaw_36 : decode cX6_readLaw 36 = .ok (.iconst 0, 1) := by decide +kernel
theorem dX6_readLaw_37 : decode cX6_readLaw 37 = .ok (.putfield 62, 3) := by decide +kernel
theorem dX6_readLaw_40 : decode cX6_readLaw 40 = .ok (.aload_n 1, 1) := by decide +kernel
theorem dX6_readLaw_41 : decode cX6_readLaw 41 = .ok (.aload_n 0, 1) := by decide +kernel
theorem dX6_readLaw_42 : decode cX6_readLaw 42 = .ok (.iconst 1, 1) := by decide +kernel
theorem dX6_readLaw_43 : decode cX6_readLaw 43 = .ok (.bipush 60, 2) := by decide +kernel
theorem dX6_readLaw_45 : decode cX6_readLaw 45 = .ok (.invokevirtual 66, 3) := by decide +kernel
theorem dX6_readLaw_48 : decode cX6_readLaw 48 = .ok (.putfield 70, 3) := by decide +kernel
theorem dX6_readLaw_51 : decode cX6_readLaw 51 = .ok (.aload_n 0, 1) := by decide +kernel
theorem dX6_readLaw_52 : decode cX6_readLaw 52 = .ok (.invokevirtual 73, 3) := by decide +kernel
theorem dX6_readLaw_55 : decode cX6_readLaw 55 = .ok (.return_, 1) := by decide +kernel
theorem dX6_readPoints_0 : decode cX6_readPoints 0 = .ok (.iconst 0, 1) := by decide +kernel
theorem dX6_readPoints_1 : decode cX6_readPoints 1 = .ok (.istore_n 2, 1) := by decide +kernel
theorem dX6_readPoints_2 : decode cX6_readPoints 2 = .ok (.iconst 0, 1) := by decide +kernel
theorem dX6_readPoints_3 : decode cX6_readPoints 3 = .ok (.istore_n 3, 1) := by decide +kernel
theorem dX6_readPoints_4 : decode cX6_readPoints 4 = .ok (.iload_n 3, 1) := by decide +kernel
theorem dX6_readPoints_5 : decode cX6_readPoints 5 = .ok (.ifCond .eq 18, 3) := by decide +kernel
theorem dX6_readPoints_8 : decode cX6_readPoints 8 = .ok (.iload_n 3, 1) := by decide +kernel
theorem dX6_readPoints_9 : decode cX6_readPoints 9 = .ok (.bipush 8, 2) := by decide +kernel
theorem dX6_readPoints_11 : decode cX6_readPoints 11 = .ok (.if_icmp .gt 63, 3) := by decide +kernel
theorem dX6_readPoints_14 : decode cX6_readPoints 14 = .ok (.aload_n 0, 1) := by decide +kernel
theorem dX6_readPoints_15 : decode cX6_readPoints 15 = .ok (.ldc 76, 2) := by decide +kernel
theorem dX6_readPoints_17 : decode cX6_readPoints 17 = .ok (.invokevirtual 58, 3) := by decide +kernel
theorem dX6_readPoints_20 : decode cX6_readPoints 20 = .ok (.ifCond .eq 54, 3) := by decide +kernel
theorem dX6_readPoints_23 : decode cX6_readPoints 23 = .ok (.aload_n 0, 1) := by decide +kernel
theorem dX6_readPoints_24 : decode cX6_readPoints 24 = .ok (.ldc 76, 2) := by decide +kernel
theorem dX6_readPoints_26 : decode cX6_readPoints 26 = .ok (.iload_n 3, 1) := by decide +kernel
theorem dX6_readPoints_27 : decode cX6_readPoints 27 = .ok (.bipush 8, 2) := by decide +kernel
theorem dX6_readPoints_29 : decode cX6_readPoints 29 = .ok (.invokevirtual 78, 3) := by decide +kernel
theorem dX6_readPoints_32 : decode cX6_readPoints 32 = .ok (.aload_n 0, 1) := by decide +kernel
theorem dX6_readPoints_33 : decode cX6_readPoints 33 = .ok (.iload_n 2, 1) := by decide +kernel
theorem dX6_readPoints_34 : decode cX6_readPoints 34 = .ok (.bipush 60, 2) := by decide +kernel
theorem dX6_readPoints_36 : decode cX6_readPoints 36 = .ok (.invokevirtual 66, 3) := by decide +kernel
theorem dX6_readPoints_39 : decode cX6_readPoints 39 = .ok (.istore 4, 2) := by decide +kernel
theorem dX6_readPoints_41 : decode cX6_readPoints 41 = .ok (.aload_n 0, 1) := by decide +kernel
theorem dX6_readPoints_42 : decode cX6_readPoints 42 = .ok (.iconst 0, 1) := by decide +kernel
theorem dX6_readPoints_43 : decode cX6_readPoints 43 = .ok (.sipush 9999, 3) := by decide +kernel
theorem dX6_readPoints_46 : decode cX6_readPoints 46 = .ok (.invokevirtual 66, 3) := by decide +kernel
theorem dX6_readPoints_49 : decode cX6_readPoints 49 = .ok (.istore 5, 2) := by decide +kernel
theorem dX6_readPoints_51 : decode cX6_readPoints 51 = .ok (.aload_n 0, 1) := by decide +kernel
theorem dX6_readPoints_52 : decode cX6_readPoints 52 = .ok (.invokevirtual 73, 3) := by decide +kernel
theorem dX6_readPoints_55 : decode cX6_readPoints 55 = .ok (.aload_n 1, 1) := by decide +kernel
theorem dX6_readPoints_56 : decode cX6_readPoints 56 = .ok (.iload 4, 2) := by decide +kernel
theorem dX6_readPoints_58 : decode cX6_readPoints 58 = .ok (.iload 5, 2) := by decide +kernel
theorem dX6_readPoints_60 : decode cX6_readPoints 60 = .ok (.invokevirtual 82, 3) := by decide +kernel
theorem dX6_readPoints_63 : decode cX6_readPoints 63 = .ok (.iload 4, 2) := by decide +kernel
theorem dX6_readPoints_65 : decode cX6_readPoints 65 = .ok (.iconst 1, 1) := by decide +kernel
theorem dX6_readPoints_66 : decode cX6_readPoints 66 = .ok (.iadd, 1) := by decide +kernel
theorem dX6_readPoints_67 : decode cX6_readPoints 67 = .ok (.istore_n 2, 1) := by decide +kernel
theorem dX6_readPoints_68 : decode cX6_readPoints 68 = .ok (.iinc 3 1, 3) := by decide +kernel
theorem dX6_readPoints_71 : decode cX6_readPoints 71 = .ok (.goto (-67), 3) := by decide +kernel
theorem dX6_readPoints_74 : decode cX6_readPoints 74 = .ok (.return_, 1) := by decide +kernel
theorem dX6_readChest_0 : decode cX6_readChest 0 = .ok (.aload_n 0, 1) := by decide +kernel
theorem dX6_readChest_1 : decode cX6_readChest 1 = .ok (.ldc 86, 2) := by decide +kernel
theorem dX6_readChest_3 : decode cX6_readChest 3 = .ok (.invokevirtual 52, 3) := by decide +kernel
theorem dX6_readChest_6 : decode cX6_readChest 6 = .ok (.aload_n 1, 1) := by decide +kernel
theorem dX6_readChest_7 : decode cX6_readChest 7 = .ok (.aload_n 0, 1) := by decide +kernel
theorem dX6_readChest_8 : decode cX6_readChest 8 = .ok (.iconst 0, 1) := by decide +kernel
theorem dX6_readChest_9 : decode cX6_readChest 9 = .ok (.sipush 500, 3) := by decide +kernel
theorem dX6_readChest_12 : decode cX6_readChest 12 = .ok (.invokevirtual 66, 3) := by decide +kernel
theorem dX6_readChest_15 : decode cX6_readChest 15 = .ok (.putfield 88, 3) := by decide +kernel
theorem dX6_readChest_18 : decode cX6_readChest 18 = .ok (.aload_n 1, 1) := by decide +kernel
theorem dX6_readChest_19 : decode cX6_readChest 19 = .ok (.aload_n 0, 1) := by decide +kernel
theorem dX6_readChest_20 : decode cX6_readChest 20 = .ok (.iconst 0, 1) := by decide +kernel
theorem dX6_readChest_21 : decode cX6_readChest 21 = .ok (.bipush 20, 2) := by decide +kernel
theorem dX6_readChest_23 : decode cX6_readChest 23 = .ok (.invokevirtual 66, 3) := by decide +kernel
theorem dX6_readChest_26 : decode cX6_readChest 26 = .ok (.putfield 91, 3) := by decide +kernel
theorem dX6_readChest_29 : decode cX6_readChest 29 = .ok (.aload_n 1, 1) := by decide +kernel
theorem dX6_readChest_30 : decode cX6_readChest 30 = .ok (.aload_n 0, 1) := by decide +kernel
theorem dX6_readChest_31 : decode cX6_readChest 31 = .ok (.iconst 0, 1) := by decide +kernel
theorem dX6_readChest_32 : decode cX6_readChest 32 = .ok (.sipush 999, 3) := by decide +kernel
theorem dX6_readChest_35 : decode cX6_readChest 35 = .ok (.invokevirtual 66, 3) := by decide +kernel
theorem dX6_readChest_38 : decode cX6_readChest 38 = .ok (.putfield 94, 3) := by decide +kernel
theorem dX6_readChest_41 : decode cX6_readChest 41 = .ok (.aload_n 0, 1) := by decide +kernel
theorem dX6_readChest_42 : decode cX6_readChest 42 = .ok (.invokevirtual 73, 3) := by decide +kernel
theorem dX6_readChest_45 : decode cX6_readChest 45 = .ok (.return_, 1) := by decide +kernel
theorem dX6_readKeepers_0 : decode cX6_readKeepers 0 = .ok (.iconst 0, 1) := by decide +kernel
theorem dX6_readKeepers_1 : decode cX6_readKeepers 1 = .ok (.istore_n 2, 1) := by decide +kernel
theorem dX6_readKeepers_2 : decode cX6_readKeepers 2 = .ok (.iload_n 2, 1) := by decide +kernel
theorem dX6_readKeepers_3 : decode cX6_readKeepers 3 = .ok (.ifCond .eq 18, 3) := by decide +kernel
theorem dX6_readKeepers_6 : decode cX6_readKeepers 6 = .ok (.iload_n 2, 1) := by decide +kernel
theorem dX6_readKeepers_7 : decode cX6_readKeepers 7 = .ok (.bipush 6, 2) := by decide +kernel
theorem dX6_readKeepers_9 : decode cX6_readKeepers 9 = .ok (.if_icmp .gt 67, 3) := by decide +kernel
theorem dX6_readKeepers_12 : decode cX6_readKeepers 12 = .ok (.aload_n 0, 1) := by decide +kernel
theorem dX6_readKeepers_13 : decode cX6_readKeepers 13 = .ok (.ldc 97, 2) := by decide +kernel
theorem dX6_readKeepers_15 : decode cX6_readKeepers 15 = .ok (.invokevirtual 58, 3) := by decide +kernel
theorem dX6_readKeepers_18 : decode cX6_readKeepers 18 = .ok (.ifCond .eq 58, 3) := by decide +kernel
theorem dX6_readKeepers_21 : decode cX6_readKeepers 21 = .ok (.aload_n 0, 1) := by decide +kernel
theorem dX6_readKeepers_22 : decode cX6_readKeepers 22 = .ok (.ldc 97, 2) := by decide +kernel
theorem dX6_readKeepers_24 : decode cX6_readKeepers 24 = .ok (.iload_n 2, 1) := by decide +kernel
theorem dX6_readKeepers_25 : decode cX6_readKeepers 25 = .ok (.bipush 6, 2) := by decide +kernel
theorem dX6_readKeepers_27 : decode cX6_readKeepers 27 = .ok (.invokevirtual 78, 3) := by decide +kernel
theorem dX6_readKeepers_30 : decode cX6_readKeepers 30 = .ok (.aload_n 0, 1) := by decide +kernel
theorem dX6_readKeepers_31 : decode cX6_readKeepers 31 = .ok (.invokevirtual 99, 3) := by decide +kernel
theorem dX6_readKeepers_34 : decode cX6_readKeepers 34 = .ok (.istore_n 3, 1) := by decide +kernel
theorem dX6_readKeepers_35 : decode cX6_readKeepers 35 = .ok (.aload_n 0, 1) := by decide +kernel
theorem dX6_readKeepers_36 : decode cX6_readKeepers 36 = .ok (.iconst 0, 1) := by decide +kernel
theorem dX6_readKeepers_37 : decode cX6_readKeepers 37 = .ok (.bipush 60, 2) := by decide +kernel
theorem dX6_readKeepers_39 : decode cX6_readKeepers 39 = .ok (.invokevirtual 66, 3) := by decide +kernel
theorem dX6_readKeepers_42 : decode cX6_readKeepers 42 = .ok (.istore 4, 2) := by decide +kernel
theorem dX6_readKeepers_44 : decode cX6_readKeepers 44 = .ok (.aload_n 0, 1) := by decide +kernel
theorem dX6_readKeepers_45 : decode cX6_readKeepers 45 = .ok (.iconst 1, 1) := by decide +kernel
theorem dX6_readKeepers_46 : decode cX6_readKeepers 46 = .ok (.bipush 9, 2) := by decide +kernel
theorem dX6_readKeepers_48 : decode cX6_readKeepers 48 = .ok (.invokevirtual 66, 3) := by decide +kernel
theorem dX6_readKeepers_51 : decode cX6_readKeepers 51 = .ok (.istore 5, 2) := by decide +kernel
theorem dX6_readKeepers_53 : decode cX6_readKeepers 53 = .ok (.aload_n 0, 1) := by decide +kernel
theorem dX6_readKeepers_54 : decode cX6_readKeepers 54 = .ok (.invokevirtual 73, 3) := by decide +kernel
theorem dX6_readKeepers_57 : decode cX6_readKeepers 57 = .ok (.aload_n 1, 1) := by decide +kernel
theorem dX6_readKeepers_58 : decode cX6_readKeepers 58 = .ok (.iload_n 3, 1) := by decide +kernel
theorem dX6_readKeepers_59 : decode cX6_readKeepers 59 = .ok (.iload_n 2, 1) := by decide +kernel
theorem dX6_readKeepers_60 : decode cX6_readKeepers 60 = .ok (.iload 4, 2) := by decide +kernel
theorem dX6_readKeepers_62 : decode cX6_readKeepers 62 = .ok (.iload 5, 2) := by decide +kernel
theorem dX6_readKeepers_64 : decode cX6_readKeepers 64 = .ok (.invokestatic 103, 3) := by decide +kernel
theorem dX6_readKeepers_67 : decode cX6_readKeepers 67 = .ok (.invokevirtual 109, 3) := by decide +kernel
theorem dX6_readKeepers_70 : decode cX6_readKeepers 70 = .ok (.iinc 2 1, 3) := by decide +kernel
theorem dX6_readKeepers_73 : decode cX6_readKeepers 73 = .ok (.goto (-71), 3) := by decide +kernel
theorem dX6_readKeepers_76 : decode cX6_readKeepers 76 = .ok (.return_, 1) := by decide +kernel
theorem dX6_readNews_0 : decode cX6_readNews 0 = .ok (.iconst 0, 1) := by decide +kernel
theorem dX6_readNews_1 : decode cX6_readNews 1 = .ok (.istore_n 2, 1) := by decide +kernel
theorem dX6_readNews_2 : decode cX6_readNews 2 = .ok (.iload_n 2, 1) := by decide +kernel
theorem dX6_readNews_3 : decode cX6_readNews 3 = .ok (.bipush 8, 2) := by decide +kernel
theorem dX6_readNews_5 : decode cX6_readNews 5 = .ok (.if_icmp .gt 101, 3) := by decide +kernel
theorem dX6_readNews_8 : decode cX6_readNews 8 = .ok (.aload_n 0, 1) := by decide +kernel
theorem dX6_readNews_9 : decode cX6_readNews 9 = .ok (.getfield 22, 3) := by decide +kernel
theorem dX6_readNews_12 : decode cX6_readNews 12 = .ok (.iconst 5, 1) := by decide +kernel
theorem dX6_readNews_13 : decode cX6_readNews 13 = .ok (.if_icmp .eq 93, 3) := by decide +kernel
theorem dX6_readNews_16 : decode cX6_readNews 16 = .ok (.aload_n 0, 1) := by decide +kernel
theorem dX6_readNews_17 : decode cX6_readNews 17 = .ok (.getfield 22, 3) := by decide +kernel
theorem dX6_readNews_20 : decode cX6_readNews 20 = .ok (.bipush 6, 2) := by decide +kernel
theorem dX6_readNews_22 : decode cX6_readNews 22 = .ok (.if_icmp .eq 84, 3) := by decide +kernel
theorem dX6_readNews_25 : decode cX6_readNews 25 = .ok (.aload_n 0, 1) := by decide +kernel
theorem dX6_readNews_26 : decode cX6_readNews 26 = .ok (.ldc 113, 2) := by decide +kernel
theorem dX6_readNews_28 : decode cX6_readNews 28 = .ok (.iload_n 2, 1) := by decide +kernel
theorem dX6_readNews_29 : decode cX6_readNews 29 = .ok (.bipush 8, 2) := by decide +kernel
theorem dX6_readNews_31 : decode cX6_readNews 31 = .ok (.invokevirtual 78, 3) := by decide +kernel
theorem dX6_readNews_34 : decode cX6_readNews 34 = .ok (.aload_n 0, 1) := by decide +kernel
theorem dX6_readNews_35 : decode cX6_readNews 35 = .ok (.iconst 0, 1) := by decide +kernel
theorem dX6_readNews_36 : decode cX6_readNews 36 = .ok (.sipush 999, 3) := by decide +kernel
theorem dX6_readNews_39 : decode cX6_readNews 39 = .ok (.invokevirtual 66, 3) := by decide +kernel
theorem dX6_readNews_42 : decode cX6_readNews 42 = .ok (.istore_n 3, 1) := by decide +kernel
theorem dX6_readNews_43 : decode cX6_readNews 43 = .ok (.iconst 0, 1) := by decide +kernel
theorem dX6_readNews_44 : decode cX6_readNews 44 = .ok (.istore 4, 2) := by decide +kernel
theorem dX6_readNews_46 : decode cX6_readNews 46 = .ok (.iconst 0, 1) := by decide +kernel
theorem dX6_readNews_47 : decode cX6_readNews 47 = .ok (.istore 5, 2) := by decide +kernel
theorem dX6_readNews_49 : decode cX6_readNews 49 = .ok (.iload 5, 2) := by decide +kernel
theorem dX6_readNews_51 : decode cX6_readNews 51 = .ok (.sipush 500, 3) := by decide +kernel
theorem dX6_readNews_54 : decode cX6_readNews 54 = .ok (.if_icmp .ge 35, 3) := by decide +kernel
theorem dX6_readNews_57 : decode cX6_readNews 57 = .ok (.aload_n 0, 1) := by decide +kernel
theorem dX6_readNews_58 : decode cX6_readNews 58 = .ok (.getfield 22, 3) := by decide +kernel
theorem dX6_readNews_61 : decode cX6_readNews 61 = .ok (.iconst 2, 1) := by decide +kernel
theorem dX6_readNews_62 : decode cX6_readNews 62 = .ok (.if_icmp .ne 27, 3) := by decide +kernel
theorem dX6_readNews_65 : decode cX6_readNews 65 = .ok (.iload 4, 2) := by decide +kernel
theorem dX6_readNews_67 : decode cX6_readNews 67 = .ok (.iconst 1, 1) := by decide +kernel
theorem dX6_readNews_68 : decode cX6_readNews 68 = .ok (.aload_n 0, 1) := by decide +kernel
theorem dX6_readNews_69 : decode cX6_readNews 69 = .ok (.iconst 0, 1) := by decide +kernel
theorem dX6_readNews_70 : decode cX6_readNews 70 = .ok (.aload_n 1, 1) := by decide +kernel
theorem dX6_readNews_71 : decode cX6_readNews 71 = .ok (.getfield 115, 3) := by decide +kernel
theorem dX6_readNews_74 : decode cX6_readNews 74 = .ok (.iconst 1, 1) := by decide +kernel
theorem dX6_readNews_75 : decode cX6_readNews 75 = .ok (.isub, 1) := by decide +kernel
theorem dX6_readNews_76 : decode cX6_readNews 76 = .ok (.invokevirtual 66, 3) := by decide +kernel
theorem dX6_readNews_79 : decode cX6_readNews 79 = .ok (.ishl, 1) := by decide +kernel
theorem dX6_readNews_80 : decode cX6_readNews 80 = .ok (.ior, 1) := by decide +kernel
theorem dX6_readNews_81 : decode cX6_readNews 81 = .ok (.istore 4, 2) := by decide +kernel
theorem dX6_readNews_83 : decode cX6_readNews 83 = .ok (.iinc 5 1, 3) := by decide +kernel
theorem dX6_readNews_86 : decode cX6_readNews 86 = .ok (.goto (-37), 3) := by decide +kernel
theorem dX6_readNews_89 : decode cX6_readNews 89 = .ok (.aload_n 0, 1) := by decide +kernel
theorem dX6_readNews_90 : decode cX6_readNews 90 = .ok (.invokevirtual 73, 3) := by decide +kernel
theorem dX6_readNews_93 : decode cX6_readNews 93 = .ok (.aload_n 1, 1) := by decide +kernel
theorem dX6_readNews_94 : decode cX6_readNews 94 = .ok (.iload_n 3, 1) := by decide +kernel
theorem dX6_readNews_95 : decode cX6_readNews 95 = .ok (.iload 4, 2) := by decide +kernel
theorem dX6_readNews_97 : decode cX6_readNews 97 = .ok (.invokevirtual 118, 3) := by decide +kernel
theorem dX6_readNews_100 : decode cX6_readNews 100 = .ok (.iinc 2 1, 3) := by decide +kernel
theorem dX6_readNews_103 : decode cX6_readNews 103 = .ok (.goto (-101), 3) := by decide +kernel
theorem dX6_readNews_106 : decode cX6_readNews 106 = .ok (.return_, 1) := by decide +kernel
theorem dX6_takeKind_0 : decode cX6_takeKind 0 = .ok (.aload_n 0, 1) := by decide +kernel
theorem dX6_takeKind_1 : decode cX6_takeKind 1 = .ok (.invokevirtual 121, 3) := by decide +kernel
theorem dX6_takeKind_4 : decode cX6_takeKind 4 = .ok (.istore_n 1, 1) := by decide +kernel
theorem dX6_takeKind_5 : decode cX6_takeKind 5 = .ok (.iload_n 1, 1) := by decide +kernel
theorem dX6_takeKind_6 : decode cX6_takeKind 6 = .ok (.ifCond .ne 11, 3) := by decide +kernel
theorem dX6_takeKind_9 : decode cX6_takeKind 9 = .ok (.aload_n 0, 1) := by decide +kernel
theorem dX6_takeKind_10 : decode cX6_takeKind 10 = .ok (.iconst 1, 1) := by decide +kernel
theorem dX6_takeKind_11 : decode cX6_takeKind 11 = .ok (.invokevirtual 124, 3) := by decide +kernel
theorem dX6_takeKind_14 : decode cX6_takeKind 14 = .ok (.goto 7, 3) := by decide +kernel
theorem dX6_takeKind_17 : decode cX6_takeKind 17 = .ok (.aload_n 0, 1) := by decide +kernel
theorem dX6_takeKind_18 : decode cX6_takeKind 18 = .ok (.invokevirtual 28, 3) := by decide +kernel
theorem dX6_takeKind_21 : decode cX6_takeKind 21 = .ok (.iload_n 1, 1) := by decide +kernel
theorem dX6_takeKind_22 : decode cX6_takeKind 22 = .ok (.ireturn, 1) := by decide +kernel
theorem dX6_kindNamed_0 : decode cX6_kindNamed 0 = .ok (.aload_n 0, 1) := by decide +kernel
theorem dX6_kindNamed_1 : decode cX6_kindNamed 1 = .ok (.ldc 128, 2) := by decide +kernel
theorem dX6_kindNamed_3 : decode cX6_kindNamed 3 = .ok (.invokevirtual 58, 3) := by decide +kernel
theorem dX6_kindNamed_6 : decode cX6_kindNamed 6 = .ok (.ifCond .eq 5, 3) := by decide +kernel
theorem dX6_kindNamed_9 : decode cX6_kindNamed 9 = .ok (.iconst 1, 1) := by decide +kernel
theorem dX6_kindNamed_10 : decode cX6_kindNamed 10 = .ok (.ireturn, 1) := by decide +kernel
theorem dX6_kindNamed_11 : decode cX6_kindNamed 11 = .ok (.aload_n 0, 1) := by decide +kernel
theorem dX6_kindNamed_12 : decode cX6_kindNamed 12 = .ok (.ldc 130, 2) := by decide +kernel
theorem dX6_kindNamed_14 : decode cX6_kindNamed 14 = .ok (.invokevirtual 58, 3) := by decide +kernel
theorem dX6_kindNamed_17 : decode cX6_kindNamed 17 = .ok (.ifCond .eq 5, 3) := by decide +kernel
theorem dX6_kindNamed_20 : decode cX6_kindNamed 20 = .ok (.iconst 2, 1) := by decide +kernel
theorem dX6_kindNamed_21 : decode cX6_kindNamed 21 = .ok (.ireturn, 1) := by decide +kernel
theorem dX6_kindNamed_22 : decode cX6_kindNamed 22 = .ok (.aload_n 0, 1) := by decide +kernel
theorem dX6_kindNamed_23 : decode cX6_kindNamed 23 = .ok (.ldc 132, 2) := by decide +kernel
theorem dX6_kindNamed_25 : decode cX6_kindNamed 25 = .ok (.invokevirtual 58, 3) := by decide +kernel
theorem dX6_kindNamed_28 : decode cX6_kindNamed 28 = .ok (.ifCond .eq 5, 3) := by decide +kernel
theorem dX6_kindNamed_31 : decode cX6_kindNamed 31 = .ok (.iconst 3, 1) := by decide +kernel
theorem dX6_kindNamed_32 : decode cX6_kindNamed 32 = .ok (.ireturn, 1) := by decide +kernel
theorem dX6_kindNamed_33 : decode cX6_kindNamed 33 = .ok (.aload_n 0, 1) := by decide +kernel
theorem dX6_kindNamed_34 : decode cX6_kindNamed 34 = .ok (.ldc 134, 2) := by decide +kernel
theorem dX6_kindNamed_36 : decode cX6_kindNamed 36 = .ok (.invokevirtual 58, 3) := by decide +kernel
theorem dX6_kindNamed_39 : decode cX6_kindNamed 39 = .ok (.ifCond .eq 5, 3) := by decide +kernel
theorem dX6_kindNamed_42 : decode cX6_kindNamed 42 = .ok (.iconst 4, 1) := by decide +kernel
theorem dX6_kindNamed_43 : decode cX6_kindNamed 43 = .ok (.ireturn, 1) := by decide +kernel
theorem dX6_kindNamed_44 : decode cX6_kindNamed 44 = .ok (.aload_n 0, 1) := by decide +kernel
theorem dX6_kindNamed_45 : decode cX6_kindNamed 45 = .ok (.ldc 136, 2) := by decide +kernel
theorem dX6_kindNamed_47 : decode cX6_kindNamed 47 = .ok (.invokevirtual 58, 3) := by decide +kernel
theorem dX6_kindNamed_50 : decode cX6_kindNamed 50 = .ok (.ifCond .eq 7, 3) := by decide +kernel
theorem dX6_kindNamed_53 : decode cX6_kindNamed 53 = .ok (.iconst 5, 1) := by decide +kernel
theorem dX6_kindNamed_54 : decode cX6_kindNamed 54 = .ok (.goto 4, 3) := by decide +kernel
theorem dX6_kindNamed_57 : decode cX6_kindNamed 57 = .ok (.iconst 0, 1) := by decide +kernel
theorem dX6_kindNamed_58 : decode cX6_kindNamed 58 = .ok (.ireturn, 1) := by decide +kernel
theorem dX6_takeWordOf_0 : decode cX6_takeWordOf 0 = .ok (.aload_n 0, 1) := by decide +kernel
theorem dX6_takeWordOf_1 : decode cX6_takeWordOf 1 = .ok (.aload_n 1, 1) := by decide +kernel
theorem dX6_takeWordOf_2 : decode cX6_takeWordOf 2 = .ok (.invokevirtual 58, 3) := by decide +kernel
theorem dX6_takeWordOf_5 : decode cX6_takeWordOf 5 = .ok (.ifCond .eq 13, 3) := by decide +kernel
theorem dX6_takeWordOf_8 : decode cX6_takeWordOf 8 = .ok (.iload_n 2, 1) := by decide +kernel
theorem dX6_takeWordOf_9 : decode cX6_takeWordOf 9 = .ok (.iload_n 3, 1) := by decide +kernel
theorem dX6_takeWordOf_10 : decode cX6_takeWordOf 10 = .ok (.if_icmp .lt 8, 3) := by decide +kernel
theorem dX6_takeWordOf_13 : decode cX6_takeWordOf 13 = .ok (.aload_n 0, 1) := by decide +kernel
theorem dX6_takeWordOf_14 : decode cX6_takeWordOf 14 = .ok (.iconst 3, 1) := by decide +kernel
theorem dX6_takeWordOf_15 : decode cX6_takeWordOf 15 = .ok (.invokevirtual 124, 3) := by decide +kernel
theorem dX6_takeWordOf_18 : decode cX6_takeWordOf 18 = .ok (.aload_n 0, 1) := by decide +kernel
theorem dX6_takeWordOf_19 : decode cX6_takeWordOf 19 = .ok (.aload_n 1, 1) := by decide +kernel
theorem dX6_takeWordOf_20 : decode cX6_takeWordOf 20 = .ok (.invokevirtual 52, 3) := by decide +kernel
theorem dX6_takeWordOf_23 : decode cX6_takeWordOf 23 = .ok (.return_, 1) := by decide +kernel
theorem dX6_takeWord_0 : decode cX6_takeWord 0 = .ok (.aload_n 0, 1) := by decide +kernel
theorem dX6_takeWord_1 : decode cX6_takeWord 1 = .ok (.aload_n 1, 1) := by decide +kernel
theorem dX6_takeWord_2 : decode cX6_takeWord 2 = .ok (.invokevirtual 58, 3) := by decide +kernel
theorem dX6_takeWord_5 : decode cX6_takeWord 5 = .ok (.ifCond .eq 10, 3) := by decide +kernel
theorem dX6_takeWord_8 : decode cX6_takeWord 8 = .ok (.aload_n 0, 1) := by decide +kernel
theorem dX6_takeWord_9 : decode cX6_takeWord 9 = .ok (.invokevirtual 28, 3) := by decide +kernel
theorem dX6_takeWord_12 : decode cX6_takeWord 12 = .ok (.goto 8, 3) := by decide +kernel
theorem dX6_takeWord_15 : decode cX6_takeWord 15 = .ok (.aload_n 0, 1) := by decide +kernel
theorem dX6_takeWord_16 : decode cX6_takeWord 16 = .ok (.iconst 1, 1) := by decide +kernel
theorem dX6_takeWord_17 : decode cX6_takeWord 17 = .ok (.invokevirtual 124, 3) := by decide +kernel
theorem dX6_takeWord_20 : decode cX6_takeWord 20 = .ok (.return_, 1) := by decide +kernel
theorem dX6_takeSign_0 : decode cX6_takeSign 0 = .ok (.aload_n 0, 1) := by decide +kernel
theorem dX6_takeSign_1 : decode cX6_takeSign 1 = .ok (.getfield 22, 3) := by decide +kernel
theorem dX6_takeSign_4 : decode cX6_takeSign 4 = .ok (.iconst 3, 1) := by decide +kernel
theorem dX6_takeSign_5 : decode cX6_takeSign 5 = .ok (.if_icmp .ne 10, 3) := by decide +kernel
theorem dX6_takeSign_8 : decode cX6_takeSign 8 = .ok (.aload_n 0, 1) := by decide +kernel
theorem dX6_takeSign_9 : decode cX6_takeSign 9 = .ok (.invokevirtual 28, 3) := by decide +kernel
theorem dX6_takeSign_12 : decode cX6_takeSign 12 = .ok (.goto 8, 3) := by decide +kernel
theorem dX6_takeSign_15 : decode cX6_takeSign 15 = .ok (.aload_n 0, 1) := by decide +kernel
theorem dX6_takeSign_16 : decode cX6_takeSign 16 = .ok (.iconst 1, 1) := by decide +kernel
theorem dX6_takeSign_17 : decode cX6_takeSign 17 = .ok (.invokevirtual 124, 3) := by decide +kernel
theorem dX6_takeSign_20 : decode cX6_takeSign 20 = .ok (.return_, 1) := by decide +kernel
theorem dX6_takeNumber_0 : decode cX6_takeNumber 0 = .ok (.aload_n 0, 1) := by decide +kernel
theorem dX6_takeNumber_1 : decode cX6_takeNumber 1 = .ok (.getfield 22, 3) := by decide +kernel
theorem dX6_takeNumber_4 : decode cX6_takeNumber 4 = .ok (.iconst 2, 1) := by decide +kernel
theorem dX6_takeNumber_5 : decode cX6_takeNumber 5 = .ok (.if_icmp .eq 10, 3) := by decide +kernel
theorem dX6_takeNumber_8 : decode cX6_takeNumber 8 = .ok (.aload_n 0, 1) := by decide +kernel
theorem dX6_takeNumber_9 : decode cX6_takeNumber 9 = .ok (.iconst 1, 1) := by decide +kernel
theorem dX6_takeNumber_10 : decode cX6_takeNumber 10 = .ok (.invokevirtual 124, 3) := by decide +kernel
theorem dX6_takeNumber_13 : decode cX6_takeNumber 13 = .ok (.iconst 0, 1) := by decide +kernel
theorem dX6_takeNumber_14 : decode cX6_takeNumber 14 = .ok (.ireturn, 1) := by decide +kernel
theorem dX6_takeNumber_15 : decode cX6_takeNumber 15 = .ok (.aload_n 0, 1) := by decide +kernel
theorem dX6_takeNumber_16 : decode cX6_takeNumber 16 = .ok (.getfield 138, 3) := by decide +kernel
theorem dX6_takeNumber_19 : decode cX6_takeNumber 19 = .ok (.iload_n 1, 1) := by decide +kernel
theorem dX6_takeNumber_20 : decode cX6_takeNumber 20 = .ok (.iload_n 2, 1) := by decide +kernel
theorem dX6_takeNumber_21 : decode cX6_takeNumber 21 = .ok (.invokestatic 141, 3) := by decide +kernel
theorem dX6_takeNumber_24 : decode cX6_takeNumber 24 = .ok (.ifCond .ne 10, 3) := by decide +kernel
theorem dX6_takeNumber_27 : decode cX6_takeNumber 27 = .ok (.aload_n 0, 1) := by decide +kernel
theorem dX6_takeNumber_28 : decode cX6_takeNumber 28 = .ok (.iconst 2, 1) := by decide +kernel
theorem dX6_takeNumber_29 : decode cX6_takeNumber 29 = .ok (.invokevirtual 124, 3) := by decide +kernel
theorem dX6_takeNumber_32 : decode cX6_takeNumber 32 = .ok (.iconst 0, 1) := by decide +kernel
theorem dX6_takeNumber_33 : decode cX6_takeNumber 33 = .ok (.ireturn, 1) := by decide +kernel
theorem dX6_takeNumber_34 : decode cX6_takeNumber 34 = .ok (.aload_n 0, 1) := by decide +kernel
theorem dX6_takeNumber_35 : decode cX6_takeNumber 35 = .ok (.getfield 138, 3) := by decide +kernel
theorem dX6_takeNumber_38 : decode cX6_takeNumber 38 = .ok (.istore_n 3, 1) := by decide +kernel
theorem dX6_takeNumber_39 : decode cX6_takeNumber 39 = .ok (.aload_n 0, 1) := by decide +kernel
theorem dX6_takeNumber_40 : decode cX6_takeNumber 40 = .ok (.invokevirtual 28, 3) := by decide +kernel
theorem dX6_takeNumber_43 : decode cX6_takeNumber 43 = .ok (.iload_n 3, 1) := by decide +kernel
theorem dX6_takeNumber_44 : decode cX6_takeNumber 44 = .ok (.ireturn, 1) := by decide +kernel
theorem dX6_stick_0 : decode cX6_stick 0 = .ok (.aload_n 0, 1) := by decide +kernel
theorem dX6_stick_1 : decode cX6_stick 1 = .ok (.getfield 22, 3) := by decide +kernel
theorem dX6_stick_4 : decode cX6_stick 4 = .ok (.bipush 6, 2) := by decide +kernel
theorem dX6_stick_6 : decode cX6_stick 6 = .ok (.if_icmp .eq 22, 3) := by decide +kernel
theorem dX6_stick_9 : decode cX6_stick 9 = .ok (.aload_n 0, 1) := by decide +kernel
theorem dX6_stick_10 : decode cX6_stick 10 = .ok (.bipush 6, 2) := by decide +kernel
theorem dX6_stick_12 : decode cX6_stick 12 = .ok (.putfield 22, 3) := by decide +kernel
theorem dX6_stick_15 : decode cX6_stick 15 = .ok (.aload_n 0, 1) := by decide +kernel
theorem dX6_stick_16 : decode cX6_stick 16 = .ok (.iload_n 1, 1) := by decide +kernel
theorem dX6_stick_17 : decode cX6_stick 17 = .ok (.putfield 147, 3) := by decide +kernel
theorem dX6_stick_20 : decode cX6_stick 20 = .ok (.aload_n 0, 1) := by decide +kernel
theorem dX6_stick_21 : decode cX6_stick 21 = .ok (.aload_n 0, 1) := by decide +kernel
theorem dX6_stick_22 : decode cX6_stick 22 = .ok (.getfield 150, 3) := by decide +kernel
theorem dX6_stick_25 : decode cX6_stick 25 = .ok (.putfield 153, 3) := by decide +kernel
theorem dX6_stick_28 : decode cX6_stick 28 = .ok (.return_, 1) := by decide +kernel
theorem dX6_isWord_0 : decode cX6_isWord 0 = .ok (.aload_n 0, 1) := by decide +kernel
theorem dX6_isWord_1 : decode cX6_isWord 1 = .ok (.getfield 22, 3) := by decide +kernel
theorem dX6_isWord_4 : decode cX6_isWord 4 = .ok (.iconst 1, 1) := by decide +kernel
theorem dX6_isWord_5 : decode cX6_isWord 5 = .ok (.if_icmp .ne 19, 3) := by decide +kernel
theorem dX6_isWord_8 : decode cX6_isWord 8 = .ok (.aload_n 0, 1) := by decide +kernel
theorem dX6_isWord_9 : decode cX6_isWord 9 = .ok (.getfield 25, 3) := by decide +kernel
theorem dX6_isWord_12 : decode cX6_isWord 12 = .ok (.aload_n 0, 1) := by decide +kernel
theorem dX6_isWord_13 : decode cX6_isWord 13 = .ok (.getfield 150, 3) := by decide +kernel
theorem dX6_isWord_16 : decode cX6_isWord 16 = .ok (.isub, 1) := by decide +kernel
theorem dX6_isWord_17 : decode cX6_isWord 17 = .ok (.aload_n 1, 1) := by decide +kernel
theorem dX6_isWord_18 : decode cX6_isWord 18 = .ok (.invokevirtual 156, 3) := by decide +kernel
theorem dX6_isWord_21 : decode cX6_isWord 21 = .ok (.if_icmp .eq 5, 3) := by decide +kernel
theorem dX6_isWord_24 : decode cX6_isWord 24 = .ok (.iconst 0, 1) := by decide +kernel
theorem dX6_isWord_25 : decode cX6_isWord 25 = .ok (.ireturn, 1) := by decide +kernel
theorem dX6_isWord_26 : decode cX6_isWord 26 = .ok (.iconst 0, 1) := by decide +kernel
theorem dX6_isWord_27 : decode cX6_isWord 27 = .ok (.istore_n 2, 1) := by decide +kernel
theorem dX6_isWord_28 : decode cX6_isWord 28 = .ok (.iload_n 2, 1) := by decide +kernel
theorem dX6_isWord_29 : decode cX6_isWord 29 = .ok (.aload_n 1, 1) := by decide +kernel
theorem dX6_isWord_30 : decode cX6_isWord 30 = .ok (.invokevirtual 156, 3) := by decide +kernel
theorem dX6_isWord_33 : decode cX6_isWord 33 = .ok (.if_icmp .ge 43, 3) := by decide +kernel
theorem dX6_isWord_36 : decode cX6_isWord 36 = .ok (.aload_n 0, 1) := by decide +kernel
theorem dX6_isWord_37 : decode cX6_isWord 37 = .ok (.getfield 150, 3) := by decide +kernel
theorem dX6_isWord_40 : decode cX6_isWord 40 = .ok (.iload_n 2, 1) := by decide +kernel
theorem dX6_isWord_41 : decode cX6_isWord 41 = .ok (.iadd, 1) := by decide +kernel
theorem dX6_isWord_42 : decode cX6_isWord 42 = .ok (.aload_n 0, 1) := by decide +kernel
theorem dX6_isWord_43 : decode cX6_isWord 43 = .ok (.getfield 13, 3) := by decide +kernel
theorem dX6_isWord_46 : decode cX6_isWord 46 = .ok (.if_icmp .ge 30, 3) := by decide +kernel
theorem dX6_isWord_49 : decode cX6_isWord 49 = .ok (.aload_n 0, 1) := by decide +kernel
theorem dX6_isWord_50 : decode cX6_isWord 50 = .ok (.getfield 9, 3) := by decide +kernel
theorem dX6_isWord_53 : decode cX6_isWord 53 = .ok (.aload_n 0, 1) := by decide +kernel
theorem dX6_isWord_54 : decode cX6_isWord 54 = .ok (.getfield 150, 3) := by decide +kernel
theorem dX6_isWord_57 : decode cX6_isWord 57 = .ok (.iload_n 2, 1) := by decide +kernel
theorem dX6_isWord_58 : decode cX6_isWord 58 = .ok (.iadd, 1) := by decide +kernel
theorem dX6_isWord_59 : decode cX6_isWord 59 = .ok (.baload, 1) := by decide +kernel
theorem dX6_isWord_60 : decode cX6_isWord 60 = .ok (.aload_n 1, 1) := by decide +kernel
theorem dX6_isWord_61 : decode cX6_isWord 61 = .ok (.iload_n 2, 1) := by decide +kernel
theorem dX6_isWord_62 : decode cX6_isWord 62 = .ok (.invokevirtual 160, 3) := by decide +kernel
theorem dX6_isWord_65 : decode cX6_isWord 65 = .ok (.if_icmp .eq 5, 3) := by decide +kernel
theorem dX6_isWord_68 : decode cX6_isWord 68 = .ok (.iconst 0, 1) := by decide +kernel
theorem dX6_isWord_69 : decode cX6_isWord 69 = .ok (.ireturn, 1) := by decide +kernel
theorem dX6_isWord_70 : decode cX6_isWord 70 = .ok (.iinc 2 1, 3) := by decide +kernel
theorem dX6_isWord_73 : decode cX6_isWord 73 = .ok (.goto (-45), 3) := by decide +kernel
theorem dX6_isWord_76 : decode cX6_isWord 76 = .ok (.iconst 1, 1) := by decide +kernel
theorem dX6_isWord_77 : decode cX6_isWord 77 = .ok (.ireturn, 1) := by decide +kernel
theorem dX6_advance_0 : decode cX6_advance 0 = .ok (.aload_n 0, 1) := by decide +kernel
theorem dX6_advance_1 : decode cX6_advance 1 = .ok (.aload_n 0, 1) := by decide +kernel
theorem dX6_advance_2 : decode cX6_advance 2 = .ok (.aload_n 0, 1) := by decide +kernel
theorem dX6_advance_3 : decode cX6_advance 3 = .ok (.getfield 25, 3) := by decide +kernel
theorem dX6_advance_6 : decode cX6_advance 6 = .ok (.iconst 0, 1) := by decide +kernel
theorem dX6_advance_7 : decode cX6_advance 7 = .ok (.invokevirtual 164, 3) := by decide +kernel
theorem dX6_advance_10 : decode cX6_advance 10 = .ok (.putfield 150, 3) := by decide +kernel
theorem dX6_advance_13 : decode cX6_advance 13 = .ok (.aload_n 0, 1) := by decide +kernel
theorem dX6_advance_14 : decode cX6_advance 14 = .ok (.aload_n 0, 1) := by decide +kernel
theorem dX6_advance_15 : decode cX6_advance 15 = .ok (.getfield 150, 3) := by decide +kernel
theorem dX6_advance_18 : decode cX6_advance 18 = .ok (.aload_n 0, 1) := by decide +kernel
theorem dX6_advance_19 : decode cX6_advance 19 = .ok (.getfield 13, 3) := by decide +kernel
theorem dX6_advance_22 : decode cX6_advance 22 = .ok (.if_icmp .ge 18, 3) := by decide +kernel
theorem dX6_advance_25 : decode cX6_advance 25 = .ok (.aload_n 0, 1) := by decide +kernel
theorem dX6_advance_26 : decode cX6_advance 26 = .ok (.getfield 9, 3) := by decide +kernel
theorem dX6_advance_29 : decode cX6_advance 29 = .ok (.aload_n 0, 1) := by decide +kernel
theorem dX6_advance_30 : decode cX6_advance 30 = .ok (.getfield 150, 3) := by decide +kernel
theorem dX6_advance_33 : decode cX6_advance 33 = .ok (.baload, 1) := by decide +kernel
theorem dX6_advance_34 : decode cX6_advance 34 = .ok (.invokestatic 167, 3) := by decide +kernel
theorem dX6_advance_37 : decode cX6_advance 37 = .ok (.goto 4, 3) := by decide +kernel
theorem dX6_advance_40 : decode cX6_advance 40 = .ok (.iconst 5, 1) := by decide +kernel
theorem dX6_advance_41 : decode cX6_advance 41 = .ok (.putfield 22, 3) := by decide +kernel
theorem dX6_advance_44 : decode cX6_advance 44 = .ok (.aload_n 0, 1) := by decide +kernel
theorem dX6_advance_45 : decode cX6_advance 45 = .ok (.getfield 22, 3) := by decide +kernel
theorem dX6_advance_48 : decode cX6_advance 48 = .ok (.iconst 1, 1) := by decide +kernel
theorem dX6_advance_49 : decode cX6_advance 49 = .ok (.if_icmp .eq 11, 3) := by decide +kernel
theorem dX6_advance_52 : decode cX6_advance 52 = .ok (.aload_n 0, 1) := by decide +kernel
theorem dX6_advance_53 : decode cX6_advance 53 = .ok (.getfield 22, 3) := by decide +kernel
theorem dX6_advance_56 : decode cX6_advance 56 = .ok (.iconst 2, 1) := by decide +kernel
theorem dX6_advance_57 : decode cX6_advance 57 = .ok (.if_icmp .ne 22, 3) := by decide +kernel
theorem dX6_advance_60 : decode cX6_advance 60 = .ok (.aload_n 0, 1) := by decide +kernel
theorem dX6_advance_61 : decode cX6_advance 61 = .ok (.aload_n 0, 1) := by decide +kernel
theorem dX6_advance_62 : decode cX6_advance 62 = .ok (.aload_n 0, 1) := by decide +kernel
theorem dX6_advance_63 : decode cX6_advance 63 = .ok (.getfield 150, 3) := by decide +kernel
theorem dX6_advance_66 : decode cX6_advance 66 = .ok (.aload_n 0, 1) := by decide +kernel
theorem dX6_advance_67 : decode cX6_advance 67 = .ok (.getfield 22, 3) := by decide +kernel
theorem dX6_advance_70 : decode cX6_advance 70 = .ok (.invokevirtual 164, 3) := by decide +kernel
theorem dX6_advance_73 : decode cX6_advance 73 = .ok (.putfield 25, 3) := by decide +kernel
theorem dX6_advance_76 : decode cX6_advance 76 = .ok (.goto 20, 3) := by decide +kernel
theorem dX6_advance_79 : decode cX6_advance 79 = .ok (.aload_n 0, 1) := by decide +kernel
theorem dX6_advance_80 : decode cX6_advance 80 = .ok (.aload_n 0, 1) := by decide +kernel
theorem dX6_advance_81 : decode cX6_advance 81 = .ok (.getfield 150, 3) := by decide +kernel
theorem dX6_advance_84 : decode cX6_advance 84 = .ok (.iconst 1, 1) := by decide +kernel
theorem dX6_advance_85 : decode cX6_advance 85 = .ok (.iadd, 1) := by decide +kernel
theorem dX6_advance_86 : decode cX6_advance 86 = .ok (.aload_n 0, 1) := by decide +kernel
theorem dX6_advance_87 : decode cX6_advance 87 = .ok (.getfield 13, 3) := by decide +kernel
theorem dX6_advance_90 : decode cX6_advance 90 = .ok (.invokestatic 171, 3) := by decide +kernel
theorem dX6_advance_93 : decode cX6_advance 93 = .ok (.putfield 25, 3) := by decide +kernel
theorem dX6_advance_96 : decode cX6_advance 96 = .ok (.aload_n 0, 1) := by decide +kernel
theorem dX6_advance_97 : decode cX6_advance 97 = .ok (.getfield 22, 3) := by decide +kernel
theorem dX6_advance_100 : decode cX6_advance 100 = .ok (.iconst 2, 1) := by decide +kernel
theorem dX6_advance_101 : decode cX6_advance 101 = .ok (.if_icmp .ne 7, 3) := by decide +kernel
theorem dX6_advance_104 : decode cX6_advance 104 = .ok (.aload_n 0, 1) := by decide +kernel
theorem dX6_advance_105 : decode cX6_advance 105 = .ok (.invokevirtual 176, 3) := by decide +kernel
theorem dX6_advance_108 : decode cX6_advance 108 = .ok (.return_, 1) := by decide +kernel
theorem dX6_behindRun_0 : decode cX6_behindRun 0 = .ok (.iload_n 1, 1) := by decide +kernel
theorem dX6_behindRun_1 : decode cX6_behindRun 1 = .ok (.istore_n 3, 1) := by decide +kernel
theorem dX6_behindRun_2 : decode cX6_behindRun 2 = .ok (.iload_n 3, 1) := by decide +kernel
theorem dX6_behindRun_3 : decode cX6_behindRun 3 = .ok (.aload_n 0, 1) := by decide +kernel
theorem dX6_behindRun_4 : decode cX6_behindRun 4 = .ok (.getfield 13, 3) := by decide +kernel
theorem dX6_behindRun_7 : decode cX6_behindRun 7 = .ok (.if_icmp .ge 22, 3) := by decide +kernel
theorem dX6_behindRun_10 : decode cX6_behindRun 10 = .ok (.aload_n 0, 1) := by decide +kernel
theorem dX6_behindRun_11 : decode cX6_behindRun 11 = .ok (.getfield 9, 3) := by decide +kernel
theorem dX6_behindRun_14 : decode cX6_behindRun 14 = .ok (.iload_n 3, 1) := by decide +kernel
theorem dX6_behindRun_15 : decode cX6_behindRun 15 = .ok (.baload, 1) := by decide +kernel
theorem dX6_behindRun_16 : decode cX6_behindRun 16 = .ok (.invokestatic 167, 3) := by decide +kernel
theorem dX6_behindRun_19 : decode cX6_behindRun 19 = .ok (.iload_n 2, 1) := by decide +kernel
theorem dX6_behindRun_20 : decode cX6_behindRun 20 = .ok (.if_icmp .ne 9, 3) := by decide +kernel
theorem dX6_behindRun_23 : decode cX6_behindRun 23 = .ok (.iinc 3 1, 3) := by decide +kernel
theorem dX6_behindRun_26 : decode cX6_behindRun 26 = .ok (.goto (-24), 3) := by decide +kernel
theorem dX6_behindRun_29 : decode cX6_behindRun 29 = .ok (.iload_n 3, 1) := by decide +kernel
theorem dX6_behindRun_30 : decode cX6_behindRun 30 = .ok (.ireturn, 1) := by decide +kernel
theorem dX6_readFigures_0 : decode cX6_readFigures 0 = .ok (.aload_n 0, 1) := by decide +kernel
theorem dX6_readFigures_1 : decode cX6_readFigures 1 = .ok (.getfield 25, 3) := by decide +kernel
theorem dX6_readFigures_4 : decode cX6_readFigures 4 = .ok (.aload_n 0, 1) := by decide +kernel
theorem dX6_readFigures_5 : decode cX6_readFigures 5 = .ok (.getfield 150, 3) := by decide +kernel
theorem dX6_readFigures_8 : decode cX6_readFigures 8 = .ok (.isub, 1) := by decide +kernel
theorem dX6_readFigures_9 : decode cX6_readFigures 9 = .ok (.iconst 4, 1) := by decide +kernel
theorem dX6_readFigures_10 : decode cX6_readFigures 10 = .ok (.if_icmp .le 9, 3) := by decide +kernel
theorem dX6_readFigures_13 : decode cX6_readFigures 13 = .ok (.aload_n 0, 1) := by decide +kernel
theorem dX6_readFigures_14 : decode cX6_readFigures 14 = .ok (.iconst 4, 1) := by decide +kernel
theorem dX6_readFigures_15 : decode cX6_readFigures 15 = .ok (.putfield 22, 3) := by decide +kernel
theorem dX6_readFigures_18 : decode cX6_readFigures 18 = .ok (.return_, 1) := by decide +kernel
theorem dX6_readFigures_19 : decode cX6_readFigures 19 = .ok (.aload_n 0, 1) := by decide +kernel
theorem dX6_readFigures_20 : decode cX6_readFigures 20 = .ok (.iconst 0, 1) := by decide +kernel
theorem dX6_readFigures_21 : decode cX6_readFigures 21 = .ok (.putfield 138, 3) := by decide +kernel
theorem dX6_readFigures_24 : decode cX6_readFigures 24 = .ok (.aload_n 0, 1) := by decide +kernel
theorem dX6_readFigures_25 : decode cX6_readFigures 25 = .ok (.getfield 150, 3) := by decide +kernel
theorem dX6_readFigures_28 : decode cX6_readFigures 28 = .ok (.istore_n 1, 1) := by decide +kernel
theorem dX6_readFigures_29 : decode cX6_readFigures 29 = .ok (.iload_n 1, 1) := by decide +kernel
theorem dX6_readFigures_30 : decode cX6_readFigures 30 = .ok (.aload_n 0, 1) := by decide +kernel
theorem dX6_readFigures_31 : decode cX6_readFigures 31 = .ok (.getfield 25, 3) := by decide +kernel
theorem dX6_readFigures_34 : decode cX6_readFigures 34 = .ok (.if_icmp .ge 30, 3) := by decide +kernel
theorem dX6_readFigures_37 : decode cX6_readFigures 37 = .ok (.aload_n 0, 1) := by decide +kernel
theorem dX6_readFigures_38 : decode cX6_readFigures 38 = .ok (.bipush 10, 2) := by decide +kernel
theorem dX6_readFigures_40 : decode cX6_readFigures 40 = .ok (.aload_n 0, 1) := by decide +kernel
theorem dX6_readFigures_41 : decode cX6_readFigures 41 = .ok (.getfield 138, 3) := by decide +kernel
theorem dX6_readFigures_44 : decode cX6_readFigures 44 = .ok (.imul, 1) := by decide +kernel
theorem dX6_readFigures_45 : decode cX6_readFigures 45 = .ok (.aload_n 0, 1) := by decide +kernel
theorem dX6_readFigures_46 : decode cX6_readFigures 46 = .ok (.getfield 9, 3) := by decide +kernel
theorem dX6_readFigures_49 : decode cX6_readFigures 49 = .ok (.iload_n 1, 1) := by decide +kernel
theorem dX6_readFigures_50 : decode cX6_readFigures 50 = .ok (.baload, 1) := by decide +kernel
theorem dX6_readFigures_51 : decode cX6_readFigures 51 = .ok (.bipush 48, 2) := by decide +kernel
theorem dX6_readFigures_53 : decode cX6_readFigures 53 = .ok (.isub, 1) := by decide +kernel
theorem dX6_readFigures_54 : decode cX6_readFigures 54 = .ok (.iadd, 1) := by decide +kernel
theorem dX6_readFigures_55 : decode cX6_readFigures 55 = .ok (.putfield 138, 3) := by decide +kernel
theorem dX6_readFigures_58 : decode cX6_readFigures 58 = .ok (.iinc 1 1, 3) := by decide +kernel
theorem dX6_readFigures_61 : decode cX6_readFigures 61 = .ok (.goto (-32), 3) := by decide +kernel
theorem dX6_readFigures_64 : decode cX6_readFigures 64 = .ok (.return_, 1) := by decide +kernel
theorem dX6_sortOf_0 : decode cX6_sortOf 0 = .ok (.iload_n 0, 1) := by decide +kernel
theorem dX6_sortOf_1 : decode cX6_sortOf 1 = .ok (.bipush 32, 2) := by decide +kernel
theorem dX6_sortOf_3 : decode cX6_sortOf 3 = .ok (.if_icmp .eq 9, 3) := by decide +kernel
theorem dX6_sortOf_6 : decode cX6_sortOf 6 = .ok (.iload_n 0, 1) := by decide +kernel
theorem dX6_sortOf_7 : decode cX6_sortOf 7 = .ok (.bipush 10, 2) := by decide +kernel
theorem dX6_sortOf_9 : decode cX6_sortOf 9 = .ok (.if_icmp .ne 5, 3) := by decide +kernel
theorem dX6_sortOf_12 : decode cX6_sortOf 12 = .ok (.iconst 0, 1) := by decide +kernel
theorem dX6_sortOf_13 : decode cX6_sortOf 13 = .ok (.ireturn, 1) := by decide +kernel
theorem dX6_sortOf_14 : decode cX6_sortOf 14 = .ok (.iload_n 0, 1) := by decide +kernel
theorem dX6_sortOf_15 : decode cX6_sortOf 15 = .ok (.bipush 97, 2) := by decide +kernel
theorem dX6_sortOf_17 : decode cX6_sortOf 17 = .ok (.if_icmp .lt 11, 3) := by decide +kernel
theorem dX6_sortOf_20 : decode cX6_sortOf 20 = .ok (.iload_n 0, 1) := by decide +kernel
theorem dX6_sortOf_21 : decode cX6_sortOf 21 = .ok (.bipush 122, 2) := by decide +kernel
theorem dX6_sortOf_23 : decode cX6_sortOf 23 = .ok (.if_icmp .gt 5, 3) := by decide +kernel
theorem dX6_sortOf_26 : decode cX6_sortOf 26 = .ok (.iconst 1, 1) := by decide +kernel
theorem dX6_sortOf_27 : decode cX6_sortOf 27 = .ok (.ireturn, 1) := by decide +kernel
theorem dX6_sortOf_28 : decode cX6_sortOf 28 = .ok (.iload_n 0, 1) := by decide +kernel
theorem dX6_sortOf_29 : decode cX6_sortOf 29 = .ok (.bipush 48, 2) := by decide +kernel
theorem dX6_sortOf_31 : decode cX6_sortOf 31 = .ok (.if_icmp .lt 11, 3) := by decide +kernel
theorem dX6_sortOf_34 : decode cX6_sortOf 34 = .ok (.iload_n 0, 1) := by decide +kernel
theorem dX6_sortOf_35 : decode cX6_sortOf 35 = .ok (.bipush 57, 2) := by decide +kernel
theorem dX6_sortOf_37 : decode cX6_sortOf 37 = .ok (.if_icmp .gt 5, 3) := by decide +kernel
theorem dX6_sortOf_40 : decode cX6_sortOf 40 = .ok (.iconst 2, 1) := by decide +kernel
theorem dX6_sortOf_41 : decode cX6_sortOf 41 = .ok (.ireturn, 1) := by decide +kernel
theorem dX6_sortOf_42 : decode cX6_sortOf 42 = .ok (.iload_n 0, 1) := by decide +kernel
theorem dX6_sortOf_43 : decode cX6_sortOf 43 = .ok (.bipush 59, 2) := by decide +kernel
theorem dX6_sortOf_45 : decode cX6_sortOf 45 = .ok (.if_icmp .ne 7, 3) := by decide +kernel
theorem dX6_sortOf_48 : decode cX6_sortOf 48 = .ok (.iconst 3, 1) := by decide +kernel
theorem dX6_sortOf_49 : decode cX6_sortOf 49 = .ok (.goto 4, 3) := by decide +kernel
theorem dX6_sortOf_52 : decode cX6_sortOf 52 = .ok (.iconst 4, 1) := by decide +kernel
theorem dX6_sortOf_53 : decode cX6_sortOf 53 = .ok (.ireturn, 1) := by decide +kernel
theorem dX7_init_0 : decode cX7_init 0 = .ok (.aload_n 0, 1) := by decide +kernel
theorem dX7_init_1 : decode cX7_init 1 = .ok (.invokespecial 1, 3) := by decide +kernel
theorem dX7_init_4 : decode cX7_init 4 = .ok (.aload_n 0, 1) := by decide +kernel
theorem dX7_init_5 : decode cX7_init 5 = .ok (.bipush 8, 2) := by decide +kernel
theorem dX7_init_7 : decode cX7_init 7 = .ok (.newarray .int, 2) := by decide +kernel
theorem dX7_init_9 : decode cX7_init 9 = .ok (.putfield 9, 3) := by decide +kernel
theorem dX7_init_12 : decode cX7_init 12 = .ok (.aload_n 0, 1) := by decide +kernel
theorem dX7_init_13 : decode cX7_init 13 = .ok (.bipush 8, 2) := by decide +kernel
theorem dX7_init_15 : decode cX7_init 15 = .ok (.newarray .int, 2) := by decide +kernel
theorem dX7_init_17 : decode cX7_init 17 = .ok (.putfield 13, 3) := by decide +kernel
theorem dX7_init_20 : decode cX7_init 20 = .ok (.aload_n 0, 1) := by decide +kernel
theorem dX7_init_21 : decode cX7_init 21 = .ok (.sipush 320, 3) := by decide +kernel
theorem dX7_init_24 : decode cX7_init 24 = .ok (.newarray .int, 2) := by decide +kernel
theorem dX7_init_26 : decode cX7_init 26 = .ok (.putfield 16, 3) := by decide +kernel
theorem dX7_init_29 : decode cX7_init 29 = .ok (.aload_n 0, 1) := by decide +kernel
theorem dX7_init_30 : decode cX7_init 30 = .ok (.getfield 9, 3) := by decide +kernel
theorem dX7_init_33 : decode cX7_init 33 = .ok (.iconst (-1), 1) := by decide +kernel
theorem dX7_init_34 : decode cX7_init 34 = .ok (.invokestatic 19, 3) := by decide +kernel
theorem dX7_init_37 : decode cX7_init 37 = .ok (.return_, 1) := by decide +kernel
theorem dX7_isRow_0 : decode cX7_isRow 0 = .ok (.iload_n 0, 1) := by decide +kernel
theorem dX7_isRow_1 : decode cX7_isRow 1 = .ok (.ifCond .lt 13, 3) := by decide +kernel
theorem dX7_isRow_4 : decode cX7_isRow 4 = .ok (.iload_n 0, 1) := by decide +kernel
theorem dX7_isRow_5 : decode cX7_isRow 5 = .ok (.bipush 8, 2) := by decide +kernel
theorem dX7_isRow_7 : decode cX7_isRow 7 = .ok (.if_icmp .ge 7, 3) := by decide +kernel
theorem dX7_isRow_10 : decode cX7_isRow 10 = .ok (.iconst 1, 1) := by decide +kernel
theorem dX7_isRow_11 : decode cX7_isRow 11 = .ok (.goto 4, 3) := by decide +kernel
theorem dX7_isRow_14 : decode cX7_isRow 14 = .ok (.iconst 0, 1) := by decide +kernel
theorem dX7_isRow_15 : decode cX7_isRow 15 = .ok (.ireturn, 1) := by decide +kernel
theorem dX7_isMissing_0 : decode cX7_isMissing 0 = .ok (.iload_n 1, 1) := by decide +kernel
theorem dX7_isMissing_1 : decode cX7_isMissing 1 = .ok (.invokestatic 25, 3) := by decide +kernel
theorem dX7_isMissing_4 : decode cX7_isMissing 4 = .ok (.ifCond .eq 13, 3) := by decide +kernel
theorem dX7_isMissing_7 : decode cX7_isMissing 7 = .ok (.aload_n 0, 1) := by decide +kernel
theorem dX7_isMissing_8 : decode cX7_isMissing 8 = .ok (.getfield 9, 3) := by decide +kernel
theorem dX7_isMissing_11 : decode cX7_isMissing 11 = .ok (.iload_n 1, 1) := by decide +kernel
theorem dX7_isMissing_12 : decode cX7_isMissing 12 = .ok (.iaload, 1) := by decide +kernel
theorem dX7_isMissing_13 : decode cX7_isMissing 13 = .ok (.iconst (-1), 1) := by decide +kernel
theorem dX7_isMissing_14 : decode cX7_isMissing 14 = .ok (.if_icmp .ne 7, 3) := by decide +kernel
theorem dX7_isMissing_17 : decode cX7_isMissing 17 = .ok (.iconst 1, 1) := by decide +kernel
theorem dX7_isMissing_18 : decode cX7_isMissing 18 = .ok (.goto 4, 3) := by decide +kernel
theorem dX7_isMissing_21 : decode cX7_isMissing 21 = .ok (.iconst 0, 1) := by decide +kernel
theorem dX7_isMissing_22 : decode cX7_isMissing 22 = .ok (.ireturn, 1) := by decide +kernel
theorem dX7_countThere_0 : decode cX7_countThere 0 = .ok (.iconst 0, 1) := by decide +kernel
theorem dX7_countThere_1 : decode cX7_countThere 1 = .ok (.istore_n 1, 1) := by decide +kernel
theorem dX7_countThere_2 : decode cX7_countThere 2 = .ok (.iconst 0, 1) := by decide +kernel
theorem dX7_countThere_3 : decode cX7_countThere 3 = .ok (.istore_n 2, 1) := by decide +kernel
theorem dX7_countThere_4 : decode cX7_countThere 4 = .ok (.iload_n 2, 1) := by decide +kernel
theorem dX7_countThere_5 : decode cX7_countThere 5 = .ok (.bipush 8, 2) := by decide +kernel
theorem dX7_countThere_7 : decode cX7_countThere 7 = .ok (.if_icmp .ge 22, 3) := by decide +kernel
theorem dX7_countThere_10 : decode cX7_countThere 10 = .ok (.aload_n 0, 1) := by decide +kernel
theorem dX7_countThere_11 : decode cX7_countThere 11 = .ok (.getfield 9, 3) := by decide +kernel
theorem dX7_countThere_14 : decode cX7_countThere 14 = .ok (.iload_n 2, 1) := by decide +kernel
theorem dX7_countThere_15 : decode cX7_countThere 15 = .ok (.iaload, 1) := by decide +kernel
theorem dX7_countThere_16 : decode cX7_countThere 16 = .ok (.iconst (-1), 1) := by decide +kernel
theorem dX7_countThere_17 : decode cX7_countThere 17 = .ok (.if_icmp .eq 6, 3) := by decide +kernel
theorem dX7_countThere_20 : decode cX7_countThere 20 = .ok (.iinc 1 1, 3) := by decide +kernel
theorem dX7_countThere_23 : decode cX7_countThere 23 = .ok (.iinc 2 1, 3) := by decide +kernel
theorem dX7_countThere_26 : decode cX7_countThere 26 = .ok (.goto (-22), 3) := by decide +kernel
theorem dX7_countThere_29 : decode cX7_countThere 29 = .ok (.iload_n 1, 1) := by decide +kernel
theorem dX7_countThere_30 : decode cX7_countThere 30 = .ok (.ireturn, 1) := by decide +kernel
theorem dX7_lay_0 : decode cX7_lay 0 = .ok (.iload_n 1, 1) := by decide +kernel
theorem dX7_lay_1 : decode cX7_lay 1 = .ok (.invokestatic 25, 3) := by decide +kernel
theorem dX7_lay_4 : decode cX7_lay 4 = .ok (.ifCond .eq 13, 3) := by decide +kernel
theorem dX7_lay_7 : decode cX7_lay 7 = .ok (.iload_n 3, 1) := by decide +kernel
theorem dX7_lay_8 : decode cX7_lay 8 = .ok (.ifCond .lt 9, 3) := by decide +kernel
theorem dX7_lay_11 : decode cX7_lay 11 = .ok (.iload_n 3, 1) := by decide +kernel
theorem dX7_lay_12 : decode cX7_lay 12 = .ok (.bipush 40, 2) := by decide +kernel
theorem dX7_lay_14 : decode cX7_lay 14 = .ok (.if_icmp .le 4, 3) := by decide +kernel
theorem dX7_lay_17 : decode cX7_lay 17 = .ok (.return_, 1) := by decide +kernel
theorem dX7_lay_18 : decode cX7_lay 18 = .ok (.aload_n 0, 1) := by decide +kernel
theorem dX7_lay_19 : decode cX7_lay 19 = .ok (.getfield 9, 3) := by decide +kernel
theorem dX7_lay_22 : decode cX7_lay 22 = .ok (.iload_n 1, 1) := by decide +kernel
theorem dX7_lay_23 : decode cX7_lay 23 = .ok (.iload_n 2, 1) := by decide +kernel
theorem dX7_lay_24 : decode cX7_lay 24 = .ok (.iastore, 1) := by decide +kernel
theorem dX7_lay_25 : decode cX7_lay 25 = .ok (.aload_n 0, 1) := by decide +kernel
theorem dX7_lay_26 : decode cX7_lay 26 = .ok (.getfield 13, 3) := by decide +kernel
theorem dX7_lay_29 : decode cX7_lay 29 = .ok (.iload_n 1, 1) := by decide +kernel
theorem dX7_lay_30 : decode cX7_lay 30 = .ok (.iload_n 3, 1) := by decide +kernel
theorem dX7_lay_31 : decode cX7_lay 31 = .ok (.iastore, 1) := by decide +kernel
theorem dX7_lay_32 : decode cX7_lay 32 = .ok (.aload_n 0, 1) := by decide +kernel
theorem dX7_lay_33 : decode cX7_lay 33 = .ok (.getfield 16, 3) := by decide +kernel
theorem dX7_lay_36 : decode cX7_lay 36 = .ok (.iload_n 1, 1) := by decide +kernel
theorem dX7_lay_37 : decode cX7_lay 37 = .ok (.bipush 40, 2) := by decide +kernel
theorem dX7_lay_39 : decode cX7_lay 39 = .ok (.imul, 1) := by decide +kernel
theorem dX7_lay_40 : decode cX7_lay 40 = .ok (.iload_n 1, 1) := by decide +kernel
theorem dX7_lay_41 : decode cX7_lay 41 = .ok (.bipush 40, 2) := by decide +kernel
theorem dX7_lay_43 : decode cX7_lay 43 = .ok (.imul, 1) := by decide +kernel
theorem dX7_lay_44 : decode cX7_lay 44 = .ok (.iload_n 3, 1) := by decide +kernel
theorem dX7_lay_45 : decode cX7_lay 45 = .ok (.iadd, 1) := by decide +kernel
theorem dX7_lay_46 : decode cX7_lay 46 = .ok (.iconst 0, 1) := by decide +kernel
theorem dX7_lay_47 : decode cX7_lay 47 = .ok (.invokestatic 29, 3) := by decide +kernel
theorem dX7_lay_50 : decode cX7_lay 50 = .ok (.return_, 1) := by decide +kernel
theorem dX7_remove_0 : decode cX7_remove 0 = .ok (.iload_n 1, 1) := by decide +kernel
theorem dX7_remove_1 : decode cX7_remove 1 = .ok (.invokestatic 25, 3) := by decide +kernel
theorem dX7_remove_4 : decode cX7_remove 4 = .ok (.ifCond .ne 5, 3) := by decide +kernel
theorem dX7_remove_7 : decode cX7_remove 7 = .ok (.iconst 0, 1) := by decide +kernel
theorem dX7_remove_8 : decode cX7_remove 8 = .ok (.ireturn, 1) := by decide +kernel
theorem dX7_remove_9 : decode cX7_remove 9 = .ok (.aload_n 0, 1) := by decide +kernel
theorem dX7_remove_10 : decode cX7_remove 10 = .ok (.getfield 9, 3) := by decide +kernel
theorem dX7_remove_13 : decode cX7_remove 13 = .ok (.iload_n 1, 1) := by decide +kernel
theorem dX7_remove_14 : decode cX7_remove 14 = .ok (.iconst (-1), 1) := by decide +kernel
theorem dX7_remove_15 : decode cX7_remove 15 = .ok (.iastore, 1) := by decide +kernel
theorem dX7_remove_16 : decode cX7_remove 16 = .ok (.aload_n 0, 1) := by decide +kernel
theorem dX7_remove_17 : decode cX7_remove 17 = .ok (.getfield 13, 3) := by decide +kernel
theorem dX7_remove_20 : decode cX7_remove 20 = .ok (.iload_n 1, 1) := by decide +kernel
theorem dX7_remove_21 : decode cX7_remove 21 = .ok (.iaload, 1) := by decide +kernel
theorem dX7_remove_22 : decode cX7_remove 22 = .ok (.ireturn, 1) := by decide +kernel
theorem dX7_isPlace_0 : decode cX7_isPlace 0 = .ok (.iload_n 1, 1) := by decide +kernel
theorem dX7_isPlace_1 : decode cX7_isPlace 1 = .ok (.invokestatic 25, 3) := by decide +kernel
theorem dX7_isPlace_4 : decode cX7_isPlace 4 = .ok (.ifCond .eq 21, 3) := by decide +kernel
theorem dX7_isPlace_7 : decode cX7_isPlace 7 = .ok (.iload_n 2, 1) := by decide +kernel
theorem dX7_isPlace_8 : decode cX7_isPlace 8 = .ok (.ifCond .lt 17, 3) := by decide +kernel
theorem dX7_isPlace_11 : decode cX7_isPlace 11 = .ok (.iload_n 2, 1) := by decide +kernel
theorem dX7_isPlace_12 : decode cX7_isPlace 12 = .ok (.aload_n 0, 1) := by decide +kernel
theorem dX7_isPlace_13 : decode cX7_isPlace 13 = .ok (.getfield 13, 3) := by decide +kernel
theorem dX7_isPlace_16 : decode cX7_isPlace 16 = .ok (.iload_n 1, 1) := by decide +kernel
theorem dX7_isPlace_17 : decode cX7_isPlace 17 = .ok (.iaload, 1) := by decide +kernel
theorem dX7_isPlace_18 : decode cX7_isPlace 18 = .ok (.if_icmp .ge 7, 3) := by decide +kernel
theorem dX7_isPlace_21 : decode cX7_isPlace 21 = .ok (.iconst 1, 1) := by decide +kernel
theorem dX7_isPlace_22 : decode cX7_isPlace 22 = .ok (.goto 4, 3) := by decide +kernel
theorem dX7_isPlace_25 : decode cX7_isPlace 25 = .ok (.iconst 0, 1) := by decide +kernel
theorem dX7_isPlace_26 : decode cX7_isPlace 26 = .ok (.ireturn, 1) := by decide +kernel
theorem dX7_isStretch_0 : decode cX7_isStretch 0 = .ok (.iload_n 1, 1) := by decide +kernel
theorem dX7_isStretch_1 : decode cX7_isStretch 1 = .ok (.invokestatic 25, 3) := by decide +kernel
theorem dX7_isStretch_4 : decode cX7_isStretch 4 = .ok (.ifCond .eq 27, 3) := by decide +kernel
theorem dX7_isStretch_7 : decode cX7_isStretch 7 = .ok (.iload_n 3, 1) := by decide +kernel
theorem dX7_isStretch_8 : decode cX7_isStretch 8 = .ok (.ifCond .lt 23, 3) := by decide +kernel
theorem dX7_isStretch_11 : decode cX7_isStretch 11 = .ok (.iload_n 2, 1) := by decide +kernel
theorem dX7_isStretch_12 : decode cX7_isStretch 12 = .ok (.ifCond .lt 19, 3) := by decide +kernel
theorem dX7_isStretch_15 : decode cX7_isStretch 15 = .ok (.iload_n 2, 1) := by decide +kernel
theorem dX7_isStretch_16 : decode cX7_isStretch 16 = .ok (.aload_n 0, 1) := by decide +kernel
theorem dX7_isStretch_17 : decode cX7_isStretch 17 = .ok (.getfield 13, 3) := by decide +kernel
theorem dX7_isStretch_20 : decode cX7_isStretch 20 = .ok (.iload_n 1, 1) := by decide +kernel
theorem dX7_isStretch_21 : decode cX7_isStretch 21 = .ok (.iaload, 1) := by decide +kernel
theorem dX7_isStretch_22 : decode cX7_isStretch 22 = .ok (.iload_n 3, 1) := by decide +kernel
theorem dX7_isStretch_23 : decode cX7_isStretch 23 = .ok (.isub, 1) := by decide +kernel
theorem dX7_isStretch_24 : decode cX7_isStretch 24 = .ok (.if_icmp .gt 7, 3) := by decide +kernel
theorem dX7_isStretch_27 : decode cX7_isStretch 27 = .ok (.iconst 1, 1) := by decide +kernel
theorem dX7_isStretch_28 : decode cX7_isStretch 28 = .ok (.goto 4, 3) := by decide +kernel
theorem dX7_isStretch_31 : decode cX7_isStretch 31 = .ok (.iconst 0, 1) := by decide +kernel
theorem dX7_isStretch_32 : decode cX7_isStretch 32 = .ok (.ireturn, 1) := by decide +kernel
theorem dX7_areOfOneLane_0 : decode cX7_areOfOneLane 0 = .ok (.iload_n 1, 1) := by decide +kernel
theorem dX7_areOfOneLane_1 : decode cX7_areOfOneLane 1 = .ok (.invokestatic 25, 3) := by decide +kernel
theorem dX7_areOfOneLane_4 : decode cX7_areOfOneLane 4 = .ok (.ifCond .eq 29, 3) := by decide +kernel
theorem dX7_areOfOneLane_7 : decode cX7_areOfOneLane 7 = .ok (.iload_n 2, 1) := by decide +kernel
theorem dX7_areOfOneLane_8 : decode cX7_areOfOneLane 8 = .ok (.invokestatic 25, 3) := by decide +kernel
theorem dX7_areOfOneLane_11 : decode cX7_areOfOneLane 11 = .ok (.ifCond .eq 22, 3) := by decide +kernel
theorem dX7_areOfOneLane_14 : decode cX7_areOfOneLane 14 = .ok (.aload_n 0, 1) := by decide +kernel
theorem dX7_areOfOneLane_15 : decode cX7_areOfOneLane 15 = .ok (.getfield 9, 3) := by decide +kernel
theorem dX7_areOfOneLane_18 : decode cX7_areOfOneLane 18 = .ok (.iload_n 1, 1) := by decide +kernel
theorem dX7_areOfOneLane_19 : decode cX7_areOfOneLane 19 = .ok (.iaload, 1) := by decide +kernel
theorem dX7_areOfOneLane_20 : decode cX7_areOfOneLane 20 = .ok (.aload_n 0, 1) := by decide +kernel
theorem dX7_areOfOneLane_21 : decode cX7_areOfOneLane 21 = .ok (.getfield 9, 3) := by decide +kernel
theorem dX7_areOfOneLane_24 : decode cX7_areOfOneLane 24 = .ok (.iload_n 2, 1) := by decide +kernel
theorem dX7_areOfOneLane_25 : decode cX7_areOfOneLane 25 = .ok (.iaload, 1) := by decide +kernel
theorem dX7_areOfOneLane_26 : decode cX7_areOfOneLane 26 = .ok (.if_icmp .ne 7, 3) := by decide +kernel
theorem dX7_areOfOneLane_29 : decode cX7_areOfOneLane 29 = .ok (.iconst 1, 1) := by decide +kernel
theorem dX7_areOfOneLane_30 : decode cX7_areOfOneLane 30 = .ok (.goto 4, 3) := by decide +kernel
theorem dX7_areOfOneLane_33 : decode cX7_areOfOneLane 33 = .ok (.iconst 0, 1) := by decide +kernel
theorem dX7_areOfOneLane_34 : decode cX7_areOfOneLane 34 = .ok (.ireturn, 1) := by decide +kernel
theorem dX7_itemAt_0 : decode cX7_itemAt 0 = .ok (.aload_n 0, 1) := by decide +kernel
theorem dX7_itemAt_1 : decode cX7_itemAt 1 = .ok (.iload_n 1, 1) := by decide +kernel
theorem dX7_itemAt_2 : decode cX7_itemAt 2 = .ok (.iload_n 2, 1) := by decide +kernel
theorem dX7_itemAt_3 : decode cX7_itemAt 3 = .ok (.invokevirtual 32, 3) := by decide +kernel
theorem dX7_itemAt_6 : decode cX7_itemAt 6 = .ok (.ifCond .eq 17, 3) := by decide +kernel
theorem dX7_itemAt_9 : decode cX7_itemAt 9 = .ok (.aload_n 0, 1) := by decide +kernel
theorem dX7_itemAt_10 : decode cX7_itemAt 10 = .ok (.getfield 16, 3) := by decide +kernel
theorem dX7_itemAt_13 : decode cX7_itemAt 13 = .ok (.iload_n 1, 1) := by decide +kernel
theorem dX7_itemAt_14 : decode cX7_itemAt 14 = .ok (.bipush 40, 2) := by decide +kernel
theorem dX7_itemAt_16 : decode cX7_itemAt 16 = .ok (.imul, 1) := by decide +kernel
theorem dX7_itemAt_17 : decode cX7_itemAt 17 = .ok (.iload_n 2, 1) := by decide +kernel
theorem dX7_itemAt_18 : decode cX7_itemAt 18 = .ok (.iadd, 1) := by decide +kernel
theorem dX7_itemAt_19 : decode cX7_itemAt 19 = .ok (.iaload, 1) := by decide +kernel
theorem dX7_itemAt_20 : decode cX7_itemAt 20 = .ok (.goto 4, 3) := by decide +kernel
theorem dX7_itemAt_23 : decode cX7_itemAt 23 = .ok (.iconst 0, 1) := by decide +kernel
theorem dX7_itemAt_24 : decode cX7_itemAt 24 = .ok (.ireturn, 1) := by decide +kernel
theorem dX7_put_0 : decode cX7_put 0 = .ok (.aload_n 0, 1) := by decide +kernel
theorem dX7_put_1 : decode cX7_put 1 = .ok (.iload_n 1, 1) := by decide +kernel
theorem dX7_put_2 : decode cX7_put 2 = .ok (.iload_n 2, 1) := by decide +kernel
theorem dX7_put_3 : decode cX7_put 3 = .ok (.invokevirtual 32, 3) := by decide +kernel
theorem dX7_put_6 : decode cX7_put 6 = .ok (.ifCond .ne 5, 3) := by decide +kernel
theorem dX7_put_9 : decode cX7_put 9 = .ok (.iconst 0, 1) := by decide +kernel
theorem dX7_put_10 : decode cX7_put 10 = .ok (.ireturn, 1) := by decide +kernel
theorem dX7_put_11 : decode cX7_put 11 = .ok (.aload_n 0, 1) := by decide +kernel
theorem dX7_put_12 : decode cX7_put 12 = .ok (.getfield 16, 3) := by decide +kernel
theorem dX7_put_15 : decode cX7_put 15 = .ok (.iload_n 1, 1) := by decide +kernel
theorem dX7_put_16 : decode cX7_put 16 = .ok (.bipush 40, 2) := by decide +kernel
theorem dX7_put_18 : decode cX7_put 18 = .ok (.imul, 1) := by decide +kernel
theorem dX7_put_19 : decode cX7_put 19 = .ok (.iload_n 2, 1) := by decide +kernel
theorem dX7_put_20 : decode cX7_put 20 = .ok (.iadd, 1) := by decide +kernel
theorem dX7_put_21 : decode cX7_put 21 = .ok (.aload_n 0, 1) := by decide +kernel
theorem dX7_put_22 : decode cX7_put 22 = .ok (.getfield 9, 3) := by decide +kernel
theorem dX7_put_25 : decode cX7_put 25 = .ok (.iload_n 1, 1) := by decide +kernel
theorem dX7_put_26 : decode cX7_put 26 = .ok (.iaload, 1) := by decide +kernel
theorem dX7_put_27 : decode cX7_put 27 = .ok (.iload_n 3, 1) := by decide +kernel
theorem dX7_put_28 : decode cX7_put 28 = .ok (.invokestatic 36, 3) := by decide +kernel
theorem dX7_put_31 : decode cX7_put 31 = .ok (.iastore, 1) := by decide +kernel
theorem dX7_put_32 : decode cX7_put 32 = .ok (.aload_n 0, 1) := by decide +kernel
theorem dX7_put_33 : decode cX7_put 33 = .ok (.getfield 16, 3) := by decide +kernel
theorem dX7_put_36 : decode cX7_put 36 = .ok (.iload_n 1, 1) := by decide +kernel
theorem dX7_put_37 : decode cX7_put 37 = .ok (.bipush 40, 2) := by decide +kernel
theorem dX7_put_39 : decode cX7_put 39 = .ok (.imul, 1) := by decide +kernel
theorem dX7_put_40 : decode cX7_put 40 = .ok (.iload_n 2, 1) := by decide +kernel
theorem dX7_put_41 : decode cX7_put 41 = .ok (.iadd, 1) := by decide +kernel
theorem dX7_put_42 : decode cX7_put 42 = .ok (.iaload, 1) := by decide +kernel
theorem dX7_put_43 : decode cX7_put 43 = .ok (.ireturn, 1) := by decide +kernel
theorem dX7_move_0 : decode cX7_move 0 = .ok (.aload_n 0, 1) := by decide +kernel
theorem dX7_move_1 : decode cX7_move 1 = .ok (.iload_n 1, 1) := by decide +kernel
theorem dX7_move_2 : decode cX7_move 2 = .ok (.iload_n 2, 1) := by decide +kernel
theorem dX7_move_3 : decode cX7_move 3 = .ok (.iload 5, 2) := by decide +kernel
theorem dX7_move_5 : decode cX7_move 5 = .ok (.invokevirtual 40, 3) := by decide +kernel
theorem dX7_move_8 : decode cX7_move 8 = .ok (.ifCond .eq 41, 3) := by decide +kernel
theorem dX7_move_11 : decode cX7_move 11 = .ok (.aload_n 0, 1) := by decide +kernel
theorem dX7_move_12 : decode cX7_move 12 = .ok (.iload_n 3, 1) := by decide +kernel
theorem dX7_move_13 : decode cX7_move 13 = .ok (.iload 4, 2) := by decide +kernel
theorem dX7_move_15 : decode cX7_move 15 = .ok (.iload 5, 2) := by decide +kernel
theorem dX7_move_17 : decode cX7_move 17 = .ok (.invokevirtual 40, 3) := by decide +kernel
theorem dX7_move_20 : decode cX7_move 20 = .ok (.ifCond .eq 29, 3) := by decide +kernel
theorem dX7_move_23 : decode cX7_move 23 = .ok (.aload_n 0, 1) := by decide +kernel
theorem dX7_move_24 : decode cX7_move 24 = .ok (.getfield 16, 3) := by decide +kernel
theorem dX7_move_27 : decode cX7_move 27 = .ok (.iload_n 1, 1) := by decide +kernel
theorem dX7_move_28 : decode cX7_move 28 = .ok (.bipush 40, 2) := by decide +kernel
theorem dX7_move_30 : decode cX7_move 30 = .ok (.imul, 1) := by decide +kernel
theorem dX7_move_31 : decode cX7_move 31 = .ok (.iload_n 2, 1) := by decide +kernel
theorem dX7_move_32 : decode cX7_move 32 = .ok (.iadd, 1) := by decide +kernel
theorem dX7_move_33 : decode cX7_move 33 = .ok (.aload_n 0, 1) := by decide +kernel
theorem dX7_move_34 : decode cX7_move 34 = .ok (.getfield 16, 3) := by decide +kernel
theorem dX7_move_37 : decode cX7_move 37 = .ok (.iload_n 3, 1) := by decide +kernel
theorem dX7_move_38 : decode cX7_move 38 = .ok (.bipush 40, 2) := by decide +kernel
theorem dX7_move_40 : decode cX7_move 40 = .ok (.imul, 1) := by decide +kernel
theorem dX7_move_41 : decode cX7_move 41 = .ok (.iload 4, 2) := by decide +kernel
theorem dX7_move_43 : decode cX7_move 43 = .ok (.iadd, 1) := by decide +kernel
theorem dX7_move_44 : decode cX7_move 44 = .ok (.iload 5, 2) := by decide +kernel
theorem dX7_move_46 : decode cX7_move 46 = .ok (.invokestatic 44, 3) := by decide +kernel
theorem dX7_move_49 : decode cX7_move 49 = .ok (.return_, 1) := by decide +kernel
theorem dX7_narrowed_0 : decode cX7_narrowed 0 = .ok (.iload_n 0, 1) := by decide +kernel
theorem dX7_narrowed_1 : decode cX7_narrowed 1 = .ok (.lookupswitch 33 #[(0, 27), (1, 30)], 27) := by decide +kernel
theorem dX7_narrowed_28 : decode cX7_narrowed 28 = .ok (.iload_n 1, 1) := by decide +kernel
theorem dX7_narrowed_29 : decode cX7_narrowed 29 = .ok (.i2b, 1) := by decide +kernel
theorem dX7_narrowed_30 : decode cX7_narrowed 30 = .ok (.ireturn, 1) := by decide +kernel
theorem dX7_narrowed_31 : decode cX7_narrowed 31 = .ok (.iload_n 1, 1) := by decide +kernel
theorem dX7_narrowed_32 : decode cX7_narrowed 32 = .ok (.i2s, 1) := by decide +kernel
theorem dX7_narrowed_33 : decode cX7_narrowed 33 = .ok (.ireturn, 1) := by decide +kernel
theorem dX7_narrowed_34 : decode cX7_narrowed 34 = .ok (.iload_n 1, 1) := by decide +kernel
theorem dX7_narrowed_35 : decode cX7_narrowed 35 = .ok (.ireturn, 1) := by decide +kernel
theorem dX8_init_0 : decode cX8_init 0 = .ok (.aload_n 0, 1) := by decide +kernel
theorem dX8_init_1 : decode cX8_init 1 = .ok (.iload_n 1, 1) := by decide +kernel
theorem dX8_init_2 : decode cX8_init 2 = .ok (.iload_n 2, 1) := by decide +kernel
theorem dX8_init_3 : decode cX8_init 3 = .ok (.iload_n 3, 1) := by decide +kernel
theorem dX8_init_4 : decode cX8_init 4 = .ok (.invokespecial 1, 3) := by decide +kernel
theorem dX8_init_7 : decode cX8_init 7 = .ok (.return_, 1) := by decide +kernel
theorem dX8_kindTold_0 : decode cX8_kindTold 0 = .ok (.iconst 5, 1) := by decide +kernel
theorem dX8_kindTold_1 : decode cX8_kindTold 1 = .ok (.ireturn, 1) := by decide +kernel
theorem dX8_sells_0 : decode cX8_sells 0 = .ok (.iconst 0, 1) := by decide +kernel
theorem dX8_sells_1 : decode cX8_sells 1 = .ok (.ireturn, 1) := by decide +kernel
theorem dX8_sizeAsked_0 : decode cX8_sizeAsked 0 = .ok (.aload_n 2, 1) := by decide +kernel
theorem dX8_sizeAsked_1 : decode cX8_sizeAsked 1 = .ok (.bipush 14, 2) := by decide +kernel
theorem dX8_sizeAsked_3 : decode cX8_sizeAsked 3 = .ok (.invokevirtual 7, 3) := by decide +kernel
theorem dX8_sizeAsked_6 : decode cX8_sizeAsked 6 = .ok (.aload_n 0, 1) := by decide +kernel
theorem dX8_sizeAsked_7 : decode cX8_sizeAsked 7 = .ok (.aload_n 1, 1) := by decide +kernel
theorem dX8_sizeAsked_8 : decode cX8_sizeAsked 8 = .ok (.aload_n 2, 1) := by decide +kernel
theorem dX8_sizeAsked_9 : decode cX8_sizeAsked 9 = .ok (.invokespecial 13, 3) := by decide +kernel
theorem dX8_sizeAsked_12 : decode cX8_sizeAsked 12 = .ok (.bipush 100, 2) := by decide +kernel
theorem dX8_sizeAsked_14 : decode cX8_sizeAsked 14 = .ok (.isub, 1) := by decide +kernel
theorem dX8_sizeAsked_15 : decode cX8_sizeAsked 15 = .ok (.ireturn, 1) := by decide +kernel
theorem dX8_markAsked_0 : decode cX8_markAsked 0 = .ok (.aload_n 2, 1) := by decide +kernel
theorem dX8_markAsked_1 : decode cX8_markAsked 1 = .ok (.bipush 24, 2) := by decide +kernel
theorem dX8_markAsked_3 : decode cX8_markAsked 3 = .ok (.invokevirtual 7, 3) := by decide +kernel
theorem dX8_markAsked_6 : decode cX8_markAsked 6 = .ok (.aload_n 0, 1) := by decide +kernel
theorem dX8_markAsked_7 : decode cX8_markAsked 7 = .ok (.aload_n 1, 1) := by decide +kernel
theorem dX8_markAsked_8 : decode cX8_markAsked 8 = .ok (.aload_n 2, 1) := by decide +kernel
theorem dX8_markAsked_9 : decode cX8_markAsked 9 = .ok (.invokespecial 17, 3) := by decide +kernel
theorem dX8_markAsked_12 : decode cX8_markAsked 12 = .ok (.aload_n 0, 1) := by decide +kernel
theorem dX8_markAsked_13 : decode cX8_markAsked 13 = .ok (.aload_n 1, 1) := by decide +kernel
theorem dX8_markAsked_14 : decode cX8_markAsked 14 = .ok (.aload_n 2, 1) := by decide +kernel
theorem dX8_markAsked_15 : decode cX8_markAsked 15 = .ok (.invokevirtual 20, 3) := by decide +kernel
theorem dX8_markAsked_18 : decode cX8_markAsked 18 = .ok (.iadd, 1) := by decide +kernel
theorem dX8_markAsked_19 : decode cX8_markAsked 19 = .ok (.ireturn, 1) := by decide +kernel
theorem dX9_init_0 : decode cX9_init 0 = .ok (.aload_n 0, 1) := by decide +kernel
theorem dX9_init_1 : decode cX9_init 1 = .ok (.invokespecial 3, 3) := by decide +kernel
theorem dX9_init_4 : decode cX9_init 4 = .ok (.aload_n 0, 1) := by decide +kernel
theorem dX9_init_5 : decode cX9_init 5 = .ok (.bipush 16, 2) := by decide +kernel
theorem dX9_init_7 : decode cX9_init 7 = .ok (.newarray .int, 2) := by decide +kernel
theorem dX9_init_9 : decode cX9_init 9 = .ok (.putfield 11, 3) := by decide +kernel
theorem dX9_init_12 : decode cX9_init 12 = .ok (.return_, 1) := by decide +kernel
theorem dX9_clear_0 : decode cX9_clear 0 = .ok (.aload_n 0, 1) := by decide +kernel
theorem dX9_clear_1 : decode cX9_clear 1 = .ok (.iconst 0, 1) := by decide +kernel
theorem dX9_clear_2 : decode cX9_clear 2 = .ok (.putfield 15, 3) := by decide +kernel
theorem dX9_clear_5 : decode cX9_clear 5 = .ok (.return_, 1) := by decide +kernel
theorem dX9_leave_0 : decode cX9_leave 0 = .ok (.aload_n 0, 1) := by decide +kernel
theorem dX9_leave_1 : decode cX9_leave 1 = .ok (.getfield 15, 3) := by decide +kernel
theorem dX9_leave_4 : decode cX9_leave 4 = .ok (.ifCond .lt 32, 3) := by decide +kernel
theorem dX9_leave_7 : decode cX9_leave 7 = .ok (.aload_n 0, 1) := by decide +kernel
theorem dX9_leave_8 : decode cX9_leave 8 = .ok (.getfield 15, 3) := by decide +kernel
theorem dX9_leave_11 : decode cX9_leave 11 = .ok (.bipush 16, 2) := by decide +kernel
theorem dX9_leave_13 : decode cX9_leave 13 = .ok (.if_icmp .ge 23, 3) := by decide +kernel
theorem dX9_leave_16 : decode cX9_leave 16 = .ok (.aload_n 0, 1) := by decide +kernel
theorem dX9_leave_17 : decode cX9_leave 17 = .ok (.getfield 11, 3) := by decide +kernel
theorem dX9_leave_20 : decode cX9_leave 20 = .ok (.aload_n 0, 1) := by decide +kernel
theorem dX9_leave_21 : decode cX9_leave 21 = .ok (.getfield 15, 3) := by decide +kernel
theorem dX9_leave_24 : decode cX9_leave 24 = .ok (.iload_n 1, 1) := by decide +kernel
theorem dX9_leave_25 : decode cX9_leave 25 = .ok (.iastore, 1) := by decide +kernel
theorem dX9_leave_26 : decode cX9_leave 26 = .ok (.aload_n 0, 1) := by decide +kernel
theorem dX9_leave_27 : decode cX9_leave 27 = .ok (.dup, 1) := by decide +kernel
theorem dX9_leave_28 : decode cX9_leave 28 = .ok (.getfield 15, 3) := by decide +kernel
theorem dX9_leave_31 : decode cX9_leave 31 = .ok (.iconst 1, 1) := by decide +kernel
theorem dX9_leave_32 : decode cX9_leave 32 = .ok (.iadd, 1) := by decide +kernel
theorem dX9_leave_33 : decode cX9_leave 33 = .ok (.putfield 15, 3) := by decide +kernel
theorem dX9_leave_36 : decode cX9_leave 36 = .ok (.return_, 1) := by decide +kernel
theorem dX9_at_0 : decode cX9_at 0 = .ok (.iload_n 1, 1) := by decide +kernel
theorem dX9_at_1 : decode cX9_at 1 = .ok (.ifCond .lt 26, 3) := by decide +kernel
theorem dX9_at_4 : decode cX9_at 4 = .ok (.iload_n 1, 1) := by decide +kernel
theorem dX9_at_5 : decode cX9_at 5 = .ok (.aload_n 0, 1) := by decide +kernel
theorem dX9_at_6 : decode cX9_at 6 = .ok (.getfield 15, 3) := by decide +kernel
theorem dX9_at_9 : decode cX9_at 9 = .ok (.if_icmp .ge 18, 3) := by decide +kernel
theorem dX9_at_12 : decode cX9_at 12 = .ok (.iload_n 1, 1) := by decide +kernel
theorem dX9_at_13 : decode cX9_at 13 = .ok (.bipush 16, 2) := by decide +kernel
theorem dX9_at_15 : decode cX9_at 15 = .ok (.if_icmp .ge 12, 3) := by decide +kernel
theorem dX9_at_18 : decode cX9_at 18 = .ok (.aload_n 0, 1) := by decide +kernel
theorem dX9_at_19 : decode cX9_at 19 = .ok (.getfield 11, 3) := by decide +kernel
theorem dX9_at_22 : decode cX9_at 22 = .ok (.iload_n 1, 1) := by decide +kernel
theorem dX9_at_23 : decode cX9_at 23 = .ok (.iaload, 1) := by decide +kernel
theorem dX9_at_24 : decode cX9_at 24 = .ok (.goto 5, 3) := by decide +kernel
theorem dX9_at_27 : decode cX9_at 27 = .ok (.ldc 19, 2) := by decide +kernel
theorem dX9_at_29 : decode cX9_at 29 = .ok (.ireturn, 1) := by decide +kernel
theorem dX10_init_0 : decode cX10_init 0 = .ok (.aload_n 0, 1) := by decide +kernel
theorem dX10_init_1 : decode cX10_init 1 = .ok (.iload_n 1, 1) := by decide +kernel
theorem dX10_init_2 : decode cX10_init 2 = .ok (.iload_n 2, 1) := by decide +kernel
theorem dX10_init_3 : decode cX10_init 3 = .ok (.iload_n 3, 1) := by decide +kernel
theorem dX10_init_4 : decode cX10_init 4 = .ok (.invokespecial 1, 3) := by decide +kernel
theorem dX10_init_7 : decode cX10_init 7 = .ok (.return_, 1) := by decide +kernel
theorem dX10_kindTold_0 : decode cX10_kindTold 0 = .ok (.iconst 3, 1) := by decide +kernel
theorem dX10_kindTold_1 : decode cX10_kindTold 1 = .ok (.ireturn, 1) := by decide +kernel
theorem dX10_sells_0 : decode cX10_sells 0 = .ok (.aload_n 0, 1) := by decide +kernel
theorem dX10_sells_1 : decode cX10_sells 1 = .ok (.aload_n 1, 1) := by decide +kernel
theorem dX10_sells_2 : decode cX10_sells 2 = .ok (.iload_n 2, 1) := by decide +kernel
theorem dX10_sells_3 : decode cX10_sells 3 = .ok (.invokespecial 9, 3) := by decide +kernel
theorem dX10_sells_6 : decode cX10_sells 6 = .ok (.ifCond .ne 12, 3) := by decide +kernel
theorem dX10_sells_9 : decode cX10_sells 9 = .ok (.aload_n 0, 1) := by decide +kernel
theorem dX10_sells_10 : decode cX10_sells 10 = .ok (.aload_n 1, 1) := by decide +kernel
theorem dX10_sells_11 : decode cX10_sells 11 = .ok (.iload_n 2, 1) := by decide +kernel
theorem dX10_sells_12 : decode cX10_sells 12 = .ok (.invokevirtual 13, 3) := by decide +kernel
theorem dX10_sells_15 : decode cX10_sells 15 = .ok (.ifCond .eq 7, 3) := by decide +kernel
theorem dX10_sells_18 : decode cX10_sells 18 = .ok (.iconst 1, 1) := by decide +kernel
theorem dX10_sells_19 : decode cX10_sells 19 = .ok (.goto 4, 3) := by decide +kernel
theorem dX10_sells_22 : decode cX10_sells 22 = .ok (.iconst 0, 1) := by decide +kernel
theorem dX10_sells_23 : decode cX10_sells 23 = .ok (.ireturn, 1) := by decide +kernel
theorem dX10_isAnotherAboutTo_0 : decode cX10_isAnotherAboutTo 0 = .ok (.iconst 0, 1) := by decide +kernel
theorem dX10_isAnotherAboutTo_1 : decode cX10_isAnotherAboutTo 1 = .ok (.istore_n 3, 1) := by decide +kernel
theorem dX10_isAnotherAboutTo_2 : decode cX10_isAnotherAboutTo 2 = .ok (.iload_n 3, 1) := by decide +kernel
theorem dX10_isAnotherAboutTo_3 : decode cX10_isAnotherAboutTo 3 = .ok (.aload_n 1, 1) := by decide +kernel
theorem dX10_isAnotherAboutTo_4 : decode cX10_isAnotherAboutTo 4 = .ok (.getfield 18, 3) := by decide +kernel
theorem dX10_isAnotherAboutTo_7 : decode cX10_isAnotherAboutTo 7 = .ok (.if_icmp .ge 57, 3) := by decide +kernel
theorem dX10_isAnotherAboutTo_10 : decode cX10_isAnotherAboutTo 10 = .ok (.aload_n 1, 1) := by decide +kernel
theorem dX10_isAnotherAboutTo_11 : decode cX10_isAnotherAboutTo 11 = .ok (.iload_n 3, 1) := by decide +kernel
theorem dX10_isAnotherAboutTo_12 : decode cX10_isAnotherAboutTo 12 = .ok (.invokevirtual 24, 3) := by decide +kernel
theorem dX10_isAnotherAboutTo_15 : decode cX10_isAnotherAboutTo 15 = .ok (.astore 4, 2) := by decide +kernel
theorem dX10_isAnotherAboutTo_17 : decode cX10_isAnotherAboutTo 17 = .ok (.iload_n 3, 1) := by decide +kernel
theorem dX10_isAnotherAboutTo_18 : decode cX10_isAnotherAboutTo 18 = .ok (.aload_n 0, 1) := by decide +kernel
theorem dX10_isAnotherAboutTo_19 : decode cX10_isAnotherAboutTo 19 = .ok (.getfield 28, 3) := by decide +kernel
theorem dX10_isAnotherAboutTo_22 : decode cX10_isAnotherAboutTo 22 = .ok (.if_icmp .eq 36, 3) := by decide +kernel
theorem dX10_isAnotherAboutTo_25 : decode cX10_isAnotherAboutTo 25 = .ok (.aload 4, 2) := by decide +kernel
theorem dX10_isAnotherAboutTo_27 : decode cX10_isAnotherAboutTo 27 = .ok (.instanceof 2, 3) := by decide +kernel
theorem dX10_isAnotherAboutTo_30 : decode cX10_isAnotherAboutTo 30 = .ok (.ifCond .eq 28, 3) := by decide +kernel
theorem dX10_isAnotherAboutTo_33 : decode cX10_isAnotherAboutTo 33 = .ok (.aload 4, 2) := by decide +kernel
theorem dX10_isAnotherAboutTo_35 : decode cX10_isAnotherAboutTo 35 = .ok (.getfield 31, 3) := by decide +kernel
theorem dX10_isAnotherAboutTo_38 : decode cX10_isAnotherAboutTo 38 = .ok (.aload_n 1, 1) := by decide +kernel
theorem dX10_isAnotherAboutTo_39 : decode cX10_isAnotherAboutTo 39 = .ok (.getfield 34, 3) := by decide +kernel
theorem dX10_isAnotherAboutTo_42 : decode cX10_isAnotherAboutTo 42 = .ok (.iconst 1, 1) := by decide +kernel
theorem dX10_isAnotherAboutTo_43 : decode cX10_isAnotherAboutTo 43 = .ok (.iadd, 1) := by decide +kernel
theorem dX10_isAnotherAboutTo_44 : decode cX10_isAnotherAboutTo 44 = .ok (.if_icmp .gt 14, 3) := by decide +kernel
theorem dX10_isAnotherAboutTo_47 : decode cX10_isAnotherAboutTo 47 = .ok (.aload_n 1, 1) := by decide +kernel
theorem dX10_isAnotherAboutTo_48 : decode cX10_isAnotherAboutTo 48 = .ok (.iload_n 3, 1) := by decide +kernel
theorem dX10_isAnotherAboutTo_49 : decode cX10_isAnotherAboutTo 49 = .ok (.iload_n 2, 1) := by decide +kernel
theorem dX10_isAnotherAboutTo_50 : decode cX10_isAnotherAboutTo 50 = .ok (.invokevirtual 37, 3) := by decide +kernel
theorem dX10_isAnotherAboutTo_53 : decode cX10_isAnotherAboutTo 53 = .ok (.ifCond .eq 5, 3) := by decide +kernel
theorem dX10_isAnotherAboutTo_56 : decode cX10_isAnotherAboutTo 56 = .ok (.iconst 1, 1) := by decide +kernel
theorem dX10_isAnotherAboutTo_57 : decode cX10_isAnotherAboutTo 57 = .ok (.ireturn, 1) := by decide +kernel
theorem dX10_isAnotherAboutTo_58 : decode cX10_isAnotherAboutTo 58 = .ok (.iinc 3 1, 3) := by decide +kernel
theorem dX10_isAnotherAboutTo_61 : decode cX10_isAnotherAboutTo 61 = .ok (.goto (-59), 3) := by decide +kernel
theorem dX10_isAnotherAboutTo_64 : decode cX10_isAnotherAboutTo 64 = .ok (.iconst 0, 1) := by decide +kernel
theorem dX10_isAnotherAboutTo_65 : decode cX10_isAnotherAboutTo 65 = .ok (.ireturn, 1) := by decide +kernel
theorem dX10_sizeAsked_0 : decode cX10_sizeAsked 0 = .ok (.aload_n 2, 1) := by decide +kernel
theorem dX10_sizeAsked_1 : decode cX10_sizeAsked 1 = .ok (.bipush 12, 2) := by decide +kernel
theorem dX10_sizeAsked_3 : decode cX10_sizeAsked 3 = .ok (.invokevirtual 41, 3) := by decide +kernel
theorem dX10_sizeAsked_6 : decode cX10_sizeAsked 6 = .ok (.iconst 0, 1) := by decide +kernel
theorem dX10_sizeAsked_7 : decode cX10_sizeAsked 7 = .ok (.aload_n 0, 1) := by decide +kernel
theorem dX10_sizeAsked_8 : decode cX10_sizeAsked 8 = .ok (.aload_n 1, 1) := by decide +kernel
theorem dX10_sizeAsked_9 : decode cX10_sizeAsked 9 = .ok (.aload_n 2, 1) := by decide +kernel
theorem dX10_sizeAsked_10 : decode cX10_sizeAsked 10 = .ok (.invokespecial 47, 3) := by decide +kernel
theorem dX10_sizeAsked_13 : decode cX10_sizeAsked 13 = .ok (.isub, 1) := by decide +kernel
theorem dX10_sizeAsked_14 : decode cX10_sizeAsked 14 = .ok (.ireturn, 1) := by decide +kernel
theorem dX11_init_0 : decode cX11_init 0 = .ok (.aload_n 0, 1) := by decide +kernel
theorem dX11_init_1 : decode cX11_init 1 = .ok (.invokespecial 1, 3) := by decide +kernel
theorem dX11_init_4 : decode cX11_init 4 = .ok (.aload_n 0, 1) := by decide +kernel
theorem dX11_init_5 : decode cX11_init 5 = .ok (.new 7, 3) := by decide +kernel
theorem dX11_init_8 : decode cX11_init 8 = .ok (.dup, 1) := by decide +kernel
theorem dX11_init_9 : decode cX11_init 9 = .ok (.invokespecial 9, 3) := by decide +kernel
theorem dX11_init_12 : decode cX11_init 12 = .ok (.putfield 10, 3) := by decide +kernel
theorem dX11_init_15 : decode cX11_init 15 = .ok (.aload_n 0, 1) := by decide +kernel
theorem dX11_init_16 : decode cX11_init 16 = .ok (.new 16, 3) := by decide +kernel
theorem dX11_init_19 : decode cX11_init 19 = .ok (.dup, 1) := by decide +kernel
theorem dX11_init_20 : decode cX11_init 20 = .ok (.invokespecial 18, 3) := by decide +kernel
theorem dX11_init_23 : decode cX11_init 23 = .ok (.putfield 19, 3) := by decide +kernel
theorem dX11_init_26 : decode cX11_init 26 = .ok (.aload_n 0, 1) := by decide +kernel
theorem dX11_init_27 : decode cX11_init 27 = .ok (.new 23, 3) := by decide +kernel
theorem dX11_init_30 : decode cX11_init 30 = .ok (.dup, 1) := by decide +kernel
theorem dX11_init_31 : decode cX11_init 31 = .ok (.invokespecial 25, 3) := by decide +kernel
theorem dX11_init_34 : decode cX11_init 34 = .ok (.putfield 26, 3) := by decide +kernel
theorem dX11_init_37 : decode cX11_init 37 = .ok (.aload_n 0, 1) := by decide +kernel
theorem dX11_init_38 : decode cX11_init 38 = .ok (.new 30, 3) := by decide +kernel
theorem dX11_init_41 : decode cX11_init 41 = .ok (.dup, 1) := by decide +kernel
theorem dX11_init_42 : decode cX11_init 42 = .ok (.invokespecial 32, 3) := by decide +kernel
theorem dX11_init_45 : decode cX11_init 45 = .ok (.putfield 33, 3) := by decide +kernel
theorem dX11_init_48 : decode cX11_init 48 = .ok (.aload_n 0, 1) := by decide +kernel
theorem dX11_init_49 : decode cX11_init 49 = .ok (.new 37, 3) := by decide +kernel
theorem dX11_init_52 : decode cX11_init 52 = .ok (.dup, 1) := by decide +kernel
theorem dX11_init_53 : decode cX11_init 53 = .ok (.invokespecial 39, 3) := by decide +kernel
theorem dX11_init_56 : decode cX11_init 56 = .ok (.putfield 40, 3) := by decide +kernel
theorem dX11_init_59 : decode cX11_init 59 = .ok (.aload_n 0, 1) := by decide +kernel
theorem dX11_init_60 : decode cX11_init 60 = .ok (.new 37, 3) := by decide +kernel
theorem dX11_init_63 : decode cX11_init 63 = .ok (.dup, 1) := by decide +kernel
theorem dX11_init_64 : decode cX11_init 64 = .ok (.invokespecial 39, 3) := by decide +kernel
theorem dX11_init_67 : decode cX11_init 67 = .ok (.putfield 44, 3) := by decide +kernel
theorem dX11_init_70 : decode cX11_init 70 = .ok (.aload_n 0, 1) := by decide +kernel
theorem dX11_init_71 : decode cX11_init 71 = .ok (.new 37, 3) := by decide +kernel
theorem dX11_init_74 : decode cX11_init 74 = .ok (.dup, 1) := by decide +kernel
theorem dX11_init_75 : decode cX11_init 75 = .ok (.invokespecial 39, 3) := by decide +kernel
theorem dX11_init_78 : decode cX11_init 78 = .ok (.putfield 47, 3) := by decide +kernel
theorem dX11_init_81 : decode cX11_init 81 = .ok (.aload_n 0, 1) := by decide +kernel
theorem dX11_init_82 : decode cX11_init 82 = .ok (.new 37, 3) := by decide +kernel
theorem dX11_init_85 : decode cX11_init 85 = .ok (.dup, 1) := by decide +kernel
theorem dX11_init_86 : decode cX11_init 86 = .ok (.invokespecial 39, 3) := by decide +kernel
theorem dX11_init_89 : decode cX11_init 89 = .ok (.putfield 50, 3) := by decide +kernel
theorem dX11_init_92 : decode cX11_init 92 = .ok (.return_, 1) := by decide +kernel
theorem dX11_row_0 : decode cX11_row 0 = .ok (.iload_n 1, 1) := by decide +kernel
theorem dX11_row_1 : decode cX11_row 1 = .ok (.invokestatic 53, 3) := by decide +kernel
theorem dX11_row_4 : decode cX11_row 4 = .ok (.ifCond .eq 18, 3) := by decide +kernel
theorem dX11_row_7 : decode cX11_row 7 = .ok (.iload_n 2, 1) := by decide +kernel
theorem dX11_row_8 : decode cX11_row 8 = .ok (.iconst 0, 1) := by decide +kernel
theorem dX11_row_9 : decode cX11_row 9 = .ok (.iconst 2, 1) := by decide +kernel
theorem dX11_row_10 : decode cX11_row 10 = .ok (.invokestatic 57, 3) := by decide +kernel
theorem dX11_row_13 : decode cX11_row 13 = .ok (.ifCond .eq 9, 3) := by decide +kernel
theorem dX11_row_16 : decode cX11_row 16 = .ok (.iload_n 3, 1) := by decide +kernel
theorem dX11_row_17 : decode cX11_row 17 = .ok (.bipush 40, 2) := by decide +kernel
theorem dX11_row_19 : decode cX11_row 19 = .ok (.if_icmp .le 6, 3) := by decide +kernel
theorem dX11_row_22 : decode cX11_row 22 = .ok (.ldc 61, 2) := by decide +kernel
theorem dX11_row_24 : decode cX11_row 24 = .ok (.ireturn, 1) := by decide +kernel
theorem dX11_row_25 : decode cX11_row 25 = .ok (.iload_n 3, 1) := by decide +kernel
theorem dX11_row_26 : decode cX11_row 26 = .ok (.ifCond .ge 9, 3) := by decide +kernel
theorem dX11_row_29 : decode cX11_row 29 = .ok (.aload_n 0, 1) := by decide +kernel
theorem dX11_row_30 : decode cX11_row 30 = .ok (.iconst 4, 1) := by decide +kernel
theorem dX11_row_31 : decode cX11_row 31 = .ok (.invokevirtual 62, 3) := by decide +kernel
theorem dX11_row_34 : decode cX11_row 34 = .ok (.ireturn, 1) := by decide +kernel
theorem dX11_row_35 : decode cX11_row 35 = .ok (.aload_n 0, 1) := by decide +kernel
theorem dX11_row_36 : decode cX11_row 36 = .ok (.getfield 10, 3) := by decide +kernel
theorem dX11_row_39 : decode cX11_row 39 = .ok (.iload_n 1, 1) := by decide +kernel
theorem dX11_row_40 : decode cX11_row 40 = .ok (.iload_n 2, 1) := by decide +kernel
theorem dX11_row_41 : decode cX11_row 41 = .ok (.iload_n 3, 1) := by decide +kernel
theorem dX11_row_42 : decode cX11_row 42 = .ok (.invokevirtual 66, 3) := by decide +kernel
theorem dX11_row_45 : decode cX11_row 45 = .ok (.aload_n 0, 1) := by decide +kernel
theorem dX11_row_46 : decode cX11_row 46 = .ok (.iload_n 3, 1) := by decide +kernel
theorem dX11_row_47 : decode cX11_row 47 = .ok (.invokevirtual 70, 3) := by decide +kernel
theorem dX11_row_50 : decode cX11_row 50 = .ok (.ireturn, 1) := by decide +kernel
theorem dX11_set_0 : decode cX11_set 0 = .ok (.iload_n 1, 1) := by decide +kernel
theorem dX11_set_1 : decode cX11_set 1 = .ok (.invokestatic 53, 3) := by decide +kernel
theorem dX11_set_4 : decode cX11_set 4 = .ok (.ifCond .ne 6, 3) := by decide +kernel
theorem dX11_set_7 : decode cX11_set 7 = .ok (.ldc 61, 2) := by decide +kernel
theorem dX11_set_9 : decode cX11_set 9 = .ok (.ireturn, 1) := by decide +kernel
theorem dX11_set_10 : decode cX11_set 10 = .ok (.aload_n 0, 1) := by decide +kernel
theorem dX11_set_11 : decode cX11_set 11 = .ok (.getfield 10, 3) := by decide +kernel
theorem dX11_set_14 : decode cX11_set 14 = .ok (.iload_n 1, 1) := by decide +kernel
theorem dX11_set_15 : decode cX11_set 15 = .ok (.invokevirtual 73, 3) := by decide +kernel
theorem dX11_set_18 : decode cX11_set 18 = .ok (.ifCond .eq 9, 3) := by decide +kernel
theorem dX11_set_21 : decode cX11_set 21 = .ok (.aload_n 0, 1) := by decide +kernel
theorem dX11_set_22 : decode cX11_set 22 = .ok (.iconst 1, 1) := by decide +kernel
theorem dX11_set_23 : decode cX11_set 23 = .ok (.invokevirtual 62, 3) := by decide +kernel
theorem dX11_set_26 : decode cX11_set 26 = .ok (.ireturn, 1) := by decide +kernel
theorem dX11_set_27 : decode cX11_set 27 = .ok (.aload_n 0, 1) := by decide +kernel
theorem dX11_set_28 : decode cX11_set 28 = .ok (.getfield 10, 3) := by decide +kernel
theorem dX11_set_31 : decode cX11_set 31 = .ok (.iload_n 1, 1) := by decide +kernel
theorem dX11_set_32 : decode cX11_set 32 = .ok (.iload_n 2, 1) := by decide +kernel
theorem dX11_set_33 : decode cX11_set 33 = .ok (.invokevirtual 76, 3) := by decide +kernel
theorem dX11_set_36 : decode cX11_set 36 = .ok (.ifCond .ne 9, 3) := by decide +kernel
theorem dX11_set_39 : decode cX11_set 39 = .ok (.aload_n 0, 1) := by decide +kernel
theorem dX11_set_40 : decode cX11_set 40 = .ok (.iconst 2, 1) := by decide +kernel
theorem dX11_set_41 : decode cX11_set 41 = .ok (.invokevirtual 62, 3) := by decide +kernel
theorem dX11_set_44 : decode cX11_set 44 = .ok (.ireturn, 1) := by decide +kernel
theorem dX11_set_45 : decode cX11_set 45 = .ok (.aload_n 0, 1) := by decide +kernel
theorem dX11_set_46 : decode cX11_set 46 = .ok (.aload_n 0, 1) := by decide +kernel
theorem dX11_set_47 : decode cX11_set 47 = .ok (.getfield 10, 3) := by decide +kernel
theorem dX11_set_50 : decode cX11_set 50 = .ok (.iload_n 1, 1) := by decide +kernel
theorem dX11_set_51 : decode cX11_set 51 = .ok (.iload_n 2, 1) := by decide +kernel
theorem dX11_set_52 : decode cX11_set 52 = .ok (.iload_n 3, 1) := by decide +kernel
theorem dX11_set_53 : decode cX11_set 53 = .ok (.invokevirtual 80, 3) := by decide +kernel
theorem dX11_set_56 : decode cX11_set 56 = .ok (.invokevirtual 70, 3) := by decide +kernel
theorem dX11_set_59 : decode cX11_set 59 = .ok (.ireturn, 1) := by decide +kernel
theorem dX11_copy_0 : decode cX11_copy 0 = .ok (.iload_n 1, 1) := by decide +kernel
theorem dX11_copy_1 : decode cX11_copy 1 = .ok (.invokestatic 53, 3) := by decide +kernel
theorem dX11_copy_4 : decode cX11_copy 4 = .ok (.ifCond .eq 10, 3) := by decide +kernel
theorem dX11_copy_7 : decode cX11_copy 7 = .ok (.iload_n 3, 1) := by decide +kernel
theorem dX11_copy_8 : decode cX11_copy 8 = .ok (.invokestatic 53, 3) := by decide +kernel
theorem dX11_copy_11 : decode cX11_copy 11 = .ok (.ifCond .ne 6, 3) := by decide +kernel
theorem dX11_copy_14 : decode cX11_copy 14 = .ok (.ldc 61, 2) := by decide +kernel
theorem dX11_copy_16 : decode cX11_copy 16 = .ok (.ireturn, 1) := by decide +kernel
theorem dX11_copy_17 : decode cX11_copy 17 = .ok (.aload_n 0, 1) := by decide +kernel
theorem dX11_copy_18 : decode cX11_copy 18 = .ok (.getfield 10, 3) := by decide +kernel
theorem dX11_copy_21 : decode cX11_copy 21 = .ok (.iload_n 1, 1) := by decide +kernel
theorem dX11_copy_22 : decode cX11_copy 22 = .ok (.invokevirtual 73, 3) := by decide +kernel
theorem dX11_copy_25 : decode cX11_copy 25 = .ok (.ifCond .ne 14, 3) := by decide +kernel
theorem dX11_copy_28 : decode cX11_copy 28 = .ok (.aload_n 0, 1) := by decide +kernel
theorem dX11_copy_29 : decode cX11_copy 29 = .ok (.getfield 10, 3) := by decide +kernel
theorem dX11_copy_32 : decode cX11_copy 32 = .ok (.iload_n 3, 1) := by decide +kernel
theorem dX11_copy_33 : decode cX11_copy 33 = .ok (.invokevirtual 73, 3) := by decide +kernel
theorem dX11_copy_36 : decode cX11_copy 36 = .ok (.ifCond .eq 9, 3) := by decide +kernel
theorem dX11_copy_39 : decode cX11_copy 39 = .ok (.aload_n 0, 1) := by decide +kernel
theorem dX11_copy_40 : decode cX11_copy 40 = .ok (.iconst 1, 1) := by decide +kernel
theorem dX11_copy_41 : decode cX11_copy 41 = .ok (.invokevirtual 62, 3) := by decide +kernel
theorem dX11_copy_44 : decode cX11_copy 44 = .ok (.ireturn, 1) := by decide +kernel
theorem dX11_copy_45 : decode cX11_copy 45 = .ok (.aload_n 0, 1) := by decide +kernel
theorem dX11_copy_46 : decode cX11_copy 46 = .ok (.getfield 10, 3) := by decide +kernel
theorem dX11_copy_49 : decode cX11_copy 49 = .ok (.iload_n 1, 1) := by decide +kernel
theorem dX11_copy_50 : decode cX11_copy 50 = .ok (.iload_n 3, 1) := by decide +kernel
theorem dX11_copy_51 : decode cX11_copy 51 = .ok (.invokevirtual 84, 3) := by decide +kernel
theorem dX11_copy_54 : decode cX11_copy 54 = .ok (.ifCond .ne 9, 3) := by decide +kernel
theorem dX11_copy_57 : decode cX11_copy 57 = .ok (.aload_n 0, 1) := by decide +kernel
theorem dX11_copy_58 : decode cX11_copy 58 = .ok (.iconst 5, 1) := by decide +kernel
theorem dX11_copy_59 : decode cX11_copy 59 = .ok (.invokevirtual 62, 3) := by decide +kernel
theorem dX11_copy_62 : decode cX11_copy 62 = .ok (.ireturn, 1) := by decide +kernel
theorem dX11_copy_63 : decode cX11_copy 63 = .ok (.aload_n 0, 1) := by decide +kernel
theorem dX11_copy_64 : decode cX11_copy 64 = .ok (.getfield 10, 3) := by decide +kernel
theorem dX11_copy_67 : decode cX11_copy 67 = .ok (.iload_n 1, 1) := by decide +kernel
theorem dX11_copy_68 : decode cX11_copy 68 = .ok (.iload_n 2, 1) := by decide +kernel
theorem dX11_copy_69 : decode cX11_copy 69 = .ok (.iload 5, 2) := by decide +kernel
theorem dX11_copy_71 : decode cX11_copy 71 = .ok (.invokevirtual 87, 3) := by decide +kernel
theorem dX11_copy_74 : decode cX11_copy 74 = .ok (.ifCond .eq 18, 3) := by decide +kernel
theorem dX11_copy_77 : decode cX11_copy 77 = .ok (.aload_n 0, 1) := by decide +kernel
theorem dX11_copy_78 : decode cX11_copy 78 = .ok (.getfield 10, 3) := by decide +kernel
theorem dX11_copy_81 : decode cX11_copy 81 = .ok (.iload_n 3, 1) := by decide +kernel
theorem dX11_copy_82 : decode cX11_copy 82 = .ok (.iload 4, 2) := by decide +kernel
theorem dX11_copy_84 : decode cX11_copy 84 = .ok (.iload 5, 2) := by decide +kernel
theorem dX11_copy_86 : decode cX11_copy 86 = .ok (.invokevirtual 87, 3) := by decide +kernel
theorem dX11_copy_89 : decode cX11_copy 89 = .ok (.ifCond .ne 9, 3) := by decide +kernel
theorem dX11_copy_92 : decode cX11_copy 92 = .ok (.aload_n 0, 1) := by decide +kernel
theorem dX11_copy_93 : decode cX11_copy 93 = .ok (.iconst 2, 1) := by decide +kernel
theorem dX11_copy_94 : decode cX11_copy 94 = .ok (.invokevirtual 62, 3) := by decide +kernel
theorem dX11_copy_97 : decode cX11_copy 97 = .ok (.ireturn, 1) := by decide +kernel
theorem dX11_copy_98 : decode cX11_copy 98 = .ok (.aload_n 0, 1) := by decide +kernel
theorem dX11_copy_99 : decode cX11_copy 99 = .ok (.getfield 10, 3) := by decide +kernel
theorem dX11_copy_102 : decode cX11_copy 102 = .ok (.iload_n 1, 1) := by decide +kernel
theorem dX11_copy_103 : decode cX11_copy 103 = .ok (.iload_n 2, 1) := by decide +kernel
theorem dX11_copy_104 : decode cX11_copy 104 = .ok (.iload_n 3, 1) := by decide +kernel
theorem dX11_copy_105 : decode cX11_copy 105 = .ok (.iload 4, 2) := by decide +kernel
theorem dX11_copy_107 : decode cX11_copy 107 = .ok (.iload 5, 2) := by decide +kernel
theorem dX11_copy_109 : decode cX11_copy 109 = .ok (.invokevirtual 90, 3) := by decide +kernel
theorem dX11_copy_112 : decode cX11_copy 112 = .ok (.aload_n 0, 1) := by decide +kernel
theorem dX11_copy_113 : decode cX11_copy 113 = .ok (.iload 5, 2) := by decide +kernel
theorem dX11_copy_115 : decode cX11_copy 115 = .ok (.invokevirtual 70, 3) := by decide +kernel
theorem dX11_copy_118 : decode cX11_copy 118 = .ok (.ireturn, 1) := by decide +kernel
theorem dX11_drop_0 : decode cX11_drop 0 = .ok (.iload_n 1, 1) := by decide +kernel
theorem dX11_drop_1 : decode cX11_drop 1 = .ok (.invokestatic 53, 3) := by decide +kernel
theorem dX11_drop_4 : decode cX11_drop 4 = .ok (.ifCond .ne 6, 3) := by decide +kernel
theorem dX11_drop_7 : decode cX11_drop 7 = .ok (.ldc 61, 2) := by decide +kernel
theorem dX11_drop_9 : decode cX11_drop 9 = .ok (.ireturn, 1) := by decide +kernel
theorem dX11_drop_10 : decode cX11_drop 10 = .ok (.aload_n 0, 1) := by decide +kernel
theorem dX11_drop_11 : decode cX11_drop 11 = .ok (.getfield 10, 3) := by decide +kernel
theorem dX11_drop_14 : decode cX11_drop 14 = .ok (.iload_n 1, 1) := by decide +kernel
theorem dX11_drop_15 : decode cX11_drop 15 = .ok (.invokevirtual 73, 3) := by decide +kernel
theorem dX11_drop_18 : decode cX11_drop 18 = .ok (.ifCond .eq 9, 3) := by decide +kernel
theorem dX11_drop_21 : decode cX11_drop 21 = .ok (.aload_n 0, 1) := by decide +kernel
theorem dX11_drop_22 : decode cX11_drop 22 = .ok (.iconst 1, 1) := by decide +kernel
theorem dX11_drop_23 : decode cX11_drop 23 = .ok (.invokevirtual 62, 3) := by decide +kernel
theorem dX11_drop_26 : decode cX11_drop 26 = .ok (.ireturn, 1) := by decide +kernel
theorem dX11_drop_27 : decode cX11_drop 27 = .ok (.aload_n 0, 1) := by decide +kernel
theorem dX11_drop_28 : decode cX11_drop 28 = .ok (.aload_n 0, 1) := by decide +kernel
theorem dX11_drop_29 : decode cX11_drop 29 = .ok (.getfield 10, 3) := by decide +kernel
theorem dX11_drop_32 : decode cX11_drop 32 = .ok (.iload_n 1, 1) := by decide +kernel
theorem dX11_drop_33 : decode cX11_drop 33 = .ok (.invokevirtual 94, 3) := by decide +kernel
theorem dX11_drop_36 : decode cX11_drop 36 = .ok (.invokevirtual 70, 3) := by decide +kernel
theorem dX11_drop_39 : decode cX11_drop 39 = .ok (.ireturn, 1) := by decide +kernel
theorem dX11_feed_0 : decode cX11_feed 0 = .ok (.iload_n 3, 1) := by decide +kernel
theorem dX11_feed_1 : decode cX11_feed 1 = .ok (.iconst 1, 1) := by decide +kernel
theorem dX11_feed_2 : decode cX11_feed 2 = .ok (.bipush 8, 2) := by decide +kernel
theorem dX11_feed_4 : decode cX11_feed 4 = .ok (.invokestatic 57, 3) := by decide +kernel
theorem dX11_feed_7 : decode cX11_feed 7 = .ok (.ifCond .ne 6, 3) := by decide +kernel
theorem dX11_feed_10 : decode cX11_feed 10 = .ok (.ldc 61, 2) := by decide +kernel
theorem dX11_feed_12 : decode cX11_feed 12 = .ok (.ireturn, 1) := by decide +kernel
theorem dX11_feed_13 : decode cX11_feed 13 = .ok (.aload_n 0, 1) := by decide +kernel
theorem dX11_feed_14 : decode cX11_feed 14 = .ok (.getfield 19, 3) := by decide +kernel
theorem dX11_feed_17 : decode cX11_feed 17 = .ok (.lload_n 1, 1) := by decide +kernel
theorem dX11_feed_18 : decode cX11_feed 18 = .ok (.iload_n 3, 1) := by decide +kernel
theorem dX11_feed_19 : decode cX11_feed 19 = .ok (.invokevirtual 97, 3) := by decide +kernel
theorem dX11_feed_22 : decode cX11_feed 22 = .ok (.ifCond .eq 13, 3) := by decide +kernel
theorem dX11_feed_25 : decode cX11_feed 25 = .ok (.aload_n 0, 1) := by decide +kernel
theorem dX11_feed_26 : decode cX11_feed 26 = .ok (.getfield 19, 3) := by decide +kernel
theorem dX11_feed_29 : decode cX11_feed 29 = .ok (.getfield 101, 3) := by decide +kernel
theorem dX11_feed_32 : decode cX11_feed 32 = .ok (.goto 5, 3) := by decide +kernel
theorem dX11_feed_35 : decode cX11_feed 35 = .ok (.ldc 105, 2) := by decide +kernel
theorem dX11_feed_37 : decode cX11_feed 37 = .ok (.ireturn, 1) := by decide +kernel
theorem dX11_land_0 : decode cX11_land 0 = .ok (.aload_n 0, 1) := by decide +kernel
theorem dX11_land_1 : decode cX11_land 1 = .ok (.getfield 19, 3) := by decide +kernel
theorem dX11_land_4 : decode cX11_land 4 = .ok (.aload_n 0, 1) := by decide +kernel
theorem dX11_land_5 : decode cX11_land 5 = .ok (.getfield 50, 3) := by decide +kernel
theorem dX11_land_8 : decode cX11_land 8 = .ok (.invokevirtual 106, 3) := by decide +kernel
theorem dX11_land_11 : decode cX11_land 11 = .ok (.istore_n 1, 1) := by decide +kernel
theorem dX11_land_12 : decode cX11_land 12 = .ok (.aload_n 0, 1) := by decide +kernel
theorem dX11_land_13 : decode cX11_land 13 = .ok (.getfield 19, 3) := by decide +kernel
theorem dX11_land_16 : decode cX11_land 16 = .ok (.invokevirtual 110, 3) := by decide +kernel
theorem dX11_land_19 : decode cX11_land 19 = .ok (.iload_n 1, 1) := by decide +kernel
theorem dX11_land_20 : decode cX11_land 20 = .ok (.ifCond .ne 14, 3) := by decide +kernel
theorem dX11_land_23 : decode cX11_land 23 = .ok (.ldc 113, 2) := by decide +kernel
theorem dX11_land_25 : decode cX11_land 25 = .ok (.aload_n 0, 1) := by decide +kernel
theorem dX11_land_26 : decode cX11_land 26 = .ok (.getfield 19, 3) := by decide +kernel
theorem dX11_land_29 : decode cX11_land 29 = .ok (.getfield 114, 3) := by decide +kernel
theorem dX11_land_32 : decode cX11_land 32 = .ok (.isub, 1) := by decide +kernel
theorem dX11_land_33 : decode cX11_land 33 = .ok (.ireturn, 1) := by decide +kernel
theorem dX11_land_34 : decode cX11_land 34 = .ok (.aload_n 0, 1) := by decide +kernel
theorem dX11_land_35 : decode cX11_land 35 = .ok (.getfield 50, 3) := by decide +kernel
theorem dX11_land_38 : decode cX11_land 38 = .ok (.astore_n 2, 1) := by decide +kernel
theorem dX11_land_39 : decode cX11_land 39 = .ok (.aload_n 0, 1) := by decide +kernel
theorem dX11_land_40 : decode cX11_land 40 = .ok (.aload_n 0, 1) := by decide +kernel
theorem dX11_land_41 : decode cX11_land 41 = .ok (.getfield 47, 3) := by decide +kernel
theorem dX11_land_44 : decode cX11_land 44 = .ok (.putfield 50, 3) := by decide +kernel
theorem dX11_land_47 : decode cX11_land 47 = .ok (.aload_n 0, 1) := by decide +kernel
theorem dX11_land_48 : decode cX11_land 48 = .ok (.aload_n 2, 1) := by decide +kernel
theorem dX11_land_49 : decode cX11_land 49 = .ok (.putfield 47, 3) := by decide +kernel
theorem dX11_land_52 : decode cX11_land 52 = .ok (.aload_n 0, 1) := by decide +kernel
theorem dX11_land_53 : decode cX11_land 53 = .ok (.getfield 47, 3) := by decide +kernel
theorem dX11_land_56 : decode cX11_land 56 = .ok (.getfield 117, 3) := by decide +kernel
theorem dX11_land_59 : decode cX11_land 59 = .ok (.ireturn, 1) := by decide +kernel
theorem dX11_fault_0 : decode cX11_fault 0 = .ok (.aload_n 0, 1) := by decide +kernel
theorem dX11_fault_1 : decode cX11_fault 1 = .ok (.getfield 19, 3) := by decide +kernel
theorem dX11_fault_4 : decode cX11_fault 4 = .ok (.getfield 120, 3) := by decide +kernel
theorem dX11_fault_7 : decode cX11_fault 7 = .ok (.ireturn, 1) := by decide +kernel
theorem dX11_value_0 : decode cX11_value 0 = .ok (.aload_n 0, 1) := by decide +kernel
theorem dX11_value_1 : decode cX11_value 1 = .ok (.getfield 47, 3) := by decide +kernel
theorem dX11_value_4 : decode cX11_value 4 = .ok (.invokevirtual 123, 3) := by decide +kernel
theorem dX11_value_7 : decode cX11_value 7 = .ok (.ifCond .ne 6, 3) := by decide +kernel
theorem dX11_value_10 : decode cX11_value 10 = .ok (.ldc 127, 2) := by decide +kernel
theorem dX11_value_12 : decode cX11_value 12 = .ok (.ireturn, 1) := by decide +kernel
theorem dX11_value_13 : decode cX11_value 13 = .ok (.iload_n 1, 1) := by decide +kernel
theorem dX11_value_14 : decode cX11_value 14 = .ok (.iconst 0, 1) := by decide +kernel
theorem dX11_value_15 : decode cX11_value 15 = .ok (.sipush 999, 3) := by decide +kernel
theorem dX11_value_18 : decode cX11_value 18 = .ok (.invokestatic 57, 3) := by decide +kernel
theorem dX11_value_21 : decode cX11_value 21 = .ok (.ifCond .eq 14, 3) := by decide +kernel
theorem dX11_value_24 : decode cX11_value 24 = .ok (.aload_n 0, 1) := by decide +kernel
theorem dX11_value_25 : decode cX11_value 25 = .ok (.getfield 47, 3) := by decide +kernel
theorem dX11_value_28 : decode cX11_value 28 = .ok (.iload_n 1, 1) := by decide +kernel
theorem dX11_value_29 : decode cX11_value 29 = .ok (.invokevirtual 128, 3) := by decide +kernel
theorem dX11_value_32 : decode cX11_value 32 = .ok (.goto 5, 3) := by decide +kernel
theorem dX11_value_35 : decode cX11_value 35 = .ok (.ldc 61, 2) := by decide +kernel
theorem dX11_value_37 : decode cX11_value 37 = .ok (.ireturn, 1) := by decide +kernel
theorem dX11_go_0 : decode cX11_go 0 = .ok (.aload_n 0, 1) := by decide +kernel
theorem dX11_go_1 : decode cX11_go 1 = .ok (.getfield 47, 3) := by decide +kernel
theorem dX11_go_4 : decode cX11_go 4 = .ok (.invokevirtual 123, 3) := by decide +kernel
theorem dX11_go_7 : decode cX11_go 7 = .ok (.ifCond .ne 6, 3) := by decide +kernel
theorem dX11_go_10 : decode cX11_go 10 = .ok (.ldc 127, 2) := by decide +kernel
theorem dX11_go_12 : decode cX11_go 12 = .ok (.ireturn, 1) := by decide +kernel
theorem dX11_go_13 : decode cX11_go 13 = .ok (.iload_n 1, 1) := by decide +kernel
theorem dX11_go_14 : decode cX11_go 14 = .ok (.iconst 1, 1) := by decide +kernel
theorem dX11_go_15 : decode cX11_go 15 = .ok (.bipush 60, 2) := by decide +kernel
theorem dX11_go_17 : decode cX11_go 17 = .ok (.invokestatic 57, 3) := by decide +kernel
theorem dX11_go_20 : decode cX11_go 20 = .ok (.ifCond .eq 13, 3) := by decide +kernel
theorem dX11_go_23 : decode cX11_go 23 = .ok (.iload_n 2, 1) := by decide +kernel
theorem dX11_go_24 : decode cX11_go 24 = .ok (.iconst 1, 1) := by decide +kernel
theorem dX11_go_25 : decode cX11_go 25 = .ok (.ldc 131, 2) := by decide +kernel
theorem dX11_go_27 : decode cX11_go 27 = .ok (.invokestatic 57, 3) := by decide +kernel
theorem dX11_go_30 : decode cX11_go 30 = .ok (.ifCond .ne 6, 3) := by decide +kernel
theorem dX11_go_33 : decode cX11_go 33 = .ok (.ldc 61, 2) := by decide +kernel
theorem dX11_go_35 : decode cX11_go 35 = .ok (.ireturn, 1) := by decide +kernel
theorem dX11_go_36 : decode cX11_go 36 = .ok (.aload_n 0, 1) := by decide +kernel
theorem dX11_go_37 : decode cX11_go 37 = .ok (.getfield 47, 3) := by decide +kernel
theorem dX11_go_40 : decode cX11_go 40 = .ok (.iload_n 1, 1) := by decide +kernel
theorem dX11_go_41 : decode cX11_go 41 = .ok (.iload_n 2, 1) := by decide +kernel
theorem dX11_go_42 : decode cX11_go 42 = .ok (.invokevirtual 132, 3) := by decide +kernel
theorem dX11_go_45 : decode cX11_go 45 = .ok (.aload_n 0, 1) := by decide +kernel
theorem dX11_go_46 : decode cX11_go 46 = .ok (.getfield 47, 3) := by decide +kernel
theorem dX11_go_49 : decode cX11_go 49 = .ok (.getfield 136, 3) := by decide +kernel
theorem dX11_go_52 : decode cX11_go 52 = .ok (.ireturn, 1) := by decide +kernel
theorem dX11_tell_0 : decode cX11_tell 0 = .ok (.aload_n 0, 1) := by decide +kernel
theorem dX11_tell_1 : decode cX11_tell 1 = .ok (.getfield 47, 3) := by decide +kernel
theorem dX11_tell_4 : decode cX11_tell 4 = .ok (.iload_n 1, 1) := by decide +kernel
theorem dX11_tell_5 : decode cX11_tell 5 = .ok (.invokevirtual 139, 3) := by decide +kernel
theorem dX11_tell_8 : decode cX11_tell 8 = .ok (.ifCond .eq 30, 3) := by decide +kernel
theorem dX11_tell_11 : decode cX11_tell 11 = .ok (.aload_n 0, 1) := by decide +kernel
theorem dX11_tell_12 : decode cX11_tell 12 = .ok (.getfield 47, 3) := by decide +kernel
theorem dX11_tell_15 : decode cX11_tell 15 = .ok (.iload_n 2, 1) := by decide +kernel
theorem dX11_tell_16 : decode cX11_tell 16 = .ok (.invokevirtual 142, 3) := by decide +kernel
theorem dX11_tell_19 : decode cX11_tell 19 = .ok (.ifCond .eq 19, 3) := by decide +kernel
theorem dX11_tell_22 : decode cX11_tell 22 = .ok (.aload_n 0, 1) := by decide +kernel
theorem dX11_tell_23 : decode cX11_tell 23 = .ok (.getfield 47, 3) := by decide +kernel
theorem dX11_tell_26 : decode cX11_tell 26 = .ok (.iload_n 3, 1) := by decide +kernel
theorem dX11_tell_27 : decode cX11_tell 27 = .ok (.invokevirtual 139, 3) := by decide +kernel
theorem dX11_tell_30 : decode cX11_tell 30 = .ok (.ifCond .eq 8, 3) := by decide +kernel
theorem dX11_tell_33 : decode cX11_tell 33 = .ok (.iload_n 1, 1) := by decide +kernel
theorem dX11_tell_34 : decode cX11_tell 34 = .ok (.iload_n 3, 1) := by decide +kernel
theorem dX11_tell_35 : decode cX11_tell 35 = .ok (.if_icmp .ne 6, 3) := by decide +kernel
theorem dX11_tell_38 : decode cX11_tell 38 = .ok (.ldc 61, 2) := by decide +kernel
theorem dX11_tell_40 : decode cX11_tell 40 = .ok (.ireturn, 1) := by decide +kernel
theorem dX11_tell_41 : decode cX11_tell 41 = .ok (.aload_n 0, 1) := by decide +kernel
theorem dX11_tell_42 : decode cX11_tell 42 = .ok (.getfield 47, 3) := by decide +kernel
theorem dX11_tell_45 : decode cX11_tell 45 = .ok (.iload_n 1, 1) := by decide +kernel
theorem dX11_tell_46 : decode cX11_tell 46 = .ok (.iload_n 2, 1) := by decide +kernel
theorem dX11_tell_47 : decode cX11_tell 47 = .ok (.invokevirtual 145, 3) := by decide +kernel
theorem dX11_tell_50 : decode cX11_tell 50 = .ok (.iconst 1, 1) := by decide +kernel
theorem dX11_tell_51 : decode cX11_tell 51 = .ok (.if_icmp .ge 6, 3) := by decide +kernel
theorem dX11_tell_54 : decode cX11_tell 54 = .ok (.ldc 127, 2) := by decide +kernel
theorem dX11_tell_56 : decode cX11_tell 56 = .ok (.ireturn, 1) := by decide +kernel
theorem dX11_tell_57 : decode cX11_tell 57 = .ok (.aload_n 0, 1) := by decide +kernel
theorem dX11_tell_58 : decode cX11_tell 58 = .ok (.getfield 47, 3) := by decide +kernel
theorem dX11_tell_61 : decode cX11_tell 61 = .ok (.iload_n 3, 1) := by decide +kernel
theorem dX11_tell_62 : decode cX11_tell 62 = .ok (.iload_n 2, 1) := by decide +kernel
theorem dX11_tell_63 : decode cX11_tell 63 = .ok (.invokevirtual 145, 3) := by decide +kernel
theorem dX11_tell_66 : decode cX11_tell 66 = .ok (.bipush 9, 2) := by decide +kernel
theorem dX11_tell_68 : decode cX11_tell 68 = .ok (.if_icmp .lt 6, 3) := by decide +kernel
theorem dX11_tell_71 : decode cX11_tell 71 = .ok (.ldc 105, 2) := by decide +kernel
theorem dX11_tell_73 : decode cX11_tell 73 = .ok (.ireturn, 1) := by decide +kernel
theorem dX11_tell_74 : decode cX11_tell 74 = .ok (.aload_n 0, 1) := by decide +kernel
theorem dX11_tell_75 : decode cX11_tell 75 = .ok (.getfield 47, 3) := by decide +kernel
theorem dX11_tell_78 : decode cX11_tell 78 = .ok (.iload_n 3, 1) := by decide +kernel
theorem dX11_tell_79 : decode cX11_tell 79 = .ok (.iload_n 2, 1) := by decide +kernel
theorem dX11_tell_80 : decode cX11_tell 80 = .ok (.invokevirtual 149, 3) := by decide +kernel
theorem dX11_tell_83 : decode cX11_tell 83 = .ok (.ireturn, 1) := by decide +kernel
theorem dX11_keeper_0 : decode cX11_keeper 0 = .ok (.aload_n 0, 1) := by decide +kernel
theorem dX11_keeper_1 : decode cX11_keeper 1 = .ok (.getfield 47, 3) := by decide +kernel
theorem dX11_keeper_4 : decode cX11_keeper 4 = .ok (.iload_n 1, 1) := by decide +kernel
theorem dX11_keeper_5 : decode cX11_keeper 5 = .ok (.invokevirtual 139, 3) := by decide +kernel
theorem dX11_keeper_8 : decode cX11_keeper 8 = .ok (.ifCond .ne 6, 3) := by decide +kernel
theorem dX11_keeper_11 : decode cX11_keeper 11 = .ok (.ldc 61, 2) := by decide +kernel
theorem dX11_keeper_13 : decode cX11_keeper 13 = .ok (.ireturn, 1) := by decide +kernel
theorem dX11_keeper_14 : decode cX11_keeper 14 = .ok (.iload_n 2, 1) := by decide +kernel
theorem dX11_keeper_15 : decode cX11_keeper 15 = .ok (.tableswitch 52 0 2 #[25, 34, 43], 25) := by decide +kernel
theorem dX11_keeper_40 : decode cX11_keeper 40 = .ok (.aload_n 0, 1) := by decide +kernel
theorem dX11_keeper_41 : decode cX11_keeper 41 = .ok (.getfield 47, 3) := by decide +kernel
theorem dX11_keeper_44 : decode cX11_keeper 44 = .ok (.iload_n 1, 1) := by decide +kernel
theorem dX11_keeper_45 : decode cX11_keeper 45 = .ok (.invokevirtual 152, 3) := by decide +kernel
theorem dX11_keeper_48 : decode cX11_keeper 48 = .ok (.ireturn, 1) := by decide +kernel
theorem dX11_keeper_49 : decode cX11_keeper 49 = .ok (.aload_n 0, 1) := by decide +kernel
theorem dX11_keeper_50 : decode cX11_keeper 50 = .ok (.getfield 47, 3) := by decide +kernel
theorem dX11_keeper_53 : decode cX11_keeper 53 = .ok (.iload_n 1, 1) := by decide +kernel
theorem dX11_keeper_54 : decode cX11_keeper 54 = .ok (.invokevirtual 155, 3) := by decide +kernel
theorem dX11_keeper_57 : decode cX11_keeper 57 = .ok (.ireturn, 1) := by decide +kernel
theorem dX11_keeper_58 : decode cX11_keeper 58 = .ok (.aload_n 0, 1) := by decide +kernel
theorem dX11_keeper_59 : decode cX11_keeper 59 = .ok (.getfield 47, 3) := by decide +kernel
theorem dX11_keeper_62 : decode cX11_keeper 62 = .ok (.iload_n 1, 1) := by decide +kernel
theorem dX11_keeper_63 : decode cX11_keeper 63 = .ok (.invokevirtual 158, 3) := by decide +kernel
theorem dX11_keeper_66 : decode cX11_keeper 66 = .ok (.ireturn, 1) := by decide +kernel
theorem dX11_keeper_67 : decode cX11_keeper 67 = .ok (.iload_n 2, 1) := by decide +kernel
theorem dX11_keeper_68 : decode cX11_keeper 68 = .ok (.bipush 10, 2) := by decide +kernel
theorem dX11_keeper_70 : decode cX11_keeper 70 = .ok (.if_icmp .lt 32, 3) := by decide +kernel
theorem dX11_keeper_73 : decode cX11_keeper 73 = .ok (.aload_n 0, 1) := by decide +kernel
theorem dX11_keeper_74 : decode cX11_keeper 74 = .ok (.getfield 47, 3) := by decide +kernel
theorem dX11_keeper_77 : decode cX11_keeper 77 = .ok (.iload_n 2, 1) := by decide +kernel
theorem dX11_keeper_78 : decode cX11_keeper 78 = .ok (.bipush 10, 2) := by decide +kernel
theorem dX11_keeper_80 : decode cX11_keeper 80 = .ok (.isub, 1) := by decide +kernel
theorem dX11_keeper_81 : decode cX11_keeper 81 = .ok (.invokevirtual 142, 3) := by decide +kernel
theorem dX11_keeper_84 : decode cX11_keeper 84 = .ok (.ifCond .eq 18, 3) := by decide +kernel
theorem dX11_keeper_87 : decode cX11_keeper 87 = .ok (.aload_n 0, 1) := by decide +kernel
theorem dX11_keeper_88 : decode cX11_keeper 88 = .ok (.getfield 47, 3) := by decide +kernel
theorem dX11_keeper_91 : decode cX11_keeper 91 = .ok (.iload_n 1, 1) := by decide +kernel
theorem dX11_keeper_92 : decode cX11_keeper 92 = .ok (.iload_n 2, 1) := by decide +kernel
theorem dX11_keeper_93 : decode cX11_keeper 93 = .ok (.bipush 10, 2) := by decide +kernel
theorem dX11_keeper_95 : decode cX11_keeper 95 = .ok (.isub, 1) := by decide +kernel
theorem dX11_keeper_96 : decode cX11_keeper 96 = .ok (.invokevirtual 145, 3) := by decide +kernel
theorem dX11_keeper_99 : decode cX11_keeper 99 = .ok (.goto 5, 3) := by decide +kernel
theorem dX11_keeper_102 : decode cX11_keeper 102 = .ok (.ldc 61, 2) := by decide +kernel
theorem dX11_keeper_104 : decode cX11_keeper 104 = .ok (.ireturn, 1) := by decide +kernel
theorem dX11_piece_0 : decode cX11_piece 0 = .ok (.aload_n 0, 1) := by decide +kernel
theorem dX11_piece_1 : decode cX11_piece 1 = .ok (.getfield 47, 3) := by decide +kernel
theorem dX11_piece_4 : decode cX11_piece 4 = .ok (.iload_n 1, 1) := by decide +kernel
theorem dX11_piece_5 : decode cX11_piece 5 = .ok (.invokevirtual 142, 3) := by decide +kernel
theorem dX11_piece_8 : decode cX11_piece 8 = .ok (.ifCond .ne 6, 3) := by decide +kernel
theorem dX11_piece_11 : decode cX11_piece 11 = .ok (.ldc 61, 2) := by decide +kernel
theorem dX11_piece_13 : decode cX11_piece 13 = .ok (.ireturn, 1) := by decide +kernel
theorem dX11_piece_14 : decode cX11_piece 14 = .ok (.iload_n 2, 1) := by decide +kernel
theorem dX11_piece_15 : decode cX11_piece 15 = .ok (.tableswitch 92 0 4 #[33, 42, 51, 60, 69], 33) := by decide +kernel
theorem dX11_piece_48 : decode cX11_piece 48 = .ok (.aload_n 0, 1) := by decide +kernel
theorem dX11_piece_49 : decode cX11_piece 49 = .ok (.getfield 47, 3) := by decide +kernel
theorem dX11_piece_52 : decode cX11_piece 52 = .ok (.iload_n 1, 1) := by decide +kernel
theorem dX11_piece_53 : decode cX11_piece 53 = .ok (.invokevirtual 161, 3) := by decide +kernel
theorem dX11_piece_56 : decode cX11_piece 56 = .ok (.ireturn, 1) := by decide +kernel
theorem dX11_piece_57 : decode cX11_piece 57 = .ok (.aload_n 0, 1) := by decide +kernel
theorem dX11_piece_58 : decode cX11_piece 58 = .ok (.getfield 47, 3) := by decide +kernel
theorem dX11_piece_61 : decode cX11_piece 61 = .ok (.iload_n 1, 1) := by decide +kernel
theorem dX11_piece_62 : decode cX11_piece 62 = .ok (.invokevirtual 164, 3) := by decide +kernel
theorem dX11_piece_65 : decode cX11_piece 65 = .ok (.ireturn, 1) := by decide +kernel
theorem dX11_piece_66 : decode cX11_piece 66 = .ok (.aload_n 0, 1) := by decide +kernel
theorem dX11_piece_67 : decode cX11_piece 67 = .ok (.getfield 47, 3) := by decide +kernel
theorem dX11_piece_70 : decode cX11_piece 70 = .ok (.iload_n 1, 1) := by decide +kernel
theorem dX11_piece_71 : decode cX11_piece 71 = .ok (.invokevirtual 167, 3) := by decide +kernel
theorem dX11_piece_74 : decode cX11_piece 74 = .ok (.ireturn, 1) := by decide +kernel
theorem dX11_piece_75 : decode cX11_piece 75 = .ok (.aload_n 0, 1) := by decide +kernel
theorem dX11_piece_76 : decode cX11_piece 76 = .ok (.getfield 47, 3) := by decide +kernel
theorem dX11_piece_79 : decode cX11_piece 79 = .ok (.iload_n 1, 1) := by decide +kernel
theorem dX11_piece_80 : decode cX11_piece 80 = .ok (.invokevirtual 170, 3) := by decide +kernel
theorem dX11_piece_83 : decode cX11_piece 83 = .ok (.ireturn, 1) := by decide +kernel
theorem dX11_piece_84 : decode cX11_piece 84 = .ok (.aload_n 0, 1) := by decide +kernel
theorem dX11_piece_85 : decode cX11_piece 85 = .ok (.getfield 47, 3) := by decide +kernel
theorem dX11_piece_88 : decode cX11_piece 88 = .ok (.aload_n 0, 1) := by decide +kernel
theorem dX11_piece_89 : decode cX11_piece 89 = .ok (.getfield 47, 3) := by decide +kernel
theorem dX11_piece_92 : decode cX11_piece 92 = .ok (.getfield 136, 3) := by decide +kernel
theorem dX11_piece_95 : decode cX11_piece 95 = .ok (.aload_n 0, 1) := by decide +kernel
theorem dX11_piece_96 : decode cX11_piece 96 = .ok (.getfield 47, 3) := by decide +kernel
theorem dX11_piece_99 : decode cX11_piece 99 = .ok (.iload_n 1, 1) := by decide +kernel
theorem dX11_piece_100 : decode cX11_piece 100 = .ok (.invokevirtual 173, 3) := by decide +kernel
theorem dX11_piece_103 : decode cX11_piece 103 = .ok (.invokevirtual 176, 3) := by decide +kernel
theorem dX11_piece_106 : decode cX11_piece 106 = .ok (.ireturn, 1) := by decide +kernel
theorem dX11_piece_107 : decode cX11_piece 107 = .ok (.ldc 61, 2) := by decide +kernel
theorem dX11_piece_109 : decode cX11_piece 109 = .ok (.ireturn, 1) := by decide +kernel
theorem dX11_alone_0 : decode cX11_alone 0 = .ok (.aload_n 0, 1) := by decide +kernel
theorem dX11_alone_1 : decode cX11_alone 1 = .ok (.getfield 47, 3) := by decide +kernel
theorem dX11_alone_4 : decode cX11_alone 4 = .ok (.invokevirtual 123, 3) := by decide +kernel
theorem dX11_alone_7 : decode cX11_alone 7 = .ok (.ifCond .ne 6, 3) := by decide +kernel
theorem dX11_alone_10 : decode cX11_alone 10 = .ok (.ldc 127, 2) := by decide +kernel
theorem dX11_alone_12 : decode cX11_alone 12 = .ok (.ireturn, 1) := by decide +kernel
theorem dX11_alone_13 : decode cX11_alone 13 = .ok (.iload_n 1, 1) := by decide +kernel
theorem dX11_alone_14 : decode cX11_alone 14 = .ok (.iconst 0, 1) := by decide +kernel
theorem dX11_alone_15 : decode cX11_alone 15 = .ok (.aload_n 0, 1) := by decide +kernel
theorem dX11_alone_16 : decode cX11_alone 16 = .ok (.getfield 47, 3) := by decide +kernel
theorem dX11_alone_19 : decode cX11_alone 19 = .ok (.getfield 179, 3) := by decide +kernel
theorem dX11_alone_22 : decode cX11_alone 22 = .ok (.invokestatic 57, 3) := by decide +kernel
theorem dX11_alone_25 : decode cX11_alone 25 = .ok (.ifCond .eq 22, 3) := by decide +kernel
theorem dX11_alone_28 : decode cX11_alone 28 = .ok (.iload_n 2, 1) := by decide +kernel
theorem dX11_alone_29 : decode cX11_alone 29 = .ok (.iconst 1, 1) := by decide +kernel
theorem dX11_alone_30 : decode cX11_alone 30 = .ok (.bipush 9, 2) := by decide +kernel
theorem dX11_alone_32 : decode cX11_alone 32 = .ok (.invokestatic 57, 3) := by decide +kernel
theorem dX11_alone_35 : decode cX11_alone 35 = .ok (.ifCond .eq 12, 3) := by decide +kernel
theorem dX11_alone_38 : decode cX11_alone 38 = .ok (.iload_n 3, 1) := by decide +kernel
theorem dX11_alone_39 : decode cX11_alone 39 = .ok (.iconst 0, 1) := by decide +kernel
theorem dX11_alone_40 : decode cX11_alone 40 = .ok (.iconst 1, 1) := by decide +kernel
theorem dX11_alone_41 : decode cX11_alone 41 = .ok (.invokestatic 57, 3) := by decide +kernel
theorem dX11_alone_44 : decode cX11_alone 44 = .ok (.ifCond .ne 6, 3) := by decide +kernel
theorem dX11_alone_47 : decode cX11_alone 47 = .ok (.ldc 61, 2) := by decide +kernel
theorem dX11_alone_49 : decode cX11_alone 49 = .ok (.ireturn, 1) := by decide +kernel
theorem dX11_alone_50 : decode cX11_alone 50 = .ok (.iload_n 3, 1) := by decide +kernel
theorem dX11_alone_51 : decode cX11_alone 51 = .ok (.ifCond .ne 15, 3) := by decide +kernel
theorem dX11_alone_54 : decode cX11_alone 54 = .ok (.aload_n 0, 1) := by decide +kernel
theorem dX11_alone_55 : decode cX11_alone 55 = .ok (.getfield 47, 3) := by decide +kernel
theorem dX11_alone_58 : decode cX11_alone 58 = .ok (.iload_n 1, 1) := by decide +kernel
theorem dX11_alone_59 : decode cX11_alone 59 = .ok (.iload_n 2, 1) := by decide +kernel
theorem dX11_alone_60 : decode cX11_alone 60 = .ok (.invokestatic 182, 3) := by decide +kernel
theorem dX11_alone_63 : decode cX11_alone 63 = .ok (.goto 12, 3) := by decide +kernel
theorem dX11_alone_66 : decode cX11_alone 66 = .ok (.aload_n 0, 1) := by decide +kernel
theorem dX11_alone_67 : decode cX11_alone 67 = .ok (.getfield 47, 3) := by decide +kernel
theorem dX11_alone_70 : decode cX11_alone 70 = .ok (.iload_n 1, 1) := by decide +kernel
theorem dX11_alone_71 : decode cX11_alone 71 = .ok (.iload_n 2, 1) := by decide +kernel
theorem dX11_alone_72 : decode cX11_alone 72 = .ok (.invokestatic 186, 3) := by decide +kernel
theorem dX11_alone_75 : decode cX11_alone 75 = .ok (.ireturn, 1) := by decide +kernel
theorem dX11_best_0 : decode cX11_best 0 = .ok (.aload_n 0, 1) := by decide +kernel
theorem dX11_best_1 : decode cX11_best 1 = .ok (.getfield 47, 3) := by decide +kernel
theorem dX11_best_4 : decode cX11_best 4 = .ok (.invokevirtual 123, 3) := by decide +kernel
theorem dX11_best_7 : decode cX11_best 7 = .ok (.ifCond .ne 6, 3) := by decide +kernel
theorem dX11_best_10 : decode cX11_best 10 = .ok (.ldc 127, 2) := by decide +kernel
theorem dX11_best_12 : decode cX11_best 12 = .ok (.ireturn, 1) := by decide +kernel
theorem dX11_best_13 : decode cX11_best 13 = .ok (.iload_n 1, 1) := by decide +kernel
theorem dX11_best_14 : decode cX11_best 14 = .ok (.iconst 0, 1) := by decide +kernel
theorem dX11_best_15 : decode cX11_best 15 = .ok (.aload_n 0, 1) := by decide +kernel
theorem dX11_best_16 : decode cX11_best 16 = .ok (.getfield 47, 3) := by decide +kernel
theorem dX11_best_19 : decode cX11_best 19 = .ok (.getfield 179, 3) := by decide +kernel
theorem dX11_best_22 : decode cX11_best 22 = .ok (.invokestatic 57, 3) := by decide +kernel
theorem dX11_best_25 : decode cX11_best 25 = .ok (.ifCond .eq 14, 3) := by decide +kernel
theorem dX11_best_28 : decode cX11_best 28 = .ok (.aload_n 0, 1) := by decide +kernel
theorem dX11_best_29 : decode cX11_best 29 = .ok (.getfield 47, 3) := by decide +kernel
theorem dX11_best_32 : decode cX11_best 32 = .ok (.iload_n 1, 1) := by decide +kernel
theorem dX11_best_33 : decode cX11_best 33 = .ok (.invokestatic 189, 3) := by decide +kernel
theorem dX11_best_36 : decode cX11_best 36 = .ok (.goto 5, 3) := by decide +kernel
theorem dX11_best_39 : decode cX11_best 39 = .ok (.ldc 61, 2) := by decide +kernel
theorem dX11_best_41 : decode cX11_best 41 = .ok (.ireturn, 1) := by decide +kernel
theorem dX11_two_0 : decode cX11_two 0 = .ok (.aload_n 0, 1) := by decide +kernel
theorem dX11_two_1 : decode cX11_two 1 = .ok (.getfield 47, 3) := by decide +kernel
theorem dX11_two_4 : decode cX11_two 4 = .ok (.invokevirtual 123, 3) := by decide +kernel
theorem dX11_two_7 : decode cX11_two 7 = .ok (.ifCond .ne 6, 3) := by decide +kernel
theorem dX11_two_10 : decode cX11_two 10 = .ok (.ldc 127, 2) := by decide +kernel
theorem dX11_two_12 : decode cX11_two 12 = .ok (.ireturn, 1) := by decide +kernel
theorem dX11_two_13 : decode cX11_two 13 = .ok (.iload_n 1, 1) := by decide +kernel
theorem dX11_two_14 : decode cX11_two 14 = .ok (.iconst 0, 1) := by decide +kernel
theorem dX11_two_15 : decode cX11_two 15 = .ok (.aload_n 0, 1) := by decide +kernel
theorem dX11_two_16 : decode cX11_two 16 = .ok (.getfield 47, 3) := by decide +kernel
theorem dX11_two_19 : decode cX11_two 19 = .ok (.getfield 179, 3) := by decide +kernel
theorem dX11_two_22 : decode cX11_two 22 = .ok (.invokestatic 57, 3) := by decide +kernel
theorem dX11_two_25 : decode cX11_two 25 = .ok (.ifCond .eq 22, 3) := by decide +kernel
theorem dX11_two_28 : decode cX11_two 28 = .ok (.iload_n 2, 1) := by decide +kernel
theorem dX11_two_29 : decode cX11_two 29 = .ok (.iconst 0, 1) := by decide +kernel
theorem dX11_two_30 : decode cX11_two 30 = .ok (.bipush 100, 2) := by decide +kernel
theorem dX11_two_32 : decode cX11_two 32 = .ok (.invokestatic 57, 3) := by decide +kernel
theorem dX11_two_35 : decode cX11_two 35 = .ok (.ifCond .eq 12, 3) := by decide +kernel
theorem dX11_two_38 : decode cX11_two 38 = .ok (.iload_n 3, 1) := by decide +kernel
theorem dX11_two_39 : decode cX11_two 39 = .ok (.iconst 0, 1) := by decide +kernel
theorem dX11_two_40 : decode cX11_two 40 = .ok (.iconst 1, 1) := by decide +kernel
theorem dX11_two_41 : decode cX11_two 41 = .ok (.invokestatic 57, 3) := by decide +kernel
theorem dX11_two_44 : decode cX11_two 44 = .ok (.ifCond .ne 6, 3) := by decide +kernel
theorem dX11_two_47 : decode cX11_two 47 = .ok (.ldc 61, 2) := by decide +kernel
theorem dX11_two_49 : decode cX11_two 49 = .ok (.ireturn, 1) := by decide +kernel
theorem dX11_two_50 : decode cX11_two 50 = .ok (.aload_n 0, 1) := by decide +kernel
theorem dX11_two_51 : decode cX11_two 51 = .ok (.getfield 47, 3) := by decide +kernel
theorem dX11_two_54 : decode cX11_two 54 = .ok (.iload_n 1, 1) := by decide +kernel
theorem dX11_two_55 : decode cX11_two 55 = .ok (.iload_n 2, 1) := by decide +kernel
theorem dX11_two_56 : decode cX11_two 56 = .ok (.iload_n 3, 1) := by decide +kernel
theorem dX11_two_57 : decode cX11_two 57 = .ok (.invokestatic 193, 3) := by decide +kernel
theorem dX11_two_60 : decode cX11_two 60 = .ok (.ireturn, 1) := by decide +kernel
theorem dX11_think_0 : decode cX11_think 0 = .ok (.iload_n 1, 1) := by decide +kernel
theorem dX11_think_1 : decode cX11_think 1 = .ok (.iconst 0, 1) := by decide +kernel
theorem dX11_think_2 : decode cX11_think 2 = .ok (.sipush 1000, 3) := by decide +kernel
theorem dX11_think_5 : decode cX11_think 5 = .ok (.invokestatic 57, 3) := by decide +kernel
theorem dX11_think_8 : decode cX11_think 8 = .ok (.ifCond .eq 24, 3) := by decide +kernel
theorem dX11_think_11 : decode cX11_think 11 = .ok (.iload_n 2, 1) := by decide +kernel
theorem dX11_think_12 : decode cX11_think 12 = .ok (.iconst 0, 1) := by decide +kernel
theorem dX11_think_13 : decode cX11_think 13 = .ok (.sipush 1000, 3) := by decide +kernel
theorem dX11_think_16 : decode cX11_think 16 = .ok (.invokestatic 57, 3) := by decide +kernel
theorem dX11_think_19 : decode cX11_think 19 = .ok (.ifCond .eq 13, 3) := by decide +kernel
theorem dX11_think_22 : decode cX11_think 22 = .ok (.iload_n 3, 1) := by decide +kernel
theorem dX11_think_23 : decode cX11_think 23 = .ok (.iconst 0, 1) := by decide +kernel
theorem dX11_think_24 : decode cX11_think 24 = .ok (.bipush 60, 2) := by decide +kernel
theorem dX11_think_26 : decode cX11_think 26 = .ok (.invokestatic 57, 3) := by decide +kernel
theorem dX11_think_29 : decode cX11_think 29 = .ok (.ifCond .ne 6, 3) := by decide +kernel
theorem dX11_think_32 : decode cX11_think 32 = .ok (.ldc 61, 2) := by decide +kernel
theorem dX11_think_34 : decode cX11_think 34 = .ok (.ireturn, 1) := by decide +kernel
theorem dX11_think_35 : decode cX11_think 35 = .ok (.iload_n 1, 1) := by decide +kernel
theorem dX11_think_36 : decode cX11_think 36 = .ok (.iload_n 2, 1) := by decide +kernel
theorem dX11_think_37 : decode cX11_think 37 = .ok (.iload_n 3, 1) := by decide +kernel
theorem dX11_think_38 : decode cX11_think 38 = .ok (.invokestatic 197, 3) := by decide +kernel
theorem dX11_think_41 : decode cX11_think 41 = .ok (.ireturn, 1) := by decide +kernel
theorem dX11_lostUse_0 : decode cX11_lostUse 0 = .ok (.aload_n 0, 1) := by decide +kernel
theorem dX11_lostUse_1 : decode cX11_lostUse 1 = .ok (.getfield 47, 3) := by decide +kernel
theorem dX11_lostUse_4 : decode cX11_lostUse 4 = .ok (.iload_n 1, 1) := by decide +kernel
theorem dX11_lostUse_5 : decode cX11_lostUse 5 = .ok (.invokevirtual 142, 3) := by decide +kernel
theorem dX11_lostUse_8 : decode cX11_lostUse 8 = .ok (.ifCond .eq 25, 3) := by decide +kernel
theorem dX11_lostUse_11 : decode cX11_lostUse 11 = .ok (.iload_n 2, 1) := by decide +kernel
theorem dX11_lostUse_12 : decode cX11_lostUse 12 = .ok (.iconst 0, 1) := by decide +kernel
theorem dX11_lostUse_13 : decode cX11_lostUse 13 = .ok (.sipush 999, 3) := by decide +kernel
theorem dX11_lostUse_16 : decode cX11_lostUse 16 = .ok (.invokestatic 57, 3) := by decide +kernel
theorem dX11_lostUse_19 : decode cX11_lostUse 19 = .ok (.ifCond .eq 14, 3) := by decide +kernel
theorem dX11_lostUse_22 : decode cX11_lostUse 22 = .ok (.iload_n 3, 1) := by decide +kernel
theorem dX11_lostUse_23 : decode cX11_lostUse 23 = .ok (.iload_n 2, 1) := by decide +kernel
theorem dX11_lostUse_24 : decode cX11_lostUse 24 = .ok (.sipush 999, 3) := by decide +kernel
theorem dX11_lostUse_27 : decode cX11_lostUse 27 = .ok (.invokestatic 57, 3) := by decide +kernel
theorem dX11_lostUse_30 : decode cX11_lostUse 30 = .ok (.ifCond .ne 6, 3) := by decide +kernel
theorem dX11_lostUse_33 : decode cX11_lostUse 33 = .ok (.ldc 61, 2) := by decide +kernel
theorem dX11_lostUse_35 : decode cX11_lostUse 35 = .ok (.ireturn, 1) := by decide +kernel
theorem dX11_lostUse_36 : decode cX11_lostUse 36 = .ok (.aload_n 0, 1) := by decide +kernel
theorem dX11_lostUse_37 : decode cX11_lostUse 37 = .ok (.getfield 47, 3) := by decide +kernel
theorem dX11_lostUse_40 : decode cX11_lostUse 40 = .ok (.iload_n 1, 1) := by decide +kernel
theorem dX11_lostUse_41 : decode cX11_lostUse 41 = .ok (.invokevirtual 161, 3) := by decide +kernel
theorem dX11_lostUse_44 : decode cX11_lostUse 44 = .ok (.iload_n 3, 1) := by decide +kernel
theorem dX11_lostUse_45 : decode cX11_lostUse 45 = .ok (.iload_n 2, 1) := by decide +kernel
theorem dX11_lostUse_46 : decode cX11_lostUse 46 = .ok (.isub, 1) := by decide +kernel
theorem dX11_lostUse_47 : decode cX11_lostUse 47 = .ok (.imul, 1) := by decide +kernel
theorem dX11_lostUse_48 : decode cX11_lostUse 48 = .ok (.ireturn, 1) := by decide +kernel
theorem dX11_silence_0 : decode cX11_silence 0 = .ok (.aload_n 0, 1) := by decide +kernel
theorem dX11_silence_1 : decode cX11_silence 1 = .ok (.getfield 47, 3) := by decide +kernel
theorem dX11_silence_4 : decode cX11_silence 4 = .ok (.iload_n 1, 1) := by decide +kernel
theorem dX11_silence_5 : decode cX11_silence 5 = .ok (.invokevirtual 139, 3) := by decide +kernel
theorem dX11_silence_8 : decode cX11_silence 8 = .ok (.ifCond .eq 30, 3) := by decide +kernel
theorem dX11_silence_11 : decode cX11_silence 11 = .ok (.aload_n 0, 1) := by decide +kernel
theorem dX11_silence_12 : decode cX11_silence 12 = .ok (.getfield 47, 3) := by decide +kernel
theorem dX11_silence_15 : decode cX11_silence 15 = .ok (.iload_n 2, 1) := by decide +kernel
theorem dX11_silence_16 : decode cX11_silence 16 = .ok (.invokevirtual 139, 3) := by decide +kernel
theorem dX11_silence_19 : decode cX11_silence 19 = .ok (.ifCond .eq 19, 3) := by decide +kernel
theorem dX11_silence_22 : decode cX11_silence 22 = .ok (.iload_n 1, 1) := by decide +kernel
theorem dX11_silence_23 : decode cX11_silence 23 = .ok (.iload_n 2, 1) := by decide +kernel
theorem dX11_silence_24 : decode cX11_silence 24 = .ok (.if_icmp .eq 14, 3) := by decide +kernel
theorem dX11_silence_27 : decode cX11_silence 27 = .ok (.aload_n 0, 1) := by decide +kernel
theorem dX11_silence_28 : decode cX11_silence 28 = .ok (.getfield 47, 3) := by decide +kernel
theorem dX11_silence_31 : decode cX11_silence 31 = .ok (.iload_n 3, 1) := by decide +kernel
theorem dX11_silence_32 : decode cX11_silence 32 = .ok (.invokevirtual 142, 3) := by decide +kernel
theorem dX11_silence_35 : decode cX11_silence 35 = .ok (.ifCond .ne 6, 3) := by decide +kernel
theorem dX11_silence_38 : decode cX11_silence 38 = .ok (.ldc 61, 2) := by decide +kernel
theorem dX11_silence_40 : decode cX11_silence 40 = .ok (.ireturn, 1) := by decide +kernel
theorem dX11_silence_41 : decode cX11_silence 41 = .ok (.iload 4, 2) := by decide +kernel
theorem dX11_silence_43 : decode cX11_silence 43 = .ok (.iconst 0, 1) := by decide +kernel
theorem dX11_silence_44 : decode cX11_silence 44 = .ok (.sipush 999, 3) := by decide +kernel
theorem dX11_silence_47 : decode cX11_silence 47 = .ok (.invokestatic 57, 3) := by decide +kernel
theorem dX11_silence_50 : decode cX11_silence 50 = .ok (.ifCond .eq 13, 3) := by decide +kernel
theorem dX11_silence_53 : decode cX11_silence 53 = .ok (.iload 5, 2) := by decide +kernel
theorem dX11_silence_55 : decode cX11_silence 55 = .ok (.iconst 0, 1) := by decide +kernel
theorem dX11_silence_56 : decode cX11_silence 56 = .ok (.iconst 1, 1) := by decide +kernel
theorem dX11_silence_57 : decode cX11_silence 57 = .ok (.invokestatic 57, 3) := by decide +kernel
theorem dX11_silence_60 : decode cX11_silence 60 = .ok (.ifCond .ne 6, 3) := by decide +kernel
theorem dX11_silence_63 : decode cX11_silence 63 = .ok (.ldc 61, 2) := by decide +kernel
theorem dX11_silence_65 : decode cX11_silence 65 = .ok (.ireturn, 1) := by decide +kernel
theorem dX11_silence_66 : decode cX11_silence 66 = .ok (.aload_n 0, 1) := by decide +kernel
theorem dX11_silence_67 : decode cX11_silence 67 = .ok (.getfield 47, 3) := by decide +kernel
theorem dX11_silence_70 : decode cX11_silence 70 = .ok (.iload_n 1, 1) := by decide +kernel
theorem dX11_silence_71 : decode cX11_silence 71 = .ok (.iload_n 3, 1) := by decide +kernel
theorem dX11_silence_72 : decode cX11_silence 72 = .ok (.invokevirtual 145, 3) := by decide +kernel
theorem dX11_silence_75 : decode cX11_silence 75 = .ok (.iconst 1, 1) := by decide +kernel
theorem dX11_silence_76 : decode cX11_silence 76 = .ok (.if_icmp .lt 16, 3) := by decide +kernel
theorem dX11_silence_79 : decode cX11_silence 79 = .ok (.aload_n 0, 1) := by decide +kernel
theorem dX11_silence_80 : decode cX11_silence 80 = .ok (.getfield 47, 3) := by decide +kernel
theorem dX11_silence_83 : decode cX11_silence 83 = .ok (.iload_n 2, 1) := by decide +kernel
theorem dX11_silence_84 : decode cX11_silence 84 = .ok (.iload_n 3, 1) := by decide +kernel
theorem dX11_silence_85 : decode cX11_silence 85 = .ok (.invokevirtual 145, 3) := by decide +kernel
theorem dX11_silence_88 : decode cX11_silence 88 = .ok (.iconst 1, 1) := by decide +kernel
theorem dX11_silence_89 : decode cX11_silence 89 = .ok (.if_icmp .ge 6, 3) := by decide +kernel
theorem dX11_silence_92 : decode cX11_silence 92 = .ok (.ldc 127, 2) := by decide +kernel
theorem dX11_silence_94 : decode cX11_silence 94 = .ok (.ireturn, 1) := by decide +kernel
theorem dX11_silence_95 : decode cX11_silence 95 = .ok (.aload_n 0, 1) := by decide +kernel
theorem dX11_silence_96 : decode cX11_silence 96 = .ok (.getfield 47, 3) := by decide +kernel
theorem dX11_silence_99 : decode cX11_silence 99 = .ok (.iload_n 3, 1) := by decide +kernel
theorem dX11_silence_100 : decode cX11_silence 100 = .ok (.invokevirtual 173, 3) := by decide +kernel
theorem dX11_silence_103 : decode cX11_silence 103 = .ok (.istore 6, 2) := by decide +kernel
theorem dX11_silence_105 : decode cX11_silence 105 = .ok (.aload_n 0, 1) := by decide +kernel
theorem dX11_silence_106 : decode cX11_silence 106 = .ok (.getfield 47, 3) := by decide +kernel
theorem dX11_silence_109 : decode cX11_silence 109 = .ok (.iload 4, 2) := by decide +kernel
theorem dX11_silence_111 : decode cX11_silence 111 = .ok (.iload 6, 2) := by decide +kernel
theorem dX11_silence_113 : decode cX11_silence 113 = .ok (.invokevirtual 176, 3) := by decide +kernel
theorem dX11_silence_116 : decode cX11_silence 116 = .ok (.istore 7, 2) := by decide +kernel
theorem dX11_silence_118 : decode cX11_silence 118 = .ok (.iload 5, 2) := by decide +kernel
theorem dX11_silence_120 : decode cX11_silence 120 = .ok (.ifCond .ne 8, 3) := by decide +kernel
theorem dX11_silence_123 : decode cX11_silence 123 = .ok (.iload 7, 2) := by decide +kernel
theorem dX11_silence_125 : decode cX11_silence 125 = .ok (.goto 19, 3) := by decide +kernel
theorem dX11_silence_128 : decode cX11_silence 128 = .ok (.aload_n 0, 1) := by decide +kernel
theorem dX11_silence_129 : decode cX11_silence 129 = .ok (.getfield 47, 3) := by decide +kernel
theorem dX11_silence_132 : decode cX11_silence 132 = .ok (.iload 4, 2) := by decide +kernel
theorem dX11_silence_134 : decode cX11_silence 134 = .ok (.iload 6, 2) := by decide +kernel
theorem dX11_silence_136 : decode cX11_silence 136 = .ok (.iconst 1, 1) := by decide +kernel
theorem dX11_silence_137 : decode cX11_silence 137 = .ok (.isub, 1) := by decide +kernel
theorem dX11_silence_138 : decode cX11_silence 138 = .ok (.invokevirtual 176, 3) := by decide +kernel
theorem dX11_silence_141 : decode cX11_silence 141 = .ok (.iload 7, 2) := by decide +kernel
theorem dX11_silence_143 : decode cX11_silence 143 = .ok (.isub, 1) := by decide +kernel
theorem dX11_silence_144 : decode cX11_silence 144 = .ok (.ireturn, 1) := by decide +kernel
theorem dX11_corner_0 : decode cX11_corner 0 = .ok (.aload_n 0, 1) := by decide +kernel
theorem dX11_corner_1 : decode cX11_corner 1 = .ok (.getfield 47, 3) := by decide +kernel
theorem dX11_corner_4 : decode cX11_corner 4 = .ok (.iload_n 1, 1) := by decide +kernel
theorem dX11_corner_5 : decode cX11_corner 5 = .ok (.invokevirtual 139, 3) := by decide +kernel
theorem dX11_corner_8 : decode cX11_corner 8 = .ok (.ifCond .eq 31, 3) := by decide +kernel
theorem dX11_corner_11 : decode cX11_corner 11 = .ok (.aload_n 0, 1) := by decide +kernel
theorem dX11_corner_12 : decode cX11_corner 12 = .ok (.getfield 47, 3) := by decide +kernel
theorem dX11_corner_15 : decode cX11_corner 15 = .ok (.iload_n 2, 1) := by decide +kernel
theorem dX11_corner_16 : decode cX11_corner 16 = .ok (.invokevirtual 142, 3) := by decide +kernel
theorem dX11_corner_19 : decode cX11_corner 19 = .ok (.ifCond .eq 20, 3) := by decide +kernel
theorem dX11_corner_22 : decode cX11_corner 22 = .ok (.iload_n 3, 1) := by decide +kernel
theorem dX11_corner_23 : decode cX11_corner 23 = .ok (.iconst 0, 1) := by decide +kernel
theorem dX11_corner_24 : decode cX11_corner 24 = .ok (.sipush 999, 3) := by decide +kernel
theorem dX11_corner_27 : decode cX11_corner 27 = .ok (.invokestatic 57, 3) := by decide +kernel
theorem dX11_corner_30 : decode cX11_corner 30 = .ok (.ifCond .eq 9, 3) := by decide +kernel
theorem dX11_corner_33 : decode cX11_corner 33 = .ok (.iload 4, 2) := by decide +kernel
theorem dX11_corner_35 : decode cX11_corner 35 = .ok (.iconst (-1), 1) := by decide +kernel
theorem dX11_corner_36 : decode cX11_corner 36 = .ok (.if_icmp .ge 6, 3) := by decide +kernel
theorem dX11_corner_39 : decode cX11_corner 39 = .ok (.ldc 61, 2) := by decide +kernel
theorem dX11_corner_41 : decode cX11_corner 41 = .ok (.ireturn, 1) := by decide +kernel
theorem dX11_corner_42 : decode cX11_corner 42 = .ok (.aload_n 0, 1) := by decide +kernel
theorem dX11_corner_43 : decode cX11_corner 43 = .ok (.getfield 47, 3) := by decide +kernel
theorem dX11_corner_46 : decode cX11_corner 46 = .ok (.iload_n 1, 1) := by decide +kernel
theorem dX11_corner_47 : decode cX11_corner 47 = .ok (.iload_n 2, 1) := by decide +kernel
theorem dX11_corner_48 : decode cX11_corner 48 = .ok (.invokevirtual 145, 3) := by decide +kernel
theorem dX11_corner_51 : decode cX11_corner 51 = .ok (.iconst 1, 1) := by decide +kernel
theorem dX11_corner_52 : decode cX11_corner 52 = .ok (.if_icmp .ge 6, 3) := by decide +kernel
theorem dX11_corner_55 : decode cX11_corner 55 = .ok (.ldc 127, 2) := by decide +kernel
theorem dX11_corner_57 : decode cX11_corner 57 = .ok (.ireturn, 1) := by decide +kernel
theorem dX11_corner_58 : decode cX11_corner 58 = .ok (.aload_n 0, 1) := by decide +kernel
theorem dX11_corner_59 : decode cX11_corner 59 = .ok (.getfield 26, 3) := by decide +kernel
theorem dX11_corner_62 : decode cX11_corner 62 = .ok (.aload_n 0, 1) := by decide +kernel
theorem dX11_corner_63 : decode cX11_corner 63 = .ok (.getfield 47, 3) := by decide +kernel
theorem dX11_corner_66 : decode cX11_corner 66 = .ok (.iload_n 1, 1) := by decide +kernel
theorem dX11_corner_67 : decode cX11_corner 67 = .ok (.iload_n 2, 1) := by decide +kernel
theorem dX11_corner_68 : decode cX11_corner 68 = .ok (.iload_n 3, 1) := by decide +kernel
theorem dX11_corner_69 : decode cX11_corner 69 = .ok (.invokevirtual 200, 3) := by decide +kernel
theorem dX11_corner_72 : decode cX11_corner 72 = .ok (.iload 4, 2) := by decide +kernel
theorem dX11_corner_74 : decode cX11_corner 74 = .ok (.iconst (-1), 1) := by decide +kernel
theorem dX11_corner_75 : decode cX11_corner 75 = .ok (.if_icmp .ne 13, 3) := by decide +kernel
theorem dX11_corner_78 : decode cX11_corner 78 = .ok (.aload_n 0, 1) := by decide +kernel
theorem dX11_corner_79 : decode cX11_corner 79 = .ok (.getfield 26, 3) := by decide +kernel
theorem dX11_corner_82 : decode cX11_corner 82 = .ok (.getfield 204, 3) := by decide +kernel
theorem dX11_corner_85 : decode cX11_corner 85 = .ok (.goto 12, 3) := by decide +kernel
theorem dX11_corner_88 : decode cX11_corner 88 = .ok (.aload_n 0, 1) := by decide +kernel
theorem dX11_corner_89 : decode cX11_corner 89 = .ok (.getfield 26, 3) := by decide +kernel
theorem dX11_corner_92 : decode cX11_corner 92 = .ok (.iload 4, 2) := by decide +kernel
theorem dX11_corner_94 : decode cX11_corner 94 = .ok (.invokevirtual 207, 3) := by decide +kernel
theorem dX11_corner_97 : decode cX11_corner 97 = .ok (.ireturn, 1) := by decide +kernel
theorem dX11_make_0 : decode cX11_make 0 = .ok (.aload_n 0, 1) := by decide +kernel
theorem dX11_make_1 : decode cX11_make 1 = .ok (.getfield 47, 3) := by decide +kernel
theorem dX11_make_4 : decode cX11_make 4 = .ok (.invokevirtual 123, 3) := by decide +kernel
theorem dX11_make_7 : decode cX11_make 7 = .ok (.ifCond .ne 6, 3) := by decide +kernel
theorem dX11_make_10 : decode cX11_make 10 = .ok (.ldc 127, 2) := by decide +kernel
theorem dX11_make_12 : decode cX11_make 12 = .ok (.ireturn, 1) := by decide +kernel
theorem dX11_make_13 : decode cX11_make 13 = .ok (.iload_n 1, 1) := by decide +kernel
theorem dX11_make_14 : decode cX11_make 14 = .ok (.iconst 0, 1) := by decide +kernel
theorem dX11_make_15 : decode cX11_make 15 = .ok (.ldc 210, 2) := by decide +kernel
theorem dX11_make_17 : decode cX11_make 17 = .ok (.invokestatic 57, 3) := by decide +kernel
theorem dX11_make_20 : decode cX11_make 20 = .ok (.ifCond .eq 24, 3) := by decide +kernel
theorem dX11_make_23 : decode cX11_make 23 = .ok (.iload_n 2, 1) := by decide +kernel
theorem dX11_make_24 : decode cX11_make 24 = .ok (.iconst 0, 1) := by decide +kernel
theorem dX11_make_25 : decode cX11_make 25 = .ok (.sipush 1000, 3) := by decide +kernel
theorem dX11_make_28 : decode cX11_make 28 = .ok (.invokestatic 57, 3) := by decide +kernel
theorem dX11_make_31 : decode cX11_make 31 = .ok (.ifCond .eq 13, 3) := by decide +kernel
theorem dX11_make_34 : decode cX11_make 34 = .ok (.iload_n 3, 1) := by decide +kernel
theorem dX11_make_35 : decode cX11_make 35 = .ok (.iconst (-1), 1) := by decide +kernel
theorem dX11_make_36 : decode cX11_make 36 = .ok (.ldc 210, 2) := by decide +kernel
theorem dX11_make_38 : decode cX11_make 38 = .ok (.invokestatic 57, 3) := by decide +kernel
theorem dX11_make_41 : decode cX11_make 41 = .ok (.ifCond .ne 6, 3) := by decide +kernel
theorem dX11_make_44 : decode cX11_make 44 = .ok (.ldc 61, 2) := by decide +kernel
theorem dX11_make_46 : decode cX11_make 46 = .ok (.ireturn, 1) := by decide +kernel
theorem dX11_make_47 : decode cX11_make 47 = .ok (.aload_n 0, 1) := by decide +kernel
theorem dX11_make_48 : decode cX11_make 48 = .ok (.getfield 47, 3) := by decide +kernel
theorem dX11_make_51 : decode cX11_make 51 = .ok (.aload_n 0, 1) := by decide +kernel
theorem dX11_make_52 : decode cX11_make 52 = .ok (.getfield 47, 3) := by decide +kernel
theorem dX11_make_55 : decode cX11_make 55 = .ok (.getfield 179, 3) := by decide +kernel
theorem dX11_make_58 : decode cX11_make 58 = .ok (.invokevirtual 128, 3) := by decide +kernel
theorem dX11_make_61 : decode cX11_make 61 = .ok (.iload_n 1, 1) := by decide +kernel
theorem dX11_make_62 : decode cX11_make 62 = .ok (.isub, 1) := by decide +kernel
theorem dX11_make_63 : decode cX11_make 63 = .ok (.istore 4, 2) := by decide +kernel
theorem dX11_make_65 : decode cX11_make 65 = .ok (.iload_n 3, 1) := by decide +kernel
theorem dX11_make_66 : decode cX11_make 66 = .ok (.iconst (-1), 1) := by decide +kernel
theorem dX11_make_67 : decode cX11_make 67 = .ok (.if_icmp .ne 10, 3) := by decide +kernel
theorem dX11_make_70 : decode cX11_make 70 = .ok (.iload 4, 2) := by decide +kernel
theorem dX11_make_72 : decode cX11_make 72 = .ok (.iload_n 2, 1) := by decide +kernel
theorem dX11_make_73 : decode cX11_make 73 = .ok (.invokestatic 211, 3) := by decide +kernel
theorem dX11_make_76 : decode cX11_make 76 = .ok (.ireturn, 1) := by decide +kernel
theorem dX11_make_77 : decode cX11_make 77 = .ok (.iload 4, 2) := by decide +kernel
theorem dX11_make_79 : decode cX11_make 79 = .ok (.iload_n 2, 1) := by decide +kernel
theorem dX11_make_80 : decode cX11_make 80 = .ok (.iload_n 3, 1) := by decide +kernel
theorem dX11_make_81 : decode cX11_make 81 = .ok (.imul, 1) := by decide +kernel
theorem dX11_make_82 : decode cX11_make 82 = .ok (.sipush 1000, 3) := by decide +kernel
theorem dX11_make_85 : decode cX11_make 85 = .ok (.idiv, 1) := by decide +kernel
theorem dX11_make_86 : decode cX11_make 86 = .ok (.if_icmp .le 7, 3) := by decide +kernel
theorem dX11_make_89 : decode cX11_make 89 = .ok (.iconst 1, 1) := by decide +kernel
theorem dX11_make_90 : decode cX11_make 90 = .ok (.goto 4, 3) := by decide +kernel
theorem dX11_make_93 : decode cX11_make 93 = .ok (.iconst 0, 1) := by decide +kernel
theorem dX11_make_94 : decode cX11_make 94 = .ok (.ireturn, 1) := by decide +kernel
theorem dX11_fit_0 : decode cX11_fit 0 = .ok (.aload_n 0, 1) := by decide +kernel
theorem dX11_fit_1 : decode cX11_fit 1 = .ok (.getfield 47, 3) := by decide +kernel
theorem dX11_fit_4 : decode cX11_fit 4 = .ok (.invokevirtual 123, 3) := by decide +kernel
theorem dX11_fit_7 : decode cX11_fit 7 = .ok (.ifCond .ne 6, 3) := by decide +kernel
theorem dX11_fit_10 : decode cX11_fit 10 = .ok (.ldc 127, 2) := by decide +kernel
theorem dX11_fit_12 : decode cX11_fit 12 = .ok (.ireturn, 1) := by decide +kernel
theorem dX11_fit_13 : decode cX11_fit 13 = .ok (.iload_n 1, 1) := by decide +kernel
theorem dX11_fit_14 : decode cX11_fit 14 = .ok (.invokestatic 53, 3) := by decide +kernel
theorem dX11_fit_17 : decode cX11_fit 17 = .ok (.ifCond .eq 8, 3) := by decide +kernel
theorem dX11_fit_20 : decode cX11_fit 20 = .ok (.iload_n 2, 1) := by decide +kernel
theorem dX11_fit_21 : decode cX11_fit 21 = .ok (.iconst (-1), 1) := by decide +kernel
theorem dX11_fit_22 : decode cX11_fit 22 = .ok (.if_icmp .ge 6, 3) := by decide +kernel
theorem dX11_fit_25 : decode cX11_fit 25 = .ok (.ldc 61, 2) := by decide +kernel
theorem dX11_fit_27 : decode cX11_fit 27 = .ok (.ireturn, 1) := by decide +kernel
theorem dX11_fit_28 : decode cX11_fit 28 = .ok (.aload_n 0, 1) := by decide +kernel
theorem dX11_fit_29 : decode cX11_fit 29 = .ok (.getfield 10, 3) := by decide +kernel
theorem dX11_fit_32 : decode cX11_fit 32 = .ok (.iload_n 1, 1) := by decide +kernel
theorem dX11_fit_33 : decode cX11_fit 33 = .ok (.invokevirtual 73, 3) := by decide +kernel
theorem dX11_fit_36 : decode cX11_fit 36 = .ok (.ifCond .eq 9, 3) := by decide +kernel
theorem dX11_fit_39 : decode cX11_fit 39 = .ok (.aload_n 0, 1) := by decide +kernel
theorem dX11_fit_40 : decode cX11_fit 40 = .ok (.iconst 1, 1) := by decide +kernel
theorem dX11_fit_41 : decode cX11_fit 41 = .ok (.invokevirtual 62, 3) := by decide +kernel
theorem dX11_fit_44 : decode cX11_fit 44 = .ok (.ireturn, 1) := by decide +kernel
theorem dX11_fit_45 : decode cX11_fit 45 = .ok (.aload_n 0, 1) := by decide +kernel
theorem dX11_fit_46 : decode cX11_fit 46 = .ok (.getfield 10, 3) := by decide +kernel
theorem dX11_fit_49 : decode cX11_fit 49 = .ok (.iload_n 1, 1) := by decide +kernel
theorem dX11_fit_50 : decode cX11_fit 50 = .ok (.iconst 0, 1) := by decide +kernel
theorem dX11_fit_51 : decode cX11_fit 51 = .ok (.aload_n 0, 1) := by decide +kernel
theorem dX11_fit_52 : decode cX11_fit 52 = .ok (.getfield 47, 3) := by decide +kernel
theorem dX11_fit_55 : decode cX11_fit 55 = .ok (.getfield 117, 3) := by decide +kernel
theorem dX11_fit_58 : decode cX11_fit 58 = .ok (.invokevirtual 87, 3) := by decide +kernel
theorem dX11_fit_61 : decode cX11_fit 61 = .ok (.ifCond .ne 9, 3) := by decide +kernel
theorem dX11_fit_64 : decode cX11_fit 64 = .ok (.aload_n 0, 1) := by decide +kernel
theorem dX11_fit_65 : decode cX11_fit 65 = .ok (.iconst 2, 1) := by decide +kernel
theorem dX11_fit_66 : decode cX11_fit 66 = .ok (.invokevirtual 62, 3) := by decide +kernel
theorem dX11_fit_69 : decode cX11_fit 69 = .ok (.ireturn, 1) := by decide +kernel
theorem dX11_fit_70 : decode cX11_fit 70 = .ok (.aload_n 0, 1) := by decide +kernel
theorem dX11_fit_71 : decode cX11_fit 71 = .ok (.getfield 26, 3) := by decide +kernel
theorem dX11_fit_74 : decode cX11_fit 74 = .ok (.aload_n 0, 1) := by decide +kernel
theorem dX11_fit_75 : decode cX11_fit 75 = .ok (.getfield 47, 3) := by decide +kernel
theorem dX11_fit_78 : decode cX11_fit 78 = .ok (.aload_n 0, 1) := by decide +kernel
theorem dX11_fit_79 : decode cX11_fit 79 = .ok (.getfield 10, 3) := by decide +kernel
theorem dX11_fit_82 : decode cX11_fit 82 = .ok (.iload_n 1, 1) := by decide +kernel
theorem dX11_fit_83 : decode cX11_fit 83 = .ok (.invokevirtual 214, 3) := by decide +kernel
theorem dX11_fit_86 : decode cX11_fit 86 = .ok (.ifCond .ne 6, 3) := by decide +kernel
theorem dX11_fit_89 : decode cX11_fit 89 = .ok (.ldc 61, 2) := by decide +kernel
theorem dX11_fit_91 : decode cX11_fit 91 = .ok (.ireturn, 1) := by decide +kernel
theorem dX11_fit_92 : decode cX11_fit 92 = .ok (.aload_n 0, 1) := by decide +kernel
theorem dX11_fit_93 : decode cX11_fit 93 = .ok (.iload_n 2, 1) := by decide +kernel
theorem dX11_fit_94 : decode cX11_fit 94 = .ok (.iconst (-1), 1) := by decide +kernel
theorem dX11_fit_95 : decode cX11_fit 95 = .ok (.if_icmp .ne 17, 3) := by decide +kernel
theorem dX11_fit_98 : decode cX11_fit 98 = .ok (.aload_n 0, 1) := by decide +kernel
theorem dX11_fit_99 : decode cX11_fit 99 = .ok (.getfield 26, 3) := by decide +kernel
theorem dX11_fit_102 : decode cX11_fit 102 = .ok (.aload_n 0, 1) := by decide +kernel
theorem dX11_fit_103 : decode cX11_fit 103 = .ok (.getfield 47, 3) := by decide +kernel
theorem dX11_fit_106 : decode cX11_fit 106 = .ok (.invokevirtual 218, 3) := by decide +kernel
theorem dX11_fit_109 : decode cX11_fit 109 = .ok (.goto 15, 3) := by decide +kernel
theorem dX11_fit_112 : decode cX11_fit 112 = .ok (.aload_n 0, 1) := by decide +kernel
theorem dX11_fit_113 : decode cX11_fit 113 = .ok (.getfield 26, 3) := by decide +kernel
theorem dX11_fit_116 : decode cX11_fit 116 = .ok (.aload_n 0, 1) := by decide +kernel
theorem dX11_fit_117 : decode cX11_fit 117 = .ok (.getfield 47, 3) := by decide +kernel
theorem dX11_fit_120 : decode cX11_fit 120 = .ok (.iload_n 2, 1) := by decide +kernel
theorem dX11_fit_121 : decode cX11_fit 121 = .ok (.invokevirtual 222, 3) := by decide +kernel
theorem dX11_fit_124 : decode cX11_fit 124 = .ok (.invokevirtual 70, 3) := by decide +kernel
theorem dX11_fit_127 : decode cX11_fit 127 = .ok (.ireturn, 1) := by decide +kernel
theorem dX11_laws_0 : decode cX11_laws 0 = .ok (.aload_n 0, 1) := by decide +kernel
theorem dX11_laws_1 : decode cX11_laws 1 = .ok (.getfield 47, 3) := by decide +kernel
theorem dX11_laws_4 : decode cX11_laws 4 = .ok (.invokevirtual 123, 3) := by decide +kernel
theorem dX11_laws_7 : decode cX11_laws 7 = .ok (.ifCond .ne 6, 3) := by decide +kernel
theorem dX11_laws_10 : decode cX11_laws 10 = .ok (.ldc 127, 2) := by decide +kernel
theorem dX11_laws_12 : decode cX11_laws 12 = .ok (.ireturn, 1) := by decide +kernel
theorem dX11_laws_13 : decode cX11_laws 13 = .ok (.iload_n 1, 1) := by decide +kernel
theorem dX11_laws_14 : decode cX11_laws 14 = .ok (.iconst 0, 1) := by decide +kernel
theorem dX11_laws_15 : decode cX11_laws 15 = .ok (.iconst 1, 1) := by decide +kernel
theorem dX11_laws_16 : decode cX11_laws 16 = .ok (.invokestatic 57, 3) := by decide +kernel
theorem dX11_laws_19 : decode cX11_laws 19 = .ok (.ifCond .eq 18, 3) := by decide +kernel
theorem dX11_laws_22 : decode cX11_laws 22 = .ok (.aload_n 0, 1) := by decide +kernel
theorem dX11_laws_23 : decode cX11_laws 23 = .ok (.getfield 26, 3) := by decide +kernel
theorem dX11_laws_26 : decode cX11_laws 26 = .ok (.aload_n 0, 1) := by decide +kernel
theorem dX11_laws_27 : decode cX11_laws 27 = .ok (.getfield 47, 3) := by decide +kernel
theorem dX11_laws_30 : decode cX11_laws 30 = .ok (.iload_n 1, 1) := by decide +kernel
theorem dX11_laws_31 : decode cX11_laws 31 = .ok (.invokevirtual 225, 3) := by decide +kernel
theorem dX11_laws_34 : decode cX11_laws 34 = .ok (.goto 5, 3) := by decide +kernel
theorem dX11_laws_37 : decode cX11_laws 37 = .ok (.ldc 61, 2) := by decide +kernel
theorem dX11_laws_39 : decode cX11_laws 39 = .ok (.ireturn, 1) := by decide +kernel
theorem dX11_image_0 : decode cX11_image 0 = .ok (.iload_n 1, 1) := by decide +kernel
theorem dX11_image_1 : decode cX11_image 1 = .ok (.iconst 0, 1) := by decide +kernel
theorem dX11_image_2 : decode cX11_image 2 = .ok (.iconst 1, 1) := by decide +kernel
theorem dX11_image_3 : decode cX11_image 3 = .ok (.invokestatic 57, 3) := by decide +kernel
theorem dX11_image_6 : decode cX11_image 6 = .ok (.ifCond .ne 6, 3) := by decide +kernel
theorem dX11_image_9 : decode cX11_image 9 = .ok (.ldc 61, 2) := by decide +kernel
theorem dX11_image_11 : decode cX11_image 11 = .ok (.ireturn, 1) := by decide +kernel
theorem dX11_image_12 : decode cX11_image 12 = .ok (.aload_n 0, 1) := by decide +kernel
theorem dX11_image_13 : decode cX11_image 13 = .ok (.getfield 47, 3) := by decide +kernel
theorem dX11_image_16 : decode cX11_image 16 = .ok (.invokevirtual 123, 3) := by decide +kernel
theorem dX11_image_19 : decode cX11_image 19 = .ok (.ifCond .ne 6, 3) := by decide +kernel
theorem dX11_image_22 : decode cX11_image 22 = .ok (.ldc 127, 2) := by decide +kernel
theorem dX11_image_24 : decode cX11_image 24 = .ok (.ireturn, 1) := by decide +kernel
theorem dX11_image_25 : decode cX11_image 25 = .ok (.aload_n 0, 1) := by decide +kernel
theorem dX11_image_26 : decode cX11_image 26 = .ok (.iload_n 1, 1) := by decide +kernel
theorem dX11_image_27 : decode cX11_image 27 = .ok (.invokevirtual 228, 3) := by decide +kernel
theorem dX11_image_30 : decode cX11_image 30 = .ok (.aload_n 0, 1) := by decide +kernel
theorem dX11_image_31 : decode cX11_image 31 = .ok (.getfield 47, 3) := by decide +kernel
theorem dX11_image_34 : decode cX11_image 34 = .ok (.invokevirtual 232, 3) := by decide +kernel
theorem dX11_image_37 : decode cX11_image 37 = .ok (.iconst 1, 1) := by decide +kernel
theorem dX11_image_38 : decode cX11_image 38 = .ok (.ireturn, 1) := by decide +kernel
theorem dX11_restore_0 : decode cX11_restore 0 = .ok (.iload_n 1, 1) := by decide +kernel
theorem dX11_restore_1 : decode cX11_restore 1 = .ok (.iconst 0, 1) := by decide +kernel
theorem dX11_restore_2 : decode cX11_restore 2 = .ok (.iconst 1, 1) := by decide +kernel
theorem dX11_restore_3 : decode cX11_restore 3 = .ok (.invokestatic 57, 3) := by decide +kernel
theorem dX11_restore_6 : decode cX11_restore 6 = .ok (.ifCond .ne 6, 3) := by decide +kernel
theorem dX11_restore_9 : decode cX11_restore 9 = .ok (.ldc 61, 2) := by decide +kernel
theorem dX11_restore_11 : decode cX11_restore 11 = .ok (.ireturn, 1) := by decide +kernel
theorem dX11_restore_12 : decode cX11_restore 12 = .ok (.aload_n 0, 1) := by decide +kernel
theorem dX11_restore_13 : decode cX11_restore 13 = .ok (.iload_n 1, 1) := by decide +kernel
theorem dX11_restore_14 : decode cX11_restore 14 = .ok (.invokevirtual 228, 3) := by decide +kernel
theorem dX11_restore_17 : decode cX11_restore 17 = .ok (.invokevirtual 123, 3) := by decide +kernel
theorem dX11_restore_20 : decode cX11_restore 20 = .ok (.ifCond .ne 6, 3) := by decide +kernel
theorem dX11_restore_23 : decode cX11_restore 23 = .ok (.ldc 127, 2) := by decide +kernel
theorem dX11_restore_25 : decode cX11_restore 25 = .ok (.ireturn, 1) := by decide +kernel
theorem dX11_restore_26 : decode cX11_restore 26 = .ok (.aload_n 0, 1) := by decide +kernel
theorem dX11_restore_27 : decode cX11_restore 27 = .ok (.getfield 47, 3) := by decide +kernel
theorem dX11_restore_30 : decode cX11_restore 30 = .ok (.aload_n 0, 1) := by decide +kernel
theorem dX11_restore_31 : decode cX11_restore 31 = .ok (.iload_n 1, 1) := by decide +kernel
theorem dX11_restore_32 : decode cX11_restore 32 = .ok (.invokevirtual 228, 3) := by decide +kernel
theorem dX11_restore_35 : decode cX11_restore 35 = .ok (.invokevirtual 232, 3) := by decide +kernel
theorem dX11_restore_38 : decode cX11_restore 38 = .ok (.iconst 1, 1) := by decide +kernel
theorem dX11_restore_39 : decode cX11_restore 39 = .ok (.ireturn, 1) := by decide +kernel
theorem dX11_kind_0 : decode cX11_kind 0 = .ok (.aload_n 0, 1) := by decide +kernel
theorem dX11_kind_1 : decode cX11_kind 1 = .ok (.getfield 47, 3) := by decide +kernel
theorem dX11_kind_4 : decode cX11_kind 4 = .ok (.iload_n 1, 1) := by decide +kernel
theorem dX11_kind_5 : decode cX11_kind 5 = .ok (.invokevirtual 236, 3) := by decide +kernel
theorem dX11_kind_8 : decode cX11_kind 8 = .ok (.astore_n 2, 1) := by decide +kernel
theorem dX11_kind_9 : decode cX11_kind 9 = .ok (.aload_n 2, 1) := by decide +kernel
theorem dX11_kind_10 : decode cX11_kind 10 = .ok (.ifnonnull 8, 3) := by decide +kernel
theorem dX11_kind_13 : decode cX11_kind 13 = .ok (.ldc 61, 2) := by decide +kernel
theorem dX11_kind_15 : decode cX11_kind 15 = .ok (.goto 7, 3) := by decide +kernel
theorem dX11_kind_18 : decode cX11_kind 18 = .ok (.aload_n 2, 1) := by decide +kernel
theorem dX11_kind_19 : decode cX11_kind 19 = .ok (.invokevirtual 240, 3) := by decide +kernel
theorem dX11_kind_22 : decode cX11_kind 22 = .ok (.ireturn, 1) := by decide +kernel
theorem dX11_as_0 : decode cX11_as 0 = .ok (.aload_n 0, 1) := by decide +kernel
theorem dX11_as_1 : decode cX11_as 1 = .ok (.getfield 47, 3) := by decide +kernel
theorem dX11_as_4 : decode cX11_as 4 = .ok (.iload_n 1, 1) := by decide +kernel
theorem dX11_as_5 : decode cX11_as 5 = .ok (.invokevirtual 236, 3) := by decide +kernel
theorem dX11_as_8 : decode cX11_as 8 = .ok (.astore_n 3, 1) := by decide +kernel
theorem dX11_as_9 : decode cX11_as 9 = .ok (.aload_n 3, 1) := by decide +kernel
theorem dX11_as_10 : decode cX11_as 10 = .ok (.ifnull 12, 3) := by decide +kernel
theorem dX11_as_13 : decode cX11_as 13 = .ok (.iload_n 2, 1) := by decide +kernel
theorem dX11_as_14 : decode cX11_as 14 = .ok (.iconst 0, 1) := by decide +kernel
theorem dX11_as_15 : decode cX11_as 15 = .ok (.iconst 5, 1) := by decide +kernel
theorem dX11_as_16 : decode cX11_as 16 = .ok (.invokestatic 57, 3) := by decide +kernel
theorem dX11_as_19 : decode cX11_as 19 = .ok (.ifCond .ne 6, 3) := by decide +kernel
theorem dX11_as_22 : decode cX11_as 22 = .ok (.ldc 61, 2) := by decide +kernel
theorem dX11_as_24 : decode cX11_as 24 = .ok (.ireturn, 1) := by decide +kernel
theorem dX11_as_25 : decode cX11_as 25 = .ok (.aload_n 3, 1) := by decide +kernel
theorem dX11_as_26 : decode cX11_as 26 = .ok (.iload_n 2, 1) := by decide +kernel
theorem dX11_as_27 : decode cX11_as 27 = .ok (.invokevirtual 246, 3) := by decide +kernel
theorem dX11_as_30 : decode cX11_as 30 = .ok (.ifCond .eq 11, 3) := by decide +kernel
theorem dX11_as_33 : decode cX11_as 33 = .ok (.aload_n 0, 1) := by decide +kernel
theorem dX11_as_34 : decode cX11_as 34 = .ok (.iload_n 1, 1) := by decide +kernel
theorem dX11_as_35 : decode cX11_as 35 = .ok (.invokevirtual 70, 3) := by decide +kernel
theorem dX11_as_38 : decode cX11_as 38 = .ok (.goto 8, 3) := by decide +kernel
theorem dX11_as_41 : decode cX11_as 41 = .ok (.aload_n 0, 1) := by decide +kernel
theorem dX11_as_42 : decode cX11_as 42 = .ok (.iconst 3, 1) := by decide +kernel
theorem dX11_as_43 : decode cX11_as 43 = .ok (.invokevirtual 62, 3) := by decide +kernel
theorem dX11_as_46 : decode cX11_as 46 = .ok (.ireturn, 1) := by decide +kernel
theorem dX11_ask_0 : decode cX11_ask 0 = .ok (.aload_n 0, 1) := by decide +kernel
theorem dX11_ask_1 : decode cX11_ask 1 = .ok (.getfield 47, 3) := by decide +kernel
theorem dX11_ask_4 : decode cX11_ask 4 = .ok (.iload_n 1, 1) := by decide +kernel
theorem dX11_ask_5 : decode cX11_ask 5 = .ok (.invokevirtual 236, 3) := by decide +kernel
theorem dX11_ask_8 : decode cX11_ask 8 = .ok (.astore_n 3, 1) := by decide +kernel
theorem dX11_ask_9 : decode cX11_ask 9 = .ok (.aload_n 3, 1) := by decide +kernel
theorem dX11_ask_10 : decode cX11_ask 10 = .ok (.ifnull 12, 3) := by decide +kernel
theorem dX11_ask_13 : decode cX11_ask 13 = .ok (.iload_n 2, 1) := by decide +kernel
theorem dX11_ask_14 : decode cX11_ask 14 = .ok (.iconst 0, 1) := by decide +kernel
theorem dX11_ask_15 : decode cX11_ask 15 = .ok (.iconst 1, 1) := by decide +kernel
theorem dX11_ask_16 : decode cX11_ask 16 = .ok (.invokestatic 57, 3) := by decide +kernel
theorem dX11_ask_19 : decode cX11_ask 19 = .ok (.ifCond .ne 6, 3) := by decide +kernel
theorem dX11_ask_22 : decode cX11_ask 22 = .ok (.ldc 61, 2) := by decide +kernel
theorem dX11_ask_24 : decode cX11_ask 24 = .ok (.ireturn, 1) := by decide +kernel
theorem dX11_ask_25 : decode cX11_ask 25 = .ok (.aload_n 0, 1) := by decide +kernel
theorem dX11_ask_26 : decode cX11_ask 26 = .ok (.getfield 33, 3) := by decide +kernel
theorem dX11_ask_29 : decode cX11_ask 29 = .ok (.invokevirtual 249, 3) := by decide +kernel
theorem dX11_ask_32 : decode cX11_ask 32 = .ok (.iload_n 2, 1) := by decide +kernel
theorem dX11_ask_33 : decode cX11_ask 33 = .ok (.ifCond .ne 18, 3) := by decide +kernel
theorem dX11_ask_36 : decode cX11_ask 36 = .ok (.aload_n 3, 1) := by decide +kernel
theorem dX11_ask_37 : decode cX11_ask 37 = .ok (.aload_n 0, 1) := by decide +kernel
theorem dX11_ask_38 : decode cX11_ask 38 = .ok (.getfield 47, 3) := by decide +kernel
theorem dX11_ask_41 : decode cX11_ask 41 = .ok (.aload_n 0, 1) := by decide +kernel
theorem dX11_ask_42 : decode cX11_ask 42 = .ok (.getfield 33, 3) := by decide +kernel
theorem dX11_ask_45 : decode cX11_ask 45 = .ok (.invokevirtual 252, 3) := by decide +kernel
theorem dX11_ask_48 : decode cX11_ask 48 = .ok (.goto 15, 3) := by decide +kernel
theorem dX11_ask_51 : decode cX11_ask 51 = .ok (.aload_n 3, 1) := by decide +kernel
theorem dX11_ask_52 : decode cX11_ask 52 = .ok (.aload_n 0, 1) := by decide +kernel
theorem dX11_ask_53 : decode cX11_ask 53 = .ok (.getfield 47, 3) := by decide +kernel
theorem dX11_ask_56 : decode cX11_ask 56 = .ok (.aload_n 0, 1) := by decide +kernel
theorem dX11_ask_57 : decode cX11_ask 57 = .ok (.getfield 33, 3) := by decide +kernel
theorem dX11_ask_60 : decode cX11_ask 60 = .ok (.invokevirtual 256, 3) := by decide +kernel
theorem dX11_ask_63 : decode cX11_ask 63 = .ok (.ireturn, 1) := by decide +kernel
theorem dX11_trace_0 : decode cX11_trace 0 = .ok (.aload_n 0, 1) := by decide +kernel
theorem dX11_trace_1 : decode cX11_trace 1 = .ok (.getfield 33, 3) := by decide +kernel
theorem dX11_trace_4 : decode cX11_trace 4 = .ok (.iload_n 1, 1) := by decide +kernel
theorem dX11_trace_5 : decode cX11_trace 5 = .ok (.invokevirtual 259, 3) := by decide +kernel
theorem dX11_trace_8 : decode cX11_trace 8 = .ok (.ireturn, 1) := by decide +kernel
theorem dX11_count_0 : decode cX11_count 0 = .ok (.iload_n 1, 1) := by decide +kernel
theorem dX11_count_1 : decode cX11_count 1 = .ok (.tableswitch 111 0 7 #[47, 55, 63, 71, 79, 87, 95, 103], 47) := by decide +kernel
theorem dX11_count_48 : decode cX11_count 48 = .ok (.aload_n 0, 1) := by decide +kernel
theorem dX11_count_49 : decode cX11_count 49 = .ok (.getfield 10, 3) := by decide +kernel
theorem dX11_count_52 : decode cX11_count 52 = .ok (.invokevirtual 262, 3) := by decide +kernel
theorem dX11_count_55 : decode cX11_count 55 = .ok (.ireturn, 1) := by decide +kernel
theorem dX11_count_56 : decode cX11_count 56 = .ok (.aload_n 0, 1) := by decide +kernel
theorem dX11_count_57 : decode cX11_count 57 = .ok (.getfield 47, 3) := by decide +kernel
theorem dX11_count_60 : decode cX11_count 60 = .ok (.getfield 117, 3) := by decide +kernel
theorem dX11_count_63 : decode cX11_count 63 = .ok (.ireturn, 1) := by decide +kernel
theorem dX11_count_64 : decode cX11_count 64 = .ok (.aload_n 0, 1) := by decide +kernel
theorem dX11_count_65 : decode cX11_count 65 = .ok (.getfield 47, 3) := by decide +kernel
theorem dX11_count_68 : decode cX11_count 68 = .ok (.getfield 265, 3) := by decide +kernel
theorem dX11_count_71 : decode cX11_count 71 = .ok (.ireturn, 1) := by decide +kernel
theorem dX11_count_72 : decode cX11_count 72 = .ok (.aload_n 0, 1) := by decide +kernel
theorem dX11_count_73 : decode cX11_count 73 = .ok (.getfield 47, 3) := by decide +kernel
theorem dX11_count_76 : decode cX11_count 76 = .ok (.getfield 268, 3) := by decide +kernel
theorem dX11_count_79 : decode cX11_count 79 = .ok (.ireturn, 1) := by decide +kernel
theorem dX11_count_80 : decode cX11_count 80 = .ok (.aload_n 0, 1) := by decide +kernel
theorem dX11_count_81 : decode cX11_count 81 = .ok (.getfield 47, 3) := by decide +kernel
theorem dX11_count_84 : decode cX11_count 84 = .ok (.getfield 136, 3) := by decide +kernel
theorem dX11_count_87 : decode cX11_count 87 = .ok (.ireturn, 1) := by decide +kernel
theorem dX11_count_88 : decode cX11_count 88 = .ok (.aload_n 0, 1) := by decide +kernel
theorem dX11_count_89 : decode cX11_count 89 = .ok (.getfield 19, 3) := by decide +kernel
theorem dX11_count_92 : decode cX11_count 92 = .ok (.getfield 101, 3) := by decide +kernel
theorem dX11_count_95 : decode cX11_count 95 = .ok (.ireturn, 1) := by decide +kernel
theorem dX11_count_96 : decode cX11_count 96 = .ok (.aload_n 0, 1) := by decide +kernel
theorem dX11_count_97 : decode cX11_count 97 = .ok (.getfield 47, 3) := by decide +kernel
theorem dX11_count_100 : decode cX11_count 100 = .ok (.getfield 179, 3) := by decide +kernel
theorem dX11_count_103 : decode cX11_count 103 = .ok (.ireturn, 1) := by decide +kernel
theorem dX11_count_104 : decode cX11_count 104 = .ok (.aload_n 0, 1) := by decide +kernel
theorem dX11_count_105 : decode cX11_count 105 = .ok (.getfield 47, 3) := by decide +kernel
theorem dX11_count_108 : decode cX11_count 108 = .ok (.getfield 271, 3) := by decide +kernel
theorem dX11_count_111 : decode cX11_count 111 = .ok (.ireturn, 1) := by decide +kernel
theorem dX11_count_112 : decode cX11_count 112 = .ok (.ldc 61, 2) := by decide +kernel
theorem dX11_count_114 : decode cX11_count 114 = .ok (.ireturn, 1) := by decide +kernel
theorem dX11_status_0 : decode cX11_status 0 = .ok (.aload_n 0, 1) := by decide +kernel
theorem dX11_status_1 : decode cX11_status 1 = .ok (.getfield 274, 3) := by decide +kernel
theorem dX11_status_4 : decode cX11_status 4 = .ok (.ireturn, 1) := by decide +kernel
theorem dX11_found_0 : decode cX11_found 0 = .ok (.aload_n 0, 1) := by decide +kernel
theorem dX11_found_1 : decode cX11_found 1 = .ok (.iload_n 1, 1) := by decide +kernel
theorem dX11_found_2 : decode cX11_found 2 = .ok (.putfield 274, 3) := by decide +kernel
theorem dX11_found_5 : decode cX11_found 5 = .ok (.ldc_w 277, 3) := by decide +kernel
theorem dX11_found_8 : decode cX11_found 8 = .ok (.iload_n 1, 1) := by decide +kernel
theorem dX11_found_9 : decode cX11_found 9 = .ok (.isub, 1) := by decide +kernel
theorem dX11_found_10 : decode cX11_found 10 = .ok (.ireturn, 1) := by decide +kernel
theorem dX11_fine_0 : decode cX11_fine 0 = .ok (.aload_n 0, 1) := by decide +kernel
theorem dX11_fine_1 : decode cX11_fine 1 = .ok (.iconst 0, 1) := by decide +kernel
theorem dX11_fine_2 : decode cX11_fine 2 = .ok (.putfield 274, 3) := by decide +kernel
theorem dX11_fine_5 : decode cX11_fine 5 = .ok (.iload_n 1, 1) := by decide +kernel
theorem dX11_fine_6 : decode cX11_fine 6 = .ok (.ireturn, 1) := by decide +kernel
theorem dX11_imageAt_0 : decode cX11_imageAt 0 = .ok (.iload_n 1, 1) := by decide +kernel
theorem dX11_imageAt_1 : decode cX11_imageAt 1 = .ok (.ifCond .ne 10, 3) := by decide +kernel
theorem dX11_imageAt_4 : decode cX11_imageAt 4 = .ok (.aload_n 0, 1) := by decide +kernel
theorem dX11_imageAt_5 : decode cX11_imageAt 5 = .ok (.getfield 40, 3) := by decide +kernel
theorem dX11_imageAt_8 : decode cX11_imageAt 8 = .ok (.goto 7, 3) := by decide +kernel
theorem dX11_imageAt_11 : decode cX11_imageAt 11 = .ok (.aload_n 0, 1) := by decide +kernel
theorem dX11_imageAt_12 : decode cX11_imageAt 12 = .ok (.getfield 44, 3) := by decide +kernel
theorem dX11_imageAt_15 : decode cX11_imageAt 15 = .ok (.areturn, 1) := by decide +kernel
theorem dX11_within_0 : decode cX11_within 0 = .ok (.iload_n 0, 1) := by decide +kernel
theorem dX11_within_1 : decode cX11_within 1 = .ok (.iload_n 1, 1) := by decide +kernel
theorem dX11_within_2 : decode cX11_within 2 = .ok (.if_icmp .lt 12, 3) := by decide +kernel
theorem dX11_within_5 : decode cX11_within 5 = .ok (.iload_n 0, 1) := by decide +kernel
theorem dX11_within_6 : decode cX11_within 6 = .ok (.iload_n 2, 1) := by decide +kernel
theorem dX11_within_7 : decode cX11_within 7 = .ok (.if_icmp .gt 7, 3) := by decide +kernel
theorem dX11_within_10 : decode cX11_within 10 = .ok (.iconst 1, 1) := by decide +kernel
theorem dX11_within_11 : decode cX11_within 11 = .ok (.goto 4, 3) := by decide +kernel
theorem dX11_within_14 : decode cX11_within 14 = .ok (.iconst 0, 1) := by decide +kernel
theorem dX11_within_15 : decode cX11_within 15 = .ok (.ireturn, 1) := by decide +kernel
theorem dJ9_max_7cf53_0 : decode cJ9_max_7cf53 0 = .ok (.iload_n 0, 1) := by decide +kernel
theorem dJ9_max_7cf53_1 : decode cJ9_max_7cf53 1 = .ok (.iload_n 1, 1) := by decide +kernel
theorem dJ9_max_7cf53_2 : decode cJ9_max_7cf53 2 = .ok (.if_icmp .lt 7, 3) := by decide +kernel
theorem dJ9_max_7cf53_5 : decode cJ9_max_7cf53 5 = .ok (.iload_n 0, 1) := by decide +kernel
theorem dJ9_max_7cf53_6 : decode cJ9_max_7cf53 6 = .ok (.goto 4, 3) := by decide +kernel
theorem dJ9_max_7cf53_9 : decode cJ9_max_7cf53 9 = .ok (.iload_n 1, 1) := by decide +kernel
theorem dJ9_max_7cf53_10 : decode cJ9_max_7cf53 10 = .ok (.ireturn, 1) := by decide +kernel
theorem dJ9_min_7cf53_0 : decode cJ9_min_7cf53 0 = .ok (.iload_n 0, 1) := by decide +kernel
theorem dJ9_min_7cf53_1 : decode cJ9_min_7cf53 1 = .ok (.iload_n 1, 1) := by decide +kernel
theorem dJ9_min_7cf53_2 : decode cJ9_min_7cf53 2 = .ok (.if_icmp .gt 7, 3) := by decide +kernel
theorem dJ9_min_7cf53_5 : decode cJ9_min_7cf53 5 = .ok (.iload_n 0, 1) := by decide +kernel
theorem dJ9_min_7cf53_6 : decode cJ9_min_7cf53 6 = .ok (.goto 4, 3) := by decide +kernel
theorem dJ9_min_7cf53_9 : decode cJ9_min_7cf53 9 = .ok (.iload_n 1, 1) := by decide +kernel
theorem dJ9_min_7cf53_10 : decode cJ9_min_7cf53 10 = .ok (.ireturn, 1) := by decide +kernel
theorem dJ0_length_8abf5_0 : decode cJ0_length_8abf5 0 = .ok (.aload_n 0, 1) := by decide +kernel
theorem dJ0_length_8abf5_1 : decode cJ0_length_8abf5 1 = .ok (.getfield 9, 3) := by decide +kernel
theorem dJ0_length_8abf5_4 : decode cJ0_length_8abf5 4 = .ok (.arraylength, 1) := by decide +kernel
theorem dJ0_length_8abf5_5 : decode cJ0_length_8abf5 5 = .ok (.aload_n 0, 1) := by decide +kernel
theorem dJ0_length_8abf5_6 : decode cJ0_length_8abf5 6 = .ok (.invokevirtual 335, 3) := by decide +kernel
theorem dJ0_length_8abf5_9 : decode cJ0_length_8abf5 9 = .ok (.ishr, 1) := by decide +kernel
theorem dJ0_length_8abf5_10 : decode cJ0_length_8abf5 10 = .ok (.ireturn, 1) := by decide +kernel
theorem dJ0_charAt_5068e_0 : decode cJ0_charAt_5068e 0 = .ok (.aload_n 0, 1) := by decide +kernel
theorem dJ0_charAt_5068e_1 : decode cJ0_charAt_5068e 1 = .ok (.invokevirtual 492, 3) := by decide +kernel
theorem dJ0_charAt_5068e_4 : decode cJ0_charAt_5068e 4 = .ok (.ifCond .eq 12, 3) := by decide +kernel
theorem dJ0_charAt_5068e_7 : decode cJ0_charAt_5068e 7 = .ok (.aload_n 0, 1) := by decide +kernel
theorem dJ0_charAt_5068e_8 : decode cJ0_charAt_5068e 8 = .ok (.getfield 9, 3) := by decide +kernel
theorem dJ0_charAt_5068e_11 : decode cJ0_charAt_5068e 11 = .ok (.iload_n 1, 1) := by decide +kernel
theorem dJ0_charAt_5068e_12 : decode cJ0_charAt_5068e 12 = .ok (.invokestatic 495, 3) := by decide +kernel
theorem dJ0_charAt_5068e_15 : decode cJ0_charAt_5068e 15 = .ok (.ireturn, 1) := by decide +kernel
theorem dJ0_charAt_5068e_16 : decode cJ0_charAt_5068e 16 = .ok (.aload_n 0, 1) := by decide +kernel
theorem dJ0_charAt_5068e_17 : decode cJ0_charAt_5068e 17 = .ok (.getfield 9, 3) := by decide +kernel
theorem dJ0_charAt_5068e_20 : decode cJ0_charAt_5068e 20 = .ok (.iload_n 1, 1) := by decide +kernel
theorem dJ0_charAt_5068e_21 : decode cJ0_charAt_5068e 21 = .ok (.invokestatic 498, 3) := by decide +kernel
theorem dJ0_charAt_5068e_24 : decode cJ0_charAt_5068e 24 = .ok (.ireturn, 1) := by decide +kernel
theorem dJ0_coder_7d493_0 : decode cJ0_coder_7d493 0 = .ok (.getstatic 38, 3) := by decide +kernel
theorem dJ0_coder_7d493_3 : decode cJ0_coder_7d493 3 = .ok (.ifCond .eq 10, 3) := by decide +kernel
theorem dJ0_coder_7d493_6 : decode cJ0_coder_7d493 6 = .ok (.aload_n 0, 1) := by decide +kernel
theorem dJ0_coder_7d493_7 : decode cJ0_coder_7d493 7 = .ok (.getfield 15, 3) := by decide +kernel
theorem dJ0_coder_7d493_10 : decode cJ0_coder_7d493 10 = .ok (.goto 4, 3) := by decide +kernel
theorem dJ0_coder_7d493_13 : decode cJ0_coder_7d493 13 = .ok (.iconst 1, 1) := by decide +kernel
theorem dJ0_coder_7d493_14 : decode cJ0_coder_7d493 14 = .ok (.ireturn, 1) := by decide +kernel
theorem dJ0_isLatin1_aae02_0 : decode cJ0_isLatin1_aae02 0 = .ok (.getstatic 38, 3) := by decide +kernel
theorem dJ0_isLatin1_aae02_3 : decode cJ0_isLatin1_aae02 3 = .ok (.ifCond .eq 14, 3) := by decide +kernel
theorem dJ0_isLatin1_aae02_6 : decode cJ0_isLatin1_aae02 6 = .ok (.aload_n 0, 1) := by decide +kernel
theorem dJ0_isLatin1_aae02_7 : decode cJ0_isLatin1_aae02 7 = .ok (.getfield 15, 3) := by decide +kernel
theorem dJ0_isLatin1_aae02_10 : decode cJ0_isLatin1_aae02 10 = .ok (.ifCond .ne 7, 3) := by decide +kernel
theorem dJ0_isLatin1_aae02_13 : decode cJ0_isLatin1_aae02 13 = .ok (.iconst 1, 1) := by decide +kernel
theorem dJ0_isLatin1_aae02_14 : decode cJ0_isLatin1_aae02 14 = .ok (.goto 4, 3) := by decide +kernel
theorem dJ0_isLatin1_aae02_17 : decode cJ0_isLatin1_aae02 17 = .ok (.iconst 0, 1) := by decide +kernel
theorem dJ0_isLatin1_aae02_18 : decode cJ0_isLatin1_aae02 18 = .ok (.ireturn, 1) := by decide +kernel
theorem dJ0_checkIndex_df160_0 : decode cJ0_checkIndex_df160 0 = .ok (.iload_n 0, 1) := by decide +kernel
theorem dJ0_checkIndex_df160_1 : decode cJ0_checkIndex_df160 1 = .ok (.iload_n 1, 1) := by decide +kernel
theorem dJ0_checkIndex_df160_2 : decode cJ0_checkIndex_df160 2 = .ok (.getstatic 1053, 3) := by decide +kernel
theorem dJ0_checkIndex_df160_5 : decode cJ0_checkIndex_df160 5 = .ok (.invokestatic 1059, 3) := by decide +kernel
theorem dJ0_checkIndex_df160_8 : decode cJ0_checkIndex_df160 8 = .ok (.pop, 1) := by decide +kernel
theorem dJ0_checkIndex_df160_9 : decode cJ0_checkIndex_df160 9 = .ok (.return_, 1) := by decide +kernel
theorem dJ1_charAt_3b067_0 : decode cJ1_charAt_3b067 0 = .ok (.iload_n 1, 1) := by decide +kernel
theorem dJ1_charAt_3b067_1 : decode cJ1_charAt_3b067 1 = .ok (.aload_n 0, 1) := by decide +kernel
theorem dJ1_charAt_3b067_2 : decode cJ1_charAt_3b067 2 = .ok (.arraylength, 1) := by decide +kernel
theorem dJ1_charAt_3b067_3 : decode cJ1_charAt_3b067 3 = .ok (.invokestatic 9, 3) := by decide +kernel
theorem dJ1_charAt_3b067_6 : decode cJ1_charAt_3b067 6 = .ok (.aload_n 0, 1) := by decide +kernel
theorem dJ1_charAt_3b067_7 : decode cJ1_charAt_3b067 7 = .ok (.iload_n 1, 1) := by decide +kernel
theorem dJ1_charAt_3b067_8 : decode cJ1_charAt_3b067 8 = .ok (.baload, 1) := by decide +kernel
theorem dJ1_charAt_3b067_9 : decode cJ1_charAt_3b067 9 = .ok (.sipush 255, 3) := by decide +kernel
theorem dJ1_charAt_3b067_12 : decode cJ1_charAt_3b067 12 = .ok (.iand, 1) := by decide +kernel
theorem dJ1_charAt_3b067_13 : decode cJ1_charAt_3b067 13 = .ok (.i2c, 1) := by decide +kernel
theorem dJ1_charAt_3b067_14 : decode cJ1_charAt_3b067 14 = .ok (.ireturn, 1) := by decide +kernel
theorem dJ2_getChar_3b067_0 : decode cJ2_getChar_3b067 0 = .ok (.getstatic 44, 3) := by decide +kernel
theorem dJ2_getChar_3b067_3 : decode cJ2_getChar_3b067 3 = .ok (.ifCond .ne 25, 3) := by decide +kernel
theorem dJ2_getChar_3b067_6 : decode cJ2_getChar_3b067 6 = .ok (.iload_n 1, 1) := by decide +kernel
theorem dJ2_getChar_3b067_7 : decode cJ2_getChar_3b067 7 = .ok (.ifCond .lt 11, 3) := by decide +kernel
theorem dJ2_getChar_3b067_10 : decode cJ2_getChar_3b067 10 = .ok (.iload_n 1, 1) := by decide +kernel
theorem dJ2_getChar_3b067_11 : decode cJ2_getChar_3b067 11 = .ok (.aload_n 0, 1) := by decide +kernel
theorem dJ2_getChar_3b067_12 : decode cJ2_getChar_3b067 12 = .ok (.invokestatic 48, 3) := by decide +kernel
theorem dJ2_getChar_3b067_15 : decode cJ2_getChar_3b067 15 = .ok (.if_icmp .lt 13, 3) := by decide +kernel
theorem dJ2_getChar_3b067_18 : decode cJ2_getChar_3b067 18 = .ok (.new 52, 3) := by decide +kernel
theorem dJ2_getChar_3b067_21 : decode cJ2_getChar_3b067 21 = .ok (.dup, 1) := by decide +kernel
theorem dJ2_getChar_3b067_22 : decode cJ2_getChar_3b067 22 = .ok (.ldc 54, 2) := by decide +kernel
theorem dJ2_getChar_3b067_24 : decode cJ2_getChar_3b067 24 = .ok (.invokespecial 56, 3) := by decide +kernel
theorem dJ2_getChar_3b067_27 : decode cJ2_getChar_3b067 27 = .ok (.athrow, 1) := by decide +kernel
theorem dJ2_getChar_3b067_28 : decode cJ2_getChar_3b067 28 = .ok (.iload_n 1, 1) := by decide +kernel
theorem dJ2_getChar_3b067_29 : decode cJ2_getChar_3b067 29 = .ok (.iconst 1, 1) := by decide +kernel
theorem dJ2_getChar_3b067_30 : decode cJ2_getChar_3b067 30 = .ok (.ishl, 1) := by decide +kernel
theorem dJ2_getChar_3b067_31 : decode cJ2_getChar_3b067 31 = .ok (.istore_n 1, 1) := by decide +kernel
theorem dJ2_getChar_3b067_32 : decode cJ2_getChar_3b067 32 = .ok (.aload_n 0, 1) := by decide +kernel
theorem dJ2_getChar_3b067_33 : decode cJ2_getChar_3b067 33 = .ok (.iload_n 1, 1) := by decide +kernel
theorem dJ2_getChar_3b067_34 : decode cJ2_getChar_3b067 34 = .ok (.iinc 1 1, 3) := by decide +kernel
theorem dJ2_getChar_3b067_37 : decode cJ2_getChar_3b067 37 = .ok (.baload, 1) := by decide +kernel
theorem dJ2_getChar_3b067_38 : decode cJ2_getChar_3b067 38 = .ok (.sipush 255, 3) := by decide +kernel
theorem dJ2_getChar_3b067_41 : decode cJ2_getChar_3b067 41 = .ok (.iand, 1) := by decide +kernel
theorem dJ2_getChar_3b067_42 : decode cJ2_getChar_3b067 42 = .ok (.getstatic 59, 3) := by decide +kernel
theorem dJ2_getChar_3b067_45 : decode cJ2_getChar_3b067 45 = .ok (.ishl, 1) := by decide +kernel
theorem dJ2_getChar_3b067_46 : decode cJ2_getChar_3b067 46 = .ok (.aload_n 0, 1) := by decide +kernel
theorem dJ2_getChar_3b067_47 : decode cJ2_getChar_3b067 47 = .ok (.iload_n 1, 1) := by decide +kernel
theorem dJ2_getChar_3b067_48 : decode cJ2_getChar_3b067 48 = .ok (.baload, 1) := by decide +kernel
theorem dJ2_getChar_3b067_49 : decode cJ2_getChar_3b067 49 = .ok (.sipush 255, 3) := by decide +kernel
theorem dJ2_getChar_3b067_52 : decode cJ2_getChar_3b067 52 = .ok (.iand, 1) := by decide +kernel
theorem dJ2_getChar_3b067_53 : decode cJ2_getChar_3b067 53 = .ok (.getstatic 63, 3) := by decide +kernel
theorem dJ2_getChar_3b067_56 : decode cJ2_getChar_3b067 56 = .ok (.ishl, 1) := by decide +kernel
theorem dJ2_getChar_3b067_57 : decode cJ2_getChar_3b067 57 = .ok (.ior, 1) := by decide +kernel
theorem dJ2_getChar_3b067_58 : decode cJ2_getChar_3b067 58 = .ok (.i2c, 1) := by decide +kernel
theorem dJ2_getChar_3b067_59 : decode cJ2_getChar_3b067 59 = .ok (.ireturn, 1) := by decide +kernel
theorem dJ2_length_9d52b_0 : decode cJ2_length_9d52b 0 = .ok (.aload_n 0, 1) := by decide +kernel
theorem dJ2_length_9d52b_1 : decode cJ2_length_9d52b 1 = .ok (.arraylength, 1) := by decide +kernel
theorem dJ2_length_9d52b_2 : decode cJ2_length_9d52b 2 = .ok (.iconst 1, 1) := by decide +kernel
theorem dJ2_length_9d52b_3 : decode cJ2_length_9d52b 3 = .ok (.ishr, 1) := by decide +kernel
theorem dJ2_length_9d52b_4 : decode cJ2_length_9d52b 4 = .ok (.ireturn, 1) := by decide +kernel
theorem dJ2_charAt_3b067_0 : decode cJ2_charAt_3b067 0 = .ok (.iload_n 1, 1) := by decide +kernel
theorem dJ2_charAt_3b067_1 : decode cJ2_charAt_3b067 1 = .ok (.aload_n 0, 1) := by decide +kernel
theorem dJ2_charAt_3b067_2 : decode cJ2_charAt_3b067 2 = .ok (.invokestatic 67, 3) := by decide +kernel
theorem dJ2_charAt_3b067_5 : decode cJ2_charAt_3b067 5 = .ok (.aload_n 0, 1) := by decide +kernel
theorem dJ2_charAt_3b067_6 : decode cJ2_charAt_3b067 6 = .ok (.iload_n 1, 1) := by decide +kernel
theorem dJ2_charAt_3b067_7 : decode cJ2_charAt_3b067 7 = .ok (.invokestatic 71, 3) := by decide +kernel
theorem dJ2_charAt_3b067_10 : decode cJ2_charAt_3b067 10 = .ok (.ireturn, 1) := by decide +kernel
theorem dJ2_checkIndex_2214a_0 : decode cJ2_checkIndex_2214a 0 = .ok (.iload_n 0, 1) := by decide +kernel
theorem dJ2_checkIndex_2214a_1 : decode cJ2_checkIndex_2214a 1 = .ok (.aload_n 1, 1) := by decide +kernel
theorem dJ2_checkIndex_2214a_2 : decode cJ2_checkIndex_2214a 2 = .ok (.invokestatic 48, 3) := by decide +kernel
theorem dJ2_checkIndex_2214a_5 : decode cJ2_checkIndex_2214a 5 = .ok (.invokestatic 414, 3) := by decide +kernel
theorem dJ2_checkIndex_2214a_8 : decode cJ2_checkIndex_2214a 8 = .ok (.return_, 1) := by decide +kernel
theorem dJ7_rangeCheck_23922_0 : decode cJ7_rangeCheck_23922 0 = .ok (.iload_n 1, 1) := by decide +kernel
theorem dJ7_rangeCheck_23922_1 : decode cJ7_rangeCheck_23922 1 = .ok (.iload_n 2, 1) := by decide +kernel
theorem dJ7_rangeCheck_23922_2 : decode cJ7_rangeCheck_23922 2 = .ok (.if_icmp .le 44, 3) := by decide +kernel
theorem dJ7_rangeCheck_23922_5 : decode cJ7_rangeCheck_23922 5 = .ok (.new 43, 3) := by decide +kernel
theorem dJ7_rangeCheck_23922_8 : decode cJ7_rangeCheck_23922 8 = .ok (.dup, 1) := by decide +kernel
theorem dJ7_rangeCheck_23922_9 : decode cJ7_rangeCheck_23922 9 = .ok (.new 45, 3) := by decide +kernel
theorem dJ7_rangeCheck_23922_12 : decode cJ7_rangeCheck_23922 12 = .ok (.dup, 1) := by decide +kernel
theorem dJ7_rangeCheck_23922_13 : decode cJ7_rangeCheck_23922 13 = .ok (.invokespecial 47, 3) := by decide +kernel
theorem dJ7_rangeCheck_23922_16 : decode cJ7_rangeCheck_23922 16 = .ok (.ldc 48, 2) := by decide +kernel
theorem dJ7_rangeCheck_23922_18 : decode cJ7_rangeCheck_23922 18 = .ok (.invokevirtual 50, 3) := by decide +kernel
theorem dJ7_rangeCheck_23922_21 : decode cJ7_rangeCheck_23922 21 = .ok (.iload_n 1, 1) := by decide +kernel
theorem dJ7_rangeCheck_23922_22 : decode cJ7_rangeCheck_23922 22 = .ok (.invokevirtual 54, 3) := by decide +kernel
theorem dJ7_rangeCheck_23922_25 : decode cJ7_rangeCheck_23922 25 = .ok (.ldc 57, 2) := by decide +kernel
theorem dJ7_rangeCheck_23922_27 : decode cJ7_rangeCheck_23922 27 = .ok (.invokevirtual 50, 3) := by decide +kernel
theorem dJ7_rangeCheck_23922_30 : decode cJ7_rangeCheck_23922 30 = .ok (.iload_n 2, 1) := by decide +kernel
theorem dJ7_rangeCheck_23922_31 : decode cJ7_rangeCheck_23922 31 = .ok (.invokevirtual 54, 3) := by decide +kernel
theorem dJ7_rangeCheck_23922_34 : decode cJ7_rangeCheck_23922 34 = .ok (.ldc 59, 2) := by decide +kernel
theorem dJ7_rangeCheck_23922_36 : decode cJ7_rangeCheck_23922 36 = .ok (.invokevirtual 50, 3) := by decide +kernel
theorem dJ7_rangeCheck_23922_39 : decode cJ7_rangeCheck_23922 39 = .ok (.invokevirtual 61, 3) := by decide +kernel
theorem dJ7_rangeCheck_23922_42 : decode cJ7_rangeCheck_23922 42 = .ok (.invokespecial 65, 3) := by decide +kernel
theorem dJ7_rangeCheck_23922_45 : decode cJ7_rangeCheck_23922 45 = .ok (.athrow, 1) := by decide +kernel
theorem dJ7_rangeCheck_23922_46 : decode cJ7_rangeCheck_23922 46 = .ok (.iload_n 1, 1) := by decide +kernel
theorem dJ7_rangeCheck_23922_47 : decode cJ7_rangeCheck_23922 47 = .ok (.ifCond .ge 12, 3) := by decide +kernel
theorem dJ7_rangeCheck_23922_50 : decode cJ7_rangeCheck_23922 50 = .ok (.new 68, 3) := by decide +kernel
theorem dJ7_rangeCheck_23922_53 : decode cJ7_rangeCheck_23922 53 = .ok (.dup, 1) := by decide +kernel
theorem dJ7_rangeCheck_23922_54 : decode cJ7_rangeCheck_23922 54 = .ok (.iload_n 1, 1) := by decide +kernel
theorem dJ7_rangeCheck_23922_55 : decode cJ7_rangeCheck_23922 55 = .ok (.invokespecial 70, 3) := by decide +kernel
theorem dJ7_rangeCheck_23922_58 : decode cJ7_rangeCheck_23922 58 = .ok (.athrow, 1) := by decide +kernel
theorem dJ7_rangeCheck_23922_59 : decode cJ7_rangeCheck_23922 59 = .ok (.iload_n 2, 1) := by decide +kernel
theorem dJ7_rangeCheck_23922_60 : decode cJ7_rangeCheck_23922 60 = .ok (.iload_n 0, 1) := by decide +kernel
theorem dJ7_rangeCheck_23922_61 : decode cJ7_rangeCheck_23922 61 = .ok (.if_icmp .le 12, 3) := by decide +kernel
theorem dJ7_rangeCheck_23922_64 : decode cJ7_rangeCheck_23922 64 = .ok (.new 68, 3) := by decide +kernel
theorem dJ7_rangeCheck_23922_67 : decode cJ7_rangeCheck_23922 67 = .ok (.dup, 1) := by decide +kernel
theorem dJ7_rangeCheck_23922_68 : decode cJ7_rangeCheck_23922 68 = .ok (.iload_n 2, 1) := by decide +kernel
theorem dJ7_rangeCheck_23922_69 : decode cJ7_rangeCheck_23922 69 = .ok (.invokespecial 70, 3) := by decide +kernel
theorem dJ7_rangeCheck_23922_72 : decode cJ7_rangeCheck_23922 72 = .ok (.athrow, 1) := by decide +kernel
theorem dJ7_rangeCheck_23922_73 : decode cJ7_rangeCheck_23922 73 = .ok (.return_, 1) := by decide +kernel
theorem dJ7_fill_53178_0 : decode cJ7_fill_53178 0 = .ok (.iconst 0, 1) := by decide +kernel
theorem dJ7_fill_53178_1 : decode cJ7_fill_53178 1 = .ok (.istore_n 2, 1) := by decide +kernel
theorem dJ7_fill_53178_2 : decode cJ7_fill_53178 2 = .ok (.aload_n 0, 1) := by decide +kernel
theorem dJ7_fill_53178_3 : decode cJ7_fill_53178 3 = .ok (.arraylength, 1) := by decide +kernel
theorem dJ7_fill_53178_4 : decode cJ7_fill_53178 4 = .ok (.istore_n 3, 1) := by decide +kernel
theorem dJ7_fill_53178_5 : decode cJ7_fill_53178 5 = .ok (.iload_n 2, 1) := by decide +kernel
theorem dJ7_fill_53178_6 : decode cJ7_fill_53178 6 = .ok (.iload_n 3, 1) := by decide +kernel
theorem dJ7_fill_53178_7 : decode cJ7_fill_53178 7 = .ok (.if_icmp .ge 13, 3) := by decide +kernel
theorem dJ7_fill_53178_10 : decode cJ7_fill_53178 10 = .ok (.aload_n 0, 1) := by decide +kernel
theorem dJ7_fill_53178_11 : decode cJ7_fill_53178 11 = .ok (.iload_n 2, 1) := by decide +kernel
theorem dJ7_fill_53178_12 : decode cJ7_fill_53178 12 = .ok (.iload_n 1, 1) := by decide +kernel
theorem dJ7_fill_53178_13 : decode cJ7_fill_53178 13 = .ok (.iastore, 1) := by decide +kernel
theorem dJ7_fill_53178_14 : decode cJ7_fill_53178 14 = .ok (.iinc 2 1, 3) := by decide +kernel
theorem dJ7_fill_53178_17 : decode cJ7_fill_53178 17 = .ok (.goto (-12), 3) := by decide +kernel
theorem dJ7_fill_53178_20 : decode cJ7_fill_53178 20 = .ok (.return_, 1) := by decide +kernel
theorem dJ7_fill_fda19_0 : decode cJ7_fill_fda19 0 = .ok (.aload_n 0, 1) := by decide +kernel
theorem dJ7_fill_fda19_1 : decode cJ7_fill_fda19 1 = .ok (.arraylength, 1) := by decide +kernel
theorem dJ7_fill_fda19_2 : decode cJ7_fill_fda19 2 = .ok (.iload_n 1, 1) := by decide +kernel
theorem dJ7_fill_fda19_3 : decode cJ7_fill_fda19 3 = .ok (.iload_n 2, 1) := by decide +kernel
theorem dJ7_fill_fda19_4 : decode cJ7_fill_fda19 4 = .ok (.invokestatic 13, 3) := by decide +kernel
theorem dJ7_fill_fda19_7 : decode cJ7_fill_fda19 7 = .ok (.iload_n 1, 1) := by decide +kernel
theorem dJ7_fill_fda19_8 : decode cJ7_fill_fda19 8 = .ok (.istore 4, 2) := by decide +kernel
theorem dJ7_fill_fda19_10 : decode cJ7_fill_fda19 10 = .ok (.iload 4, 2) := by decide +kernel
theorem dJ7_fill_fda19_12 : decode cJ7_fill_fda19 12 = .ok (.iload_n 2, 1) := by decide +kernel
theorem dJ7_fill_fda19_13 : decode cJ7_fill_fda19 13 = .ok (.if_icmp .ge 14, 3) := by decide +kernel
theorem dJ7_fill_fda19_16 : decode cJ7_fill_fda19 16 = .ok (.aload_n 0, 1) := by decide +kernel
theorem dJ7_fill_fda19_17 : decode cJ7_fill_fda19 17 = .ok (.iload 4, 2) := by decide +kernel
theorem dJ7_fill_fda19_19 : decode cJ7_fill_fda19 19 = .ok (.iload_n 3, 1) := by decide +kernel
theorem dJ7_fill_fda19_20 : decode cJ7_fill_fda19 20 = .ok (.iastore, 1) := by decide +kernel
theorem dJ7_fill_fda19_21 : decode cJ7_fill_fda19 21 = .ok (.iinc 4 1, 3) := by decide +kernel
theorem dJ7_fill_fda19_24 : decode cJ7_fill_fda19 24 = .ok (.goto (-14), 3) := by decide +kernel
theorem dJ7_fill_fda19_27 : decode cJ7_fill_fda19 27 = .ok (.return_, 1) := by decide +kernel
theorem dJ3_checkIndex_8e157_0 : decode cJ3_checkIndex_8e157 0 = .ok (.iload_n 0, 1) := by decide +kernel
theorem dJ3_checkIndex_8e157_1 : decode cJ3_checkIndex_8e157 1 = .ok (.ifCond .lt 8, 3) := by decide +kernel
theorem dJ3_checkIndex_8e157_4 : decode cJ3_checkIndex_8e157 4 = .ok (.iload_n 0, 1) := by decide +kernel
theorem dJ3_checkIndex_8e157_5 : decode cJ3_checkIndex_8e157 5 = .ok (.iload_n 1, 1) := by decide +kernel
theorem dJ3_checkIndex_8e157_6 : decode cJ3_checkIndex_8e157 6 = .ok (.if_icmp .lt 10, 3) := by decide +kernel
theorem dJ3_checkIndex_8e157_9 : decode cJ3_checkIndex_8e157 9 = .ok (.aload_n 2, 1) := by decide +kernel
theorem dJ3_checkIndex_8e157_10 : decode cJ3_checkIndex_8e157 10 = .ok (.iload_n 0, 1) := by decide +kernel
theorem dJ3_checkIndex_8e157_11 : decode cJ3_checkIndex_8e157 11 = .ok (.iload_n 1, 1) := by decide +kernel
theorem dJ3_checkIndex_8e157_12 : decode cJ3_checkIndex_8e157 12 = .ok (.invokestatic 95, 3) := by decide +kernel
theorem dJ3_checkIndex_8e157_15 : decode cJ3_checkIndex_8e157 15 = .ok (.athrow, 1) := by decide +kernel
theorem dJ3_checkIndex_8e157_16 : decode cJ3_checkIndex_8e157 16 = .ok (.iload_n 0, 1) := by decide +kernel
theorem dJ3_checkIndex_8e157_17 : decode cJ3_checkIndex_8e157 17 = .ok (.ireturn, 1) := by decide +kernel
