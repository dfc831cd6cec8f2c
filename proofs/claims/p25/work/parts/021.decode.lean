theorem eX0_init_0 : (decode cX0_init 0 = .ok (.aload_n 0, 1)) ∧ (decode cX0_init 1 = .ok (.invokespecial 3, 3)) ∧ (decode cX0_init 4 = .ok (.aload_n 0, 1)) ∧ (decode cX0_init 5 = .ok (.sipush 2197, 3)) ∧ (decode cX0_init 8 = .ok (.newarray .long, 2)) ∧ (decode cX0_init 10 = .ok (.putfield 11, 3)) ∧ (decode cX0_init 13 = .ok (.aload_n 0, 1)) ∧ (decode cX0_init 14 = .ok (.sipush 2197, 3)) := by decide +kernel
theorem dX0_init_0 : decode cX0_init 0 = .ok (.aload_n 0, 1) := eX0_init_0.1
theorem dX0_init_1 : decode cX0_init 1 = .ok (.invokespecial 3, 3) := eX0_init_0.2.1
theorem dX0_init_4 : decode cX0_init 4 = .ok (.aload_n 0, 1) := eX0_init_0.2.2.1
theorem dX0_init_5 : decode cX0_init 5 = .ok (.sipush 2197, 3) := eX0_init_0.2.2.2.1
theorem dX0_init_8 : decode cX0_init 8 = .ok (.newarray .long, 2) := eX0_init_0.2.2.2.2.1
theorem dX0_init_10 : decode cX0_init 10 = .ok (.putfield 11, 3) := eX0_init_0.2.2.2.2.2.1
theorem dX0_init_13 : decode cX0_init 13 = .ok (.aload_n 0, 1) := eX0_init_0.2.2.2.2.2.2.1
theorem dX0_init_14 : decode cX0_init 14 = .ok (.sipush 2197, 3) := eX0_init_0.2.2.2.2.2.2.2
theorem eX0_init_17 : (decode cX0_init 17 = .ok (.newarray .long, 2)) ∧ (decode cX0_init 19 = .ok (.putfield 15, 3)) ∧ (decode cX0_init 22 = .ok (.aload_n 0, 1)) ∧ (decode cX0_init 23 = .ok (.bipush 12, 2)) ∧ (decode cX0_init 25 = .ok (.newarray .int, 2)) ∧ (decode cX0_init 27 = .ok (.putfield 18, 3)) ∧ (decode cX0_init 30 = .ok (.aload_n 0, 1)) ∧ (decode cX0_init 31 = .ok (.iconst 4, 1)) := by decide +kernel
theorem dX0_init_17 : decode cX0_init 17 = .ok (.newarray .long, 2) := eX0_init_17.1
theorem dX0_init_19 : decode cX0_init 19 = .ok (.putfield 15, 3) := eX0_init_17.2.1
theorem dX0_init_22 : decode cX0_init 22 = .ok (.aload_n 0, 1) := eX0_init_17.2.2.1
theorem dX0_init_23 : decode cX0_init 23 = .ok (.bipush 12, 2) := eX0_init_17.2.2.2.1
theorem dX0_init_25 : decode cX0_init 25 = .ok (.newarray .int, 2) := eX0_init_17.2.2.2.2.1
theorem dX0_init_27 : decode cX0_init 27 = .ok (.putfield 18, 3) := eX0_init_17.2.2.2.2.2.1
theorem dX0_init_30 : decode cX0_init 30 = .ok (.aload_n 0, 1) := eX0_init_17.2.2.2.2.2.2.1
theorem dX0_init_31 : decode cX0_init 31 = .ok (.iconst 4, 1) := eX0_init_17.2.2.2.2.2.2.2
theorem eX0_init_32 : (decode cX0_init 32 = .ok (.newarray .int, 2)) ∧ (decode cX0_init 34 = .ok (.putfield 22, 3)) ∧ (decode cX0_init 37 = .ok (.aload_n 0, 1)) ∧ (decode cX0_init 38 = .ok (.iconst 4, 1)) ∧ (decode cX0_init 39 = .ok (.newarray .int, 2)) ∧ (decode cX0_init 41 = .ok (.putfield 25, 3)) ∧ (decode cX0_init 44 = .ok (.aload_n 0, 1)) ∧ (decode cX0_init 45 = .ok (.bipush 13, 2)) := by decide +kernel
theorem dX0_init_32 : decode cX0_init 32 = .ok (.newarray .int, 2) := eX0_init_32.1
theorem dX0_init_34 : decode cX0_init 34 = .ok (.putfield 22, 3) := eX0_init_32.2.1
theorem dX0_init_37 : decode cX0_init 37 = .ok (.aload_n 0, 1) := eX0_init_32.2.2.1
theorem dX0_init_38 : decode cX0_init 38 = .ok (.iconst 4, 1) := eX0_init_32.2.2.2.1
theorem dX0_init_39 : decode cX0_init 39 = .ok (.newarray .int, 2) := eX0_init_32.2.2.2.2.1
theorem dX0_init_41 : decode cX0_init 41 = .ok (.putfield 25, 3) := eX0_init_32.2.2.2.2.2.1
theorem dX0_init_44 : decode cX0_init 44 = .ok (.aload_n 0, 1) := eX0_init_32.2.2.2.2.2.2.1
theorem dX0_init_45 : decode cX0_init 45 = .ok (.bipush 13, 2) := eX0_init_32.2.2.2.2.2.2.2
theorem eX0_init_47 : (decode cX0_init 47 = .ok (.newarray .long, 2)) ∧ (decode cX0_init 49 = .ok (.putfield 28, 3)) ∧ (decode cX0_init 52 = .ok (.aload_n 0, 1)) ∧ (decode cX0_init 53 = .ok (.sipush 201, 3)) ∧ (decode cX0_init 56 = .ok (.newarray .long, 2)) ∧ (decode cX0_init 58 = .ok (.putfield 31, 3)) ∧ (decode cX0_init 61 = .ok (.aload_n 0, 1)) ∧ (decode cX0_init 62 = .ok (.lconst 0, 1)) := by decide +kernel
theorem dX0_init_47 : decode cX0_init 47 = .ok (.newarray .long, 2) := eX0_init_47.1
theorem dX0_init_49 : decode cX0_init 49 = .ok (.putfield 28, 3) := eX0_init_47.2.1
theorem dX0_init_52 : decode cX0_init 52 = .ok (.aload_n 0, 1) := eX0_init_47.2.2.1
theorem dX0_init_53 : decode cX0_init 53 = .ok (.sipush 201, 3) := eX0_init_47.2.2.2.1
theorem dX0_init_56 : decode cX0_init 56 = .ok (.newarray .long, 2) := eX0_init_47.2.2.2.2.1
theorem dX0_init_58 : decode cX0_init 58 = .ok (.putfield 31, 3) := eX0_init_47.2.2.2.2.2.1
theorem dX0_init_61 : decode cX0_init 61 = .ok (.aload_n 0, 1) := eX0_init_47.2.2.2.2.2.2.1
theorem dX0_init_62 : decode cX0_init 62 = .ok (.lconst 0, 1) := eX0_init_47.2.2.2.2.2.2.2
theorem eX0_init_63 : (decode cX0_init 63 = .ok (.putfield 34, 3)) ∧ (decode cX0_init 66 = .ok (.aload_n 0, 1)) ∧ (decode cX0_init 67 = .ok (.lconst 1, 1)) ∧ (decode cX0_init 68 = .ok (.putfield 38, 3)) ∧ (decode cX0_init 71 = .ok (.aload_n 0, 1)) ∧ (decode cX0_init 72 = .ok (.lconst 0, 1)) ∧ (decode cX0_init 73 = .ok (.putfield 41, 3)) ∧ (decode cX0_init 76 = .ok (.aload_n 0, 1)) := by decide +kernel
theorem dX0_init_63 : decode cX0_init 63 = .ok (.putfield 34, 3) := eX0_init_63.1
theorem dX0_init_66 : decode cX0_init 66 = .ok (.aload_n 0, 1) := eX0_init_63.2.1
theorem dX0_init_67 : decode cX0_init 67 = .ok (.lconst 1, 1) := eX0_init_63.2.2.1
theorem dX0_init_68 : decode cX0_init 68 = .ok (.putfield 38, 3) := eX0_init_63.2.2.2.1
theorem dX0_init_71 : decode cX0_init 71 = .ok (.aload_n 0, 1) := eX0_init_63.2.2.2.2.1
theorem dX0_init_72 : decode cX0_init 72 = .ok (.lconst 0, 1) := eX0_init_63.2.2.2.2.2.1
theorem dX0_init_73 : decode cX0_init 73 = .ok (.putfield 41, 3) := eX0_init_63.2.2.2.2.2.2.1
theorem dX0_init_76 : decode cX0_init 76 = .ok (.aload_n 0, 1) := eX0_init_63.2.2.2.2.2.2.2
theorem eX0_init_77 : (decode cX0_init 77 = .ok (.lconst 0, 1)) ∧ (decode cX0_init 78 = .ok (.putfield 44, 3)) ∧ (decode cX0_init 81 = .ok (.return_, 1)) := by decide +kernel
theorem dX0_init_77 : decode cX0_init 77 = .ok (.lconst 0, 1) := eX0_init_77.1
theorem dX0_init_78 : decode cX0_init 78 = .ok (.putfield 44, 3) := eX0_init_77.2.1
theorem dX0_init_81 : decode cX0_init 81 = .ok (.return_, 1) := eX0_init_77.2.2
theorem eX0_letAny_0 : (decode cX0_letAny 0 = .ok (.aload_n 0, 1)) ∧ (decode cX0_letAny 1 = .ok (.getfield 18, 3)) ∧ (decode cX0_letAny 4 = .ok (.iconst (-1), 1)) ∧ (decode cX0_letAny 5 = .ok (.invokestatic 47, 3)) ∧ (decode cX0_letAny 8 = .ok (.return_, 1)) := by decide +kernel
theorem dX0_letAny_0 : decode cX0_letAny 0 = .ok (.aload_n 0, 1) := eX0_letAny_0.1
theorem dX0_letAny_1 : decode cX0_letAny 1 = .ok (.getfield 18, 3) := eX0_letAny_0.2.1
theorem dX0_letAny_4 : decode cX0_letAny 4 = .ok (.iconst (-1), 1) := eX0_letAny_0.2.2.1
theorem dX0_letAny_5 : decode cX0_letAny 5 = .ok (.invokestatic 47, 3) := eX0_letAny_0.2.2.2.1
theorem dX0_letAny_8 : decode cX0_letAny 8 = .ok (.return_, 1) := eX0_letAny_0.2.2.2.2
theorem eX0_letOnly_0 : (decode cX0_letOnly 0 = .ok (.aload_n 0, 1)) ∧ (decode cX0_letOnly 1 = .ok (.getfield 18, 3)) ∧ (decode cX0_letOnly 4 = .ok (.iload_n 1, 1)) ∧ (decode cX0_letOnly 5 = .ok (.iconst 1, 1)) ∧ (decode cX0_letOnly 6 = .ok (.isub, 1)) ∧ (decode cX0_letOnly 7 = .ok (.iload_n 2, 1)) ∧ (decode cX0_letOnly 8 = .ok (.iastore, 1)) ∧ (decode cX0_letOnly 9 = .ok (.return_, 1)) := by decide +kernel
theorem dX0_letOnly_0 : decode cX0_letOnly 0 = .ok (.aload_n 0, 1) := eX0_letOnly_0.1
theorem dX0_letOnly_1 : decode cX0_letOnly 1 = .ok (.getfield 18, 3) := eX0_letOnly_0.2.1
theorem dX0_letOnly_4 : decode cX0_letOnly 4 = .ok (.iload_n 1, 1) := eX0_letOnly_0.2.2.1
theorem dX0_letOnly_5 : decode cX0_letOnly 5 = .ok (.iconst 1, 1) := eX0_letOnly_0.2.2.2.1
theorem dX0_letOnly_6 : decode cX0_letOnly 6 = .ok (.isub, 1) := eX0_letOnly_0.2.2.2.2.1
theorem dX0_letOnly_7 : decode cX0_letOnly 7 = .ok (.iload_n 2, 1) := eX0_letOnly_0.2.2.2.2.2.1
theorem dX0_letOnly_8 : decode cX0_letOnly 8 = .ok (.iastore, 1) := eX0_letOnly_0.2.2.2.2.2.2.1
theorem dX0_letOnly_9 : decode cX0_letOnly 9 = .ok (.return_, 1) := eX0_letOnly_0.2.2.2.2.2.2.2
theorem eX0_findBelow_0 : (decode cX0_findBelow 0 = .ok (.aload_n 0, 1)) ∧ (decode cX0_findBelow 1 = .ok (.lconst 1, 1)) ∧ (decode cX0_findBelow 2 = .ok (.putfield 38, 3)) ∧ (decode cX0_findBelow 5 = .ok (.iconst 0, 1)) ∧ (decode cX0_findBelow 6 = .ok (.istore_n 3, 1)) ∧ (decode cX0_findBelow 7 = .ok (.iload_n 3, 1)) ∧ (decode cX0_findBelow 8 = .ok (.iload_n 2, 1)) ∧ (decode cX0_findBelow 9 = .ok (.if_icmp .ge 43, 3)) := by decide +kernel
theorem dX0_findBelow_0 : decode cX0_findBelow 0 = .ok (.aload_n 0, 1) := eX0_findBelow_0.1
theorem dX0_findBelow_1 : decode cX0_findBelow 1 = .ok (.lconst 1, 1) := eX0_findBelow_0.2.1
theorem dX0_findBelow_2 : decode cX0_findBelow 2 = .ok (.putfield 38, 3) := eX0_findBelow_0.2.2.1
theorem dX0_findBelow_5 : decode cX0_findBelow 5 = .ok (.iconst 0, 1) := eX0_findBelow_0.2.2.2.1
theorem dX0_findBelow_6 : decode cX0_findBelow 6 = .ok (.istore_n 3, 1) := eX0_findBelow_0.2.2.2.2.1
theorem dX0_findBelow_7 : decode cX0_findBelow 7 = .ok (.iload_n 3, 1) := eX0_findBelow_0.2.2.2.2.2.1
theorem dX0_findBelow_8 : decode cX0_findBelow 8 = .ok (.iload_n 2, 1) := eX0_findBelow_0.2.2.2.2.2.2.1
theorem dX0_findBelow_9 : decode cX0_findBelow 9 = .ok (.if_icmp .ge 43, 3) := eX0_findBelow_0.2.2.2.2.2.2.2
theorem eX0_findBelow_12 : (decode cX0_findBelow 12 = .ok (.aload_n 1, 1)) ∧ (decode cX0_findBelow 13 = .ok (.iload_n 3, 1)) ∧ (decode cX0_findBelow 14 = .ok (.invokestatic 53, 3)) ∧ (decode cX0_findBelow 17 = .ok (.lstore 4, 2)) ∧ (decode cX0_findBelow 19 = .ok (.aload_n 0, 1)) ∧ (decode cX0_findBelow 20 = .ok (.getfield 38, 3)) ∧ (decode cX0_findBelow 23 = .ok (.ldc2_w 57, 3)) ∧ (decode cX0_findBelow 26 = .ok (.lload 4, 2)) := by decide +kernel
theorem dX0_findBelow_12 : decode cX0_findBelow 12 = .ok (.aload_n 1, 1) := eX0_findBelow_12.1
theorem dX0_findBelow_13 : decode cX0_findBelow 13 = .ok (.iload_n 3, 1) := eX0_findBelow_12.2.1
theorem dX0_findBelow_14 : decode cX0_findBelow 14 = .ok (.invokestatic 53, 3) := eX0_findBelow_12.2.2.1
theorem dX0_findBelow_17 : decode cX0_findBelow 17 = .ok (.lstore 4, 2) := eX0_findBelow_12.2.2.2.1
theorem dX0_findBelow_19 : decode cX0_findBelow 19 = .ok (.aload_n 0, 1) := eX0_findBelow_12.2.2.2.2.1
theorem dX0_findBelow_20 : decode cX0_findBelow 20 = .ok (.getfield 38, 3) := eX0_findBelow_12.2.2.2.2.2.1
theorem dX0_findBelow_23 : decode cX0_findBelow 23 = .ok (.ldc2_w 57, 3) := eX0_findBelow_12.2.2.2.2.2.2.1
theorem dX0_findBelow_26 : decode cX0_findBelow 26 = .ok (.lload 4, 2) := eX0_findBelow_12.2.2.2.2.2.2.2
theorem eX0_findBelow_28 : (decode cX0_findBelow 28 = .ok (.ldiv, 1)) ∧ (decode cX0_findBelow 29 = .ok (.lcmp, 1)) ∧ (decode cX0_findBelow 30 = .ok (.ifCond .le 5, 3)) ∧ (decode cX0_findBelow 33 = .ok (.iconst 0, 1)) ∧ (decode cX0_findBelow 34 = .ok (.ireturn, 1)) ∧ (decode cX0_findBelow 35 = .ok (.aload_n 0, 1)) ∧ (decode cX0_findBelow 36 = .ok (.dup, 1)) ∧ (decode cX0_findBelow 37 = .ok (.getfield 38, 3)) := by decide +kernel
theorem dX0_findBelow_28 : decode cX0_findBelow 28 = .ok (.ldiv, 1) := eX0_findBelow_28.1
theorem dX0_findBelow_29 : decode cX0_findBelow 29 = .ok (.lcmp, 1) := eX0_findBelow_28.2.1
theorem dX0_findBelow_30 : decode cX0_findBelow 30 = .ok (.ifCond .le 5, 3) := eX0_findBelow_28.2.2.1
theorem dX0_findBelow_33 : decode cX0_findBelow 33 = .ok (.iconst 0, 1) := eX0_findBelow_28.2.2.2.1
theorem dX0_findBelow_34 : decode cX0_findBelow 34 = .ok (.ireturn, 1) := eX0_findBelow_28.2.2.2.2.1
theorem dX0_findBelow_35 : decode cX0_findBelow 35 = .ok (.aload_n 0, 1) := eX0_findBelow_28.2.2.2.2.2.1
theorem dX0_findBelow_36 : decode cX0_findBelow 36 = .ok (.dup, 1) := eX0_findBelow_28.2.2.2.2.2.2.1
theorem dX0_findBelow_37 : decode cX0_findBelow 37 = .ok (.getfield 38, 3) := eX0_findBelow_28.2.2.2.2.2.2.2
theorem eX0_findBelow_40 : (decode cX0_findBelow 40 = .ok (.lload 4, 2)) ∧ (decode cX0_findBelow 42 = .ok (.lmul, 1)) ∧ (decode cX0_findBelow 43 = .ok (.putfield 38, 3)) ∧ (decode cX0_findBelow 46 = .ok (.iinc 3 1, 3)) ∧ (decode cX0_findBelow 49 = .ok (.goto (-42), 3)) ∧ (decode cX0_findBelow 52 = .ok (.iconst 1, 1)) ∧ (decode cX0_findBelow 53 = .ok (.ireturn, 1)) := by decide +kernel
theorem dX0_findBelow_40 : decode cX0_findBelow 40 = .ok (.lload 4, 2) := eX0_findBelow_40.1
theorem dX0_findBelow_42 : decode cX0_findBelow 42 = .ok (.lmul, 1) := eX0_findBelow_40.2.1
theorem dX0_findBelow_43 : decode cX0_findBelow 43 = .ok (.putfield 38, 3) := eX0_findBelow_40.2.2.1
theorem dX0_findBelow_46 : decode cX0_findBelow 46 = .ok (.iinc 3 1, 3) := eX0_findBelow_40.2.2.2.1
theorem dX0_findBelow_49 : decode cX0_findBelow 49 = .ok (.goto (-42), 3) := eX0_findBelow_40.2.2.2.2.1
theorem dX0_findBelow_52 : decode cX0_findBelow 52 = .ok (.iconst 1, 1) := eX0_findBelow_40.2.2.2.2.2.1
theorem dX0_findBelow_53 : decode cX0_findBelow 53 = .ok (.ireturn, 1) := eX0_findBelow_40.2.2.2.2.2.2
theorem eX0_factorAt_0 : (decode cX0_factorAt 0 = .ok (.aload_n 0, 1)) ∧ (decode cX0_factorAt 1 = .ok (.invokevirtual 59, 3)) ∧ (decode cX0_factorAt 4 = .ok (.iload_n 1, 1)) ∧ (decode cX0_factorAt 5 = .ok (.aload_n 0, 1)) ∧ (decode cX0_factorAt 6 = .ok (.iconst 0, 1)) ∧ (decode cX0_factorAt 7 = .ok (.invokevirtual 65, 3)) ∧ (decode cX0_factorAt 10 = .ok (.imul, 1)) ∧ (decode cX0_factorAt 11 = .ok (.iadd, 1)) := by decide +kernel
theorem dX0_factorAt_0 : decode cX0_factorAt 0 = .ok (.aload_n 0, 1) := eX0_factorAt_0.1
theorem dX0_factorAt_1 : decode cX0_factorAt 1 = .ok (.invokevirtual 59, 3) := eX0_factorAt_0.2.1
theorem dX0_factorAt_4 : decode cX0_factorAt 4 = .ok (.iload_n 1, 1) := eX0_factorAt_0.2.2.1
theorem dX0_factorAt_5 : decode cX0_factorAt 5 = .ok (.aload_n 0, 1) := eX0_factorAt_0.2.2.2.1
theorem dX0_factorAt_6 : decode cX0_factorAt 6 = .ok (.iconst 0, 1) := eX0_factorAt_0.2.2.2.2.1
theorem dX0_factorAt_7 : decode cX0_factorAt 7 = .ok (.invokevirtual 65, 3) := eX0_factorAt_0.2.2.2.2.2.1
theorem dX0_factorAt_10 : decode cX0_factorAt 10 = .ok (.imul, 1) := eX0_factorAt_0.2.2.2.2.2.2.1
theorem dX0_factorAt_11 : decode cX0_factorAt 11 = .ok (.iadd, 1) := eX0_factorAt_0.2.2.2.2.2.2.2
theorem eX0_factorAt_12 : (decode cX0_factorAt 12 = .ok (.istore_n 2, 1)) ∧ (decode cX0_factorAt 13 = .ok (.iload_n 2, 1)) ∧ (decode cX0_factorAt 14 = .ok (.ifCond .le 8, 3)) ∧ (decode cX0_factorAt 17 = .ok (.iload_n 2, 1)) ∧ (decode cX0_factorAt 18 = .ok (.i2l, 1)) ∧ (decode cX0_factorAt 19 = .ok (.goto 4, 3)) ∧ (decode cX0_factorAt 22 = .ok (.lconst 1, 1)) ∧ (decode cX0_factorAt 23 = .ok (.lreturn, 1)) := by decide +kernel
theorem dX0_factorAt_12 : decode cX0_factorAt 12 = .ok (.istore_n 2, 1) := eX0_factorAt_12.1
theorem dX0_factorAt_13 : decode cX0_factorAt 13 = .ok (.iload_n 2, 1) := eX0_factorAt_12.2.1
theorem dX0_factorAt_14 : decode cX0_factorAt 14 = .ok (.ifCond .le 8, 3) := eX0_factorAt_12.2.2.1
theorem dX0_factorAt_17 : decode cX0_factorAt 17 = .ok (.iload_n 2, 1) := eX0_factorAt_12.2.2.2.1
theorem dX0_factorAt_18 : decode cX0_factorAt 18 = .ok (.i2l, 1) := eX0_factorAt_12.2.2.2.2.1
theorem dX0_factorAt_19 : decode cX0_factorAt 19 = .ok (.goto 4, 3) := eX0_factorAt_12.2.2.2.2.2.1
theorem dX0_factorAt_22 : decode cX0_factorAt 22 = .ok (.lconst 1, 1) := eX0_factorAt_12.2.2.2.2.2.2.1
theorem dX0_factorAt_23 : decode cX0_factorAt 23 = .ok (.lreturn, 1) := eX0_factorAt_12.2.2.2.2.2.2.2
theorem eX0_countRows_0 : (decode cX0_countRows 0 = .ok (.aload_n 0, 1)) ∧ (decode cX0_countRows 1 = .ok (.aload_n 1, 1)) ∧ (decode cX0_countRows 2 = .ok (.iload_n 2, 1)) ∧ (decode cX0_countRows 3 = .ok (.iconst 0, 1)) ∧ (decode cX0_countRows 4 = .ok (.iconst 0, 1)) ∧ (decode cX0_countRows 5 = .ok (.invokevirtual 69, 3)) ∧ (decode cX0_countRows 8 = .ok (.aload_n 0, 1)) ∧ (decode cX0_countRows 9 = .ok (.invokevirtual 73, 3)) := by decide +kernel
theorem dX0_countRows_0 : decode cX0_countRows 0 = .ok (.aload_n 0, 1) := eX0_countRows_0.1
theorem dX0_countRows_1 : decode cX0_countRows 1 = .ok (.aload_n 1, 1) := eX0_countRows_0.2.1
theorem dX0_countRows_2 : decode cX0_countRows 2 = .ok (.iload_n 2, 1) := eX0_countRows_0.2.2.1
theorem dX0_countRows_3 : decode cX0_countRows 3 = .ok (.iconst 0, 1) := eX0_countRows_0.2.2.2.1
theorem dX0_countRows_4 : decode cX0_countRows 4 = .ok (.iconst 0, 1) := eX0_countRows_0.2.2.2.2.1
theorem dX0_countRows_5 : decode cX0_countRows 5 = .ok (.invokevirtual 69, 3) := eX0_countRows_0.2.2.2.2.2.1
theorem dX0_countRows_8 : decode cX0_countRows 8 = .ok (.aload_n 0, 1) := eX0_countRows_0.2.2.2.2.2.2.1
theorem dX0_countRows_9 : decode cX0_countRows 9 = .ok (.invokevirtual 73, 3) := eX0_countRows_0.2.2.2.2.2.2.2
theorem dX0_countRows_12 : decode cX0_countRows 12 = .ok (.lreturn, 1) := by decide +kernel
theorem eX0_weigh_0 : (decode cX0_weigh 0 = .ok (.aload_n 0, 1)) ∧ (decode cX0_weigh 1 = .ok (.aload_n 1, 1)) ∧ (decode cX0_weigh 2 = .ok (.iload_n 2, 1)) ∧ (decode cX0_weigh 3 = .ok (.iload_n 3, 1)) ∧ (decode cX0_weigh 4 = .ok (.iconst 1, 1)) ∧ (decode cX0_weigh 5 = .ok (.invokevirtual 69, 3)) ∧ (decode cX0_weigh 8 = .ok (.return_, 1)) := by decide +kernel
theorem dX0_weigh_0 : decode cX0_weigh 0 = .ok (.aload_n 0, 1) := eX0_weigh_0.1
theorem dX0_weigh_1 : decode cX0_weigh 1 = .ok (.aload_n 1, 1) := eX0_weigh_0.2.1
theorem dX0_weigh_2 : decode cX0_weigh 2 = .ok (.iload_n 2, 1) := eX0_weigh_0.2.2.1
theorem dX0_weigh_3 : decode cX0_weigh 3 = .ok (.iload_n 3, 1) := eX0_weigh_0.2.2.2.1
theorem dX0_weigh_4 : decode cX0_weigh 4 = .ok (.iconst 1, 1) := eX0_weigh_0.2.2.2.2.1
theorem dX0_weigh_5 : decode cX0_weigh 5 = .ok (.invokevirtual 69, 3) := eX0_weigh_0.2.2.2.2.2.1
theorem dX0_weigh_8 : decode cX0_weigh 8 = .ok (.return_, 1) := eX0_weigh_0.2.2.2.2.2.2
theorem eX0_through_0 : (decode cX0_through 0 = .ok (.lconst 0, 1)) ∧ (decode cX0_through 1 = .ok (.lstore_n 1, 1)) ∧ (decode cX0_through 2 = .ok (.aload_n 0, 1)) ∧ (decode cX0_through 3 = .ok (.getfield 28, 3)) ∧ (decode cX0_through 6 = .ok (.astore_n 3, 1)) ∧ (decode cX0_through 7 = .ok (.aload_n 3, 1)) ∧ (decode cX0_through 8 = .ok (.arraylength, 1)) ∧ (decode cX0_through 9 = .ok (.istore 4, 2)) := by decide +kernel
theorem dX0_through_0 : decode cX0_through 0 = .ok (.lconst 0, 1) := eX0_through_0.1
theorem dX0_through_1 : decode cX0_through 1 = .ok (.lstore_n 1, 1) := eX0_through_0.2.1
theorem dX0_through_2 : decode cX0_through 2 = .ok (.aload_n 0, 1) := eX0_through_0.2.2.1
theorem dX0_through_3 : decode cX0_through 3 = .ok (.getfield 28, 3) := eX0_through_0.2.2.2.1
theorem dX0_through_6 : decode cX0_through 6 = .ok (.astore_n 3, 1) := eX0_through_0.2.2.2.2.1
theorem dX0_through_7 : decode cX0_through 7 = .ok (.aload_n 3, 1) := eX0_through_0.2.2.2.2.2.1
theorem dX0_through_8 : decode cX0_through 8 = .ok (.arraylength, 1) := eX0_through_0.2.2.2.2.2.2.1
theorem dX0_through_9 : decode cX0_through 9 = .ok (.istore 4, 2) := eX0_through_0.2.2.2.2.2.2.2
theorem eX0_through_11 : (decode cX0_through 11 = .ok (.iconst 0, 1)) ∧ (decode cX0_through 12 = .ok (.istore 5, 2)) ∧ (decode cX0_through 14 = .ok (.iload 5, 2)) ∧ (decode cX0_through 16 = .ok (.iload 4, 2)) ∧ (decode cX0_through 18 = .ok (.if_icmp .ge 20, 3)) ∧ (decode cX0_through 21 = .ok (.aload_n 3, 1)) ∧ (decode cX0_through 22 = .ok (.iload 5, 2)) ∧ (decode cX0_through 24 = .ok (.laload, 1)) := by decide +kernel
theorem dX0_through_11 : decode cX0_through 11 = .ok (.iconst 0, 1) := eX0_through_11.1
theorem dX0_through_12 : decode cX0_through 12 = .ok (.istore 5, 2) := eX0_through_11.2.1
theorem dX0_through_14 : decode cX0_through 14 = .ok (.iload 5, 2) := eX0_through_11.2.2.1
theorem dX0_through_16 : decode cX0_through 16 = .ok (.iload 4, 2) := eX0_through_11.2.2.2.1
theorem dX0_through_18 : decode cX0_through 18 = .ok (.if_icmp .ge 20, 3) := eX0_through_11.2.2.2.2.1
theorem dX0_through_21 : decode cX0_through 21 = .ok (.aload_n 3, 1) := eX0_through_11.2.2.2.2.2.1
theorem dX0_through_22 : decode cX0_through 22 = .ok (.iload 5, 2) := eX0_through_11.2.2.2.2.2.2.1
theorem dX0_through_24 : decode cX0_through 24 = .ok (.laload, 1) := eX0_through_11.2.2.2.2.2.2.2
theorem eX0_through_25 : (decode cX0_through 25 = .ok (.lstore 6, 2)) ∧ (decode cX0_through 27 = .ok (.lload_n 1, 1)) ∧ (decode cX0_through 28 = .ok (.lload 6, 2)) ∧ (decode cX0_through 30 = .ok (.ladd, 1)) ∧ (decode cX0_through 31 = .ok (.lstore_n 1, 1)) ∧ (decode cX0_through 32 = .ok (.iinc 5 1, 3)) ∧ (decode cX0_through 35 = .ok (.goto (-21), 3)) ∧ (decode cX0_through 38 = .ok (.lload_n 1, 1)) := by decide +kernel
theorem dX0_through_25 : decode cX0_through 25 = .ok (.lstore 6, 2) := eX0_through_25.1
theorem dX0_through_27 : decode cX0_through 27 = .ok (.lload_n 1, 1) := eX0_through_25.2.1
theorem dX0_through_28 : decode cX0_through 28 = .ok (.lload 6, 2) := eX0_through_25.2.2.1
theorem dX0_through_30 : decode cX0_through 30 = .ok (.ladd, 1) := eX0_through_25.2.2.2.1
theorem dX0_through_31 : decode cX0_through 31 = .ok (.lstore_n 1, 1) := eX0_through_25.2.2.2.2.1
theorem dX0_through_32 : decode cX0_through 32 = .ok (.iinc 5 1, 3) := eX0_through_25.2.2.2.2.2.1
theorem dX0_through_35 : decode cX0_through 35 = .ok (.goto (-21), 3) := eX0_through_25.2.2.2.2.2.2.1
theorem dX0_through_38 : decode cX0_through 38 = .ok (.lload_n 1, 1) := eX0_through_25.2.2.2.2.2.2.2
theorem dX0_through_39 : decode cX0_through 39 = .ok (.lreturn, 1) := by decide +kernel
theorem eX0_findMean_0 : (decode cX0_findMean 0 = .ok (.aload_n 0, 1)) ∧ (decode cX0_findMean 1 = .ok (.lconst 0, 1)) ∧ (decode cX0_findMean 2 = .ok (.putfield 41, 3)) ∧ (decode cX0_findMean 5 = .ok (.aload_n 0, 1)) ∧ (decode cX0_findMean 6 = .ok (.lconst 0, 1)) ∧ (decode cX0_findMean 7 = .ok (.putfield 44, 3)) ∧ (decode cX0_findMean 10 = .ok (.aload_n 0, 1)) ∧ (decode cX0_findMean 11 = .ok (.getfield 38, 3)) := by decide +kernel
theorem dX0_findMean_0 : decode cX0_findMean 0 = .ok (.aload_n 0, 1) := eX0_findMean_0.1
theorem dX0_findMean_1 : decode cX0_findMean 1 = .ok (.lconst 0, 1) := eX0_findMean_0.2.1
theorem dX0_findMean_2 : decode cX0_findMean 2 = .ok (.putfield 41, 3) := eX0_findMean_0.2.2.1
theorem dX0_findMean_5 : decode cX0_findMean 5 = .ok (.aload_n 0, 1) := eX0_findMean_0.2.2.2.1
theorem dX0_findMean_6 : decode cX0_findMean 6 = .ok (.lconst 0, 1) := eX0_findMean_0.2.2.2.2.1
theorem dX0_findMean_7 : decode cX0_findMean 7 = .ok (.putfield 44, 3) := eX0_findMean_0.2.2.2.2.2.1
theorem dX0_findMean_10 : decode cX0_findMean 10 = .ok (.aload_n 0, 1) := eX0_findMean_0.2.2.2.2.2.2.1
theorem dX0_findMean_11 : decode cX0_findMean 11 = .ok (.getfield 38, 3) := eX0_findMean_0.2.2.2.2.2.2.2
theorem eX0_findMean_14 : (decode cX0_findMean 14 = .ok (.lconst 1, 1)) ∧ (decode cX0_findMean 15 = .ok (.lcmp, 1)) ∧ (decode cX0_findMean 16 = .ok (.ifCond .ge 4, 3)) ∧ (decode cX0_findMean 19 = .ok (.return_, 1)) ∧ (decode cX0_findMean 20 = .ok (.iconst 1, 1)) ∧ (decode cX0_findMean 21 = .ok (.istore_n 2, 1)) ∧ (decode cX0_findMean 22 = .ok (.iload_n 2, 1)) ∧ (decode cX0_findMean 23 = .ok (.sipush 200, 3)) := by decide +kernel
theorem dX0_findMean_14 : decode cX0_findMean 14 = .ok (.lconst 1, 1) := eX0_findMean_14.1
theorem dX0_findMean_15 : decode cX0_findMean 15 = .ok (.lcmp, 1) := eX0_findMean_14.2.1
theorem dX0_findMean_16 : decode cX0_findMean 16 = .ok (.ifCond .ge 4, 3) := eX0_findMean_14.2.2.1
theorem dX0_findMean_19 : decode cX0_findMean 19 = .ok (.return_, 1) := eX0_findMean_14.2.2.2.1
theorem dX0_findMean_20 : decode cX0_findMean 20 = .ok (.iconst 1, 1) := eX0_findMean_14.2.2.2.2.1
theorem dX0_findMean_21 : decode cX0_findMean 21 = .ok (.istore_n 2, 1) := eX0_findMean_14.2.2.2.2.2.1
theorem dX0_findMean_22 : decode cX0_findMean 22 = .ok (.iload_n 2, 1) := eX0_findMean_14.2.2.2.2.2.2.1
theorem dX0_findMean_23 : decode cX0_findMean 23 = .ok (.sipush 200, 3) := eX0_findMean_14.2.2.2.2.2.2.2
theorem eX0_findMean_26 : (decode cX0_findMean 26 = .ok (.if_icmp .gt 111, 3)) ∧ (decode cX0_findMean 29 = .ok (.lconst 0, 1)) ∧ (decode cX0_findMean 30 = .ok (.lstore_n 3, 1)) ∧ (decode cX0_findMean 31 = .ok (.aload_n 0, 1)) ∧ (decode cX0_findMean 32 = .ok (.getfield 31, 3)) ∧ (decode cX0_findMean 35 = .ok (.iload_n 2, 1)) ∧ (decode cX0_findMean 36 = .ok (.laload, 1)) ∧ (decode cX0_findMean 37 = .ok (.lstore 5, 2)) := by decide +kernel
theorem dX0_findMean_26 : decode cX0_findMean 26 = .ok (.if_icmp .gt 111, 3) := eX0_findMean_26.1
theorem dX0_findMean_29 : decode cX0_findMean 29 = .ok (.lconst 0, 1) := eX0_findMean_26.2.1
theorem dX0_findMean_30 : decode cX0_findMean 30 = .ok (.lstore_n 3, 1) := eX0_findMean_26.2.2.1
theorem dX0_findMean_31 : decode cX0_findMean 31 = .ok (.aload_n 0, 1) := eX0_findMean_26.2.2.2.1
theorem dX0_findMean_32 : decode cX0_findMean 32 = .ok (.getfield 31, 3) := eX0_findMean_26.2.2.2.2.1
theorem dX0_findMean_35 : decode cX0_findMean 35 = .ok (.iload_n 2, 1) := eX0_findMean_26.2.2.2.2.2.1
theorem dX0_findMean_36 : decode cX0_findMean 36 = .ok (.laload, 1) := eX0_findMean_26.2.2.2.2.2.2.1
theorem dX0_findMean_37 : decode cX0_findMean 37 = .ok (.lstore 5, 2) := eX0_findMean_26.2.2.2.2.2.2.2
theorem eX0_findMean_39 : (decode cX0_findMean 39 = .ok (.iconst 0, 1)) ∧ (decode cX0_findMean 40 = .ok (.istore 7, 2)) ∧ (decode cX0_findMean 42 = .ok (.iload 7, 2)) ∧ (decode cX0_findMean 44 = .ok (.iload_n 1, 1)) ∧ (decode cX0_findMean 45 = .ok (.if_icmp .ge 47, 3)) ∧ (decode cX0_findMean 48 = .ok (.lload 5, 2)) ∧ (decode cX0_findMean 50 = .ok (.lload_n 3, 1)) ∧ (decode cX0_findMean 51 = .ok (.ladd, 1)) := by decide +kernel
theorem dX0_findMean_39 : decode cX0_findMean 39 = .ok (.iconst 0, 1) := eX0_findMean_39.1
theorem dX0_findMean_40 : decode cX0_findMean 40 = .ok (.istore 7, 2) := eX0_findMean_39.2.1
theorem dX0_findMean_42 : decode cX0_findMean 42 = .ok (.iload 7, 2) := eX0_findMean_39.2.2.1
theorem dX0_findMean_44 : decode cX0_findMean 44 = .ok (.iload_n 1, 1) := eX0_findMean_39.2.2.2.1
theorem dX0_findMean_45 : decode cX0_findMean 45 = .ok (.if_icmp .ge 47, 3) := eX0_findMean_39.2.2.2.2.1
theorem dX0_findMean_48 : decode cX0_findMean 48 = .ok (.lload 5, 2) := eX0_findMean_39.2.2.2.2.2.1
theorem dX0_findMean_50 : decode cX0_findMean 50 = .ok (.lload_n 3, 1) := eX0_findMean_39.2.2.2.2.2.2.1
theorem dX0_findMean_51 : decode cX0_findMean 51 = .ok (.ladd, 1) := eX0_findMean_39.2.2.2.2.2.2.2
theorem eX0_findMean_52 : (decode cX0_findMean 52 = .ok (.lconst 0, 1)) ∧ (decode cX0_findMean 53 = .ok (.lcmp, 1)) ∧ (decode cX0_findMean 54 = .ok (.ifCond .le 38, 3)) ∧ (decode cX0_findMean 57 = .ok (.lload 5, 2)) ∧ (decode cX0_findMean 59 = .ok (.iload_n 2, 1)) ∧ (decode cX0_findMean 60 = .ok (.i2l, 1)) ∧ (decode cX0_findMean 61 = .ok (.lmul, 1)) ∧ (decode cX0_findMean 62 = .ok (.lstore 8, 2)) := by decide +kernel
theorem dX0_findMean_52 : decode cX0_findMean 52 = .ok (.lconst 0, 1) := eX0_findMean_52.1
theorem dX0_findMean_53 : decode cX0_findMean 53 = .ok (.lcmp, 1) := eX0_findMean_52.2.1
theorem dX0_findMean_54 : decode cX0_findMean 54 = .ok (.ifCond .le 38, 3) := eX0_findMean_52.2.2.1
theorem dX0_findMean_57 : decode cX0_findMean 57 = .ok (.lload 5, 2) := eX0_findMean_52.2.2.2.1
theorem dX0_findMean_59 : decode cX0_findMean 59 = .ok (.iload_n 2, 1) := eX0_findMean_52.2.2.2.2.1
theorem dX0_findMean_60 : decode cX0_findMean 60 = .ok (.i2l, 1) := eX0_findMean_52.2.2.2.2.2.1
theorem dX0_findMean_61 : decode cX0_findMean 61 = .ok (.lmul, 1) := eX0_findMean_52.2.2.2.2.2.2.1
theorem dX0_findMean_62 : decode cX0_findMean 62 = .ok (.lstore 8, 2) := eX0_findMean_52.2.2.2.2.2.2.2
theorem eX0_findMean_64 : (decode cX0_findMean 64 = .ok (.lload_n 3, 1)) ∧ (decode cX0_findMean 65 = .ok (.iload_n 2, 1)) ∧ (decode cX0_findMean 66 = .ok (.i2l, 1)) ∧ (decode cX0_findMean 67 = .ok (.lmul, 1)) ∧ (decode cX0_findMean 68 = .ok (.lload 8, 2)) ∧ (decode cX0_findMean 70 = .ok (.aload_n 0, 1)) ∧ (decode cX0_findMean 71 = .ok (.getfield 38, 3)) ∧ (decode cX0_findMean 74 = .ok (.ldiv, 1)) := by decide +kernel
theorem dX0_findMean_64 : decode cX0_findMean 64 = .ok (.lload_n 3, 1) := eX0_findMean_64.1
theorem dX0_findMean_65 : decode cX0_findMean 65 = .ok (.iload_n 2, 1) := eX0_findMean_64.2.1
theorem dX0_findMean_66 : decode cX0_findMean 66 = .ok (.i2l, 1) := eX0_findMean_64.2.2.1
theorem dX0_findMean_67 : decode cX0_findMean 67 = .ok (.lmul, 1) := eX0_findMean_64.2.2.2.1
theorem dX0_findMean_68 : decode cX0_findMean 68 = .ok (.lload 8, 2) := eX0_findMean_64.2.2.2.2.1
theorem dX0_findMean_70 : decode cX0_findMean 70 = .ok (.aload_n 0, 1) := eX0_findMean_64.2.2.2.2.2.1
theorem dX0_findMean_71 : decode cX0_findMean 71 = .ok (.getfield 38, 3) := eX0_findMean_64.2.2.2.2.2.2.1
theorem dX0_findMean_74 : decode cX0_findMean 74 = .ok (.ldiv, 1) := eX0_findMean_64.2.2.2.2.2.2.2
theorem eX0_findMean_75 : (decode cX0_findMean 75 = .ok (.ladd, 1)) ∧ (decode cX0_findMean 76 = .ok (.lstore_n 3, 1)) ∧ (decode cX0_findMean 77 = .ok (.lload 8, 2)) ∧ (decode cX0_findMean 79 = .ok (.aload_n 0, 1)) ∧ (decode cX0_findMean 80 = .ok (.getfield 38, 3)) ∧ (decode cX0_findMean 83 = .ok (.lrem, 1)) ∧ (decode cX0_findMean 84 = .ok (.lstore 5, 2)) ∧ (decode cX0_findMean 86 = .ok (.iinc 7 1, 3)) := by decide +kernel
theorem dX0_findMean_75 : decode cX0_findMean 75 = .ok (.ladd, 1) := eX0_findMean_75.1
theorem dX0_findMean_76 : decode cX0_findMean 76 = .ok (.lstore_n 3, 1) := eX0_findMean_75.2.1
theorem dX0_findMean_77 : decode cX0_findMean 77 = .ok (.lload 8, 2) := eX0_findMean_75.2.2.1
theorem dX0_findMean_79 : decode cX0_findMean 79 = .ok (.aload_n 0, 1) := eX0_findMean_75.2.2.2.1
theorem dX0_findMean_80 : decode cX0_findMean 80 = .ok (.getfield 38, 3) := eX0_findMean_75.2.2.2.2.1
theorem dX0_findMean_83 : decode cX0_findMean 83 = .ok (.lrem, 1) := eX0_findMean_75.2.2.2.2.2.1
theorem dX0_findMean_84 : decode cX0_findMean 84 = .ok (.lstore 5, 2) := eX0_findMean_75.2.2.2.2.2.2.1
theorem dX0_findMean_86 : decode cX0_findMean 86 = .ok (.iinc 7 1, 3) := eX0_findMean_75.2.2.2.2.2.2.2
theorem eX0_findMean_89 : (decode cX0_findMean 89 = .ok (.goto (-47), 3)) ∧ (decode cX0_findMean 92 = .ok (.aload_n 0, 1)) ∧ (decode cX0_findMean 93 = .ok (.dup, 1)) ∧ (decode cX0_findMean 94 = .ok (.getfield 41, 3)) ∧ (decode cX0_findMean 97 = .ok (.lload_n 3, 1)) ∧ (decode cX0_findMean 98 = .ok (.aload_n 0, 1)) ∧ (decode cX0_findMean 99 = .ok (.getfield 44, 3)) ∧ (decode cX0_findMean 102 = .ok (.lload 5, 2)) := by decide +kernel
theorem dX0_findMean_89 : decode cX0_findMean 89 = .ok (.goto (-47), 3) := eX0_findMean_89.1
theorem dX0_findMean_92 : decode cX0_findMean 92 = .ok (.aload_n 0, 1) := eX0_findMean_89.2.1
theorem dX0_findMean_93 : decode cX0_findMean 93 = .ok (.dup, 1) := eX0_findMean_89.2.2.1
theorem dX0_findMean_94 : decode cX0_findMean 94 = .ok (.getfield 41, 3) := eX0_findMean_89.2.2.2.1
theorem dX0_findMean_97 : decode cX0_findMean 97 = .ok (.lload_n 3, 1) := eX0_findMean_89.2.2.2.2.1
theorem dX0_findMean_98 : decode cX0_findMean 98 = .ok (.aload_n 0, 1) := eX0_findMean_89.2.2.2.2.2.1
theorem dX0_findMean_99 : decode cX0_findMean 99 = .ok (.getfield 44, 3) := eX0_findMean_89.2.2.2.2.2.2.1
theorem dX0_findMean_102 : decode cX0_findMean 102 = .ok (.lload 5, 2) := eX0_findMean_89.2.2.2.2.2.2.2
theorem eX0_findMean_104 : (decode cX0_findMean 104 = .ok (.ladd, 1)) ∧ (decode cX0_findMean 105 = .ok (.aload_n 0, 1)) ∧ (decode cX0_findMean 106 = .ok (.getfield 38, 3)) ∧ (decode cX0_findMean 109 = .ok (.ldiv, 1)) ∧ (decode cX0_findMean 110 = .ok (.ladd, 1)) ∧ (decode cX0_findMean 111 = .ok (.ladd, 1)) ∧ (decode cX0_findMean 112 = .ok (.putfield 41, 3)) ∧ (decode cX0_findMean 115 = .ok (.aload_n 0, 1)) := by decide +kernel
theorem dX0_findMean_104 : decode cX0_findMean 104 = .ok (.ladd, 1) := eX0_findMean_104.1
theorem dX0_findMean_105 : decode cX0_findMean 105 = .ok (.aload_n 0, 1) := eX0_findMean_104.2.1
theorem dX0_findMean_106 : decode cX0_findMean 106 = .ok (.getfield 38, 3) := eX0_findMean_104.2.2.1
theorem dX0_findMean_109 : decode cX0_findMean 109 = .ok (.ldiv, 1) := eX0_findMean_104.2.2.2.1
theorem dX0_findMean_110 : decode cX0_findMean 110 = .ok (.ladd, 1) := eX0_findMean_104.2.2.2.2.1
theorem dX0_findMean_111 : decode cX0_findMean 111 = .ok (.ladd, 1) := eX0_findMean_104.2.2.2.2.2.1
theorem dX0_findMean_112 : decode cX0_findMean 112 = .ok (.putfield 41, 3) := eX0_findMean_104.2.2.2.2.2.2.1
theorem dX0_findMean_115 : decode cX0_findMean 115 = .ok (.aload_n 0, 1) := eX0_findMean_104.2.2.2.2.2.2.2
theorem eX0_findMean_116 : (decode cX0_findMean 116 = .ok (.aload_n 0, 1)) ∧ (decode cX0_findMean 117 = .ok (.getfield 44, 3)) ∧ (decode cX0_findMean 120 = .ok (.lload 5, 2)) ∧ (decode cX0_findMean 122 = .ok (.ladd, 1)) ∧ (decode cX0_findMean 123 = .ok (.aload_n 0, 1)) ∧ (decode cX0_findMean 124 = .ok (.getfield 38, 3)) ∧ (decode cX0_findMean 127 = .ok (.lrem, 1)) ∧ (decode cX0_findMean 128 = .ok (.putfield 44, 3)) := by decide +kernel
theorem dX0_findMean_116 : decode cX0_findMean 116 = .ok (.aload_n 0, 1) := eX0_findMean_116.1
theorem dX0_findMean_117 : decode cX0_findMean 117 = .ok (.getfield 44, 3) := eX0_findMean_116.2.1
theorem dX0_findMean_120 : decode cX0_findMean 120 = .ok (.lload 5, 2) := eX0_findMean_116.2.2.1
theorem dX0_findMean_122 : decode cX0_findMean 122 = .ok (.ladd, 1) := eX0_findMean_116.2.2.2.1
theorem dX0_findMean_123 : decode cX0_findMean 123 = .ok (.aload_n 0, 1) := eX0_findMean_116.2.2.2.2.1
theorem dX0_findMean_124 : decode cX0_findMean 124 = .ok (.getfield 38, 3) := eX0_findMean_116.2.2.2.2.2.1
theorem dX0_findMean_127 : decode cX0_findMean 127 = .ok (.lrem, 1) := eX0_findMean_116.2.2.2.2.2.2.1
theorem dX0_findMean_128 : decode cX0_findMean 128 = .ok (.putfield 44, 3) := eX0_findMean_116.2.2.2.2.2.2.2
theorem eX0_findMean_131 : (decode cX0_findMean 131 = .ok (.iinc 2 1, 3)) ∧ (decode cX0_findMean 134 = .ok (.goto (-112), 3)) ∧ (decode cX0_findMean 137 = .ok (.return_, 1)) := by decide +kernel
theorem dX0_findMean_131 : decode cX0_findMean 131 = .ok (.iinc 2 1, 3) := eX0_findMean_131.1
theorem dX0_findMean_134 : decode cX0_findMean 134 = .ok (.goto (-112), 3) := eX0_findMean_131.2.1
theorem dX0_findMean_137 : decode cX0_findMean 137 = .ok (.return_, 1) := eX0_findMean_131.2.2
theorem eX0_walk_0 : (decode cX0_walk 0 = .ok (.aload_n 0, 1)) ∧ (decode cX0_walk 1 = .ok (.getfield 28, 3)) ∧ (decode cX0_walk 4 = .ok (.lconst 0, 1)) ∧ (decode cX0_walk 5 = .ok (.invokestatic 77, 3)) ∧ (decode cX0_walk 8 = .ok (.aload_n 0, 1)) ∧ (decode cX0_walk 9 = .ok (.lconst 0, 1)) ∧ (decode cX0_walk 10 = .ok (.putfield 34, 3)) ∧ (decode cX0_walk 13 = .ok (.aload_n 0, 1)) := by decide +kernel
theorem dX0_walk_0 : decode cX0_walk 0 = .ok (.aload_n 0, 1) := eX0_walk_0.1
theorem dX0_walk_1 : decode cX0_walk 1 = .ok (.getfield 28, 3) := eX0_walk_0.2.1
theorem dX0_walk_4 : decode cX0_walk 4 = .ok (.lconst 0, 1) := eX0_walk_0.2.2.1
theorem dX0_walk_5 : decode cX0_walk 5 = .ok (.invokestatic 77, 3) := eX0_walk_0.2.2.2.1
theorem dX0_walk_8 : decode cX0_walk 8 = .ok (.aload_n 0, 1) := eX0_walk_0.2.2.2.2.1
theorem dX0_walk_9 : decode cX0_walk 9 = .ok (.lconst 0, 1) := eX0_walk_0.2.2.2.2.2.1
theorem dX0_walk_10 : decode cX0_walk 10 = .ok (.putfield 34, 3) := eX0_walk_0.2.2.2.2.2.2.1
theorem dX0_walk_13 : decode cX0_walk 13 = .ok (.aload_n 0, 1) := eX0_walk_0.2.2.2.2.2.2.2
theorem eX0_walk_14 : (decode cX0_walk 14 = .ok (.getfield 31, 3)) ∧ (decode cX0_walk 17 = .ok (.lconst 0, 1)) ∧ (decode cX0_walk 18 = .ok (.invokestatic 77, 3)) ∧ (decode cX0_walk 21 = .ok (.aload_n 0, 1)) ∧ (decode cX0_walk 22 = .ok (.getfield 11, 3)) ∧ (decode cX0_walk 25 = .ok (.iconst 0, 1)) ∧ (decode cX0_walk 26 = .ok (.lconst 1, 1)) ∧ (decode cX0_walk 27 = .ok (.lastore, 1)) := by decide +kernel
theorem dX0_walk_14 : decode cX0_walk 14 = .ok (.getfield 31, 3) := eX0_walk_14.1
theorem dX0_walk_17 : decode cX0_walk 17 = .ok (.lconst 0, 1) := eX0_walk_14.2.1
theorem dX0_walk_18 : decode cX0_walk 18 = .ok (.invokestatic 77, 3) := eX0_walk_14.2.2.1
theorem dX0_walk_21 : decode cX0_walk 21 = .ok (.aload_n 0, 1) := eX0_walk_14.2.2.2.1
theorem dX0_walk_22 : decode cX0_walk 22 = .ok (.getfield 11, 3) := eX0_walk_14.2.2.2.2.1
theorem dX0_walk_25 : decode cX0_walk 25 = .ok (.iconst 0, 1) := eX0_walk_14.2.2.2.2.2.1
theorem dX0_walk_26 : decode cX0_walk 26 = .ok (.lconst 1, 1) := eX0_walk_14.2.2.2.2.2.2.1
theorem dX0_walk_27 : decode cX0_walk 27 = .ok (.lastore, 1) := eX0_walk_14.2.2.2.2.2.2.2
theorem eX0_walk_28 : (decode cX0_walk 28 = .ok (.iconst 0, 1)) ∧ (decode cX0_walk 29 = .ok (.istore 5, 2)) ∧ (decode cX0_walk 31 = .ok (.iload 5, 2)) ∧ (decode cX0_walk 33 = .ok (.iload_n 2, 1)) ∧ (decode cX0_walk 34 = .ok (.if_icmp .gt 61, 3)) ∧ (decode cX0_walk 37 = .ok (.iload 5, 2)) ∧ (decode cX0_walk 39 = .ok (.iload_n 2, 1)) ∧ (decode cX0_walk 40 = .ok (.if_icmp .ge 18, 3)) := by decide +kernel
theorem dX0_walk_28 : decode cX0_walk 28 = .ok (.iconst 0, 1) := eX0_walk_28.1
theorem dX0_walk_29 : decode cX0_walk 29 = .ok (.istore 5, 2) := eX0_walk_28.2.1
theorem dX0_walk_31 : decode cX0_walk 31 = .ok (.iload 5, 2) := eX0_walk_28.2.2.1
theorem dX0_walk_33 : decode cX0_walk 33 = .ok (.iload_n 2, 1) := eX0_walk_28.2.2.2.1
theorem dX0_walk_34 : decode cX0_walk 34 = .ok (.if_icmp .gt 61, 3) := eX0_walk_28.2.2.2.2.1
theorem dX0_walk_37 : decode cX0_walk 37 = .ok (.iload 5, 2) := eX0_walk_28.2.2.2.2.2.1
theorem dX0_walk_39 : decode cX0_walk 39 = .ok (.iload_n 2, 1) := eX0_walk_28.2.2.2.2.2.2.1
theorem dX0_walk_40 : decode cX0_walk 40 = .ok (.if_icmp .ge 18, 3) := eX0_walk_28.2.2.2.2.2.2.2
theorem eX0_walk_43 : (decode cX0_walk 43 = .ok (.aload_n 0, 1)) ∧ (decode cX0_walk 44 = .ok (.dup, 1)) ∧ (decode cX0_walk 45 = .ok (.getfield 34, 3)) ∧ (decode cX0_walk 48 = .ok (.aload_n 1, 1)) ∧ (decode cX0_walk 49 = .ok (.iload 5, 2)) ∧ (decode cX0_walk 51 = .ok (.invokestatic 53, 3)) ∧ (decode cX0_walk 54 = .ok (.lmul, 1)) ∧ (decode cX0_walk 55 = .ok (.putfield 34, 3)) := by decide +kernel
theorem dX0_walk_43 : decode cX0_walk 43 = .ok (.aload_n 0, 1) := eX0_walk_43.1
theorem dX0_walk_44 : decode cX0_walk 44 = .ok (.dup, 1) := eX0_walk_43.2.1
theorem dX0_walk_45 : decode cX0_walk 45 = .ok (.getfield 34, 3) := eX0_walk_43.2.2.1
theorem dX0_walk_48 : decode cX0_walk 48 = .ok (.aload_n 1, 1) := eX0_walk_43.2.2.2.1
theorem dX0_walk_49 : decode cX0_walk 49 = .ok (.iload 5, 2) := eX0_walk_43.2.2.2.2.1
theorem dX0_walk_51 : decode cX0_walk 51 = .ok (.invokestatic 53, 3) := eX0_walk_43.2.2.2.2.2.1
theorem dX0_walk_54 : decode cX0_walk 54 = .ok (.lmul, 1) := eX0_walk_43.2.2.2.2.2.2.1
theorem dX0_walk_55 : decode cX0_walk 55 = .ok (.putfield 34, 3) := eX0_walk_43.2.2.2.2.2.2.2
theorem eX0_walk_58 : (decode cX0_walk 58 = .ok (.aload_n 0, 1)) ∧ (decode cX0_walk 59 = .ok (.aload_n 1, 1)) ∧ (decode cX0_walk 60 = .ok (.iload 5, 2)) ∧ (decode cX0_walk 62 = .ok (.iload_n 2, 1)) ∧ (decode cX0_walk 63 = .ok (.iload_n 3, 1)) ∧ (decode cX0_walk 64 = .ok (.iload 4, 2)) ∧ (decode cX0_walk 66 = .ok (.invokevirtual 80, 3)) ∧ (decode cX0_walk 69 = .ok (.aload_n 0, 1)) := by decide +kernel
theorem dX0_walk_58 : decode cX0_walk 58 = .ok (.aload_n 0, 1) := eX0_walk_58.1
theorem dX0_walk_59 : decode cX0_walk 59 = .ok (.aload_n 1, 1) := eX0_walk_58.2.1
theorem dX0_walk_60 : decode cX0_walk 60 = .ok (.iload 5, 2) := eX0_walk_58.2.2.1
theorem dX0_walk_62 : decode cX0_walk 62 = .ok (.iload_n 2, 1) := eX0_walk_58.2.2.2.1
theorem dX0_walk_63 : decode cX0_walk 63 = .ok (.iload_n 3, 1) := eX0_walk_58.2.2.2.2.1
theorem dX0_walk_64 : decode cX0_walk 64 = .ok (.iload 4, 2) := eX0_walk_58.2.2.2.2.2.1
theorem dX0_walk_66 : decode cX0_walk 66 = .ok (.invokevirtual 80, 3) := eX0_walk_58.2.2.2.2.2.2.1
theorem dX0_walk_69 : decode cX0_walk 69 = .ok (.aload_n 0, 1) := eX0_walk_58.2.2.2.2.2.2.2
theorem eX0_walk_70 : (decode cX0_walk 70 = .ok (.getfield 11, 3)) ∧ (decode cX0_walk 73 = .ok (.astore 6, 2)) ∧ (decode cX0_walk 75 = .ok (.aload_n 0, 1)) ∧ (decode cX0_walk 76 = .ok (.aload_n 0, 1)) ∧ (decode cX0_walk 77 = .ok (.getfield 15, 3)) ∧ (decode cX0_walk 80 = .ok (.putfield 11, 3)) ∧ (decode cX0_walk 83 = .ok (.aload_n 0, 1)) ∧ (decode cX0_walk 84 = .ok (.aload 6, 2)) := by decide +kernel
theorem dX0_walk_70 : decode cX0_walk 70 = .ok (.getfield 11, 3) := eX0_walk_70.1
theorem dX0_walk_73 : decode cX0_walk 73 = .ok (.astore 6, 2) := eX0_walk_70.2.1
theorem dX0_walk_75 : decode cX0_walk 75 = .ok (.aload_n 0, 1) := eX0_walk_70.2.2.1
theorem dX0_walk_76 : decode cX0_walk 76 = .ok (.aload_n 0, 1) := eX0_walk_70.2.2.2.1
theorem dX0_walk_77 : decode cX0_walk 77 = .ok (.getfield 15, 3) := eX0_walk_70.2.2.2.2.1
theorem dX0_walk_80 : decode cX0_walk 80 = .ok (.putfield 11, 3) := eX0_walk_70.2.2.2.2.2.1
theorem dX0_walk_83 : decode cX0_walk 83 = .ok (.aload_n 0, 1) := eX0_walk_70.2.2.2.2.2.2.1
theorem dX0_walk_84 : decode cX0_walk 84 = .ok (.aload 6, 2) := eX0_walk_70.2.2.2.2.2.2.2
theorem eX0_walk_86 : (decode cX0_walk 86 = .ok (.putfield 15, 3)) ∧ (decode cX0_walk 89 = .ok (.iinc 5 1, 3)) ∧ (decode cX0_walk 92 = .ok (.goto (-61), 3)) ∧ (decode cX0_walk 95 = .ok (.return_, 1)) := by decide +kernel
theorem dX0_walk_86 : decode cX0_walk 86 = .ok (.putfield 15, 3) := eX0_walk_86.1
theorem dX0_walk_89 : decode cX0_walk 89 = .ok (.iinc 5 1, 3) := eX0_walk_86.2.1
theorem dX0_walk_92 : decode cX0_walk 92 = .ok (.goto (-61), 3) := eX0_walk_86.2.2.1
theorem dX0_walk_95 : decode cX0_walk 95 = .ok (.return_, 1) := eX0_walk_86.2.2.2
theorem eX0_walkStep_0 : (decode cX0_walkStep 0 = .ok (.iconst 0, 1)) ∧ (decode cX0_walkStep 1 = .ok (.istore 6, 2)) ∧ (decode cX0_walkStep 3 = .ok (.iload 6, 2)) ∧ (decode cX0_walkStep 5 = .ok (.iload_n 2, 1)) ∧ (decode cX0_walkStep 6 = .ok (.if_icmp .gt 193, 3)) ∧ (decode cX0_walkStep 9 = .ok (.iconst 0, 1)) ∧ (decode cX0_walkStep 10 = .ok (.istore 7, 2)) ∧ (decode cX0_walkStep 12 = .ok (.iload 6, 2)) := by decide +kernel
theorem dX0_walkStep_0 : decode cX0_walkStep 0 = .ok (.iconst 0, 1) := eX0_walkStep_0.1
theorem dX0_walkStep_1 : decode cX0_walkStep 1 = .ok (.istore 6, 2) := eX0_walkStep_0.2.1
theorem dX0_walkStep_3 : decode cX0_walkStep 3 = .ok (.iload 6, 2) := eX0_walkStep_0.2.2.1
theorem dX0_walkStep_5 : decode cX0_walkStep 5 = .ok (.iload_n 2, 1) := eX0_walkStep_0.2.2.2.1
theorem dX0_walkStep_6 : decode cX0_walkStep 6 = .ok (.if_icmp .gt 193, 3) := eX0_walkStep_0.2.2.2.2.1
theorem dX0_walkStep_9 : decode cX0_walkStep 9 = .ok (.iconst 0, 1) := eX0_walkStep_0.2.2.2.2.2.1
theorem dX0_walkStep_10 : decode cX0_walkStep 10 = .ok (.istore 7, 2) := eX0_walkStep_0.2.2.2.2.2.2.1
theorem dX0_walkStep_12 : decode cX0_walkStep 12 = .ok (.iload 6, 2) := eX0_walkStep_0.2.2.2.2.2.2.2
theorem eX0_walkStep_14 : (decode cX0_walkStep 14 = .ok (.iload 7, 2)) ∧ (decode cX0_walkStep 16 = .ok (.iadd, 1)) ∧ (decode cX0_walkStep 17 = .ok (.iload_n 2, 1)) ∧ (decode cX0_walkStep 18 = .ok (.if_icmp .gt 175, 3)) ∧ (decode cX0_walkStep 21 = .ok (.iconst 0, 1)) ∧ (decode cX0_walkStep 22 = .ok (.istore 8, 2)) ∧ (decode cX0_walkStep 24 = .ok (.iload 6, 2)) ∧ (decode cX0_walkStep 26 = .ok (.iload 7, 2)) := by decide +kernel
theorem dX0_walkStep_14 : decode cX0_walkStep 14 = .ok (.iload 7, 2) := eX0_walkStep_14.1
theorem dX0_walkStep_16 : decode cX0_walkStep 16 = .ok (.iadd, 1) := eX0_walkStep_14.2.1
theorem dX0_walkStep_17 : decode cX0_walkStep 17 = .ok (.iload_n 2, 1) := eX0_walkStep_14.2.2.1
theorem dX0_walkStep_18 : decode cX0_walkStep 18 = .ok (.if_icmp .gt 175, 3) := eX0_walkStep_14.2.2.2.1
theorem dX0_walkStep_21 : decode cX0_walkStep 21 = .ok (.iconst 0, 1) := eX0_walkStep_14.2.2.2.2.1
theorem dX0_walkStep_22 : decode cX0_walkStep 22 = .ok (.istore 8, 2) := eX0_walkStep_14.2.2.2.2.2.1
theorem dX0_walkStep_24 : decode cX0_walkStep 24 = .ok (.iload 6, 2) := eX0_walkStep_14.2.2.2.2.2.2.1
theorem dX0_walkStep_26 : decode cX0_walkStep 26 = .ok (.iload 7, 2) := eX0_walkStep_14.2.2.2.2.2.2.2
theorem eX0_walkStep_28 : (decode cX0_walkStep 28 = .ok (.iadd, 1)) ∧ (decode cX0_walkStep 29 = .ok (.iload 8, 2)) ∧ (decode cX0_walkStep 31 = .ok (.iadd, 1)) ∧ (decode cX0_walkStep 32 = .ok (.iload_n 2, 1)) ∧ (decode cX0_walkStep 33 = .ok (.if_icmp .gt 154, 3)) ∧ (decode cX0_walkStep 36 = .ok (.iload 6, 2)) ∧ (decode cX0_walkStep 38 = .ok (.getstatic 84, 3)) ∧ (decode cX0_walkStep 41 = .ok (.iconst 0, 1)) := by decide +kernel
theorem dX0_walkStep_28 : decode cX0_walkStep 28 = .ok (.iadd, 1) := eX0_walkStep_28.1
theorem dX0_walkStep_29 : decode cX0_walkStep 29 = .ok (.iload 8, 2) := eX0_walkStep_28.2.1
theorem dX0_walkStep_31 : decode cX0_walkStep 31 = .ok (.iadd, 1) := eX0_walkStep_28.2.2.1
theorem dX0_walkStep_32 : decode cX0_walkStep 32 = .ok (.iload_n 2, 1) := eX0_walkStep_28.2.2.2.1
theorem dX0_walkStep_33 : decode cX0_walkStep 33 = .ok (.if_icmp .gt 154, 3) := eX0_walkStep_28.2.2.2.2.1
theorem dX0_walkStep_36 : decode cX0_walkStep 36 = .ok (.iload 6, 2) := eX0_walkStep_28.2.2.2.2.2.1
theorem dX0_walkStep_38 : decode cX0_walkStep 38 = .ok (.getstatic 84, 3) := eX0_walkStep_28.2.2.2.2.2.2.1
theorem dX0_walkStep_41 : decode cX0_walkStep 41 = .ok (.iconst 0, 1) := eX0_walkStep_28.2.2.2.2.2.2.2
theorem eX0_walkStep_42 : (decode cX0_walkStep 42 = .ok (.iaload, 1)) ∧ (decode cX0_walkStep 43 = .ok (.imul, 1)) ∧ (decode cX0_walkStep 44 = .ok (.iload 7, 2)) ∧ (decode cX0_walkStep 46 = .ok (.getstatic 84, 3)) ∧ (decode cX0_walkStep 49 = .ok (.iconst 1, 1)) ∧ (decode cX0_walkStep 50 = .ok (.iaload, 1)) ∧ (decode cX0_walkStep 51 = .ok (.imul, 1)) ∧ (decode cX0_walkStep 52 = .ok (.iadd, 1)) := by decide +kernel
theorem dX0_walkStep_42 : decode cX0_walkStep 42 = .ok (.iaload, 1) := eX0_walkStep_42.1
theorem dX0_walkStep_43 : decode cX0_walkStep 43 = .ok (.imul, 1) := eX0_walkStep_42.2.1
theorem dX0_walkStep_44 : decode cX0_walkStep 44 = .ok (.iload 7, 2) := eX0_walkStep_42.2.2.1
theorem dX0_walkStep_46 : decode cX0_walkStep 46 = .ok (.getstatic 84, 3) := eX0_walkStep_42.2.2.2.1
theorem dX0_walkStep_49 : decode cX0_walkStep 49 = .ok (.iconst 1, 1) := eX0_walkStep_42.2.2.2.2.1
theorem dX0_walkStep_50 : decode cX0_walkStep 50 = .ok (.iaload, 1) := eX0_walkStep_42.2.2.2.2.2.1
theorem dX0_walkStep_51 : decode cX0_walkStep 51 = .ok (.imul, 1) := eX0_walkStep_42.2.2.2.2.2.2.1
theorem dX0_walkStep_52 : decode cX0_walkStep 52 = .ok (.iadd, 1) := eX0_walkStep_42.2.2.2.2.2.2.2
theorem eX0_walkStep_53 : (decode cX0_walkStep 53 = .ok (.iload 8, 2)) ∧ (decode cX0_walkStep 55 = .ok (.getstatic 84, 3)) ∧ (decode cX0_walkStep 58 = .ok (.iconst 2, 1)) ∧ (decode cX0_walkStep 59 = .ok (.iaload, 1)) ∧ (decode cX0_walkStep 60 = .ok (.imul, 1)) ∧ (decode cX0_walkStep 61 = .ok (.iadd, 1)) ∧ (decode cX0_walkStep 62 = .ok (.istore 9, 2)) ∧ (decode cX0_walkStep 64 = .ok (.aload_n 0, 1)) := by decide +kernel
theorem dX0_walkStep_53 : decode cX0_walkStep 53 = .ok (.iload 8, 2) := eX0_walkStep_53.1
theorem dX0_walkStep_55 : decode cX0_walkStep 55 = .ok (.getstatic 84, 3) := eX0_walkStep_53.2.1
theorem dX0_walkStep_58 : decode cX0_walkStep 58 = .ok (.iconst 2, 1) := eX0_walkStep_53.2.2.1
theorem dX0_walkStep_59 : decode cX0_walkStep 59 = .ok (.iaload, 1) := eX0_walkStep_53.2.2.2.1
theorem dX0_walkStep_60 : decode cX0_walkStep 60 = .ok (.imul, 1) := eX0_walkStep_53.2.2.2.2.1
theorem dX0_walkStep_61 : decode cX0_walkStep 61 = .ok (.iadd, 1) := eX0_walkStep_53.2.2.2.2.2.1
theorem dX0_walkStep_62 : decode cX0_walkStep 62 = .ok (.istore 9, 2) := eX0_walkStep_53.2.2.2.2.2.2.1
theorem dX0_walkStep_64 : decode cX0_walkStep 64 = .ok (.aload_n 0, 1) := eX0_walkStep_53.2.2.2.2.2.2.2
theorem eX0_walkStep_65 : (decode cX0_walkStep 65 = .ok (.getfield 11, 3)) ∧ (decode cX0_walkStep 68 = .ok (.iload 9, 2)) ∧ (decode cX0_walkStep 70 = .ok (.laload, 1)) ∧ (decode cX0_walkStep 71 = .ok (.lstore 10, 2)) ∧ (decode cX0_walkStep 73 = .ok (.lload 10, 2)) ∧ (decode cX0_walkStep 75 = .ok (.lconst 0, 1)) ∧ (decode cX0_walkStep 76 = .ok (.lcmp, 1)) ∧ (decode cX0_walkStep 77 = .ok (.ifCond .ne 6, 3)) := by decide +kernel
theorem dX0_walkStep_65 : decode cX0_walkStep 65 = .ok (.getfield 11, 3) := eX0_walkStep_65.1
theorem dX0_walkStep_68 : decode cX0_walkStep 68 = .ok (.iload 9, 2) := eX0_walkStep_65.2.1
theorem dX0_walkStep_70 : decode cX0_walkStep 70 = .ok (.laload, 1) := eX0_walkStep_65.2.2.1
theorem dX0_walkStep_71 : decode cX0_walkStep 71 = .ok (.lstore 10, 2) := eX0_walkStep_65.2.2.2.1
theorem dX0_walkStep_73 : decode cX0_walkStep 73 = .ok (.lload 10, 2) := eX0_walkStep_65.2.2.2.2.1
theorem dX0_walkStep_75 : decode cX0_walkStep 75 = .ok (.lconst 0, 1) := eX0_walkStep_65.2.2.2.2.2.1
theorem dX0_walkStep_76 : decode cX0_walkStep 76 = .ok (.lcmp, 1) := eX0_walkStep_65.2.2.2.2.2.2.1
theorem dX0_walkStep_77 : decode cX0_walkStep 77 = .ok (.ifCond .ne 6, 3) := eX0_walkStep_65.2.2.2.2.2.2.2
theorem eX0_walkStep_80 : (decode cX0_walkStep 80 = .ok (.goto 101, 3)) ∧ (decode cX0_walkStep 83 = .ok (.aload_n 0, 1)) ∧ (decode cX0_walkStep 84 = .ok (.getfield 11, 3)) ∧ (decode cX0_walkStep 87 = .ok (.iload 9, 2)) ∧ (decode cX0_walkStep 89 = .ok (.lconst 0, 1)) ∧ (decode cX0_walkStep 90 = .ok (.lastore, 1)) ∧ (decode cX0_walkStep 91 = .ok (.aload_n 0, 1)) ∧ (decode cX0_walkStep 92 = .ok (.getfield 22, 3)) := by decide +kernel
theorem dX0_walkStep_80 : decode cX0_walkStep 80 = .ok (.goto 101, 3) := eX0_walkStep_80.1
theorem dX0_walkStep_83 : decode cX0_walkStep 83 = .ok (.aload_n 0, 1) := eX0_walkStep_80.2.1
theorem dX0_walkStep_84 : decode cX0_walkStep 84 = .ok (.getfield 11, 3) := eX0_walkStep_80.2.2.1
theorem dX0_walkStep_87 : decode cX0_walkStep 87 = .ok (.iload 9, 2) := eX0_walkStep_80.2.2.2.1
theorem dX0_walkStep_89 : decode cX0_walkStep 89 = .ok (.lconst 0, 1) := eX0_walkStep_80.2.2.2.2.1
theorem dX0_walkStep_90 : decode cX0_walkStep 90 = .ok (.lastore, 1) := eX0_walkStep_80.2.2.2.2.2.1
theorem dX0_walkStep_91 : decode cX0_walkStep 91 = .ok (.aload_n 0, 1) := eX0_walkStep_80.2.2.2.2.2.2.1
theorem dX0_walkStep_92 : decode cX0_walkStep 92 = .ok (.getfield 22, 3) := eX0_walkStep_80.2.2.2.2.2.2.2
theorem eX0_walkStep_95 : (decode cX0_walkStep 95 = .ok (.iconst 0, 1)) ∧ (decode cX0_walkStep 96 = .ok (.iload 6, 2)) ∧ (decode cX0_walkStep 98 = .ok (.iastore, 1)) ∧ (decode cX0_walkStep 99 = .ok (.aload_n 0, 1)) ∧ (decode cX0_walkStep 100 = .ok (.getfield 22, 3)) ∧ (decode cX0_walkStep 103 = .ok (.iconst 1, 1)) ∧ (decode cX0_walkStep 104 = .ok (.iload 7, 2)) ∧ (decode cX0_walkStep 106 = .ok (.iastore, 1)) := by decide +kernel
theorem dX0_walkStep_95 : decode cX0_walkStep 95 = .ok (.iconst 0, 1) := eX0_walkStep_95.1
theorem dX0_walkStep_96 : decode cX0_walkStep 96 = .ok (.iload 6, 2) := eX0_walkStep_95.2.1
theorem dX0_walkStep_98 : decode cX0_walkStep 98 = .ok (.iastore, 1) := eX0_walkStep_95.2.2.1
theorem dX0_walkStep_99 : decode cX0_walkStep 99 = .ok (.aload_n 0, 1) := eX0_walkStep_95.2.2.2.1
theorem dX0_walkStep_100 : decode cX0_walkStep 100 = .ok (.getfield 22, 3) := eX0_walkStep_95.2.2.2.2.1
theorem dX0_walkStep_103 : decode cX0_walkStep 103 = .ok (.iconst 1, 1) := eX0_walkStep_95.2.2.2.2.2.1
theorem dX0_walkStep_104 : decode cX0_walkStep 104 = .ok (.iload 7, 2) := eX0_walkStep_95.2.2.2.2.2.2.1
theorem dX0_walkStep_106 : decode cX0_walkStep 106 = .ok (.iastore, 1) := eX0_walkStep_95.2.2.2.2.2.2.2
theorem eX0_walkStep_107 : (decode cX0_walkStep 107 = .ok (.aload_n 0, 1)) ∧ (decode cX0_walkStep 108 = .ok (.getfield 22, 3)) ∧ (decode cX0_walkStep 111 = .ok (.iconst 2, 1)) ∧ (decode cX0_walkStep 112 = .ok (.iload 8, 2)) ∧ (decode cX0_walkStep 114 = .ok (.iastore, 1)) ∧ (decode cX0_walkStep 115 = .ok (.aload_n 0, 1)) ∧ (decode cX0_walkStep 116 = .ok (.getfield 22, 3)) ∧ (decode cX0_walkStep 119 = .ok (.iconst 3, 1)) := by decide +kernel
theorem dX0_walkStep_107 : decode cX0_walkStep 107 = .ok (.aload_n 0, 1) := eX0_walkStep_107.1
theorem dX0_walkStep_108 : decode cX0_walkStep 108 = .ok (.getfield 22, 3) := eX0_walkStep_107.2.1
theorem dX0_walkStep_111 : decode cX0_walkStep 111 = .ok (.iconst 2, 1) := eX0_walkStep_107.2.2.1
theorem dX0_walkStep_112 : decode cX0_walkStep 112 = .ok (.iload 8, 2) := eX0_walkStep_107.2.2.2.1
theorem dX0_walkStep_114 : decode cX0_walkStep 114 = .ok (.iastore, 1) := eX0_walkStep_107.2.2.2.2.1
theorem dX0_walkStep_115 : decode cX0_walkStep 115 = .ok (.aload_n 0, 1) := eX0_walkStep_107.2.2.2.2.2.1
theorem dX0_walkStep_116 : decode cX0_walkStep 116 = .ok (.getfield 22, 3) := eX0_walkStep_107.2.2.2.2.2.2.1
theorem dX0_walkStep_119 : decode cX0_walkStep 119 = .ok (.iconst 3, 1) := eX0_walkStep_107.2.2.2.2.2.2.2
theorem eX0_walkStep_120 : (decode cX0_walkStep 120 = .ok (.iload_n 2, 1)) ∧ (decode cX0_walkStep 121 = .ok (.iload 6, 2)) ∧ (decode cX0_walkStep 123 = .ok (.isub, 1)) ∧ (decode cX0_walkStep 124 = .ok (.iload 7, 2)) ∧ (decode cX0_walkStep 126 = .ok (.isub, 1)) ∧ (decode cX0_walkStep 127 = .ok (.iload 8, 2)) ∧ (decode cX0_walkStep 129 = .ok (.isub, 1)) ∧ (decode cX0_walkStep 130 = .ok (.iastore, 1)) := by decide +kernel
theorem dX0_walkStep_120 : decode cX0_walkStep 120 = .ok (.iload_n 2, 1) := eX0_walkStep_120.1
theorem dX0_walkStep_121 : decode cX0_walkStep 121 = .ok (.iload 6, 2) := eX0_walkStep_120.2.1
theorem dX0_walkStep_123 : decode cX0_walkStep 123 = .ok (.isub, 1) := eX0_walkStep_120.2.2.1
theorem dX0_walkStep_124 : decode cX0_walkStep 124 = .ok (.iload 7, 2) := eX0_walkStep_120.2.2.2.1
theorem dX0_walkStep_126 : decode cX0_walkStep 126 = .ok (.isub, 1) := eX0_walkStep_120.2.2.2.2.1
theorem dX0_walkStep_127 : decode cX0_walkStep 127 = .ok (.iload 8, 2) := eX0_walkStep_120.2.2.2.2.2.1
theorem dX0_walkStep_129 : decode cX0_walkStep 129 = .ok (.isub, 1) := eX0_walkStep_120.2.2.2.2.2.2.1
theorem dX0_walkStep_130 : decode cX0_walkStep 130 = .ok (.iastore, 1) := eX0_walkStep_120.2.2.2.2.2.2.2
theorem eX0_walkStep_131 : (decode cX0_walkStep 131 = .ok (.aload_n 0, 1)) ∧ (decode cX0_walkStep 132 = .ok (.aload_n 1, 1)) ∧ (decode cX0_walkStep 133 = .ok (.invokevirtual 87, 3)) ∧ (decode cX0_walkStep 136 = .ok (.iload_n 2, 1)) ∧ (decode cX0_walkStep 137 = .ok (.iload_n 3, 1)) ∧ (decode cX0_walkStep 138 = .ok (.if_icmp .ne 26, 3)) ∧ (decode cX0_walkStep 141 = .ok (.aload_n 0, 1)) ∧ (decode cX0_walkStep 142 = .ok (.lload 10, 2)) := by decide +kernel
theorem dX0_walkStep_131 : decode cX0_walkStep 131 = .ok (.aload_n 0, 1) := eX0_walkStep_131.1
theorem dX0_walkStep_132 : decode cX0_walkStep 132 = .ok (.aload_n 1, 1) := eX0_walkStep_131.2.1
theorem dX0_walkStep_133 : decode cX0_walkStep 133 = .ok (.invokevirtual 87, 3) := eX0_walkStep_131.2.2.1
theorem dX0_walkStep_136 : decode cX0_walkStep 136 = .ok (.iload_n 2, 1) := eX0_walkStep_131.2.2.2.1
theorem dX0_walkStep_137 : decode cX0_walkStep 137 = .ok (.iload_n 3, 1) := eX0_walkStep_131.2.2.2.2.1
theorem dX0_walkStep_138 : decode cX0_walkStep 138 = .ok (.if_icmp .ne 26, 3) := eX0_walkStep_131.2.2.2.2.2.1
theorem dX0_walkStep_141 : decode cX0_walkStep 141 = .ok (.aload_n 0, 1) := eX0_walkStep_131.2.2.2.2.2.2.1
theorem dX0_walkStep_142 : decode cX0_walkStep 142 = .ok (.lload 10, 2) := eX0_walkStep_131.2.2.2.2.2.2.2
theorem eX0_walkStep_144 : (decode cX0_walkStep 144 = .ok (.aload_n 0, 1)) ∧ (decode cX0_walkStep 145 = .ok (.getfield 22, 3)) ∧ (decode cX0_walkStep 148 = .ok (.iload 4, 2)) ∧ (decode cX0_walkStep 150 = .ok (.iaload, 1)) ∧ (decode cX0_walkStep 151 = .ok (.aload_n 0, 1)) ∧ (decode cX0_walkStep 152 = .ok (.getfield 25, 3)) ∧ (decode cX0_walkStep 155 = .ok (.iload 4, 2)) ∧ (decode cX0_walkStep 157 = .ok (.iaload, 1)) := by decide +kernel
theorem dX0_walkStep_144 : decode cX0_walkStep 144 = .ok (.aload_n 0, 1) := eX0_walkStep_144.1
theorem dX0_walkStep_145 : decode cX0_walkStep 145 = .ok (.getfield 22, 3) := eX0_walkStep_144.2.1
theorem dX0_walkStep_148 : decode cX0_walkStep 148 = .ok (.iload 4, 2) := eX0_walkStep_144.2.2.1
theorem dX0_walkStep_150 : decode cX0_walkStep 150 = .ok (.iaload, 1) := eX0_walkStep_144.2.2.2.1
theorem dX0_walkStep_151 : decode cX0_walkStep 151 = .ok (.aload_n 0, 1) := eX0_walkStep_144.2.2.2.2.1
theorem dX0_walkStep_152 : decode cX0_walkStep 152 = .ok (.getfield 25, 3) := eX0_walkStep_144.2.2.2.2.2.1
theorem dX0_walkStep_155 : decode cX0_walkStep 155 = .ok (.iload 4, 2) := eX0_walkStep_144.2.2.2.2.2.2.1
theorem dX0_walkStep_157 : decode cX0_walkStep 157 = .ok (.iaload, 1) := eX0_walkStep_144.2.2.2.2.2.2.2
theorem eX0_walkStep_158 : (decode cX0_walkStep 158 = .ok (.invokevirtual 91, 3)) ∧ (decode cX0_walkStep 161 = .ok (.goto 20, 3)) ∧ (decode cX0_walkStep 164 = .ok (.aload_n 0, 1)) ∧ (decode cX0_walkStep 165 = .ok (.aload_n 1, 1)) ∧ (decode cX0_walkStep 166 = .ok (.iload 9, 2)) ∧ (decode cX0_walkStep 168 = .ok (.lload 10, 2)) ∧ (decode cX0_walkStep 170 = .ok (.aload_n 0, 1)) ∧ (decode cX0_walkStep 171 = .ok (.getfield 18, 3)) := by decide +kernel
theorem dX0_walkStep_158 : decode cX0_walkStep 158 = .ok (.invokevirtual 91, 3) := eX0_walkStep_158.1
theorem dX0_walkStep_161 : decode cX0_walkStep 161 = .ok (.goto 20, 3) := eX0_walkStep_158.2.1
theorem dX0_walkStep_164 : decode cX0_walkStep 164 = .ok (.aload_n 0, 1) := eX0_walkStep_158.2.2.1
theorem dX0_walkStep_165 : decode cX0_walkStep 165 = .ok (.aload_n 1, 1) := eX0_walkStep_158.2.2.2.1
theorem dX0_walkStep_166 : decode cX0_walkStep 166 = .ok (.iload 9, 2) := eX0_walkStep_158.2.2.2.2.1
theorem dX0_walkStep_168 : decode cX0_walkStep 168 = .ok (.lload 10, 2) := eX0_walkStep_158.2.2.2.2.2.1
theorem dX0_walkStep_170 : decode cX0_walkStep 170 = .ok (.aload_n 0, 1) := eX0_walkStep_158.2.2.2.2.2.2.1
theorem dX0_walkStep_171 : decode cX0_walkStep 171 = .ok (.getfield 18, 3) := eX0_walkStep_158.2.2.2.2.2.2.2
theorem eX0_walkStep_174 : (decode cX0_walkStep 174 = .ok (.iload_n 2, 1)) ∧ (decode cX0_walkStep 175 = .ok (.iaload, 1)) ∧ (decode cX0_walkStep 176 = .ok (.iload 5, 2)) ∧ (decode cX0_walkStep 178 = .ok (.invokevirtual 95, 3)) ∧ (decode cX0_walkStep 181 = .ok (.iinc 8 1, 3)) ∧ (decode cX0_walkStep 184 = .ok (.goto (-160), 3)) ∧ (decode cX0_walkStep 187 = .ok (.iinc 7 1, 3)) ∧ (decode cX0_walkStep 190 = .ok (.goto (-178), 3)) := by decide +kernel
theorem dX0_walkStep_174 : decode cX0_walkStep 174 = .ok (.iload_n 2, 1) := eX0_walkStep_174.1
theorem dX0_walkStep_175 : decode cX0_walkStep 175 = .ok (.iaload, 1) := eX0_walkStep_174.2.1
theorem dX0_walkStep_176 : decode cX0_walkStep 176 = .ok (.iload 5, 2) := eX0_walkStep_174.2.2.1
theorem dX0_walkStep_178 : decode cX0_walkStep 178 = .ok (.invokevirtual 95, 3) := eX0_walkStep_174.2.2.2.1
theorem dX0_walkStep_181 : decode cX0_walkStep 181 = .ok (.iinc 8 1, 3) := eX0_walkStep_174.2.2.2.2.1
theorem dX0_walkStep_184 : decode cX0_walkStep 184 = .ok (.goto (-160), 3) := eX0_walkStep_174.2.2.2.2.2.1
theorem dX0_walkStep_187 : decode cX0_walkStep 187 = .ok (.iinc 7 1, 3) := eX0_walkStep_174.2.2.2.2.2.2.1
theorem dX0_walkStep_190 : decode cX0_walkStep 190 = .ok (.goto (-178), 3) := eX0_walkStep_174.2.2.2.2.2.2.2
theorem eX0_walkStep_193 : (decode cX0_walkStep 193 = .ok (.iinc 6 1, 3)) ∧ (decode cX0_walkStep 196 = .ok (.goto (-193), 3)) ∧ (decode cX0_walkStep 199 = .ok (.return_, 1)) := by decide +kernel
theorem dX0_walkStep_193 : decode cX0_walkStep 193 = .ok (.iinc 6 1, 3) := eX0_walkStep_193.1
theorem dX0_walkStep_196 : decode cX0_walkStep 196 = .ok (.goto (-193), 3) := eX0_walkStep_193.2.1
theorem dX0_walkStep_199 : decode cX0_walkStep 199 = .ok (.return_, 1) := eX0_walkStep_193.2.2
theorem eX0_settle_0 : (decode cX0_settle 0 = .ok (.aload_n 0, 1)) ∧ (decode cX0_settle 1 = .ok (.getfield 28, 3)) ∧ (decode cX0_settle 4 = .ok (.iload_n 3, 1)) ∧ (decode cX0_settle 5 = .ok (.dup2, 1)) ∧ (decode cX0_settle 6 = .ok (.laload, 1)) ∧ (decode cX0_settle 7 = .ok (.lload_n 1, 1)) ∧ (decode cX0_settle 8 = .ok (.ladd, 1)) ∧ (decode cX0_settle 9 = .ok (.lastore, 1)) := by decide +kernel
theorem dX0_settle_0 : decode cX0_settle 0 = .ok (.aload_n 0, 1) := eX0_settle_0.1
theorem dX0_settle_1 : decode cX0_settle 1 = .ok (.getfield 28, 3) := eX0_settle_0.2.1
theorem dX0_settle_4 : decode cX0_settle 4 = .ok (.iload_n 3, 1) := eX0_settle_0.2.2.1
theorem dX0_settle_5 : decode cX0_settle 5 = .ok (.dup2, 1) := eX0_settle_0.2.2.2.1
theorem dX0_settle_6 : decode cX0_settle 6 = .ok (.laload, 1) := eX0_settle_0.2.2.2.2.1
theorem dX0_settle_7 : decode cX0_settle 7 = .ok (.lload_n 1, 1) := eX0_settle_0.2.2.2.2.2.1
theorem dX0_settle_8 : decode cX0_settle 8 = .ok (.ladd, 1) := eX0_settle_0.2.2.2.2.2.2.1
theorem dX0_settle_9 : decode cX0_settle 9 = .ok (.lastore, 1) := eX0_settle_0.2.2.2.2.2.2.2
theorem eX0_settle_10 : (decode cX0_settle 10 = .ok (.iload 4, 2)) ∧ (decode cX0_settle 12 = .ok (.ifCond .lt 22, 3)) ∧ (decode cX0_settle 15 = .ok (.iload 4, 2)) ∧ (decode cX0_settle 17 = .ok (.sipush 200, 3)) ∧ (decode cX0_settle 20 = .ok (.if_icmp .gt 14, 3)) ∧ (decode cX0_settle 23 = .ok (.aload_n 0, 1)) ∧ (decode cX0_settle 24 = .ok (.getfield 31, 3)) ∧ (decode cX0_settle 27 = .ok (.iload 4, 2)) := by decide +kernel
theorem dX0_settle_10 : decode cX0_settle 10 = .ok (.iload 4, 2) := eX0_settle_10.1
theorem dX0_settle_12 : decode cX0_settle 12 = .ok (.ifCond .lt 22, 3) := eX0_settle_10.2.1
theorem dX0_settle_15 : decode cX0_settle 15 = .ok (.iload 4, 2) := eX0_settle_10.2.2.1
theorem dX0_settle_17 : decode cX0_settle 17 = .ok (.sipush 200, 3) := eX0_settle_10.2.2.2.1
theorem dX0_settle_20 : decode cX0_settle 20 = .ok (.if_icmp .gt 14, 3) := eX0_settle_10.2.2.2.2.1
theorem dX0_settle_23 : decode cX0_settle 23 = .ok (.aload_n 0, 1) := eX0_settle_10.2.2.2.2.2.1
theorem dX0_settle_24 : decode cX0_settle 24 = .ok (.getfield 31, 3) := eX0_settle_10.2.2.2.2.2.2.1
theorem dX0_settle_27 : decode cX0_settle 27 = .ok (.iload 4, 2) := eX0_settle_10.2.2.2.2.2.2.2
theorem eX0_settle_29 : (decode cX0_settle 29 = .ok (.dup2, 1)) ∧ (decode cX0_settle 30 = .ok (.laload, 1)) ∧ (decode cX0_settle 31 = .ok (.lload_n 1, 1)) ∧ (decode cX0_settle 32 = .ok (.ladd, 1)) ∧ (decode cX0_settle 33 = .ok (.lastore, 1)) ∧ (decode cX0_settle 34 = .ok (.return_, 1)) := by decide +kernel
theorem dX0_settle_29 : decode cX0_settle 29 = .ok (.dup2, 1) := eX0_settle_29.1
theorem dX0_settle_30 : decode cX0_settle 30 = .ok (.laload, 1) := eX0_settle_29.2.1
theorem dX0_settle_31 : decode cX0_settle 31 = .ok (.lload_n 1, 1) := eX0_settle_29.2.2.1
theorem dX0_settle_32 : decode cX0_settle 32 = .ok (.ladd, 1) := eX0_settle_29.2.2.2.1
theorem dX0_settle_33 : decode cX0_settle 33 = .ok (.lastore, 1) := eX0_settle_29.2.2.2.2.1
theorem dX0_settle_34 : decode cX0_settle 34 = .ok (.return_, 1) := eX0_settle_29.2.2.2.2.2
theorem eX0_findBalls_0 : (decode cX0_findBalls 0 = .ok (.iconst 0, 1)) ∧ (decode cX0_findBalls 1 = .ok (.istore_n 2, 1)) ∧ (decode cX0_findBalls 2 = .ok (.iload_n 2, 1)) ∧ (decode cX0_findBalls 3 = .ok (.iconst 4, 1)) ∧ (decode cX0_findBalls 4 = .ok (.if_icmp .ge 60, 3)) ∧ (decode cX0_findBalls 7 = .ok (.aload_n 0, 1)) ∧ (decode cX0_findBalls 8 = .ok (.getfield 25, 3)) ∧ (decode cX0_findBalls 11 = .ok (.iload_n 2, 1)) := by decide +kernel
theorem dX0_findBalls_0 : decode cX0_findBalls 0 = .ok (.iconst 0, 1) := eX0_findBalls_0.1
theorem dX0_findBalls_1 : decode cX0_findBalls 1 = .ok (.istore_n 2, 1) := eX0_findBalls_0.2.1
theorem dX0_findBalls_2 : decode cX0_findBalls 2 = .ok (.iload_n 2, 1) := eX0_findBalls_0.2.2.1
theorem dX0_findBalls_3 : decode cX0_findBalls 3 = .ok (.iconst 4, 1) := eX0_findBalls_0.2.2.2.1
theorem dX0_findBalls_4 : decode cX0_findBalls 4 = .ok (.if_icmp .ge 60, 3) := eX0_findBalls_0.2.2.2.2.1
theorem dX0_findBalls_7 : decode cX0_findBalls 7 = .ok (.aload_n 0, 1) := eX0_findBalls_0.2.2.2.2.2.1
theorem dX0_findBalls_8 : decode cX0_findBalls 8 = .ok (.getfield 25, 3) := eX0_findBalls_0.2.2.2.2.2.2.1
theorem dX0_findBalls_11 : decode cX0_findBalls 11 = .ok (.iload_n 2, 1) := eX0_findBalls_0.2.2.2.2.2.2.2
theorem eX0_findBalls_12 : (decode cX0_findBalls 12 = .ok (.aload_n 1, 1)) ∧ (decode cX0_findBalls 13 = .ok (.getfield 99, 3)) ∧ (decode cX0_findBalls 16 = .ok (.iload_n 2, 1)) ∧ (decode cX0_findBalls 17 = .ok (.iaload, 1)) ∧ (decode cX0_findBalls 18 = .ok (.iastore, 1)) ∧ (decode cX0_findBalls 19 = .ok (.iconst 0, 1)) ∧ (decode cX0_findBalls 20 = .ok (.istore_n 3, 1)) ∧ (decode cX0_findBalls 21 = .ok (.iload_n 3, 1)) := by decide +kernel
theorem dX0_findBalls_12 : decode cX0_findBalls 12 = .ok (.aload_n 1, 1) := eX0_findBalls_12.1
theorem dX0_findBalls_13 : decode cX0_findBalls 13 = .ok (.getfield 99, 3) := eX0_findBalls_12.2.1
theorem dX0_findBalls_16 : decode cX0_findBalls 16 = .ok (.iload_n 2, 1) := eX0_findBalls_12.2.2.1
theorem dX0_findBalls_17 : decode cX0_findBalls 17 = .ok (.iaload, 1) := eX0_findBalls_12.2.2.2.1
theorem dX0_findBalls_18 : decode cX0_findBalls 18 = .ok (.iastore, 1) := eX0_findBalls_12.2.2.2.2.1
theorem dX0_findBalls_19 : decode cX0_findBalls 19 = .ok (.iconst 0, 1) := eX0_findBalls_12.2.2.2.2.2.1
theorem dX0_findBalls_20 : decode cX0_findBalls 20 = .ok (.istore_n 3, 1) := eX0_findBalls_12.2.2.2.2.2.2.1
theorem dX0_findBalls_21 : decode cX0_findBalls 21 = .ok (.iload_n 3, 1) := eX0_findBalls_12.2.2.2.2.2.2.2
theorem eX0_findBalls_22 : (decode cX0_findBalls 22 = .ok (.iconst 4, 1)) ∧ (decode cX0_findBalls 23 = .ok (.if_icmp .ge 35, 3)) ∧ (decode cX0_findBalls 26 = .ok (.aload_n 0, 1)) ∧ (decode cX0_findBalls 27 = .ok (.getfield 25, 3)) ∧ (decode cX0_findBalls 30 = .ok (.iload_n 2, 1)) ∧ (decode cX0_findBalls 31 = .ok (.dup2, 1)) ∧ (decode cX0_findBalls 32 = .ok (.iaload, 1)) ∧ (decode cX0_findBalls 33 = .ok (.aload_n 0, 1)) := by decide +kernel
theorem dX0_findBalls_22 : decode cX0_findBalls 22 = .ok (.iconst 4, 1) := eX0_findBalls_22.1
theorem dX0_findBalls_23 : decode cX0_findBalls 23 = .ok (.if_icmp .ge 35, 3) := eX0_findBalls_22.2.1
theorem dX0_findBalls_26 : decode cX0_findBalls 26 = .ok (.aload_n 0, 1) := eX0_findBalls_22.2.2.1
theorem dX0_findBalls_27 : decode cX0_findBalls 27 = .ok (.getfield 25, 3) := eX0_findBalls_22.2.2.2.1
theorem dX0_findBalls_30 : decode cX0_findBalls 30 = .ok (.iload_n 2, 1) := eX0_findBalls_22.2.2.2.2.1
theorem dX0_findBalls_31 : decode cX0_findBalls 31 = .ok (.dup2, 1) := eX0_findBalls_22.2.2.2.2.2.1
theorem dX0_findBalls_32 : decode cX0_findBalls 32 = .ok (.iaload, 1) := eX0_findBalls_22.2.2.2.2.2.2.1
theorem dX0_findBalls_33 : decode cX0_findBalls 33 = .ok (.aload_n 0, 1) := eX0_findBalls_22.2.2.2.2.2.2.2
theorem eX0_findBalls_34 : (decode cX0_findBalls 34 = .ok (.getfield 22, 3)) ∧ (decode cX0_findBalls 37 = .ok (.iload_n 3, 1)) ∧ (decode cX0_findBalls 38 = .ok (.iaload, 1)) ∧ (decode cX0_findBalls 39 = .ok (.aload_n 1, 1)) ∧ (decode cX0_findBalls 40 = .ok (.getfield 100, 3)) ∧ (decode cX0_findBalls 43 = .ok (.iload_n 3, 1)) ∧ (decode cX0_findBalls 44 = .ok (.iconst 4, 1)) ∧ (decode cX0_findBalls 45 = .ok (.imul, 1)) := by decide +kernel
theorem dX0_findBalls_34 : decode cX0_findBalls 34 = .ok (.getfield 22, 3) := eX0_findBalls_34.1
theorem dX0_findBalls_37 : decode cX0_findBalls 37 = .ok (.iload_n 3, 1) := eX0_findBalls_34.2.1
theorem dX0_findBalls_38 : decode cX0_findBalls 38 = .ok (.iaload, 1) := eX0_findBalls_34.2.2.1
theorem dX0_findBalls_39 : decode cX0_findBalls 39 = .ok (.aload_n 1, 1) := eX0_findBalls_34.2.2.2.1
theorem dX0_findBalls_40 : decode cX0_findBalls 40 = .ok (.getfield 100, 3) := eX0_findBalls_34.2.2.2.2.1
theorem dX0_findBalls_43 : decode cX0_findBalls 43 = .ok (.iload_n 3, 1) := eX0_findBalls_34.2.2.2.2.2.1
theorem dX0_findBalls_44 : decode cX0_findBalls 44 = .ok (.iconst 4, 1) := eX0_findBalls_34.2.2.2.2.2.2.1
theorem dX0_findBalls_45 : decode cX0_findBalls 45 = .ok (.imul, 1) := eX0_findBalls_34.2.2.2.2.2.2.2
theorem eX0_findBalls_46 : (decode cX0_findBalls 46 = .ok (.iload_n 2, 1)) ∧ (decode cX0_findBalls 47 = .ok (.iadd, 1)) ∧ (decode cX0_findBalls 48 = .ok (.iaload, 1)) ∧ (decode cX0_findBalls 49 = .ok (.imul, 1)) ∧ (decode cX0_findBalls 50 = .ok (.iadd, 1)) ∧ (decode cX0_findBalls 51 = .ok (.iastore, 1)) ∧ (decode cX0_findBalls 52 = .ok (.iinc 3 1, 3)) ∧ (decode cX0_findBalls 55 = .ok (.goto (-34), 3)) := by decide +kernel
theorem dX0_findBalls_46 : decode cX0_findBalls 46 = .ok (.iload_n 2, 1) := eX0_findBalls_46.1
theorem dX0_findBalls_47 : decode cX0_findBalls 47 = .ok (.iadd, 1) := eX0_findBalls_46.2.1
theorem dX0_findBalls_48 : decode cX0_findBalls 48 = .ok (.iaload, 1) := eX0_findBalls_46.2.2.1
theorem dX0_findBalls_49 : decode cX0_findBalls 49 = .ok (.imul, 1) := eX0_findBalls_46.2.2.2.1
theorem dX0_findBalls_50 : decode cX0_findBalls 50 = .ok (.iadd, 1) := eX0_findBalls_46.2.2.2.2.1
theorem dX0_findBalls_51 : decode cX0_findBalls 51 = .ok (.iastore, 1) := eX0_findBalls_46.2.2.2.2.2.1
theorem dX0_findBalls_52 : decode cX0_findBalls 52 = .ok (.iinc 3 1, 3) := eX0_findBalls_46.2.2.2.2.2.2.1
theorem dX0_findBalls_55 : decode cX0_findBalls 55 = .ok (.goto (-34), 3) := eX0_findBalls_46.2.2.2.2.2.2.2
theorem eX0_findBalls_58 : (decode cX0_findBalls 58 = .ok (.iinc 2 1, 3)) ∧ (decode cX0_findBalls 61 = .ok (.goto (-59), 3)) ∧ (decode cX0_findBalls 64 = .ok (.return_, 1)) := by decide +kernel
theorem dX0_findBalls_58 : decode cX0_findBalls 58 = .ok (.iinc 2 1, 3) := eX0_findBalls_58.1
theorem dX0_findBalls_61 : decode cX0_findBalls 61 = .ok (.goto (-59), 3) := eX0_findBalls_58.2.1
theorem dX0_findBalls_64 : decode cX0_findBalls 64 = .ok (.return_, 1) := eX0_findBalls_58.2.2
theorem eX0_spread_0 : (decode cX0_spread 0 = .ok (.aload_n 0, 1)) ∧ (decode cX0_spread 1 = .ok (.getfield 25, 3)) ∧ (decode cX0_spread 4 = .ok (.iconst 0, 1)) ∧ (decode cX0_spread 5 = .ok (.iaload, 1)) ∧ (decode cX0_spread 6 = .ok (.aload_n 0, 1)) ∧ (decode cX0_spread 7 = .ok (.getfield 25, 3)) ∧ (decode cX0_spread 10 = .ok (.iconst 1, 1)) ∧ (decode cX0_spread 11 = .ok (.iaload, 1)) := by decide +kernel
theorem dX0_spread_0 : decode cX0_spread 0 = .ok (.aload_n 0, 1) := eX0_spread_0.1
theorem dX0_spread_1 : decode cX0_spread 1 = .ok (.getfield 25, 3) := eX0_spread_0.2.1
theorem dX0_spread_4 : decode cX0_spread 4 = .ok (.iconst 0, 1) := eX0_spread_0.2.2.1
theorem dX0_spread_5 : decode cX0_spread 5 = .ok (.iaload, 1) := eX0_spread_0.2.2.2.1
theorem dX0_spread_6 : decode cX0_spread 6 = .ok (.aload_n 0, 1) := eX0_spread_0.2.2.2.2.1
theorem dX0_spread_7 : decode cX0_spread 7 = .ok (.getfield 25, 3) := eX0_spread_0.2.2.2.2.2.1
theorem dX0_spread_10 : decode cX0_spread 10 = .ok (.iconst 1, 1) := eX0_spread_0.2.2.2.2.2.2.1
theorem dX0_spread_11 : decode cX0_spread 11 = .ok (.iaload, 1) := eX0_spread_0.2.2.2.2.2.2.2
theorem eX0_spread_12 : (decode cX0_spread 12 = .ok (.iadd, 1)) ∧ (decode cX0_spread 13 = .ok (.aload_n 0, 1)) ∧ (decode cX0_spread 14 = .ok (.getfield 25, 3)) ∧ (decode cX0_spread 17 = .ok (.iconst 2, 1)) ∧ (decode cX0_spread 18 = .ok (.iaload, 1)) ∧ (decode cX0_spread 19 = .ok (.iadd, 1)) ∧ (decode cX0_spread 20 = .ok (.aload_n 0, 1)) ∧ (decode cX0_spread 21 = .ok (.getfield 25, 3)) := by decide +kernel
theorem dX0_spread_12 : decode cX0_spread 12 = .ok (.iadd, 1) := eX0_spread_12.1
theorem dX0_spread_13 : decode cX0_spread 13 = .ok (.aload_n 0, 1) := eX0_spread_12.2.1
theorem dX0_spread_14 : decode cX0_spread 14 = .ok (.getfield 25, 3) := eX0_spread_12.2.2.1
theorem dX0_spread_17 : decode cX0_spread 17 = .ok (.iconst 2, 1) := eX0_spread_12.2.2.2.1
theorem dX0_spread_18 : decode cX0_spread 18 = .ok (.iaload, 1) := eX0_spread_12.2.2.2.2.1
theorem dX0_spread_19 : decode cX0_spread 19 = .ok (.iadd, 1) := eX0_spread_12.2.2.2.2.2.1
theorem dX0_spread_20 : decode cX0_spread 20 = .ok (.aload_n 0, 1) := eX0_spread_12.2.2.2.2.2.2.1
theorem dX0_spread_21 : decode cX0_spread 21 = .ok (.getfield 25, 3) := eX0_spread_12.2.2.2.2.2.2.2
theorem eX0_spread_24 : (decode cX0_spread 24 = .ok (.iconst 3, 1)) ∧ (decode cX0_spread 25 = .ok (.iaload, 1)) ∧ (decode cX0_spread 26 = .ok (.iadd, 1)) ∧ (decode cX0_spread 27 = .ok (.ifCond .ne 14, 3)) ∧ (decode cX0_spread 30 = .ok (.aload_n 0, 1)) ∧ (decode cX0_spread 31 = .ok (.dup, 1)) ∧ (decode cX0_spread 32 = .ok (.getfield 34, 3)) ∧ (decode cX0_spread 35 = .ok (.lload_n 3, 1)) := by decide +kernel
theorem dX0_spread_24 : decode cX0_spread 24 = .ok (.iconst 3, 1) := eX0_spread_24.1
theorem dX0_spread_25 : decode cX0_spread 25 = .ok (.iaload, 1) := eX0_spread_24.2.1
theorem dX0_spread_26 : decode cX0_spread 26 = .ok (.iadd, 1) := eX0_spread_24.2.2.1
theorem dX0_spread_27 : decode cX0_spread 27 = .ok (.ifCond .ne 14, 3) := eX0_spread_24.2.2.2.1
theorem dX0_spread_30 : decode cX0_spread 30 = .ok (.aload_n 0, 1) := eX0_spread_24.2.2.2.2.1
theorem dX0_spread_31 : decode cX0_spread 31 = .ok (.dup, 1) := eX0_spread_24.2.2.2.2.2.1
theorem dX0_spread_32 : decode cX0_spread 32 = .ok (.getfield 34, 3) := eX0_spread_24.2.2.2.2.2.2.1
theorem dX0_spread_35 : decode cX0_spread 35 = .ok (.lload_n 3, 1) := eX0_spread_24.2.2.2.2.2.2.2
theorem eX0_spread_36 : (decode cX0_spread 36 = .ok (.ladd, 1)) ∧ (decode cX0_spread 37 = .ok (.putfield 34, 3)) ∧ (decode cX0_spread 40 = .ok (.return_, 1)) ∧ (decode cX0_spread 41 = .ok (.iconst 0, 1)) ∧ (decode cX0_spread 42 = .ok (.istore 7, 2)) ∧ (decode cX0_spread 44 = .ok (.iload 7, 2)) ∧ (decode cX0_spread 46 = .ok (.aload_n 1, 1)) ∧ (decode cX0_spread 47 = .ok (.getfield 103, 3)) := by decide +kernel
theorem dX0_spread_36 : decode cX0_spread 36 = .ok (.ladd, 1) := eX0_spread_36.1
theorem dX0_spread_37 : decode cX0_spread 37 = .ok (.putfield 34, 3) := eX0_spread_36.2.1
theorem dX0_spread_40 : decode cX0_spread 40 = .ok (.return_, 1) := eX0_spread_36.2.2.1
theorem dX0_spread_41 : decode cX0_spread 41 = .ok (.iconst 0, 1) := eX0_spread_36.2.2.2.1
theorem dX0_spread_42 : decode cX0_spread 42 = .ok (.istore 7, 2) := eX0_spread_36.2.2.2.2.1
theorem dX0_spread_44 : decode cX0_spread 44 = .ok (.iload 7, 2) := eX0_spread_36.2.2.2.2.2.1
theorem dX0_spread_46 : decode cX0_spread 46 = .ok (.aload_n 1, 1) := eX0_spread_36.2.2.2.2.2.2.1
theorem dX0_spread_47 : decode cX0_spread 47 = .ok (.getfield 103, 3) := eX0_spread_36.2.2.2.2.2.2.2
theorem eX0_spread_50 : (decode cX0_spread 50 = .ok (.if_icmp .ge 100, 3)) ∧ (decode cX0_spread 53 = .ok (.aload_n 0, 1)) ∧ (decode cX0_spread 54 = .ok (.getfield 25, 3)) ∧ (decode cX0_spread 57 = .ok (.iload 7, 2)) ∧ (decode cX0_spread 59 = .ok (.iaload, 1)) ∧ (decode cX0_spread 60 = .ok (.ifCond .eq 84, 3)) ∧ (decode cX0_spread 63 = .ok (.iload 5, 2)) ∧ (decode cX0_spread 65 = .ok (.ifCond .lt 13, 3)) := by decide +kernel
theorem dX0_spread_50 : decode cX0_spread 50 = .ok (.if_icmp .ge 100, 3) := eX0_spread_50.1
theorem dX0_spread_53 : decode cX0_spread 53 = .ok (.aload_n 0, 1) := eX0_spread_50.2.1
theorem dX0_spread_54 : decode cX0_spread 54 = .ok (.getfield 25, 3) := eX0_spread_50.2.2.1
theorem dX0_spread_57 : decode cX0_spread 57 = .ok (.iload 7, 2) := eX0_spread_50.2.2.2.1
theorem dX0_spread_59 : decode cX0_spread 59 = .ok (.iaload, 1) := eX0_spread_50.2.2.2.2.1
theorem dX0_spread_60 : decode cX0_spread 60 = .ok (.ifCond .eq 84, 3) := eX0_spread_50.2.2.2.2.2.1
theorem dX0_spread_63 : decode cX0_spread 63 = .ok (.iload 5, 2) := eX0_spread_50.2.2.2.2.2.2.1
theorem dX0_spread_65 : decode cX0_spread 65 = .ok (.ifCond .lt 13, 3) := eX0_spread_50.2.2.2.2.2.2.2
theorem eX0_spread_68 : (decode cX0_spread 68 = .ok (.iload 7, 2)) ∧ (decode cX0_spread 70 = .ok (.iload 5, 2)) ∧ (decode cX0_spread 72 = .ok (.if_icmp .eq 6, 3)) ∧ (decode cX0_spread 75 = .ok (.goto 69, 3)) ∧ (decode cX0_spread 78 = .ok (.iload 6, 2)) ∧ (decode cX0_spread 80 = .ok (.ifCond .eq 16, 3)) ∧ (decode cX0_spread 83 = .ok (.lload_n 3, 1)) ∧ (decode cX0_spread 84 = .ok (.aload_n 0, 1)) := by decide +kernel
theorem dX0_spread_68 : decode cX0_spread 68 = .ok (.iload 7, 2) := eX0_spread_68.1
theorem dX0_spread_70 : decode cX0_spread 70 = .ok (.iload 5, 2) := eX0_spread_68.2.1
theorem dX0_spread_72 : decode cX0_spread 72 = .ok (.if_icmp .eq 6, 3) := eX0_spread_68.2.2.1
theorem dX0_spread_75 : decode cX0_spread 75 = .ok (.goto 69, 3) := eX0_spread_68.2.2.2.1
theorem dX0_spread_78 : decode cX0_spread 78 = .ok (.iload 6, 2) := eX0_spread_68.2.2.2.2.1
theorem dX0_spread_80 : decode cX0_spread 80 = .ok (.ifCond .eq 16, 3) := eX0_spread_68.2.2.2.2.2.1
theorem dX0_spread_83 : decode cX0_spread 83 = .ok (.lload_n 3, 1) := eX0_spread_68.2.2.2.2.2.2.1
theorem dX0_spread_84 : decode cX0_spread 84 = .ok (.aload_n 0, 1) := eX0_spread_68.2.2.2.2.2.2.2
theorem eX0_spread_85 : (decode cX0_spread 85 = .ok (.getfield 25, 3)) ∧ (decode cX0_spread 88 = .ok (.iload 7, 2)) ∧ (decode cX0_spread 90 = .ok (.iaload, 1)) ∧ (decode cX0_spread 91 = .ok (.i2l, 1)) ∧ (decode cX0_spread 92 = .ok (.lmul, 1)) ∧ (decode cX0_spread 93 = .ok (.goto 4, 3)) ∧ (decode cX0_spread 96 = .ok (.lload_n 3, 1)) ∧ (decode cX0_spread 97 = .ok (.lstore 8, 2)) := by decide +kernel
theorem dX0_spread_85 : decode cX0_spread 85 = .ok (.getfield 25, 3) := eX0_spread_85.1
theorem dX0_spread_88 : decode cX0_spread 88 = .ok (.iload 7, 2) := eX0_spread_85.2.1
theorem dX0_spread_90 : decode cX0_spread 90 = .ok (.iaload, 1) := eX0_spread_85.2.2.1
theorem dX0_spread_91 : decode cX0_spread 91 = .ok (.i2l, 1) := eX0_spread_85.2.2.2.1
theorem dX0_spread_92 : decode cX0_spread 92 = .ok (.lmul, 1) := eX0_spread_85.2.2.2.2.1
theorem dX0_spread_93 : decode cX0_spread 93 = .ok (.goto 4, 3) := eX0_spread_85.2.2.2.2.2.1
theorem dX0_spread_96 : decode cX0_spread 96 = .ok (.lload_n 3, 1) := eX0_spread_85.2.2.2.2.2.2.1
theorem dX0_spread_97 : decode cX0_spread 97 = .ok (.lstore 8, 2) := eX0_spread_85.2.2.2.2.2.2.2
theorem eX0_spread_99 : (decode cX0_spread 99 = .ok (.aload_n 1, 1)) ∧ (decode cX0_spread 100 = .ok (.aload_n 0, 1)) ∧ (decode cX0_spread 101 = .ok (.getfield 25, 3)) ∧ (decode cX0_spread 104 = .ok (.iload 7, 2)) ∧ (decode cX0_spread 106 = .ok (.invokevirtual 107, 3)) ∧ (decode cX0_spread 109 = .ok (.ifCond .eq 24, 3)) ∧ (decode cX0_spread 112 = .ok (.aload_n 0, 1)) ∧ (decode cX0_spread 113 = .ok (.getfield 15, 3)) := by decide +kernel
theorem dX0_spread_99 : decode cX0_spread 99 = .ok (.aload_n 1, 1) := eX0_spread_99.1
theorem dX0_spread_100 : decode cX0_spread 100 = .ok (.aload_n 0, 1) := eX0_spread_99.2.1
theorem dX0_spread_101 : decode cX0_spread 101 = .ok (.getfield 25, 3) := eX0_spread_99.2.2.1
theorem dX0_spread_104 : decode cX0_spread 104 = .ok (.iload 7, 2) := eX0_spread_99.2.2.2.1
theorem dX0_spread_106 : decode cX0_spread 106 = .ok (.invokevirtual 107, 3) := eX0_spread_99.2.2.2.2.1
theorem dX0_spread_109 : decode cX0_spread 109 = .ok (.ifCond .eq 24, 3) := eX0_spread_99.2.2.2.2.2.1
theorem dX0_spread_112 : decode cX0_spread 112 = .ok (.aload_n 0, 1) := eX0_spread_99.2.2.2.2.2.2.1
theorem dX0_spread_113 : decode cX0_spread 113 = .ok (.getfield 15, 3) := eX0_spread_99.2.2.2.2.2.2.2
theorem eX0_spread_116 : (decode cX0_spread 116 = .ok (.iload_n 2, 1)) ∧ (decode cX0_spread 117 = .ok (.getstatic 84, 3)) ∧ (decode cX0_spread 120 = .ok (.iload 7, 2)) ∧ (decode cX0_spread 122 = .ok (.iaload, 1)) ∧ (decode cX0_spread 123 = .ok (.iadd, 1)) ∧ (decode cX0_spread 124 = .ok (.dup2, 1)) ∧ (decode cX0_spread 125 = .ok (.laload, 1)) ∧ (decode cX0_spread 126 = .ok (.lload 8, 2)) := by decide +kernel
theorem dX0_spread_116 : decode cX0_spread 116 = .ok (.iload_n 2, 1) := eX0_spread_116.1
theorem dX0_spread_117 : decode cX0_spread 117 = .ok (.getstatic 84, 3) := eX0_spread_116.2.1
theorem dX0_spread_120 : decode cX0_spread 120 = .ok (.iload 7, 2) := eX0_spread_116.2.2.1
theorem dX0_spread_122 : decode cX0_spread 122 = .ok (.iaload, 1) := eX0_spread_116.2.2.2.1
theorem dX0_spread_123 : decode cX0_spread 123 = .ok (.iadd, 1) := eX0_spread_116.2.2.2.2.1
theorem dX0_spread_124 : decode cX0_spread 124 = .ok (.dup2, 1) := eX0_spread_116.2.2.2.2.2.1
theorem dX0_spread_125 : decode cX0_spread 125 = .ok (.laload, 1) := eX0_spread_116.2.2.2.2.2.2.1
theorem dX0_spread_126 : decode cX0_spread 126 = .ok (.lload 8, 2) := eX0_spread_116.2.2.2.2.2.2.2
theorem eX0_spread_128 : (decode cX0_spread 128 = .ok (.ladd, 1)) ∧ (decode cX0_spread 129 = .ok (.lastore, 1)) ∧ (decode cX0_spread 130 = .ok (.goto 14, 3)) ∧ (decode cX0_spread 133 = .ok (.aload_n 0, 1)) ∧ (decode cX0_spread 134 = .ok (.dup, 1)) ∧ (decode cX0_spread 135 = .ok (.getfield 34, 3)) ∧ (decode cX0_spread 138 = .ok (.lload 8, 2)) ∧ (decode cX0_spread 140 = .ok (.ladd, 1)) := by decide +kernel
theorem dX0_spread_128 : decode cX0_spread 128 = .ok (.ladd, 1) := eX0_spread_128.1
theorem dX0_spread_129 : decode cX0_spread 129 = .ok (.lastore, 1) := eX0_spread_128.2.1
theorem dX0_spread_130 : decode cX0_spread 130 = .ok (.goto 14, 3) := eX0_spread_128.2.2.1
theorem dX0_spread_133 : decode cX0_spread 133 = .ok (.aload_n 0, 1) := eX0_spread_128.2.2.2.1
theorem dX0_spread_134 : decode cX0_spread 134 = .ok (.dup, 1) := eX0_spread_128.2.2.2.2.1
theorem dX0_spread_135 : decode cX0_spread 135 = .ok (.getfield 34, 3) := eX0_spread_128.2.2.2.2.2.1
theorem dX0_spread_138 : decode cX0_spread 138 = .ok (.lload 8, 2) := eX0_spread_128.2.2.2.2.2.2.1
theorem dX0_spread_140 : decode cX0_spread 140 = .ok (.ladd, 1) := eX0_spread_128.2.2.2.2.2.2.2
theorem eX0_spread_141 : (decode cX0_spread 141 = .ok (.putfield 34, 3)) ∧ (decode cX0_spread 144 = .ok (.iinc 7 1, 3)) ∧ (decode cX0_spread 147 = .ok (.goto (-103), 3)) ∧ (decode cX0_spread 150 = .ok (.return_, 1)) := by decide +kernel
theorem dX0_spread_141 : decode cX0_spread 141 = .ok (.putfield 34, 3) := eX0_spread_141.1
theorem dX0_spread_144 : decode cX0_spread 144 = .ok (.iinc 7 1, 3) := eX0_spread_141.2.1
theorem dX0_spread_147 : decode cX0_spread 147 = .ok (.goto (-103), 3) := eX0_spread_141.2.2.1
theorem dX0_spread_150 : decode cX0_spread 150 = .ok (.return_, 1) := eX0_spread_141.2.2.2
theorem eX1_init_0 : (decode cX1_init 0 = .ok (.aload_n 0, 1)) ∧ (decode cX1_init 1 = .ok (.invokespecial 1, 3)) ∧ (decode cX1_init 4 = .ok (.aload_n 0, 1)) ∧ (decode cX1_init 5 = .ok (.lconst 0, 1)) ∧ (decode cX1_init 6 = .ok (.putfield 7, 3)) ∧ (decode cX1_init 9 = .ok (.aload_n 0, 1)) ∧ (decode cX1_init 10 = .ok (.lconst 0, 1)) ∧ (decode cX1_init 11 = .ok (.putfield 13, 3)) := by decide +kernel
theorem dX1_init_0 : decode cX1_init 0 = .ok (.aload_n 0, 1) := eX1_init_0.1
theorem dX1_init_1 : decode cX1_init 1 = .ok (.invokespecial 1, 3) := eX1_init_0.2.1
theorem dX1_init_4 : decode cX1_init 4 = .ok (.aload_n 0, 1) := eX1_init_0.2.2.1
theorem dX1_init_5 : decode cX1_init 5 = .ok (.lconst 0, 1) := eX1_init_0.2.2.2.1
theorem dX1_init_6 : decode cX1_init 6 = .ok (.putfield 7, 3) := eX1_init_0.2.2.2.2.1
theorem dX1_init_9 : decode cX1_init 9 = .ok (.aload_n 0, 1) := eX1_init_0.2.2.2.2.2.1
theorem dX1_init_10 : decode cX1_init 10 = .ok (.lconst 0, 1) := eX1_init_0.2.2.2.2.2.2.1
theorem dX1_init_11 : decode cX1_init 11 = .ok (.putfield 13, 3) := eX1_init_0.2.2.2.2.2.2.2
theorem eX1_init_14 : (decode cX1_init 14 = .ok (.aload_n 0, 1)) ∧ (decode cX1_init 15 = .ok (.lconst 1, 1)) ∧ (decode cX1_init 16 = .ok (.putfield 16, 3)) ∧ (decode cX1_init 19 = .ok (.return_, 1)) := by decide +kernel
theorem dX1_init_14 : decode cX1_init 14 = .ok (.aload_n 0, 1) := eX1_init_14.1
theorem dX1_init_15 : decode cX1_init 15 = .ok (.lconst 1, 1) := eX1_init_14.2.1
theorem dX1_init_16 : decode cX1_init 16 = .ok (.putfield 16, 3) := eX1_init_14.2.2.1
theorem dX1_init_19 : decode cX1_init 19 = .ok (.return_, 1) := eX1_init_14.2.2.2
theorem eX1_become_0 : (decode cX1_become 0 = .ok (.lload 5, 2)) ∧ (decode cX1_become 2 = .ok (.lconst 1, 1)) ∧ (decode cX1_become 3 = .ok (.lcmp, 1)) ∧ (decode cX1_become 4 = .ok (.ifCond .ge 4, 3)) ∧ (decode cX1_become 7 = .ok (.return_, 1)) ∧ (decode cX1_become 8 = .ok (.lload_n 3, 1)) ∧ (decode cX1_become 9 = .ok (.lload 5, 2)) ∧ (decode cX1_become 11 = .ok (.lrem, 1)) := by decide +kernel
theorem dX1_become_0 : decode cX1_become 0 = .ok (.lload 5, 2) := eX1_become_0.1
theorem dX1_become_2 : decode cX1_become 2 = .ok (.lconst 1, 1) := eX1_become_0.2.1
theorem dX1_become_3 : decode cX1_become 3 = .ok (.lcmp, 1) := eX1_become_0.2.2.1
theorem dX1_become_4 : decode cX1_become 4 = .ok (.ifCond .ge 4, 3) := eX1_become_0.2.2.2.1
theorem dX1_become_7 : decode cX1_become 7 = .ok (.return_, 1) := eX1_become_0.2.2.2.2.1
theorem dX1_become_8 : decode cX1_become 8 = .ok (.lload_n 3, 1) := eX1_become_0.2.2.2.2.2.1
theorem dX1_become_9 : decode cX1_become 9 = .ok (.lload 5, 2) := eX1_become_0.2.2.2.2.2.2.1
theorem dX1_become_11 : decode cX1_become 11 = .ok (.lrem, 1) := eX1_become_0.2.2.2.2.2.2.2
theorem eX1_become_12 : (decode cX1_become 12 = .ok (.lstore 7, 2)) ∧ (decode cX1_become 14 = .ok (.lload 7, 2)) ∧ (decode cX1_become 16 = .ok (.lload 5, 2)) ∧ (decode cX1_become 18 = .ok (.invokestatic 19, 3)) ∧ (decode cX1_become 21 = .ok (.lstore 9, 2)) ∧ (decode cX1_become 23 = .ok (.aload_n 0, 1)) ∧ (decode cX1_become 24 = .ok (.lload_n 1, 1)) ∧ (decode cX1_become 25 = .ok (.lload_n 3, 1)) := by decide +kernel
theorem dX1_become_12 : decode cX1_become 12 = .ok (.lstore 7, 2) := eX1_become_12.1
theorem dX1_become_14 : decode cX1_become 14 = .ok (.lload 7, 2) := eX1_become_12.2.1
theorem dX1_become_16 : decode cX1_become 16 = .ok (.lload 5, 2) := eX1_become_12.2.2.1
theorem dX1_become_18 : decode cX1_become 18 = .ok (.invokestatic 19, 3) := eX1_become_12.2.2.2.1
theorem dX1_become_21 : decode cX1_become 21 = .ok (.lstore 9, 2) := eX1_become_12.2.2.2.2.1
theorem dX1_become_23 : decode cX1_become 23 = .ok (.aload_n 0, 1) := eX1_become_12.2.2.2.2.2.1
theorem dX1_become_24 : decode cX1_become 24 = .ok (.lload_n 1, 1) := eX1_become_12.2.2.2.2.2.2.1
theorem dX1_become_25 : decode cX1_become 25 = .ok (.lload_n 3, 1) := eX1_become_12.2.2.2.2.2.2.2
theorem eX1_become_26 : (decode cX1_become 26 = .ok (.lload 5, 2)) ∧ (decode cX1_become 28 = .ok (.ldiv, 1)) ∧ (decode cX1_become 29 = .ok (.ladd, 1)) ∧ (decode cX1_become 30 = .ok (.putfield 7, 3)) ∧ (decode cX1_become 33 = .ok (.aload_n 0, 1)) ∧ (decode cX1_become 34 = .ok (.lload 7, 2)) ∧ (decode cX1_become 36 = .ok (.lload 9, 2)) ∧ (decode cX1_become 38 = .ok (.ldiv, 1)) := by decide +kernel
theorem dX1_become_26 : decode cX1_become 26 = .ok (.lload 5, 2) := eX1_become_26.1
theorem dX1_become_28 : decode cX1_become 28 = .ok (.ldiv, 1) := eX1_become_26.2.1
theorem dX1_become_29 : decode cX1_become 29 = .ok (.ladd, 1) := eX1_become_26.2.2.1
theorem dX1_become_30 : decode cX1_become 30 = .ok (.putfield 7, 3) := eX1_become_26.2.2.2.1
theorem dX1_become_33 : decode cX1_become 33 = .ok (.aload_n 0, 1) := eX1_become_26.2.2.2.2.1
theorem dX1_become_34 : decode cX1_become 34 = .ok (.lload 7, 2) := eX1_become_26.2.2.2.2.2.1
theorem dX1_become_36 : decode cX1_become 36 = .ok (.lload 9, 2) := eX1_become_26.2.2.2.2.2.2.1
theorem dX1_become_38 : decode cX1_become 38 = .ok (.ldiv, 1) := eX1_become_26.2.2.2.2.2.2.2
theorem eX1_become_39 : (decode cX1_become 39 = .ok (.putfield 13, 3)) ∧ (decode cX1_become 42 = .ok (.aload_n 0, 1)) ∧ (decode cX1_become 43 = .ok (.lload 5, 2)) ∧ (decode cX1_become 45 = .ok (.lload 9, 2)) ∧ (decode cX1_become 47 = .ok (.ldiv, 1)) ∧ (decode cX1_become 48 = .ok (.putfield 16, 3)) ∧ (decode cX1_become 51 = .ok (.return_, 1)) := by decide +kernel
theorem dX1_become_39 : decode cX1_become 39 = .ok (.putfield 13, 3) := eX1_become_39.1
theorem dX1_become_42 : decode cX1_become 42 = .ok (.aload_n 0, 1) := eX1_become_39.2.1
theorem dX1_become_43 : decode cX1_become 43 = .ok (.lload 5, 2) := eX1_become_39.2.2.1
theorem dX1_become_45 : decode cX1_become 45 = .ok (.lload 9, 2) := eX1_become_39.2.2.2.1
theorem dX1_become_47 : decode cX1_become 47 = .ok (.ldiv, 1) := eX1_become_39.2.2.2.2.1
theorem dX1_become_48 : decode cX1_become 48 = .ok (.putfield 16, 3) := eX1_become_39.2.2.2.2.2.1
theorem dX1_become_51 : decode cX1_become 51 = .ok (.return_, 1) := eX1_become_39.2.2.2.2.2.2
theorem eX2_init_0 : (decode cX2_init 0 = .ok (.aload_n 0, 1)) ∧ (decode cX2_init 1 = .ok (.invokespecial 3, 3)) ∧ (decode cX2_init 4 = .ok (.aload_n 0, 1)) ∧ (decode cX2_init 5 = .ok (.bipush 20, 2)) ∧ (decode cX2_init 7 = .ok (.sipush 201, 3)) ∧ (decode cX2_init 10 = .ok (.multianewarray 9 2, 4)) ∧ (decode cX2_init 14 = .ok (.putfield 11, 3)) ∧ (decode cX2_init 17 = .ok (.aload_n 0, 1)) := by decide +kernel
theorem dX2_init_0 : decode cX2_init 0 = .ok (.aload_n 0, 1) := eX2_init_0.1
theorem dX2_init_1 : decode cX2_init 1 = .ok (.invokespecial 3, 3) := eX2_init_0.2.1
theorem dX2_init_4 : decode cX2_init 4 = .ok (.aload_n 0, 1) := eX2_init_0.2.2.1
theorem dX2_init_5 : decode cX2_init 5 = .ok (.bipush 20, 2) := eX2_init_0.2.2.2.1
theorem dX2_init_7 : decode cX2_init 7 = .ok (.sipush 201, 3) := eX2_init_0.2.2.2.2.1
theorem dX2_init_10 : decode cX2_init 10 = .ok (.multianewarray 9 2, 4) := eX2_init_0.2.2.2.2.2.1
theorem dX2_init_14 : decode cX2_init 14 = .ok (.putfield 11, 3) := eX2_init_0.2.2.2.2.2.2.1
theorem dX2_init_17 : decode cX2_init 17 = .ok (.aload_n 0, 1) := eX2_init_0.2.2.2.2.2.2.2
theorem eX2_init_18 : (decode cX2_init 18 = .ok (.iconst 0, 1)) ∧ (decode cX2_init 19 = .ok (.putfield 16, 3)) ∧ (decode cX2_init 22 = .ok (.aload_n 0, 1)) ∧ (decode cX2_init 23 = .ok (.iconst 0, 1)) ∧ (decode cX2_init 24 = .ok (.putfield 20, 3)) ∧ (decode cX2_init 27 = .ok (.return_, 1)) := by decide +kernel
theorem dX2_init_18 : decode cX2_init 18 = .ok (.iconst 0, 1) := eX2_init_18.1
theorem dX2_init_19 : decode cX2_init 19 = .ok (.putfield 16, 3) := eX2_init_18.2.1
theorem dX2_init_22 : decode cX2_init 22 = .ok (.aload_n 0, 1) := eX2_init_18.2.2.1
theorem dX2_init_23 : decode cX2_init 23 = .ok (.iconst 0, 1) := eX2_init_18.2.2.2.1
theorem dX2_init_24 : decode cX2_init 24 = .ok (.putfield 20, 3) := eX2_init_18.2.2.2.2.1
theorem dX2_init_27 : decode cX2_init 27 = .ok (.return_, 1) := eX2_init_18.2.2.2.2.2
theorem eX2_nextRow_0 : (decode cX2_nextRow 0 = .ok (.aload_n 0, 1)) ∧ (decode cX2_nextRow 1 = .ok (.getfield 11, 3)) ∧ (decode cX2_nextRow 4 = .ok (.aload_n 0, 1)) ∧ (decode cX2_nextRow 5 = .ok (.getfield 20, 3)) ∧ (decode cX2_nextRow 8 = .ok (.aaload, 1)) ∧ (decode cX2_nextRow 9 = .ok (.astore_n 1, 1)) ∧ (decode cX2_nextRow 10 = .ok (.aload_n 0, 1)) ∧ (decode cX2_nextRow 11 = .ok (.aload_n 0, 1)) := by decide +kernel
theorem dX2_nextRow_0 : decode cX2_nextRow 0 = .ok (.aload_n 0, 1) := eX2_nextRow_0.1
theorem dX2_nextRow_1 : decode cX2_nextRow 1 = .ok (.getfield 11, 3) := eX2_nextRow_0.2.1
theorem dX2_nextRow_4 : decode cX2_nextRow 4 = .ok (.aload_n 0, 1) := eX2_nextRow_0.2.2.1
theorem dX2_nextRow_5 : decode cX2_nextRow 5 = .ok (.getfield 20, 3) := eX2_nextRow_0.2.2.2.1
theorem dX2_nextRow_8 : decode cX2_nextRow 8 = .ok (.aaload, 1) := eX2_nextRow_0.2.2.2.2.1
theorem dX2_nextRow_9 : decode cX2_nextRow 9 = .ok (.astore_n 1, 1) := eX2_nextRow_0.2.2.2.2.2.1
theorem dX2_nextRow_10 : decode cX2_nextRow 10 = .ok (.aload_n 0, 1) := eX2_nextRow_0.2.2.2.2.2.2.1
theorem dX2_nextRow_11 : decode cX2_nextRow 11 = .ok (.aload_n 0, 1) := eX2_nextRow_0.2.2.2.2.2.2.2
theorem eX2_nextRow_12 : (decode cX2_nextRow 12 = .ok (.getfield 20, 3)) ∧ (decode cX2_nextRow 15 = .ok (.iconst 1, 1)) ∧ (decode cX2_nextRow 16 = .ok (.iadd, 1)) ∧ (decode cX2_nextRow 17 = .ok (.bipush 20, 2)) ∧ (decode cX2_nextRow 19 = .ok (.irem, 1)) ∧ (decode cX2_nextRow 20 = .ok (.putfield 20, 3)) ∧ (decode cX2_nextRow 23 = .ok (.aload_n 0, 1)) ∧ (decode cX2_nextRow 24 = .ok (.aload_n 0, 1)) := by decide +kernel
theorem dX2_nextRow_12 : decode cX2_nextRow 12 = .ok (.getfield 20, 3) := eX2_nextRow_12.1
theorem dX2_nextRow_15 : decode cX2_nextRow 15 = .ok (.iconst 1, 1) := eX2_nextRow_12.2.1
theorem dX2_nextRow_16 : decode cX2_nextRow 16 = .ok (.iadd, 1) := eX2_nextRow_12.2.2.1
theorem dX2_nextRow_17 : decode cX2_nextRow 17 = .ok (.bipush 20, 2) := eX2_nextRow_12.2.2.2.1
theorem dX2_nextRow_19 : decode cX2_nextRow 19 = .ok (.irem, 1) := eX2_nextRow_12.2.2.2.2.1
theorem dX2_nextRow_20 : decode cX2_nextRow 20 = .ok (.putfield 20, 3) := eX2_nextRow_12.2.2.2.2.2.1
theorem dX2_nextRow_23 : decode cX2_nextRow 23 = .ok (.aload_n 0, 1) := eX2_nextRow_12.2.2.2.2.2.2.1
theorem dX2_nextRow_24 : decode cX2_nextRow 24 = .ok (.aload_n 0, 1) := eX2_nextRow_12.2.2.2.2.2.2.2
theorem eX2_nextRow_25 : (decode cX2_nextRow 25 = .ok (.getfield 16, 3)) ∧ (decode cX2_nextRow 28 = .ok (.bipush 20, 2)) ∧ (decode cX2_nextRow 30 = .ok (.if_icmp .ge 12, 3)) ∧ (decode cX2_nextRow 33 = .ok (.aload_n 0, 1)) ∧ (decode cX2_nextRow 34 = .ok (.getfield 16, 3)) ∧ (decode cX2_nextRow 37 = .ok (.iconst 1, 1)) ∧ (decode cX2_nextRow 38 = .ok (.iadd, 1)) ∧ (decode cX2_nextRow 39 = .ok (.goto 5, 3)) := by decide +kernel
theorem dX2_nextRow_25 : decode cX2_nextRow 25 = .ok (.getfield 16, 3) := eX2_nextRow_25.1
theorem dX2_nextRow_28 : decode cX2_nextRow 28 = .ok (.bipush 20, 2) := eX2_nextRow_25.2.1
theorem dX2_nextRow_30 : decode cX2_nextRow 30 = .ok (.if_icmp .ge 12, 3) := eX2_nextRow_25.2.2.1
theorem dX2_nextRow_33 : decode cX2_nextRow 33 = .ok (.aload_n 0, 1) := eX2_nextRow_25.2.2.2.1
theorem dX2_nextRow_34 : decode cX2_nextRow 34 = .ok (.getfield 16, 3) := eX2_nextRow_25.2.2.2.2.1
theorem dX2_nextRow_37 : decode cX2_nextRow 37 = .ok (.iconst 1, 1) := eX2_nextRow_25.2.2.2.2.2.1
theorem dX2_nextRow_38 : decode cX2_nextRow 38 = .ok (.iadd, 1) := eX2_nextRow_25.2.2.2.2.2.2.1
theorem dX2_nextRow_39 : decode cX2_nextRow 39 = .ok (.goto 5, 3) := eX2_nextRow_25.2.2.2.2.2.2.2
theorem eX2_nextRow_42 : (decode cX2_nextRow 42 = .ok (.bipush 20, 2)) ∧ (decode cX2_nextRow 44 = .ok (.putfield 16, 3)) ∧ (decode cX2_nextRow 47 = .ok (.aload_n 1, 1)) ∧ (decode cX2_nextRow 48 = .ok (.areturn, 1)) := by decide +kernel
theorem dX2_nextRow_42 : decode cX2_nextRow 42 = .ok (.bipush 20, 2) := eX2_nextRow_42.1
theorem dX2_nextRow_44 : decode cX2_nextRow 44 = .ok (.putfield 16, 3) := eX2_nextRow_42.2.1
theorem dX2_nextRow_47 : decode cX2_nextRow 47 = .ok (.aload_n 1, 1) := eX2_nextRow_42.2.2.1
theorem dX2_nextRow_48 : decode cX2_nextRow 48 = .ok (.areturn, 1) := eX2_nextRow_42.2.2.2
theorem eX2_takeLatest_0 : (decode cX2_takeLatest 0 = .ok (.aload_n 0, 1)) ∧ (decode cX2_takeLatest 1 = .ok (.getfield 16, 3)) ∧ (decode cX2_takeLatest 4 = .ok (.ifCond .ne 5, 3)) ∧ (decode cX2_takeLatest 7 = .ok (.aconst_null, 1)) ∧ (decode cX2_takeLatest 8 = .ok (.areturn, 1)) ∧ (decode cX2_takeLatest 9 = .ok (.aload_n 0, 1)) ∧ (decode cX2_takeLatest 10 = .ok (.dup, 1)) ∧ (decode cX2_takeLatest 11 = .ok (.getfield 16, 3)) := by decide +kernel
theorem dX2_takeLatest_0 : decode cX2_takeLatest 0 = .ok (.aload_n 0, 1) := eX2_takeLatest_0.1
theorem dX2_takeLatest_1 : decode cX2_takeLatest 1 = .ok (.getfield 16, 3) := eX2_takeLatest_0.2.1
theorem dX2_takeLatest_4 : decode cX2_takeLatest 4 = .ok (.ifCond .ne 5, 3) := eX2_takeLatest_0.2.2.1
theorem dX2_takeLatest_7 : decode cX2_takeLatest 7 = .ok (.aconst_null, 1) := eX2_takeLatest_0.2.2.2.1
theorem dX2_takeLatest_8 : decode cX2_takeLatest 8 = .ok (.areturn, 1) := eX2_takeLatest_0.2.2.2.2.1
theorem dX2_takeLatest_9 : decode cX2_takeLatest 9 = .ok (.aload_n 0, 1) := eX2_takeLatest_0.2.2.2.2.2.1
theorem dX2_takeLatest_10 : decode cX2_takeLatest 10 = .ok (.dup, 1) := eX2_takeLatest_0.2.2.2.2.2.2.1
theorem dX2_takeLatest_11 : decode cX2_takeLatest 11 = .ok (.getfield 16, 3) := eX2_takeLatest_0.2.2.2.2.2.2.2
theorem eX2_takeLatest_14 : (decode cX2_takeLatest 14 = .ok (.iconst 1, 1)) ∧ (decode cX2_takeLatest 15 = .ok (.isub, 1)) ∧ (decode cX2_takeLatest 16 = .ok (.putfield 16, 3)) ∧ (decode cX2_takeLatest 19 = .ok (.aload_n 0, 1)) ∧ (decode cX2_takeLatest 20 = .ok (.aload_n 0, 1)) ∧ (decode cX2_takeLatest 21 = .ok (.getfield 20, 3)) ∧ (decode cX2_takeLatest 24 = .ok (.bipush 20, 2)) ∧ (decode cX2_takeLatest 26 = .ok (.iadd, 1)) := by decide +kernel
theorem dX2_takeLatest_14 : decode cX2_takeLatest 14 = .ok (.iconst 1, 1) := eX2_takeLatest_14.1
theorem dX2_takeLatest_15 : decode cX2_takeLatest 15 = .ok (.isub, 1) := eX2_takeLatest_14.2.1
theorem dX2_takeLatest_16 : decode cX2_takeLatest 16 = .ok (.putfield 16, 3) := eX2_takeLatest_14.2.2.1
theorem dX2_takeLatest_19 : decode cX2_takeLatest 19 = .ok (.aload_n 0, 1) := eX2_takeLatest_14.2.2.2.1
theorem dX2_takeLatest_20 : decode cX2_takeLatest 20 = .ok (.aload_n 0, 1) := eX2_takeLatest_14.2.2.2.2.1
theorem dX2_takeLatest_21 : decode cX2_takeLatest 21 = .ok (.getfield 20, 3) := eX2_takeLatest_14.2.2.2.2.2.1
theorem dX2_takeLatest_24 : decode cX2_takeLatest 24 = .ok (.bipush 20, 2) := eX2_takeLatest_14.2.2.2.2.2.2.1
theorem dX2_takeLatest_26 : decode cX2_takeLatest 26 = .ok (.iadd, 1) := eX2_takeLatest_14.2.2.2.2.2.2.2
theorem eX2_takeLatest_27 : (decode cX2_takeLatest 27 = .ok (.iconst 1, 1)) ∧ (decode cX2_takeLatest 28 = .ok (.isub, 1)) ∧ (decode cX2_takeLatest 29 = .ok (.bipush 20, 2)) ∧ (decode cX2_takeLatest 31 = .ok (.irem, 1)) ∧ (decode cX2_takeLatest 32 = .ok (.putfield 20, 3)) ∧ (decode cX2_takeLatest 35 = .ok (.aload_n 0, 1)) ∧ (decode cX2_takeLatest 36 = .ok (.getfield 11, 3)) ∧ (decode cX2_takeLatest 39 = .ok (.aload_n 0, 1)) := by decide +kernel
theorem dX2_takeLatest_27 : decode cX2_takeLatest 27 = .ok (.iconst 1, 1) := eX2_takeLatest_27.1
theorem dX2_takeLatest_28 : decode cX2_takeLatest 28 = .ok (.isub, 1) := eX2_takeLatest_27.2.1
theorem dX2_takeLatest_29 : decode cX2_takeLatest 29 = .ok (.bipush 20, 2) := eX2_takeLatest_27.2.2.1
theorem dX2_takeLatest_31 : decode cX2_takeLatest 31 = .ok (.irem, 1) := eX2_takeLatest_27.2.2.2.1
theorem dX2_takeLatest_32 : decode cX2_takeLatest 32 = .ok (.putfield 20, 3) := eX2_takeLatest_27.2.2.2.2.1
theorem dX2_takeLatest_35 : decode cX2_takeLatest 35 = .ok (.aload_n 0, 1) := eX2_takeLatest_27.2.2.2.2.2.1
theorem dX2_takeLatest_36 : decode cX2_takeLatest 36 = .ok (.getfield 11, 3) := eX2_takeLatest_27.2.2.2.2.2.2.1
theorem dX2_takeLatest_39 : decode cX2_takeLatest 39 = .ok (.aload_n 0, 1) := eX2_takeLatest_27.2.2.2.2.2.2.2
theorem eX2_takeLatest_40 : (decode cX2_takeLatest 40 = .ok (.getfield 20, 3)) ∧ (decode cX2_takeLatest 43 = .ok (.aaload, 1)) ∧ (decode cX2_takeLatest 44 = .ok (.areturn, 1)) := by decide +kernel
theorem dX2_takeLatest_40 : decode cX2_takeLatest 40 = .ok (.getfield 20, 3) := eX2_takeLatest_40.1
theorem dX2_takeLatest_43 : decode cX2_takeLatest 43 = .ok (.aaload, 1) := eX2_takeLatest_40.2.1
theorem dX2_takeLatest_44 : decode cX2_takeLatest 44 = .ok (.areturn, 1) := eX2_takeLatest_40.2.2
theorem eX3_init_0 : (decode cX3_init 0 = .ok (.aload_n 0, 1)) ∧ (decode cX3_init 1 = .ok (.invokespecial 3, 3)) ∧ (decode cX3_init 4 = .ok (.aload_n 0, 1)) ∧ (decode cX3_init 5 = .ok (.sipush 216, 3)) ∧ (decode cX3_init 8 = .ok (.newarray .long, 2)) ∧ (decode cX3_init 10 = .ok (.putfield 11, 3)) ∧ (decode cX3_init 13 = .ok (.aload_n 0, 1)) ∧ (decode cX3_init 14 = .ok (.sipush 216, 3)) := by decide +kernel
theorem dX3_init_0 : decode cX3_init 0 = .ok (.aload_n 0, 1) := eX3_init_0.1
theorem dX3_init_1 : decode cX3_init 1 = .ok (.invokespecial 3, 3) := eX3_init_0.2.1
theorem dX3_init_4 : decode cX3_init 4 = .ok (.aload_n 0, 1) := eX3_init_0.2.2.1
theorem dX3_init_5 : decode cX3_init 5 = .ok (.sipush 216, 3) := eX3_init_0.2.2.2.1
theorem dX3_init_8 : decode cX3_init 8 = .ok (.newarray .long, 2) := eX3_init_0.2.2.2.2.1
theorem dX3_init_10 : decode cX3_init 10 = .ok (.putfield 11, 3) := eX3_init_0.2.2.2.2.2.1
theorem dX3_init_13 : decode cX3_init 13 = .ok (.aload_n 0, 1) := eX3_init_0.2.2.2.2.2.2.1
theorem dX3_init_14 : decode cX3_init 14 = .ok (.sipush 216, 3) := eX3_init_0.2.2.2.2.2.2.2
theorem eX3_init_17 : (decode cX3_init 17 = .ok (.newarray .long, 2)) ∧ (decode cX3_init 19 = .ok (.putfield 15, 3)) ∧ (decode cX3_init 22 = .ok (.return_, 1)) := by decide +kernel
theorem dX3_init_17 : decode cX3_init 17 = .ok (.newarray .long, 2) := eX3_init_17.1
theorem dX3_init_19 : decode cX3_init 19 = .ok (.putfield 15, 3) := eX3_init_17.2.1
theorem dX3_init_22 : decode cX3_init 22 = .ok (.return_, 1) := eX3_init_17.2.2
theorem eX3_areAlike_0 : (decode cX3_areAlike 0 = .ok (.aload_n 0, 1)) ∧ (decode cX3_areAlike 1 = .ok (.getfield 15, 3)) ∧ (decode cX3_areAlike 4 = .ok (.lconst 0, 1)) ∧ (decode cX3_areAlike 5 = .ok (.invokestatic 18, 3)) ∧ (decode cX3_areAlike 8 = .ok (.iconst 1, 1)) ∧ (decode cX3_areAlike 9 = .ok (.istore 4, 2)) ∧ (decode cX3_areAlike 11 = .ok (.iconst 0, 1)) ∧ (decode cX3_areAlike 12 = .ok (.istore 5, 2)) := by decide +kernel
theorem dX3_areAlike_0 : decode cX3_areAlike 0 = .ok (.aload_n 0, 1) := eX3_areAlike_0.1
theorem dX3_areAlike_1 : decode cX3_areAlike 1 = .ok (.getfield 15, 3) := eX3_areAlike_0.2.1
theorem dX3_areAlike_4 : decode cX3_areAlike 4 = .ok (.lconst 0, 1) := eX3_areAlike_0.2.2.1
theorem dX3_areAlike_5 : decode cX3_areAlike 5 = .ok (.invokestatic 18, 3) := eX3_areAlike_0.2.2.2.1
theorem dX3_areAlike_8 : decode cX3_areAlike 8 = .ok (.iconst 1, 1) := eX3_areAlike_0.2.2.2.2.1
theorem dX3_areAlike_9 : decode cX3_areAlike 9 = .ok (.istore 4, 2) := eX3_areAlike_0.2.2.2.2.2.1
theorem dX3_areAlike_11 : decode cX3_areAlike 11 = .ok (.iconst 0, 1) := eX3_areAlike_0.2.2.2.2.2.2.1
theorem dX3_areAlike_12 : decode cX3_areAlike 12 = .ok (.istore 5, 2) := eX3_areAlike_0.2.2.2.2.2.2.2
theorem eX3_areAlike_14 : (decode cX3_areAlike 14 = .ok (.iload 5, 2)) ∧ (decode cX3_areAlike 16 = .ok (.iload_n 2, 1)) ∧ (decode cX3_areAlike 17 = .ok (.if_icmp .ge 15, 3)) ∧ (decode cX3_areAlike 20 = .ok (.iload 4, 2)) ∧ (decode cX3_areAlike 22 = .ok (.iconst 4, 1)) ∧ (decode cX3_areAlike 23 = .ok (.imul, 1)) ∧ (decode cX3_areAlike 24 = .ok (.istore 4, 2)) ∧ (decode cX3_areAlike 26 = .ok (.iinc 5 1, 3)) := by decide +kernel
theorem dX3_areAlike_14 : decode cX3_areAlike 14 = .ok (.iload 5, 2) := eX3_areAlike_14.1
theorem dX3_areAlike_16 : decode cX3_areAlike 16 = .ok (.iload_n 2, 1) := eX3_areAlike_14.2.1
theorem dX3_areAlike_17 : decode cX3_areAlike 17 = .ok (.if_icmp .ge 15, 3) := eX3_areAlike_14.2.2.1
theorem dX3_areAlike_20 : decode cX3_areAlike 20 = .ok (.iload 4, 2) := eX3_areAlike_14.2.2.2.1
theorem dX3_areAlike_22 : decode cX3_areAlike 22 = .ok (.iconst 4, 1) := eX3_areAlike_14.2.2.2.2.1
theorem dX3_areAlike_23 : decode cX3_areAlike 23 = .ok (.imul, 1) := eX3_areAlike_14.2.2.2.2.2.1
theorem dX3_areAlike_24 : decode cX3_areAlike 24 = .ok (.istore 4, 2) := eX3_areAlike_14.2.2.2.2.2.2.1
theorem dX3_areAlike_26 : decode cX3_areAlike 26 = .ok (.iinc 5 1, 3) := eX3_areAlike_14.2.2.2.2.2.2.2
theorem eX3_areAlike_29 : (decode cX3_areAlike 29 = .ok (.goto (-15), 3)) ∧ (decode cX3_areAlike 32 = .ok (.iconst 0, 1)) ∧ (decode cX3_areAlike 33 = .ok (.istore 5, 2)) ∧ (decode cX3_areAlike 35 = .ok (.iload 5, 2)) ∧ (decode cX3_areAlike 37 = .ok (.iload 4, 2)) ∧ (decode cX3_areAlike 39 = .ok (.if_icmp .ge 46, 3)) ∧ (decode cX3_areAlike 42 = .ok (.aload_n 1, 1)) ∧ (decode cX3_areAlike 43 = .ok (.iload_n 2, 1)) := by decide +kernel
theorem dX3_areAlike_29 : decode cX3_areAlike 29 = .ok (.goto (-15), 3) := eX3_areAlike_29.1
theorem dX3_areAlike_32 : decode cX3_areAlike 32 = .ok (.iconst 0, 1) := eX3_areAlike_29.2.1
theorem dX3_areAlike_33 : decode cX3_areAlike 33 = .ok (.istore 5, 2) := eX3_areAlike_29.2.2.1
theorem dX3_areAlike_35 : decode cX3_areAlike 35 = .ok (.iload 5, 2) := eX3_areAlike_29.2.2.2.1
theorem dX3_areAlike_37 : decode cX3_areAlike 37 = .ok (.iload 4, 2) := eX3_areAlike_29.2.2.2.2.1
theorem dX3_areAlike_39 : decode cX3_areAlike 39 = .ok (.if_icmp .ge 46, 3) := eX3_areAlike_29.2.2.2.2.2.1
theorem dX3_areAlike_42 : decode cX3_areAlike 42 = .ok (.aload_n 1, 1) := eX3_areAlike_29.2.2.2.2.2.2.1
theorem dX3_areAlike_43 : decode cX3_areAlike 43 = .ok (.iload_n 2, 1) := eX3_areAlike_29.2.2.2.2.2.2.2
theorem eX3_areAlike_44 : (decode cX3_areAlike 44 = .ok (.iload 5, 2)) ∧ (decode cX3_areAlike 46 = .ok (.invokevirtual 24, 3)) ∧ (decode cX3_areAlike 49 = .ok (.ifCond .eq 30, 3)) ∧ (decode cX3_areAlike 52 = .ok (.aload_n 3, 1)) ∧ (decode cX3_areAlike 53 = .ok (.aload_n 1, 1)) ∧ (decode cX3_areAlike 54 = .ok (.iload_n 2, 1)) ∧ (decode cX3_areAlike 55 = .ok (.iload 5, 2)) ∧ (decode cX3_areAlike 57 = .ok (.invokevirtual 30, 3)) := by decide +kernel
theorem dX3_areAlike_44 : decode cX3_areAlike 44 = .ok (.iload 5, 2) := eX3_areAlike_44.1
theorem dX3_areAlike_46 : decode cX3_areAlike 46 = .ok (.invokevirtual 24, 3) := eX3_areAlike_44.2.1
theorem dX3_areAlike_49 : decode cX3_areAlike 49 = .ok (.ifCond .eq 30, 3) := eX3_areAlike_44.2.2.1
theorem dX3_areAlike_52 : decode cX3_areAlike 52 = .ok (.aload_n 3, 1) := eX3_areAlike_44.2.2.2.1
theorem dX3_areAlike_53 : decode cX3_areAlike 53 = .ok (.aload_n 1, 1) := eX3_areAlike_44.2.2.2.2.1
theorem dX3_areAlike_54 : decode cX3_areAlike 54 = .ok (.iload_n 2, 1) := eX3_areAlike_44.2.2.2.2.2.1
theorem dX3_areAlike_55 : decode cX3_areAlike 55 = .ok (.iload 5, 2) := eX3_areAlike_44.2.2.2.2.2.2.1
theorem dX3_areAlike_57 : decode cX3_areAlike 57 = .ok (.invokevirtual 30, 3) := eX3_areAlike_44.2.2.2.2.2.2.2
theorem eX3_areAlike_60 : (decode cX3_areAlike 60 = .ok (.ifCond .eq 19, 3)) ∧ (decode cX3_areAlike 63 = .ok (.aload_n 0, 1)) ∧ (decode cX3_areAlike 64 = .ok (.iload_n 2, 1)) ∧ (decode cX3_areAlike 65 = .ok (.iload 5, 2)) ∧ (decode cX3_areAlike 67 = .ok (.invokestatic 36, 3)) ∧ (decode cX3_areAlike 70 = .ok (.aload_n 3, 1)) ∧ (decode cX3_areAlike 71 = .ok (.invokevirtual 40, 3)) ∧ (decode cX3_areAlike 74 = .ok (.ifCond .ne 5, 3)) := by decide +kernel
theorem dX3_areAlike_60 : decode cX3_areAlike 60 = .ok (.ifCond .eq 19, 3) := eX3_areAlike_60.1
theorem dX3_areAlike_63 : decode cX3_areAlike 63 = .ok (.aload_n 0, 1) := eX3_areAlike_60.2.1
theorem dX3_areAlike_64 : decode cX3_areAlike 64 = .ok (.iload_n 2, 1) := eX3_areAlike_60.2.2.1
theorem dX3_areAlike_65 : decode cX3_areAlike 65 = .ok (.iload 5, 2) := eX3_areAlike_60.2.2.2.1
theorem dX3_areAlike_67 : decode cX3_areAlike 67 = .ok (.invokestatic 36, 3) := eX3_areAlike_60.2.2.2.2.1
theorem dX3_areAlike_70 : decode cX3_areAlike 70 = .ok (.aload_n 3, 1) := eX3_areAlike_60.2.2.2.2.2.1
theorem dX3_areAlike_71 : decode cX3_areAlike 71 = .ok (.invokevirtual 40, 3) := eX3_areAlike_60.2.2.2.2.2.2.1
theorem dX3_areAlike_74 : decode cX3_areAlike 74 = .ok (.ifCond .ne 5, 3) := eX3_areAlike_60.2.2.2.2.2.2.2
theorem eX3_areAlike_77 : (decode cX3_areAlike 77 = .ok (.iconst 0, 1)) ∧ (decode cX3_areAlike 78 = .ok (.ireturn, 1)) ∧ (decode cX3_areAlike 79 = .ok (.iinc 5 1, 3)) ∧ (decode cX3_areAlike 82 = .ok (.goto (-47), 3)) ∧ (decode cX3_areAlike 85 = .ok (.iconst 1, 1)) ∧ (decode cX3_areAlike 86 = .ok (.ireturn, 1)) := by decide +kernel
theorem dX3_areAlike_77 : decode cX3_areAlike 77 = .ok (.iconst 0, 1) := eX3_areAlike_77.1
theorem dX3_areAlike_78 : decode cX3_areAlike 78 = .ok (.ireturn, 1) := eX3_areAlike_77.2.1
theorem dX3_areAlike_79 : decode cX3_areAlike 79 = .ok (.iinc 5 1, 3) := eX3_areAlike_77.2.2.1
theorem dX3_areAlike_82 : decode cX3_areAlike 82 = .ok (.goto (-47), 3) := eX3_areAlike_77.2.2.2.1
theorem dX3_areAlike_85 : decode cX3_areAlike 85 = .ok (.iconst 1, 1) := eX3_areAlike_77.2.2.2.2.1
theorem dX3_areAlike_86 : decode cX3_areAlike 86 = .ok (.ireturn, 1) := eX3_areAlike_77.2.2.2.2.2
theorem eX3_placeOf_0 : (decode cX3_placeOf 0 = .ok (.iconst 0, 1)) ∧ (decode cX3_placeOf 1 = .ok (.istore_n 2, 1)) ∧ (decode cX3_placeOf 2 = .ok (.iload_n 1, 1)) ∧ (decode cX3_placeOf 3 = .ok (.istore_n 3, 1)) ∧ (decode cX3_placeOf 4 = .ok (.iconst 0, 1)) ∧ (decode cX3_placeOf 5 = .ok (.istore 4, 2)) ∧ (decode cX3_placeOf 7 = .ok (.iload 4, 2)) ∧ (decode cX3_placeOf 9 = .ok (.iload_n 0, 1)) := by decide +kernel
theorem dX3_placeOf_0 : decode cX3_placeOf 0 = .ok (.iconst 0, 1) := eX3_placeOf_0.1
theorem dX3_placeOf_1 : decode cX3_placeOf 1 = .ok (.istore_n 2, 1) := eX3_placeOf_0.2.1
theorem dX3_placeOf_2 : decode cX3_placeOf 2 = .ok (.iload_n 1, 1) := eX3_placeOf_0.2.2.1
theorem dX3_placeOf_3 : decode cX3_placeOf 3 = .ok (.istore_n 3, 1) := eX3_placeOf_0.2.2.2.1
theorem dX3_placeOf_4 : decode cX3_placeOf 4 = .ok (.iconst 0, 1) := eX3_placeOf_0.2.2.2.2.1
theorem dX3_placeOf_5 : decode cX3_placeOf 5 = .ok (.istore 4, 2) := eX3_placeOf_0.2.2.2.2.2.1
theorem dX3_placeOf_7 : decode cX3_placeOf 7 = .ok (.iload 4, 2) := eX3_placeOf_0.2.2.2.2.2.2.1
theorem dX3_placeOf_9 : decode cX3_placeOf 9 = .ok (.iload_n 0, 1) := eX3_placeOf_0.2.2.2.2.2.2.2
theorem eX3_placeOf_10 : (decode cX3_placeOf 10 = .ok (.if_icmp .ge 23, 3)) ∧ (decode cX3_placeOf 13 = .ok (.iload_n 2, 1)) ∧ (decode cX3_placeOf 14 = .ok (.getstatic 44, 3)) ∧ (decode cX3_placeOf 17 = .ok (.iload_n 3, 1)) ∧ (decode cX3_placeOf 18 = .ok (.iconst 4, 1)) ∧ (decode cX3_placeOf 19 = .ok (.irem, 1)) ∧ (decode cX3_placeOf 20 = .ok (.iaload, 1)) ∧ (decode cX3_placeOf 21 = .ok (.iadd, 1)) := by decide +kernel
theorem dX3_placeOf_10 : decode cX3_placeOf 10 = .ok (.if_icmp .ge 23, 3) := eX3_placeOf_10.1
theorem dX3_placeOf_13 : decode cX3_placeOf 13 = .ok (.iload_n 2, 1) := eX3_placeOf_10.2.1
theorem dX3_placeOf_14 : decode cX3_placeOf 14 = .ok (.getstatic 44, 3) := eX3_placeOf_10.2.2.1
theorem dX3_placeOf_17 : decode cX3_placeOf 17 = .ok (.iload_n 3, 1) := eX3_placeOf_10.2.2.2.1
theorem dX3_placeOf_18 : decode cX3_placeOf 18 = .ok (.iconst 4, 1) := eX3_placeOf_10.2.2.2.2.1
theorem dX3_placeOf_19 : decode cX3_placeOf 19 = .ok (.irem, 1) := eX3_placeOf_10.2.2.2.2.2.1
theorem dX3_placeOf_20 : decode cX3_placeOf 20 = .ok (.iaload, 1) := eX3_placeOf_10.2.2.2.2.2.2.1
theorem dX3_placeOf_21 : decode cX3_placeOf 21 = .ok (.iadd, 1) := eX3_placeOf_10.2.2.2.2.2.2.2
theorem eX3_placeOf_22 : (decode cX3_placeOf 22 = .ok (.istore_n 2, 1)) ∧ (decode cX3_placeOf 23 = .ok (.iload_n 3, 1)) ∧ (decode cX3_placeOf 24 = .ok (.iconst 4, 1)) ∧ (decode cX3_placeOf 25 = .ok (.idiv, 1)) ∧ (decode cX3_placeOf 26 = .ok (.istore_n 3, 1)) ∧ (decode cX3_placeOf 27 = .ok (.iinc 4 1, 3)) ∧ (decode cX3_placeOf 30 = .ok (.goto (-23), 3)) ∧ (decode cX3_placeOf 33 = .ok (.iload_n 2, 1)) := by decide +kernel
theorem dX3_placeOf_22 : decode cX3_placeOf 22 = .ok (.istore_n 2, 1) := eX3_placeOf_22.1
theorem dX3_placeOf_23 : decode cX3_placeOf 23 = .ok (.iload_n 3, 1) := eX3_placeOf_22.2.1
theorem dX3_placeOf_24 : decode cX3_placeOf 24 = .ok (.iconst 4, 1) := eX3_placeOf_22.2.2.1
theorem dX3_placeOf_25 : decode cX3_placeOf 25 = .ok (.idiv, 1) := eX3_placeOf_22.2.2.2.1
theorem dX3_placeOf_26 : decode cX3_placeOf 26 = .ok (.istore_n 3, 1) := eX3_placeOf_22.2.2.2.2.1
theorem dX3_placeOf_27 : decode cX3_placeOf 27 = .ok (.iinc 4 1, 3) := eX3_placeOf_22.2.2.2.2.2.1
theorem dX3_placeOf_30 : decode cX3_placeOf 30 = .ok (.goto (-23), 3) := eX3_placeOf_22.2.2.2.2.2.2.1
theorem dX3_placeOf_33 : decode cX3_placeOf 33 = .ok (.iload_n 2, 1) := eX3_placeOf_22.2.2.2.2.2.2.2
theorem dX3_placeOf_34 : decode cX3_placeOf 34 = .ok (.ireturn, 1) := by decide +kernel
theorem eX3_isAsAhead_0 : (decode cX3_isAsAhead 0 = .ok (.aload_n 0, 1)) ∧ (decode cX3_isAsAhead 1 = .ok (.getfield 15, 3)) ∧ (decode cX3_isAsAhead 4 = .ok (.iload_n 1, 1)) ∧ (decode cX3_isAsAhead 5 = .ok (.laload, 1)) ∧ (decode cX3_isAsAhead 6 = .ok (.lconst 0, 1)) ∧ (decode cX3_isAsAhead 7 = .ok (.lcmp, 1)) ∧ (decode cX3_isAsAhead 8 = .ok (.ifCond .ne 25, 3)) ∧ (decode cX3_isAsAhead 11 = .ok (.aload_n 0, 1)) := by decide +kernel
theorem dX3_isAsAhead_0 : decode cX3_isAsAhead 0 = .ok (.aload_n 0, 1) := eX3_isAsAhead_0.1
theorem dX3_isAsAhead_1 : decode cX3_isAsAhead 1 = .ok (.getfield 15, 3) := eX3_isAsAhead_0.2.1
theorem dX3_isAsAhead_4 : decode cX3_isAsAhead 4 = .ok (.iload_n 1, 1) := eX3_isAsAhead_0.2.2.1
theorem dX3_isAsAhead_5 : decode cX3_isAsAhead 5 = .ok (.laload, 1) := eX3_isAsAhead_0.2.2.2.1
theorem dX3_isAsAhead_6 : decode cX3_isAsAhead 6 = .ok (.lconst 0, 1) := eX3_isAsAhead_0.2.2.2.2.1
theorem dX3_isAsAhead_7 : decode cX3_isAsAhead 7 = .ok (.lcmp, 1) := eX3_isAsAhead_0.2.2.2.2.2.1
theorem dX3_isAsAhead_8 : decode cX3_isAsAhead 8 = .ok (.ifCond .ne 25, 3) := eX3_isAsAhead_0.2.2.2.2.2.2.1
theorem dX3_isAsAhead_11 : decode cX3_isAsAhead 11 = .ok (.aload_n 0, 1) := eX3_isAsAhead_0.2.2.2.2.2.2.2
theorem eX3_isAsAhead_12 : (decode cX3_isAsAhead 12 = .ok (.getfield 11, 3)) ∧ (decode cX3_isAsAhead 15 = .ok (.iload_n 1, 1)) ∧ (decode cX3_isAsAhead 16 = .ok (.aload_n 2, 1)) ∧ (decode cX3_isAsAhead 17 = .ok (.getfield 48, 3)) ∧ (decode cX3_isAsAhead 20 = .ok (.lastore, 1)) ∧ (decode cX3_isAsAhead 21 = .ok (.aload_n 0, 1)) ∧ (decode cX3_isAsAhead 22 = .ok (.getfield 15, 3)) ∧ (decode cX3_isAsAhead 25 = .ok (.iload_n 1, 1)) := by decide +kernel
theorem dX3_isAsAhead_12 : decode cX3_isAsAhead 12 = .ok (.getfield 11, 3) := eX3_isAsAhead_12.1
theorem dX3_isAsAhead_15 : decode cX3_isAsAhead 15 = .ok (.iload_n 1, 1) := eX3_isAsAhead_12.2.1
theorem dX3_isAsAhead_16 : decode cX3_isAsAhead 16 = .ok (.aload_n 2, 1) := eX3_isAsAhead_12.2.2.1
theorem dX3_isAsAhead_17 : decode cX3_isAsAhead 17 = .ok (.getfield 48, 3) := eX3_isAsAhead_12.2.2.2.1
theorem dX3_isAsAhead_20 : decode cX3_isAsAhead 20 = .ok (.lastore, 1) := eX3_isAsAhead_12.2.2.2.2.1
theorem dX3_isAsAhead_21 : decode cX3_isAsAhead 21 = .ok (.aload_n 0, 1) := eX3_isAsAhead_12.2.2.2.2.2.1
theorem dX3_isAsAhead_22 : decode cX3_isAsAhead 22 = .ok (.getfield 15, 3) := eX3_isAsAhead_12.2.2.2.2.2.2.1
theorem dX3_isAsAhead_25 : decode cX3_isAsAhead 25 = .ok (.iload_n 1, 1) := eX3_isAsAhead_12.2.2.2.2.2.2.2
theorem eX3_isAsAhead_26 : (decode cX3_isAsAhead 26 = .ok (.aload_n 2, 1)) ∧ (decode cX3_isAsAhead 27 = .ok (.getfield 52, 3)) ∧ (decode cX3_isAsAhead 30 = .ok (.lastore, 1)) ∧ (decode cX3_isAsAhead 31 = .ok (.iconst 1, 1)) ∧ (decode cX3_isAsAhead 32 = .ok (.ireturn, 1)) ∧ (decode cX3_isAsAhead 33 = .ok (.aload_n 0, 1)) ∧ (decode cX3_isAsAhead 34 = .ok (.getfield 11, 3)) ∧ (decode cX3_isAsAhead 37 = .ok (.iload_n 1, 1)) := by decide +kernel
theorem dX3_isAsAhead_26 : decode cX3_isAsAhead 26 = .ok (.aload_n 2, 1) := eX3_isAsAhead_26.1
theorem dX3_isAsAhead_27 : decode cX3_isAsAhead 27 = .ok (.getfield 52, 3) := eX3_isAsAhead_26.2.1
theorem dX3_isAsAhead_30 : decode cX3_isAsAhead 30 = .ok (.lastore, 1) := eX3_isAsAhead_26.2.2.1
theorem dX3_isAsAhead_31 : decode cX3_isAsAhead 31 = .ok (.iconst 1, 1) := eX3_isAsAhead_26.2.2.2.1
theorem dX3_isAsAhead_32 : decode cX3_isAsAhead 32 = .ok (.ireturn, 1) := eX3_isAsAhead_26.2.2.2.2.1
theorem dX3_isAsAhead_33 : decode cX3_isAsAhead 33 = .ok (.aload_n 0, 1) := eX3_isAsAhead_26.2.2.2.2.2.1
theorem dX3_isAsAhead_34 : decode cX3_isAsAhead 34 = .ok (.getfield 11, 3) := eX3_isAsAhead_26.2.2.2.2.2.2.1
theorem dX3_isAsAhead_37 : decode cX3_isAsAhead 37 = .ok (.iload_n 1, 1) := eX3_isAsAhead_26.2.2.2.2.2.2.2
theorem eX3_isAsAhead_38 : (decode cX3_isAsAhead 38 = .ok (.laload, 1)) ∧ (decode cX3_isAsAhead 39 = .ok (.aload_n 2, 1)) ∧ (decode cX3_isAsAhead 40 = .ok (.getfield 48, 3)) ∧ (decode cX3_isAsAhead 43 = .ok (.lcmp, 1)) ∧ (decode cX3_isAsAhead 44 = .ok (.ifCond .ne 21, 3)) ∧ (decode cX3_isAsAhead 47 = .ok (.aload_n 0, 1)) ∧ (decode cX3_isAsAhead 48 = .ok (.getfield 15, 3)) ∧ (decode cX3_isAsAhead 51 = .ok (.iload_n 1, 1)) := by decide +kernel
theorem dX3_isAsAhead_38 : decode cX3_isAsAhead 38 = .ok (.laload, 1) := eX3_isAsAhead_38.1
theorem dX3_isAsAhead_39 : decode cX3_isAsAhead 39 = .ok (.aload_n 2, 1) := eX3_isAsAhead_38.2.1
theorem dX3_isAsAhead_40 : decode cX3_isAsAhead 40 = .ok (.getfield 48, 3) := eX3_isAsAhead_38.2.2.1
theorem dX3_isAsAhead_43 : decode cX3_isAsAhead 43 = .ok (.lcmp, 1) := eX3_isAsAhead_38.2.2.2.1
theorem dX3_isAsAhead_44 : decode cX3_isAsAhead 44 = .ok (.ifCond .ne 21, 3) := eX3_isAsAhead_38.2.2.2.2.1
theorem dX3_isAsAhead_47 : decode cX3_isAsAhead 47 = .ok (.aload_n 0, 1) := eX3_isAsAhead_38.2.2.2.2.2.1
theorem dX3_isAsAhead_48 : decode cX3_isAsAhead 48 = .ok (.getfield 15, 3) := eX3_isAsAhead_38.2.2.2.2.2.2.1
theorem dX3_isAsAhead_51 : decode cX3_isAsAhead 51 = .ok (.iload_n 1, 1) := eX3_isAsAhead_38.2.2.2.2.2.2.2
theorem eX3_isAsAhead_52 : (decode cX3_isAsAhead 52 = .ok (.laload, 1)) ∧ (decode cX3_isAsAhead 53 = .ok (.aload_n 2, 1)) ∧ (decode cX3_isAsAhead 54 = .ok (.getfield 52, 3)) ∧ (decode cX3_isAsAhead 57 = .ok (.lcmp, 1)) ∧ (decode cX3_isAsAhead 58 = .ok (.ifCond .ne 7, 3)) ∧ (decode cX3_isAsAhead 61 = .ok (.iconst 1, 1)) ∧ (decode cX3_isAsAhead 62 = .ok (.goto 4, 3)) ∧ (decode cX3_isAsAhead 65 = .ok (.iconst 0, 1)) := by decide +kernel
theorem dX3_isAsAhead_52 : decode cX3_isAsAhead 52 = .ok (.laload, 1) := eX3_isAsAhead_52.1
theorem dX3_isAsAhead_53 : decode cX3_isAsAhead 53 = .ok (.aload_n 2, 1) := eX3_isAsAhead_52.2.1
theorem dX3_isAsAhead_54 : decode cX3_isAsAhead 54 = .ok (.getfield 52, 3) := eX3_isAsAhead_52.2.2.1
theorem dX3_isAsAhead_57 : decode cX3_isAsAhead 57 = .ok (.lcmp, 1) := eX3_isAsAhead_52.2.2.2.1
theorem dX3_isAsAhead_58 : decode cX3_isAsAhead 58 = .ok (.ifCond .ne 7, 3) := eX3_isAsAhead_52.2.2.2.2.1
theorem dX3_isAsAhead_61 : decode cX3_isAsAhead 61 = .ok (.iconst 1, 1) := eX3_isAsAhead_52.2.2.2.2.2.1
theorem dX3_isAsAhead_62 : decode cX3_isAsAhead 62 = .ok (.goto 4, 3) := eX3_isAsAhead_52.2.2.2.2.2.2.1
theorem dX3_isAsAhead_65 : decode cX3_isAsAhead 65 = .ok (.iconst 0, 1) := eX3_isAsAhead_52.2.2.2.2.2.2.2
theorem dX3_isAsAhead_66 : decode cX3_isAsAhead 66 = .ok (.ireturn, 1) := by decide +kernel
theorem eX4_init_0 : (decode cX4_init 0 = .ok (.aload_n 0, 1)) ∧ (decode cX4_init 1 = .ok (.invokespecial 3, 3)) ∧ (decode cX4_init 4 = .ok (.aload_n 0, 1)) ∧ (decode cX4_init 5 = .ok (.bipush 8, 2)) ∧ (decode cX4_init 7 = .ok (.newarray .int, 2)) ∧ (decode cX4_init 9 = .ok (.putfield 9, 3)) ∧ (decode cX4_init 12 = .ok (.aload_n 0, 1)) ∧ (decode cX4_init 13 = .ok (.bipush 8, 2)) := by decide +kernel
theorem dX4_init_0 : decode cX4_init 0 = .ok (.aload_n 0, 1) := eX4_init_0.1
theorem dX4_init_1 : decode cX4_init 1 = .ok (.invokespecial 3, 3) := eX4_init_0.2.1
theorem dX4_init_4 : decode cX4_init 4 = .ok (.aload_n 0, 1) := eX4_init_0.2.2.1
theorem dX4_init_5 : decode cX4_init 5 = .ok (.bipush 8, 2) := eX4_init_0.2.2.2.1
theorem dX4_init_7 : decode cX4_init 7 = .ok (.newarray .int, 2) := eX4_init_0.2.2.2.2.1
theorem dX4_init_9 : decode cX4_init 9 = .ok (.putfield 9, 3) := eX4_init_0.2.2.2.2.2.1
theorem dX4_init_12 : decode cX4_init 12 = .ok (.aload_n 0, 1) := eX4_init_0.2.2.2.2.2.2.1
theorem dX4_init_13 : decode cX4_init 13 = .ok (.bipush 8, 2) := eX4_init_0.2.2.2.2.2.2.2
theorem eX4_init_15 : (decode cX4_init 15 = .ok (.newarray .int, 2)) ∧ (decode cX4_init 17 = .ok (.putfield 15, 3)) ∧ (decode cX4_init 20 = .ok (.aload_n 0, 1)) ∧ (decode cX4_init 21 = .ok (.iconst 0, 1)) ∧ (decode cX4_init 22 = .ok (.putfield 18, 3)) ∧ (decode cX4_init 25 = .ok (.aload_n 0, 1)) ∧ (decode cX4_init 26 = .ok (.lconst 0, 1)) ∧ (decode cX4_init 27 = .ok (.putfield 22, 3)) := by decide +kernel
theorem dX4_init_15 : decode cX4_init 15 = .ok (.newarray .int, 2) := eX4_init_15.1
theorem dX4_init_17 : decode cX4_init 17 = .ok (.putfield 15, 3) := eX4_init_15.2.1
theorem dX4_init_20 : decode cX4_init 20 = .ok (.aload_n 0, 1) := eX4_init_15.2.2.1
theorem dX4_init_21 : decode cX4_init 21 = .ok (.iconst 0, 1) := eX4_init_15.2.2.2.1
theorem dX4_init_22 : decode cX4_init 22 = .ok (.putfield 18, 3) := eX4_init_15.2.2.2.2.1
theorem dX4_init_25 : decode cX4_init 25 = .ok (.aload_n 0, 1) := eX4_init_15.2.2.2.2.2.1
theorem dX4_init_26 : decode cX4_init 26 = .ok (.lconst 0, 1) := eX4_init_15.2.2.2.2.2.2.1
theorem dX4_init_27 : decode cX4_init 27 = .ok (.putfield 22, 3) := eX4_init_15.2.2.2.2.2.2.2
theorem dX4_init_30 : decode cX4_init 30 = .ok (.return_, 1) := by decide +kernel
theorem eX5_init_0 : (decode cX5_init 0 = .ok (.aload_n 0, 1)) ∧ (decode cX5_init 1 = .ok (.invokespecial 3, 3)) ∧ (decode cX5_init 4 = .ok (.aload_n 0, 1)) ∧ (decode cX5_init 5 = .ok (.iconst 4, 1)) ∧ (decode cX5_init 6 = .ok (.newarray .int, 2)) ∧ (decode cX5_init 8 = .ok (.putfield 9, 3)) ∧ (decode cX5_init 11 = .ok (.aload_n 0, 1)) ∧ (decode cX5_init 12 = .ok (.lconst 0, 1)) := by decide +kernel
theorem dX5_init_0 : decode cX5_init 0 = .ok (.aload_n 0, 1) := eX5_init_0.1
theorem dX5_init_1 : decode cX5_init 1 = .ok (.invokespecial 3, 3) := eX5_init_0.2.1
theorem dX5_init_4 : decode cX5_init 4 = .ok (.aload_n 0, 1) := eX5_init_0.2.2.1
theorem dX5_init_5 : decode cX5_init 5 = .ok (.iconst 4, 1) := eX5_init_0.2.2.2.1
theorem dX5_init_6 : decode cX5_init 6 = .ok (.newarray .int, 2) := eX5_init_0.2.2.2.2.1
theorem dX5_init_8 : decode cX5_init 8 = .ok (.putfield 9, 3) := eX5_init_0.2.2.2.2.2.1
theorem dX5_init_11 : decode cX5_init 11 = .ok (.aload_n 0, 1) := eX5_init_0.2.2.2.2.2.2.1
theorem dX5_init_12 : decode cX5_init 12 = .ok (.lconst 0, 1) := eX5_init_0.2.2.2.2.2.2.2
theorem eX5_init_13 : (decode cX5_init 13 = .ok (.putfield 15, 3)) ∧ (decode cX5_init 16 = .ok (.aload_n 0, 1)) ∧ (decode cX5_init 17 = .ok (.lconst 1, 1)) ∧ (decode cX5_init 18 = .ok (.putfield 19, 3)) ∧ (decode cX5_init 21 = .ok (.return_, 1)) := by decide +kernel
theorem dX5_init_13 : decode cX5_init 13 = .ok (.putfield 15, 3) := eX5_init_13.1
theorem dX5_init_16 : decode cX5_init 16 = .ok (.aload_n 0, 1) := eX5_init_13.2.1
theorem dX5_init_17 : decode cX5_init 17 = .ok (.lconst 1, 1) := eX5_init_13.2.2.1
theorem dX5_init_18 : decode cX5_init 18 = .ok (.putfield 19, 3) := eX5_init_13.2.2.2.1
theorem dX5_init_21 : decode cX5_init 21 = .ok (.return_, 1) := eX5_init_13.2.2.2.2
theorem eX5_follow_0 : (decode cX5_follow 0 = .ok (.aload_n 1, 1)) ∧ (decode cX5_follow 1 = .ok (.getfield 22, 3)) ∧ (decode cX5_follow 4 = .ok (.iconst 0, 1)) ∧ (decode cX5_follow 5 = .ok (.aload_n 0, 1)) ∧ (decode cX5_follow 6 = .ok (.getfield 9, 3)) ∧ (decode cX5_follow 9 = .ok (.iconst 0, 1)) ∧ (decode cX5_follow 10 = .ok (.iconst 4, 1)) ∧ (decode cX5_follow 11 = .ok (.invokestatic 25, 3)) := by decide +kernel
theorem dX5_follow_0 : decode cX5_follow 0 = .ok (.aload_n 1, 1) := eX5_follow_0.1
theorem dX5_follow_1 : decode cX5_follow 1 = .ok (.getfield 22, 3) := eX5_follow_0.2.1
theorem dX5_follow_4 : decode cX5_follow 4 = .ok (.iconst 0, 1) := eX5_follow_0.2.2.1
theorem dX5_follow_5 : decode cX5_follow 5 = .ok (.aload_n 0, 1) := eX5_follow_0.2.2.2.1
theorem dX5_follow_6 : decode cX5_follow 6 = .ok (.getfield 9, 3) := eX5_follow_0.2.2.2.2.1
theorem dX5_follow_9 : decode cX5_follow 9 = .ok (.iconst 0, 1) := eX5_follow_0.2.2.2.2.2.1
theorem dX5_follow_10 : decode cX5_follow 10 = .ok (.iconst 4, 1) := eX5_follow_0.2.2.2.2.2.2.1
theorem dX5_follow_11 : decode cX5_follow 11 = .ok (.invokestatic 25, 3) := eX5_follow_0.2.2.2.2.2.2.2
theorem eX5_follow_14 : (decode cX5_follow 14 = .ok (.aload_n 0, 1)) ∧ (decode cX5_follow 15 = .ok (.lconst 1, 1)) ∧ (decode cX5_follow 16 = .ok (.putfield 15, 3)) ∧ (decode cX5_follow 19 = .ok (.aload_n 0, 1)) ∧ (decode cX5_follow 20 = .ok (.lconst 1, 1)) ∧ (decode cX5_follow 21 = .ok (.putfield 19, 3)) ∧ (decode cX5_follow 24 = .ok (.iload_n 3, 1)) ∧ (decode cX5_follow 25 = .ok (.istore 4, 2)) := by decide +kernel
theorem dX5_follow_14 : decode cX5_follow 14 = .ok (.aload_n 0, 1) := eX5_follow_14.1
theorem dX5_follow_15 : decode cX5_follow 15 = .ok (.lconst 1, 1) := eX5_follow_14.2.1
theorem dX5_follow_16 : decode cX5_follow 16 = .ok (.putfield 15, 3) := eX5_follow_14.2.2.1
theorem dX5_follow_19 : decode cX5_follow 19 = .ok (.aload_n 0, 1) := eX5_follow_14.2.2.2.1
theorem dX5_follow_20 : decode cX5_follow 20 = .ok (.lconst 1, 1) := eX5_follow_14.2.2.2.2.1
theorem dX5_follow_21 : decode cX5_follow 21 = .ok (.putfield 19, 3) := eX5_follow_14.2.2.2.2.2.1
theorem dX5_follow_24 : decode cX5_follow 24 = .ok (.iload_n 3, 1) := eX5_follow_14.2.2.2.2.2.2.1
theorem dX5_follow_25 : decode cX5_follow 25 = .ok (.istore 4, 2) := eX5_follow_14.2.2.2.2.2.2.2
theorem eX5_follow_27 : (decode cX5_follow 27 = .ok (.iconst 0, 1)) ∧ (decode cX5_follow 28 = .ok (.istore 5, 2)) ∧ (decode cX5_follow 30 = .ok (.iload 5, 2)) ∧ (decode cX5_follow 32 = .ok (.iload_n 2, 1)) ∧ (decode cX5_follow 33 = .ok (.if_icmp .ge 99, 3)) ∧ (decode cX5_follow 36 = .ok (.iload 4, 2)) ∧ (decode cX5_follow 38 = .ok (.iconst 4, 1)) ∧ (decode cX5_follow 39 = .ok (.irem, 1)) := by decide +kernel
theorem dX5_follow_27 : decode cX5_follow 27 = .ok (.iconst 0, 1) := eX5_follow_27.1
theorem dX5_follow_28 : decode cX5_follow 28 = .ok (.istore 5, 2) := eX5_follow_27.2.1
theorem dX5_follow_30 : decode cX5_follow 30 = .ok (.iload 5, 2) := eX5_follow_27.2.2.1
theorem dX5_follow_32 : decode cX5_follow 32 = .ok (.iload_n 2, 1) := eX5_follow_27.2.2.2.1
theorem dX5_follow_33 : decode cX5_follow 33 = .ok (.if_icmp .ge 99, 3) := eX5_follow_27.2.2.2.2.1
theorem dX5_follow_36 : decode cX5_follow 36 = .ok (.iload 4, 2) := eX5_follow_27.2.2.2.2.2.1
theorem dX5_follow_38 : decode cX5_follow 38 = .ok (.iconst 4, 1) := eX5_follow_27.2.2.2.2.2.2.1
theorem dX5_follow_39 : decode cX5_follow 39 = .ok (.irem, 1) := eX5_follow_27.2.2.2.2.2.2.2
theorem eX5_follow_40 : (decode cX5_follow 40 = .ok (.istore 6, 2)) ∧ (decode cX5_follow 42 = .ok (.aload_n 1, 1)) ∧ (decode cX5_follow 43 = .ok (.aload_n 0, 1)) ∧ (decode cX5_follow 44 = .ok (.getfield 9, 3)) ∧ (decode cX5_follow 47 = .ok (.iload 6, 2)) ∧ (decode cX5_follow 49 = .ok (.invokevirtual 31, 3)) ∧ (decode cX5_follow 52 = .ok (.ifCond .ne 15, 3)) ∧ (decode cX5_follow 55 = .ok (.aload_n 0, 1)) := by decide +kernel
theorem dX5_follow_40 : decode cX5_follow 40 = .ok (.istore 6, 2) := eX5_follow_40.1
theorem dX5_follow_42 : decode cX5_follow 42 = .ok (.aload_n 1, 1) := eX5_follow_40.2.1
theorem dX5_follow_43 : decode cX5_follow 43 = .ok (.aload_n 0, 1) := eX5_follow_40.2.2.1
theorem dX5_follow_44 : decode cX5_follow 44 = .ok (.getfield 9, 3) := eX5_follow_40.2.2.2.1
theorem dX5_follow_47 : decode cX5_follow 47 = .ok (.iload 6, 2) := eX5_follow_40.2.2.2.2.1
theorem dX5_follow_49 : decode cX5_follow 49 = .ok (.invokevirtual 31, 3) := eX5_follow_40.2.2.2.2.2.1
theorem dX5_follow_52 : decode cX5_follow 52 = .ok (.ifCond .ne 15, 3) := eX5_follow_40.2.2.2.2.2.2.1
theorem dX5_follow_55 : decode cX5_follow 55 = .ok (.aload_n 0, 1) := eX5_follow_40.2.2.2.2.2.2.2
theorem eX5_follow_56 : (decode cX5_follow 56 = .ok (.lconst 0, 1)) ∧ (decode cX5_follow 57 = .ok (.putfield 15, 3)) ∧ (decode cX5_follow 60 = .ok (.aload_n 0, 1)) ∧ (decode cX5_follow 61 = .ok (.lconst 1, 1)) ∧ (decode cX5_follow 62 = .ok (.putfield 19, 3)) ∧ (decode cX5_follow 65 = .ok (.iconst 1, 1)) ∧ (decode cX5_follow 66 = .ok (.ireturn, 1)) ∧ (decode cX5_follow 67 = .ok (.aload_n 0, 1)) := by decide +kernel
theorem dX5_follow_56 : decode cX5_follow 56 = .ok (.lconst 0, 1) := eX5_follow_56.1
theorem dX5_follow_57 : decode cX5_follow 57 = .ok (.putfield 15, 3) := eX5_follow_56.2.1
theorem dX5_follow_60 : decode cX5_follow 60 = .ok (.aload_n 0, 1) := eX5_follow_56.2.2.1
theorem dX5_follow_61 : decode cX5_follow 61 = .ok (.lconst 1, 1) := eX5_follow_56.2.2.2.1
theorem dX5_follow_62 : decode cX5_follow 62 = .ok (.putfield 19, 3) := eX5_follow_56.2.2.2.2.1
theorem dX5_follow_65 : decode cX5_follow 65 = .ok (.iconst 1, 1) := eX5_follow_56.2.2.2.2.2.1
theorem dX5_follow_66 : decode cX5_follow 66 = .ok (.ireturn, 1) := eX5_follow_56.2.2.2.2.2.2.1
theorem dX5_follow_67 : decode cX5_follow 67 = .ok (.aload_n 0, 1) := eX5_follow_56.2.2.2.2.2.2.2
theorem eX5_follow_68 : (decode cX5_follow 68 = .ok (.aload_n 0, 1)) ∧ (decode cX5_follow 69 = .ok (.getfield 9, 3)) ∧ (decode cX5_follow 72 = .ok (.iload 6, 2)) ∧ (decode cX5_follow 74 = .ok (.iaload, 1)) ∧ (decode cX5_follow 75 = .ok (.aload_n 0, 1)) ∧ (decode cX5_follow 76 = .ok (.getfield 9, 3)) ∧ (decode cX5_follow 79 = .ok (.iconst 0, 1)) ∧ (decode cX5_follow 80 = .ok (.iaload, 1)) := by decide +kernel
theorem dX5_follow_68 : decode cX5_follow 68 = .ok (.aload_n 0, 1) := eX5_follow_68.1
theorem dX5_follow_69 : decode cX5_follow 69 = .ok (.getfield 9, 3) := eX5_follow_68.2.1
theorem dX5_follow_72 : decode cX5_follow 72 = .ok (.iload 6, 2) := eX5_follow_68.2.2.1
theorem dX5_follow_74 : decode cX5_follow 74 = .ok (.iaload, 1) := eX5_follow_68.2.2.2.1
theorem dX5_follow_75 : decode cX5_follow 75 = .ok (.aload_n 0, 1) := eX5_follow_68.2.2.2.2.1
theorem dX5_follow_76 : decode cX5_follow 76 = .ok (.getfield 9, 3) := eX5_follow_68.2.2.2.2.2.1
theorem dX5_follow_79 : decode cX5_follow 79 = .ok (.iconst 0, 1) := eX5_follow_68.2.2.2.2.2.2.1
theorem dX5_follow_80 : decode cX5_follow 80 = .ok (.iaload, 1) := eX5_follow_68.2.2.2.2.2.2.2
theorem eX5_follow_81 : (decode cX5_follow 81 = .ok (.aload_n 0, 1)) ∧ (decode cX5_follow 82 = .ok (.getfield 9, 3)) ∧ (decode cX5_follow 85 = .ok (.iconst 1, 1)) ∧ (decode cX5_follow 86 = .ok (.iaload, 1)) ∧ (decode cX5_follow 87 = .ok (.iadd, 1)) ∧ (decode cX5_follow 88 = .ok (.aload_n 0, 1)) ∧ (decode cX5_follow 89 = .ok (.getfield 9, 3)) ∧ (decode cX5_follow 92 = .ok (.iconst 2, 1)) := by decide +kernel
theorem dX5_follow_81 : decode cX5_follow 81 = .ok (.aload_n 0, 1) := eX5_follow_81.1
theorem dX5_follow_82 : decode cX5_follow 82 = .ok (.getfield 9, 3) := eX5_follow_81.2.1
theorem dX5_follow_85 : decode cX5_follow 85 = .ok (.iconst 1, 1) := eX5_follow_81.2.2.1
theorem dX5_follow_86 : decode cX5_follow 86 = .ok (.iaload, 1) := eX5_follow_81.2.2.2.1
theorem dX5_follow_87 : decode cX5_follow 87 = .ok (.iadd, 1) := eX5_follow_81.2.2.2.2.1
theorem dX5_follow_88 : decode cX5_follow 88 = .ok (.aload_n 0, 1) := eX5_follow_81.2.2.2.2.2.1
theorem dX5_follow_89 : decode cX5_follow 89 = .ok (.getfield 9, 3) := eX5_follow_81.2.2.2.2.2.2.1
theorem dX5_follow_92 : decode cX5_follow 92 = .ok (.iconst 2, 1) := eX5_follow_81.2.2.2.2.2.2.2
theorem eX5_follow_93 : (decode cX5_follow 93 = .ok (.iaload, 1)) ∧ (decode cX5_follow 94 = .ok (.iadd, 1)) ∧ (decode cX5_follow 95 = .ok (.aload_n 0, 1)) ∧ (decode cX5_follow 96 = .ok (.getfield 9, 3)) ∧ (decode cX5_follow 99 = .ok (.iconst 3, 1)) ∧ (decode cX5_follow 100 = .ok (.iaload, 1)) ∧ (decode cX5_follow 101 = .ok (.iadd, 1)) ∧ (decode cX5_follow 102 = .ok (.invokevirtual 35, 3)) := by decide +kernel
theorem dX5_follow_93 : decode cX5_follow 93 = .ok (.iaload, 1) := eX5_follow_93.1
theorem dX5_follow_94 : decode cX5_follow 94 = .ok (.iadd, 1) := eX5_follow_93.2.1
theorem dX5_follow_95 : decode cX5_follow 95 = .ok (.aload_n 0, 1) := eX5_follow_93.2.2.1
theorem dX5_follow_96 : decode cX5_follow 96 = .ok (.getfield 9, 3) := eX5_follow_93.2.2.2.1
theorem dX5_follow_99 : decode cX5_follow 99 = .ok (.iconst 3, 1) := eX5_follow_93.2.2.2.2.1
theorem dX5_follow_100 : decode cX5_follow 100 = .ok (.iaload, 1) := eX5_follow_93.2.2.2.2.2.1
theorem dX5_follow_101 : decode cX5_follow 101 = .ok (.iadd, 1) := eX5_follow_93.2.2.2.2.2.2.1
theorem dX5_follow_102 : decode cX5_follow 102 = .ok (.invokevirtual 35, 3) := eX5_follow_93.2.2.2.2.2.2.2
theorem eX5_follow_105 : (decode cX5_follow 105 = .ok (.ifCond .ne 5, 3)) ∧ (decode cX5_follow 108 = .ok (.iconst 0, 1)) ∧ (decode cX5_follow 109 = .ok (.ireturn, 1)) ∧ (decode cX5_follow 110 = .ok (.aload_n 1, 1)) ∧ (decode cX5_follow 111 = .ok (.aload_n 0, 1)) ∧ (decode cX5_follow 112 = .ok (.getfield 9, 3)) ∧ (decode cX5_follow 115 = .ok (.iload 6, 2)) ∧ (decode cX5_follow 117 = .ok (.invokevirtual 39, 3)) := by decide +kernel
theorem dX5_follow_105 : decode cX5_follow 105 = .ok (.ifCond .ne 5, 3) := eX5_follow_105.1
theorem dX5_follow_108 : decode cX5_follow 108 = .ok (.iconst 0, 1) := eX5_follow_105.2.1
theorem dX5_follow_109 : decode cX5_follow 109 = .ok (.ireturn, 1) := eX5_follow_105.2.2.1
theorem dX5_follow_110 : decode cX5_follow 110 = .ok (.aload_n 1, 1) := eX5_follow_105.2.2.2.1
theorem dX5_follow_111 : decode cX5_follow 111 = .ok (.aload_n 0, 1) := eX5_follow_105.2.2.2.2.1
theorem dX5_follow_112 : decode cX5_follow 112 = .ok (.getfield 9, 3) := eX5_follow_105.2.2.2.2.2.1
theorem dX5_follow_115 : decode cX5_follow 115 = .ok (.iload 6, 2) := eX5_follow_105.2.2.2.2.2.2.1
theorem dX5_follow_117 : decode cX5_follow 117 = .ok (.invokevirtual 39, 3) := eX5_follow_105.2.2.2.2.2.2.2
theorem eX5_follow_120 : (decode cX5_follow 120 = .ok (.iload 4, 2)) ∧ (decode cX5_follow 122 = .ok (.iconst 4, 1)) ∧ (decode cX5_follow 123 = .ok (.idiv, 1)) ∧ (decode cX5_follow 124 = .ok (.istore 4, 2)) ∧ (decode cX5_follow 126 = .ok (.iinc 5 1, 3)) ∧ (decode cX5_follow 129 = .ok (.goto (-99), 3)) ∧ (decode cX5_follow 132 = .ok (.iconst 1, 1)) ∧ (decode cX5_follow 133 = .ok (.ireturn, 1)) := by decide +kernel
theorem dX5_follow_120 : decode cX5_follow 120 = .ok (.iload 4, 2) := eX5_follow_120.1
theorem dX5_follow_122 : decode cX5_follow 122 = .ok (.iconst 4, 1) := eX5_follow_120.2.1
theorem dX5_follow_123 : decode cX5_follow 123 = .ok (.idiv, 1) := eX5_follow_120.2.2.1
theorem dX5_follow_124 : decode cX5_follow 124 = .ok (.istore 4, 2) := eX5_follow_120.2.2.2.1
theorem dX5_follow_126 : decode cX5_follow 126 = .ok (.iinc 5 1, 3) := eX5_follow_120.2.2.2.2.1
theorem dX5_follow_129 : decode cX5_follow 129 = .ok (.goto (-99), 3) := eX5_follow_120.2.2.2.2.2.1
theorem dX5_follow_132 : decode cX5_follow 132 = .ok (.iconst 1, 1) := eX5_follow_120.2.2.2.2.2.2.1
theorem dX5_follow_133 : decode cX5_follow 133 = .ok (.ireturn, 1) := eX5_follow_120.2.2.2.2.2.2.2
theorem eX5_comeTimes_0 : (decode cX5_comeTimes 0 = .ok (.iload_n 1, 1)) ∧ (decode cX5_comeTimes 1 = .ok (.i2l, 1)) ∧ (decode cX5_comeTimes 2 = .ok (.iload_n 2, 1)) ∧ (decode cX5_comeTimes 3 = .ok (.i2l, 1)) ∧ (decode cX5_comeTimes 4 = .ok (.invokestatic 43, 3)) ∧ (decode cX5_comeTimes 7 = .ok (.lstore_n 3, 1)) ∧ (decode cX5_comeTimes 8 = .ok (.iload_n 1, 1)) ∧ (decode cX5_comeTimes 9 = .ok (.i2l, 1)) := by decide +kernel
theorem dX5_comeTimes_0 : decode cX5_comeTimes 0 = .ok (.iload_n 1, 1) := eX5_comeTimes_0.1
theorem dX5_comeTimes_1 : decode cX5_comeTimes 1 = .ok (.i2l, 1) := eX5_comeTimes_0.2.1
theorem dX5_comeTimes_2 : decode cX5_comeTimes 2 = .ok (.iload_n 2, 1) := eX5_comeTimes_0.2.2.1
theorem dX5_comeTimes_3 : decode cX5_comeTimes 3 = .ok (.i2l, 1) := eX5_comeTimes_0.2.2.2.1
theorem dX5_comeTimes_4 : decode cX5_comeTimes 4 = .ok (.invokestatic 43, 3) := eX5_comeTimes_0.2.2.2.2.1
theorem dX5_comeTimes_7 : decode cX5_comeTimes 7 = .ok (.lstore_n 3, 1) := eX5_comeTimes_0.2.2.2.2.2.1
theorem dX5_comeTimes_8 : decode cX5_comeTimes 8 = .ok (.iload_n 1, 1) := eX5_comeTimes_0.2.2.2.2.2.2.1
theorem dX5_comeTimes_9 : decode cX5_comeTimes 9 = .ok (.i2l, 1) := eX5_comeTimes_0.2.2.2.2.2.2.2
theorem eX5_comeTimes_10 : (decode cX5_comeTimes 10 = .ok (.lload_n 3, 1)) ∧ (decode cX5_comeTimes 11 = .ok (.ldiv, 1)) ∧ (decode cX5_comeTimes 12 = .ok (.lstore 5, 2)) ∧ (decode cX5_comeTimes 14 = .ok (.iload_n 2, 1)) ∧ (decode cX5_comeTimes 15 = .ok (.i2l, 1)) ∧ (decode cX5_comeTimes 16 = .ok (.lload_n 3, 1)) ∧ (decode cX5_comeTimes 17 = .ok (.ldiv, 1)) ∧ (decode cX5_comeTimes 18 = .ok (.lstore 7, 2)) := by decide +kernel
theorem dX5_comeTimes_10 : decode cX5_comeTimes 10 = .ok (.lload_n 3, 1) := eX5_comeTimes_10.1
theorem dX5_comeTimes_11 : decode cX5_comeTimes 11 = .ok (.ldiv, 1) := eX5_comeTimes_10.2.1
theorem dX5_comeTimes_12 : decode cX5_comeTimes 12 = .ok (.lstore 5, 2) := eX5_comeTimes_10.2.2.1
theorem dX5_comeTimes_14 : decode cX5_comeTimes 14 = .ok (.iload_n 2, 1) := eX5_comeTimes_10.2.2.2.1
theorem dX5_comeTimes_15 : decode cX5_comeTimes 15 = .ok (.i2l, 1) := eX5_comeTimes_10.2.2.2.2.1
theorem dX5_comeTimes_16 : decode cX5_comeTimes 16 = .ok (.lload_n 3, 1) := eX5_comeTimes_10.2.2.2.2.2.1
theorem dX5_comeTimes_17 : decode cX5_comeTimes 17 = .ok (.ldiv, 1) := eX5_comeTimes_10.2.2.2.2.2.2.1
theorem dX5_comeTimes_18 : decode cX5_comeTimes 18 = .ok (.lstore 7, 2) := eX5_comeTimes_10.2.2.2.2.2.2.2
theorem eX5_comeTimes_20 : (decode cX5_comeTimes 20 = .ok (.aload_n 0, 1)) ∧ (decode cX5_comeTimes 21 = .ok (.getfield 15, 3)) ∧ (decode cX5_comeTimes 24 = .ok (.lload 7, 2)) ∧ (decode cX5_comeTimes 26 = .ok (.invokestatic 43, 3)) ∧ (decode cX5_comeTimes 29 = .ok (.lstore 9, 2)) ∧ (decode cX5_comeTimes 31 = .ok (.lload 5, 2)) ∧ (decode cX5_comeTimes 33 = .ok (.aload_n 0, 1)) ∧ (decode cX5_comeTimes 34 = .ok (.getfield 19, 3)) := by decide +kernel
theorem dX5_comeTimes_20 : decode cX5_comeTimes 20 = .ok (.aload_n 0, 1) := eX5_comeTimes_20.1
theorem dX5_comeTimes_21 : decode cX5_comeTimes 21 = .ok (.getfield 15, 3) := eX5_comeTimes_20.2.1
theorem dX5_comeTimes_24 : decode cX5_comeTimes 24 = .ok (.lload 7, 2) := eX5_comeTimes_20.2.2.1
theorem dX5_comeTimes_26 : decode cX5_comeTimes 26 = .ok (.invokestatic 43, 3) := eX5_comeTimes_20.2.2.2.1
theorem dX5_comeTimes_29 : decode cX5_comeTimes 29 = .ok (.lstore 9, 2) := eX5_comeTimes_20.2.2.2.2.1
theorem dX5_comeTimes_31 : decode cX5_comeTimes 31 = .ok (.lload 5, 2) := eX5_comeTimes_20.2.2.2.2.2.1
theorem dX5_comeTimes_33 : decode cX5_comeTimes 33 = .ok (.aload_n 0, 1) := eX5_comeTimes_20.2.2.2.2.2.2.1
theorem dX5_comeTimes_34 : decode cX5_comeTimes 34 = .ok (.getfield 19, 3) := eX5_comeTimes_20.2.2.2.2.2.2.2
theorem eX5_comeTimes_37 : (decode cX5_comeTimes 37 = .ok (.invokestatic 43, 3)) ∧ (decode cX5_comeTimes 40 = .ok (.lstore 11, 2)) ∧ (decode cX5_comeTimes 42 = .ok (.aload_n 0, 1)) ∧ (decode cX5_comeTimes 43 = .ok (.dup, 1)) ∧ (decode cX5_comeTimes 44 = .ok (.getfield 15, 3)) ∧ (decode cX5_comeTimes 47 = .ok (.lload 9, 2)) ∧ (decode cX5_comeTimes 49 = .ok (.ldiv, 1)) ∧ (decode cX5_comeTimes 50 = .ok (.putfield 15, 3)) := by decide +kernel
theorem dX5_comeTimes_37 : decode cX5_comeTimes 37 = .ok (.invokestatic 43, 3) := eX5_comeTimes_37.1
theorem dX5_comeTimes_40 : decode cX5_comeTimes 40 = .ok (.lstore 11, 2) := eX5_comeTimes_37.2.1
theorem dX5_comeTimes_42 : decode cX5_comeTimes 42 = .ok (.aload_n 0, 1) := eX5_comeTimes_37.2.2.1
theorem dX5_comeTimes_43 : decode cX5_comeTimes 43 = .ok (.dup, 1) := eX5_comeTimes_37.2.2.2.1
theorem dX5_comeTimes_44 : decode cX5_comeTimes 44 = .ok (.getfield 15, 3) := eX5_comeTimes_37.2.2.2.2.1
theorem dX5_comeTimes_47 : decode cX5_comeTimes 47 = .ok (.lload 9, 2) := eX5_comeTimes_37.2.2.2.2.2.1
theorem dX5_comeTimes_49 : decode cX5_comeTimes 49 = .ok (.ldiv, 1) := eX5_comeTimes_37.2.2.2.2.2.2.1
theorem dX5_comeTimes_50 : decode cX5_comeTimes 50 = .ok (.putfield 15, 3) := eX5_comeTimes_37.2.2.2.2.2.2.2
theorem eX5_comeTimes_53 : (decode cX5_comeTimes 53 = .ok (.lload 7, 2)) ∧ (decode cX5_comeTimes 55 = .ok (.lload 9, 2)) ∧ (decode cX5_comeTimes 57 = .ok (.ldiv, 1)) ∧ (decode cX5_comeTimes 58 = .ok (.lstore 7, 2)) ∧ (decode cX5_comeTimes 60 = .ok (.aload_n 0, 1)) ∧ (decode cX5_comeTimes 61 = .ok (.dup, 1)) ∧ (decode cX5_comeTimes 62 = .ok (.getfield 19, 3)) ∧ (decode cX5_comeTimes 65 = .ok (.lload 11, 2)) := by decide +kernel
theorem dX5_comeTimes_53 : decode cX5_comeTimes 53 = .ok (.lload 7, 2) := eX5_comeTimes_53.1
theorem dX5_comeTimes_55 : decode cX5_comeTimes 55 = .ok (.lload 9, 2) := eX5_comeTimes_53.2.1
theorem dX5_comeTimes_57 : decode cX5_comeTimes 57 = .ok (.ldiv, 1) := eX5_comeTimes_53.2.2.1
theorem dX5_comeTimes_58 : decode cX5_comeTimes 58 = .ok (.lstore 7, 2) := eX5_comeTimes_53.2.2.2.1
theorem dX5_comeTimes_60 : decode cX5_comeTimes 60 = .ok (.aload_n 0, 1) := eX5_comeTimes_53.2.2.2.2.1
theorem dX5_comeTimes_61 : decode cX5_comeTimes 61 = .ok (.dup, 1) := eX5_comeTimes_53.2.2.2.2.2.1
theorem dX5_comeTimes_62 : decode cX5_comeTimes 62 = .ok (.getfield 19, 3) := eX5_comeTimes_53.2.2.2.2.2.2.1
theorem dX5_comeTimes_65 : decode cX5_comeTimes 65 = .ok (.lload 11, 2) := eX5_comeTimes_53.2.2.2.2.2.2.2
theorem eX5_comeTimes_67 : (decode cX5_comeTimes 67 = .ok (.ldiv, 1)) ∧ (decode cX5_comeTimes 68 = .ok (.putfield 19, 3)) ∧ (decode cX5_comeTimes 71 = .ok (.lload 5, 2)) ∧ (decode cX5_comeTimes 73 = .ok (.lload 11, 2)) ∧ (decode cX5_comeTimes 75 = .ok (.ldiv, 1)) ∧ (decode cX5_comeTimes 76 = .ok (.lstore 5, 2)) ∧ (decode cX5_comeTimes 78 = .ok (.lload 5, 2)) ∧ (decode cX5_comeTimes 80 = .ok (.lconst 1, 1)) := by decide +kernel
theorem dX5_comeTimes_67 : decode cX5_comeTimes 67 = .ok (.ldiv, 1) := eX5_comeTimes_67.1
theorem dX5_comeTimes_68 : decode cX5_comeTimes 68 = .ok (.putfield 19, 3) := eX5_comeTimes_67.2.1
theorem dX5_comeTimes_71 : decode cX5_comeTimes 71 = .ok (.lload 5, 2) := eX5_comeTimes_67.2.2.1
theorem dX5_comeTimes_73 : decode cX5_comeTimes 73 = .ok (.lload 11, 2) := eX5_comeTimes_67.2.2.2.1
theorem dX5_comeTimes_75 : decode cX5_comeTimes 75 = .ok (.ldiv, 1) := eX5_comeTimes_67.2.2.2.2.1
theorem dX5_comeTimes_76 : decode cX5_comeTimes 76 = .ok (.lstore 5, 2) := eX5_comeTimes_67.2.2.2.2.2.1
theorem dX5_comeTimes_78 : decode cX5_comeTimes 78 = .ok (.lload 5, 2) := eX5_comeTimes_67.2.2.2.2.2.2.1
theorem dX5_comeTimes_80 : decode cX5_comeTimes 80 = .ok (.lconst 1, 1) := eX5_comeTimes_67.2.2.2.2.2.2.2
theorem eX5_comeTimes_81 : (decode cX5_comeTimes 81 = .ok (.lcmp, 1)) ∧ (decode cX5_comeTimes 82 = .ok (.ifCond .lt 38, 3)) ∧ (decode cX5_comeTimes 85 = .ok (.lload 7, 2)) ∧ (decode cX5_comeTimes 87 = .ok (.lconst 1, 1)) ∧ (decode cX5_comeTimes 88 = .ok (.lcmp, 1)) ∧ (decode cX5_comeTimes 89 = .ok (.ifCond .lt 31, 3)) ∧ (decode cX5_comeTimes 92 = .ok (.aload_n 0, 1)) ∧ (decode cX5_comeTimes 93 = .ok (.getfield 15, 3)) := by decide +kernel
theorem dX5_comeTimes_81 : decode cX5_comeTimes 81 = .ok (.lcmp, 1) := eX5_comeTimes_81.1
theorem dX5_comeTimes_82 : decode cX5_comeTimes 82 = .ok (.ifCond .lt 38, 3) := eX5_comeTimes_81.2.1
theorem dX5_comeTimes_85 : decode cX5_comeTimes 85 = .ok (.lload 7, 2) := eX5_comeTimes_81.2.2.1
theorem dX5_comeTimes_87 : decode cX5_comeTimes 87 = .ok (.lconst 1, 1) := eX5_comeTimes_81.2.2.2.1
theorem dX5_comeTimes_88 : decode cX5_comeTimes 88 = .ok (.lcmp, 1) := eX5_comeTimes_81.2.2.2.2.1
theorem dX5_comeTimes_89 : decode cX5_comeTimes 89 = .ok (.ifCond .lt 31, 3) := eX5_comeTimes_81.2.2.2.2.2.1
theorem dX5_comeTimes_92 : decode cX5_comeTimes 92 = .ok (.aload_n 0, 1) := eX5_comeTimes_81.2.2.2.2.2.2.1
theorem dX5_comeTimes_93 : decode cX5_comeTimes 93 = .ok (.getfield 15, 3) := eX5_comeTimes_81.2.2.2.2.2.2.2
theorem eX5_comeTimes_96 : (decode cX5_comeTimes 96 = .ok (.ldc2_w 47, 3)) ∧ (decode cX5_comeTimes 99 = .ok (.lload 5, 2)) ∧ (decode cX5_comeTimes 101 = .ok (.ldiv, 1)) ∧ (decode cX5_comeTimes 102 = .ok (.lcmp, 1)) ∧ (decode cX5_comeTimes 103 = .ok (.ifCond .gt 17, 3)) ∧ (decode cX5_comeTimes 106 = .ok (.aload_n 0, 1)) ∧ (decode cX5_comeTimes 107 = .ok (.getfield 19, 3)) ∧ (decode cX5_comeTimes 110 = .ok (.ldc2_w 47, 3)) := by decide +kernel
theorem dX5_comeTimes_96 : decode cX5_comeTimes 96 = .ok (.ldc2_w 47, 3) := eX5_comeTimes_96.1
theorem dX5_comeTimes_99 : decode cX5_comeTimes 99 = .ok (.lload 5, 2) := eX5_comeTimes_96.2.1
theorem dX5_comeTimes_101 : decode cX5_comeTimes 101 = .ok (.ldiv, 1) := eX5_comeTimes_96.2.2.1
theorem dX5_comeTimes_102 : decode cX5_comeTimes 102 = .ok (.lcmp, 1) := eX5_comeTimes_96.2.2.2.1
theorem dX5_comeTimes_103 : decode cX5_comeTimes 103 = .ok (.ifCond .gt 17, 3) := eX5_comeTimes_96.2.2.2.2.1
theorem dX5_comeTimes_106 : decode cX5_comeTimes 106 = .ok (.aload_n 0, 1) := eX5_comeTimes_96.2.2.2.2.2.1
theorem dX5_comeTimes_107 : decode cX5_comeTimes 107 = .ok (.getfield 19, 3) := eX5_comeTimes_96.2.2.2.2.2.2.1
theorem dX5_comeTimes_110 : decode cX5_comeTimes 110 = .ok (.ldc2_w 47, 3) := eX5_comeTimes_96.2.2.2.2.2.2.2
theorem eX5_comeTimes_113 : (decode cX5_comeTimes 113 = .ok (.lload 7, 2)) ∧ (decode cX5_comeTimes 115 = .ok (.ldiv, 1)) ∧ (decode cX5_comeTimes 116 = .ok (.lcmp, 1)) ∧ (decode cX5_comeTimes 117 = .ok (.ifCond .le 5, 3)) ∧ (decode cX5_comeTimes 120 = .ok (.iconst 0, 1)) ∧ (decode cX5_comeTimes 121 = .ok (.ireturn, 1)) ∧ (decode cX5_comeTimes 122 = .ok (.aload_n 0, 1)) ∧ (decode cX5_comeTimes 123 = .ok (.dup, 1)) := by decide +kernel
theorem dX5_comeTimes_113 : decode cX5_comeTimes 113 = .ok (.lload 7, 2) := eX5_comeTimes_113.1
theorem dX5_comeTimes_115 : decode cX5_comeTimes 115 = .ok (.ldiv, 1) := eX5_comeTimes_113.2.1
theorem dX5_comeTimes_116 : decode cX5_comeTimes 116 = .ok (.lcmp, 1) := eX5_comeTimes_113.2.2.1
theorem dX5_comeTimes_117 : decode cX5_comeTimes 117 = .ok (.ifCond .le 5, 3) := eX5_comeTimes_113.2.2.2.1
theorem dX5_comeTimes_120 : decode cX5_comeTimes 120 = .ok (.iconst 0, 1) := eX5_comeTimes_113.2.2.2.2.1
theorem dX5_comeTimes_121 : decode cX5_comeTimes 121 = .ok (.ireturn, 1) := eX5_comeTimes_113.2.2.2.2.2.1
theorem dX5_comeTimes_122 : decode cX5_comeTimes 122 = .ok (.aload_n 0, 1) := eX5_comeTimes_113.2.2.2.2.2.2.1
theorem dX5_comeTimes_123 : decode cX5_comeTimes 123 = .ok (.dup, 1) := eX5_comeTimes_113.2.2.2.2.2.2.2
theorem eX5_comeTimes_124 : (decode cX5_comeTimes 124 = .ok (.getfield 15, 3)) ∧ (decode cX5_comeTimes 127 = .ok (.lload 5, 2)) ∧ (decode cX5_comeTimes 129 = .ok (.lmul, 1)) ∧ (decode cX5_comeTimes 130 = .ok (.putfield 15, 3)) ∧ (decode cX5_comeTimes 133 = .ok (.aload_n 0, 1)) ∧ (decode cX5_comeTimes 134 = .ok (.dup, 1)) ∧ (decode cX5_comeTimes 135 = .ok (.getfield 19, 3)) ∧ (decode cX5_comeTimes 138 = .ok (.lload 7, 2)) := by decide +kernel
theorem dX5_comeTimes_124 : decode cX5_comeTimes 124 = .ok (.getfield 15, 3) := eX5_comeTimes_124.1
theorem dX5_comeTimes_127 : decode cX5_comeTimes 127 = .ok (.lload 5, 2) := eX5_comeTimes_124.2.1
theorem dX5_comeTimes_129 : decode cX5_comeTimes 129 = .ok (.lmul, 1) := eX5_comeTimes_124.2.2.1
theorem dX5_comeTimes_130 : decode cX5_comeTimes 130 = .ok (.putfield 15, 3) := eX5_comeTimes_124.2.2.2.1
theorem dX5_comeTimes_133 : decode cX5_comeTimes 133 = .ok (.aload_n 0, 1) := eX5_comeTimes_124.2.2.2.2.1
theorem dX5_comeTimes_134 : decode cX5_comeTimes 134 = .ok (.dup, 1) := eX5_comeTimes_124.2.2.2.2.2.1
theorem dX5_comeTimes_135 : decode cX5_comeTimes 135 = .ok (.getfield 19, 3) := eX5_comeTimes_124.2.2.2.2.2.2.1
theorem dX5_comeTimes_138 : decode cX5_comeTimes 138 = .ok (.lload 7, 2) := eX5_comeTimes_124.2.2.2.2.2.2.2
theorem eX5_comeTimes_140 : (decode cX5_comeTimes 140 = .ok (.lmul, 1)) ∧ (decode cX5_comeTimes 141 = .ok (.putfield 19, 3)) ∧ (decode cX5_comeTimes 144 = .ok (.iconst 1, 1)) ∧ (decode cX5_comeTimes 145 = .ok (.ireturn, 1)) := by decide +kernel
theorem dX5_comeTimes_140 : decode cX5_comeTimes 140 = .ok (.lmul, 1) := eX5_comeTimes_140.1
theorem dX5_comeTimes_141 : decode cX5_comeTimes 141 = .ok (.putfield 19, 3) := eX5_comeTimes_140.2.1
theorem dX5_comeTimes_144 : decode cX5_comeTimes 144 = .ok (.iconst 1, 1) := eX5_comeTimes_140.2.2.1
theorem dX5_comeTimes_145 : decode cX5_comeTimes 145 = .ok (.ireturn, 1) := eX5_comeTimes_140.2.2.2
theorem eX6_init_0 : (decode cX6_init 0 = .ok (.aload_n 0, 1)) ∧ (decode cX6_init 1 = .ok (.invokespecial 3, 3)) ∧ (decode cX6_init 4 = .ok (.aload_n 0, 1)) ∧ (decode cX6_init 5 = .ok (.bipush 16, 2)) ∧ (decode cX6_init 7 = .ok (.newarray .long, 2)) ∧ (decode cX6_init 9 = .ok (.putfield 9, 3)) ∧ (decode cX6_init 12 = .ok (.aload_n 0, 1)) ∧ (decode cX6_init 13 = .ok (.iconst (-1), 1)) := by decide +kernel
theorem dX6_init_0 : decode cX6_init 0 = .ok (.aload_n 0, 1) := eX6_init_0.1
theorem dX6_init_1 : decode cX6_init 1 = .ok (.invokespecial 3, 3) := eX6_init_0.2.1
theorem dX6_init_4 : decode cX6_init 4 = .ok (.aload_n 0, 1) := eX6_init_0.2.2.1
theorem dX6_init_5 : decode cX6_init 5 = .ok (.bipush 16, 2) := eX6_init_0.2.2.2.1
theorem dX6_init_7 : decode cX6_init 7 = .ok (.newarray .long, 2) := eX6_init_0.2.2.2.2.1
theorem dX6_init_9 : decode cX6_init 9 = .ok (.putfield 9, 3) := eX6_init_0.2.2.2.2.2.1
theorem dX6_init_12 : decode cX6_init 12 = .ok (.aload_n 0, 1) := eX6_init_0.2.2.2.2.2.2.1
theorem dX6_init_13 : decode cX6_init 13 = .ok (.iconst (-1), 1) := eX6_init_0.2.2.2.2.2.2.2
theorem eX6_init_14 : (decode cX6_init 14 = .ok (.putfield 15, 3)) ∧ (decode cX6_init 17 = .ok (.aload_n 0, 1)) ∧ (decode cX6_init 18 = .ok (.iconst 0, 1)) ∧ (decode cX6_init 19 = .ok (.putfield 19, 3)) ∧ (decode cX6_init 22 = .ok (.return_, 1)) := by decide +kernel
theorem dX6_init_14 : decode cX6_init 14 = .ok (.putfield 15, 3) := eX6_init_14.1
theorem dX6_init_17 : decode cX6_init 17 = .ok (.aload_n 0, 1) := eX6_init_14.2.1
theorem dX6_init_18 : decode cX6_init 18 = .ok (.iconst 0, 1) := eX6_init_14.2.2.1
theorem dX6_init_19 : decode cX6_init 19 = .ok (.putfield 19, 3) := eX6_init_14.2.2.2.1
theorem dX6_init_22 : decode cX6_init 22 = .ok (.return_, 1) := eX6_init_14.2.2.2.2
theorem eX6_become_0 : (decode cX6_become 0 = .ok (.aload_n 0, 1)) ∧ (decode cX6_become 1 = .ok (.iload_n 1, 1)) ∧ (decode cX6_become 2 = .ok (.putfield 15, 3)) ∧ (decode cX6_become 5 = .ok (.aload_n 0, 1)) ∧ (decode cX6_become 6 = .ok (.iload_n 2, 1)) ∧ (decode cX6_become 7 = .ok (.putfield 19, 3)) ∧ (decode cX6_become 10 = .ok (.aload_n 0, 1)) ∧ (decode cX6_become 11 = .ok (.getfield 9, 3)) := by decide +kernel
theorem dX6_become_0 : decode cX6_become 0 = .ok (.aload_n 0, 1) := eX6_become_0.1
theorem dX6_become_1 : decode cX6_become 1 = .ok (.iload_n 1, 1) := eX6_become_0.2.1
theorem dX6_become_2 : decode cX6_become 2 = .ok (.putfield 15, 3) := eX6_become_0.2.2.1
theorem dX6_become_5 : decode cX6_become 5 = .ok (.aload_n 0, 1) := eX6_become_0.2.2.2.1
theorem dX6_become_6 : decode cX6_become 6 = .ok (.iload_n 2, 1) := eX6_become_0.2.2.2.2.1
theorem dX6_become_7 : decode cX6_become 7 = .ok (.putfield 19, 3) := eX6_become_0.2.2.2.2.2.1
theorem dX6_become_10 : decode cX6_become 10 = .ok (.aload_n 0, 1) := eX6_become_0.2.2.2.2.2.2.1
theorem dX6_become_11 : decode cX6_become 11 = .ok (.getfield 9, 3) := eX6_become_0.2.2.2.2.2.2.2
theorem eX6_become_14 : (decode cX6_become 14 = .ok (.lconst 0, 1)) ∧ (decode cX6_become 15 = .ok (.invokestatic 22, 3)) ∧ (decode cX6_become 18 = .ok (.return_, 1)) := by decide +kernel
theorem dX6_become_14 : decode cX6_become 14 = .ok (.lconst 0, 1) := eX6_become_14.1
theorem dX6_become_15 : decode cX6_become 15 = .ok (.invokestatic 22, 3) := eX6_become_14.2.1
theorem dX6_become_18 : decode cX6_become 18 = .ok (.return_, 1) := eX6_become_14.2.2
theorem eX6_reaches_0 : (decode cX6_reaches 0 = .ok (.iload_n 1, 1)) ∧ (decode cX6_reaches 1 = .ok (.ifCond .lt 21, 3)) ∧ (decode cX6_reaches 4 = .ok (.iload_n 2, 1)) ∧ (decode cX6_reaches 5 = .ok (.ifCond .lt 17, 3)) ∧ (decode cX6_reaches 8 = .ok (.iload_n 2, 1)) ∧ (decode cX6_reaches 9 = .ok (.aload_n 0, 1)) ∧ (decode cX6_reaches 10 = .ok (.getfield 19, 3)) ∧ (decode cX6_reaches 13 = .ok (.iload_n 1, 1)) := by decide +kernel
theorem dX6_reaches_0 : decode cX6_reaches 0 = .ok (.iload_n 1, 1) := eX6_reaches_0.1
theorem dX6_reaches_1 : decode cX6_reaches 1 = .ok (.ifCond .lt 21, 3) := eX6_reaches_0.2.1
theorem dX6_reaches_4 : decode cX6_reaches 4 = .ok (.iload_n 2, 1) := eX6_reaches_0.2.2.1
theorem dX6_reaches_5 : decode cX6_reaches 5 = .ok (.ifCond .lt 17, 3) := eX6_reaches_0.2.2.2.1
theorem dX6_reaches_8 : decode cX6_reaches 8 = .ok (.iload_n 2, 1) := eX6_reaches_0.2.2.2.2.1
theorem dX6_reaches_9 : decode cX6_reaches 9 = .ok (.aload_n 0, 1) := eX6_reaches_0.2.2.2.2.2.1
theorem dX6_reaches_10 : decode cX6_reaches 10 = .ok (.getfield 19, 3) := eX6_reaches_0.2.2.2.2.2.2.1
theorem dX6_reaches_13 : decode cX6_reaches 13 = .ok (.iload_n 1, 1) := eX6_reaches_0.2.2.2.2.2.2.2
theorem eX6_reaches_14 : (decode cX6_reaches 14 = .ok (.isub, 1)) ∧ (decode cX6_reaches 15 = .ok (.if_icmp .gt 7, 3)) ∧ (decode cX6_reaches 18 = .ok (.iconst 1, 1)) ∧ (decode cX6_reaches 19 = .ok (.goto 4, 3)) ∧ (decode cX6_reaches 22 = .ok (.iconst 0, 1)) ∧ (decode cX6_reaches 23 = .ok (.ireturn, 1)) := by decide +kernel
theorem dX6_reaches_14 : decode cX6_reaches 14 = .ok (.isub, 1) := eX6_reaches_14.1
theorem dX6_reaches_15 : decode cX6_reaches 15 = .ok (.if_icmp .gt 7, 3) := eX6_reaches_14.2.1
theorem dX6_reaches_18 : decode cX6_reaches 18 = .ok (.iconst 1, 1) := eX6_reaches_14.2.2.1
theorem dX6_reaches_19 : decode cX6_reaches 19 = .ok (.goto 4, 3) := eX6_reaches_14.2.2.2.1
theorem dX6_reaches_22 : decode cX6_reaches 22 = .ok (.iconst 0, 1) := eX6_reaches_14.2.2.2.2.1
theorem dX6_reaches_23 : decode cX6_reaches 23 = .ok (.ireturn, 1) := eX6_reaches_14.2.2.2.2.2
theorem eX6_cut_0 : (decode cX6_cut 0 = .ok (.aload_n 0, 1)) ∧ (decode cX6_cut 1 = .ok (.getfield 15, 3)) ∧ (decode cX6_cut 4 = .ok (.ifCond .ne 8, 3)) ∧ (decode cX6_cut 7 = .ok (.lload_n 1, 1)) ∧ (decode cX6_cut 8 = .ok (.l2i, 1)) ∧ (decode cX6_cut 9 = .ok (.i2b, 1)) ∧ (decode cX6_cut 10 = .ok (.i2l, 1)) ∧ (decode cX6_cut 11 = .ok (.lreturn, 1)) := by decide +kernel
theorem dX6_cut_0 : decode cX6_cut 0 = .ok (.aload_n 0, 1) := eX6_cut_0.1
theorem dX6_cut_1 : decode cX6_cut 1 = .ok (.getfield 15, 3) := eX6_cut_0.2.1
theorem dX6_cut_4 : decode cX6_cut 4 = .ok (.ifCond .ne 8, 3) := eX6_cut_0.2.2.1
theorem dX6_cut_7 : decode cX6_cut 7 = .ok (.lload_n 1, 1) := eX6_cut_0.2.2.2.1
theorem dX6_cut_8 : decode cX6_cut 8 = .ok (.l2i, 1) := eX6_cut_0.2.2.2.2.1
theorem dX6_cut_9 : decode cX6_cut 9 = .ok (.i2b, 1) := eX6_cut_0.2.2.2.2.2.1
theorem dX6_cut_10 : decode cX6_cut 10 = .ok (.i2l, 1) := eX6_cut_0.2.2.2.2.2.2.1
theorem dX6_cut_11 : decode cX6_cut 11 = .ok (.lreturn, 1) := eX6_cut_0.2.2.2.2.2.2.2
theorem eX6_cut_12 : (decode cX6_cut 12 = .ok (.aload_n 0, 1)) ∧ (decode cX6_cut 13 = .ok (.getfield 15, 3)) ∧ (decode cX6_cut 16 = .ok (.iconst 1, 1)) ∧ (decode cX6_cut 17 = .ok (.if_icmp .ne 9, 3)) ∧ (decode cX6_cut 20 = .ok (.lload_n 1, 1)) ∧ (decode cX6_cut 21 = .ok (.l2i, 1)) ∧ (decode cX6_cut 22 = .ok (.i2l, 1)) ∧ (decode cX6_cut 23 = .ok (.goto 4, 3)) := by decide +kernel
theorem dX6_cut_12 : decode cX6_cut 12 = .ok (.aload_n 0, 1) := eX6_cut_12.1
theorem dX6_cut_13 : decode cX6_cut 13 = .ok (.getfield 15, 3) := eX6_cut_12.2.1
theorem dX6_cut_16 : decode cX6_cut 16 = .ok (.iconst 1, 1) := eX6_cut_12.2.2.1
theorem dX6_cut_17 : decode cX6_cut 17 = .ok (.if_icmp .ne 9, 3) := eX6_cut_12.2.2.2.1
theorem dX6_cut_20 : decode cX6_cut 20 = .ok (.lload_n 1, 1) := eX6_cut_12.2.2.2.2.1
theorem dX6_cut_21 : decode cX6_cut 21 = .ok (.l2i, 1) := eX6_cut_12.2.2.2.2.2.1
theorem dX6_cut_22 : decode cX6_cut 22 = .ok (.i2l, 1) := eX6_cut_12.2.2.2.2.2.2.1
theorem dX6_cut_23 : decode cX6_cut 23 = .ok (.goto 4, 3) := eX6_cut_12.2.2.2.2.2.2.2
theorem eX6_cut_26 : (decode cX6_cut 26 = .ok (.lload_n 1, 1)) ∧ (decode cX6_cut 27 = .ok (.lreturn, 1)) := by decide +kernel
theorem dX6_cut_26 : decode cX6_cut 26 = .ok (.lload_n 1, 1) := eX6_cut_26.1
theorem dX6_cut_27 : decode cX6_cut 27 = .ok (.lreturn, 1) := eX6_cut_26.2
theorem eX6_liesWithin_0 : (decode cX6_liesWithin 0 = .ok (.iload_n 1, 1)) ∧ (decode cX6_liesWithin 1 = .ok (.istore 5, 2)) ∧ (decode cX6_liesWithin 3 = .ok (.iload 5, 2)) ∧ (decode cX6_liesWithin 5 = .ok (.iload_n 1, 1)) ∧ (decode cX6_liesWithin 6 = .ok (.iload_n 2, 1)) ∧ (decode cX6_liesWithin 7 = .ok (.iadd, 1)) ∧ (decode cX6_liesWithin 8 = .ok (.if_icmp .ge 38, 3)) ∧ (decode cX6_liesWithin 11 = .ok (.aload_n 0, 1)) := by decide +kernel
theorem dX6_liesWithin_0 : decode cX6_liesWithin 0 = .ok (.iload_n 1, 1) := eX6_liesWithin_0.1
theorem dX6_liesWithin_1 : decode cX6_liesWithin 1 = .ok (.istore 5, 2) := eX6_liesWithin_0.2.1
theorem dX6_liesWithin_3 : decode cX6_liesWithin 3 = .ok (.iload 5, 2) := eX6_liesWithin_0.2.2.1
theorem dX6_liesWithin_5 : decode cX6_liesWithin 5 = .ok (.iload_n 1, 1) := eX6_liesWithin_0.2.2.2.1
theorem dX6_liesWithin_6 : decode cX6_liesWithin 6 = .ok (.iload_n 2, 1) := eX6_liesWithin_0.2.2.2.2.1
theorem dX6_liesWithin_7 : decode cX6_liesWithin 7 = .ok (.iadd, 1) := eX6_liesWithin_0.2.2.2.2.2.1
theorem dX6_liesWithin_8 : decode cX6_liesWithin 8 = .ok (.if_icmp .ge 38, 3) := eX6_liesWithin_0.2.2.2.2.2.2.1
theorem dX6_liesWithin_11 : decode cX6_liesWithin 11 = .ok (.aload_n 0, 1) := eX6_liesWithin_0.2.2.2.2.2.2.2
theorem eX6_liesWithin_12 : (decode cX6_liesWithin 12 = .ok (.getfield 9, 3)) ∧ (decode cX6_liesWithin 15 = .ok (.iload 5, 2)) ∧ (decode cX6_liesWithin 17 = .ok (.laload, 1)) ∧ (decode cX6_liesWithin 18 = .ok (.iload_n 3, 1)) ∧ (decode cX6_liesWithin 19 = .ok (.i2l, 1)) ∧ (decode cX6_liesWithin 20 = .ok (.lcmp, 1)) ∧ (decode cX6_liesWithin 21 = .ok (.ifCond .lt 17, 3)) ∧ (decode cX6_liesWithin 24 = .ok (.aload_n 0, 1)) := by decide +kernel
theorem dX6_liesWithin_12 : decode cX6_liesWithin 12 = .ok (.getfield 9, 3) := eX6_liesWithin_12.1
theorem dX6_liesWithin_15 : decode cX6_liesWithin 15 = .ok (.iload 5, 2) := eX6_liesWithin_12.2.1
theorem dX6_liesWithin_17 : decode cX6_liesWithin 17 = .ok (.laload, 1) := eX6_liesWithin_12.2.2.1
theorem dX6_liesWithin_18 : decode cX6_liesWithin 18 = .ok (.iload_n 3, 1) := eX6_liesWithin_12.2.2.2.1
theorem dX6_liesWithin_19 : decode cX6_liesWithin 19 = .ok (.i2l, 1) := eX6_liesWithin_12.2.2.2.2.1
theorem dX6_liesWithin_20 : decode cX6_liesWithin 20 = .ok (.lcmp, 1) := eX6_liesWithin_12.2.2.2.2.2.1
theorem dX6_liesWithin_21 : decode cX6_liesWithin 21 = .ok (.ifCond .lt 17, 3) := eX6_liesWithin_12.2.2.2.2.2.2.1
theorem dX6_liesWithin_24 : decode cX6_liesWithin 24 = .ok (.aload_n 0, 1) := eX6_liesWithin_12.2.2.2.2.2.2.2
theorem eX6_liesWithin_25 : (decode cX6_liesWithin 25 = .ok (.getfield 9, 3)) ∧ (decode cX6_liesWithin 28 = .ok (.iload 5, 2)) ∧ (decode cX6_liesWithin 30 = .ok (.laload, 1)) ∧ (decode cX6_liesWithin 31 = .ok (.iload 4, 2)) ∧ (decode cX6_liesWithin 33 = .ok (.i2l, 1)) ∧ (decode cX6_liesWithin 34 = .ok (.lcmp, 1)) ∧ (decode cX6_liesWithin 35 = .ok (.ifCond .le 5, 3)) ∧ (decode cX6_liesWithin 38 = .ok (.iconst 0, 1)) := by decide +kernel
theorem dX6_liesWithin_25 : decode cX6_liesWithin 25 = .ok (.getfield 9, 3) := eX6_liesWithin_25.1
theorem dX6_liesWithin_28 : decode cX6_liesWithin 28 = .ok (.iload 5, 2) := eX6_liesWithin_25.2.1
theorem dX6_liesWithin_30 : decode cX6_liesWithin 30 = .ok (.laload, 1) := eX6_liesWithin_25.2.2.1
theorem dX6_liesWithin_31 : decode cX6_liesWithin 31 = .ok (.iload 4, 2) := eX6_liesWithin_25.2.2.2.1
theorem dX6_liesWithin_33 : decode cX6_liesWithin 33 = .ok (.i2l, 1) := eX6_liesWithin_25.2.2.2.2.1
theorem dX6_liesWithin_34 : decode cX6_liesWithin 34 = .ok (.lcmp, 1) := eX6_liesWithin_25.2.2.2.2.2.1
theorem dX6_liesWithin_35 : decode cX6_liesWithin 35 = .ok (.ifCond .le 5, 3) := eX6_liesWithin_25.2.2.2.2.2.2.1
theorem dX6_liesWithin_38 : decode cX6_liesWithin 38 = .ok (.iconst 0, 1) := eX6_liesWithin_25.2.2.2.2.2.2.2
theorem eX6_liesWithin_39 : (decode cX6_liesWithin 39 = .ok (.ireturn, 1)) ∧ (decode cX6_liesWithin 40 = .ok (.iinc 5 1, 3)) ∧ (decode cX6_liesWithin 43 = .ok (.goto (-40), 3)) ∧ (decode cX6_liesWithin 46 = .ok (.iconst 1, 1)) ∧ (decode cX6_liesWithin 47 = .ok (.ireturn, 1)) := by decide +kernel
theorem dX6_liesWithin_39 : decode cX6_liesWithin 39 = .ok (.ireturn, 1) := eX6_liesWithin_39.1
theorem dX6_liesWithin_40 : decode cX6_liesWithin 40 = .ok (.iinc 5 1, 3) := eX6_liesWithin_39.2.1
theorem dX6_liesWithin_43 : decode cX6_liesWithin 43 = .ok (.goto (-40), 3) := eX6_liesWithin_39.2.2.1
theorem dX6_liesWithin_46 : decode cX6_liesWithin 46 = .ok (.iconst 1, 1) := eX6_liesWithin_39.2.2.2.1
theorem dX6_liesWithin_47 : decode cX6_liesWithin 47 = .ok (.ireturn, 1) := eX6_liesWithin_39.2.2.2.2
theorem eX7_init_0 : (decode cX7_init 0 = .ok (.aload_n 0, 1)) ∧ (decode cX7_init 1 = .ok (.invokespecial 3, 3)) ∧ (decode cX7_init 4 = .ok (.aload_n 0, 1)) ∧ (decode cX7_init 5 = .ok (.iconst 4, 1)) ∧ (decode cX7_init 6 = .ok (.newarray .int, 2)) ∧ (decode cX7_init 8 = .ok (.putfield 9, 3)) ∧ (decode cX7_init 11 = .ok (.aload_n 0, 1)) ∧ (decode cX7_init 12 = .ok (.bipush 16, 2)) := by decide +kernel
theorem dX7_init_0 : decode cX7_init 0 = .ok (.aload_n 0, 1) := eX7_init_0.1
theorem dX7_init_1 : decode cX7_init 1 = .ok (.invokespecial 3, 3) := eX7_init_0.2.1
theorem dX7_init_4 : decode cX7_init 4 = .ok (.aload_n 0, 1) := eX7_init_0.2.2.1
theorem dX7_init_5 : decode cX7_init 5 = .ok (.iconst 4, 1) := eX7_init_0.2.2.2.1
theorem dX7_init_6 : decode cX7_init 6 = .ok (.newarray .int, 2) := eX7_init_0.2.2.2.2.1
theorem dX7_init_8 : decode cX7_init 8 = .ok (.putfield 9, 3) := eX7_init_0.2.2.2.2.2.1
theorem dX7_init_11 : decode cX7_init 11 = .ok (.aload_n 0, 1) := eX7_init_0.2.2.2.2.2.2.1
theorem dX7_init_12 : decode cX7_init 12 = .ok (.bipush 16, 2) := eX7_init_0.2.2.2.2.2.2.2
theorem eX7_init_14 : (decode cX7_init 14 = .ok (.newarray .int, 2)) ∧ (decode cX7_init 16 = .ok (.putfield 15, 3)) ∧ (decode cX7_init 19 = .ok (.aload_n 0, 1)) ∧ (decode cX7_init 20 = .ok (.iconst 4, 1)) ∧ (decode cX7_init 21 = .ok (.newarray .int, 2)) ∧ (decode cX7_init 23 = .ok (.putfield 18, 3)) ∧ (decode cX7_init 26 = .ok (.aload_n 0, 1)) ∧ (decode cX7_init 27 = .ok (.iconst 0, 1)) := by decide +kernel
theorem dX7_init_14 : decode cX7_init 14 = .ok (.newarray .int, 2) := eX7_init_14.1
theorem dX7_init_16 : decode cX7_init 16 = .ok (.putfield 15, 3) := eX7_init_14.2.1
theorem dX7_init_19 : decode cX7_init 19 = .ok (.aload_n 0, 1) := eX7_init_14.2.2.1
theorem dX7_init_20 : decode cX7_init 20 = .ok (.iconst 4, 1) := eX7_init_14.2.2.2.1
theorem dX7_init_21 : decode cX7_init 21 = .ok (.newarray .int, 2) := eX7_init_14.2.2.2.2.1
theorem dX7_init_23 : decode cX7_init 23 = .ok (.putfield 18, 3) := eX7_init_14.2.2.2.2.2.1
theorem dX7_init_26 : decode cX7_init 26 = .ok (.aload_n 0, 1) := eX7_init_14.2.2.2.2.2.2.1
theorem dX7_init_27 : decode cX7_init 27 = .ok (.iconst 0, 1) := eX7_init_14.2.2.2.2.2.2.2
theorem eX7_init_28 : (decode cX7_init 28 = .ok (.putfield 21, 3)) ∧ (decode cX7_init 31 = .ok (.aload_n 0, 1)) ∧ (decode cX7_init 32 = .ok (.iconst 0, 1)) ∧ (decode cX7_init 33 = .ok (.putfield 25, 3)) ∧ (decode cX7_init 36 = .ok (.aload_n 0, 1)) ∧ (decode cX7_init 37 = .ok (.getfield 18, 3)) ∧ (decode cX7_init 40 = .ok (.iconst (-1), 1)) ∧ (decode cX7_init 41 = .ok (.invokestatic 28, 3)) := by decide +kernel
theorem dX7_init_28 : decode cX7_init 28 = .ok (.putfield 21, 3) := eX7_init_28.1
theorem dX7_init_31 : decode cX7_init 31 = .ok (.aload_n 0, 1) := eX7_init_28.2.1
theorem dX7_init_32 : decode cX7_init 32 = .ok (.iconst 0, 1) := eX7_init_28.2.2.1
theorem dX7_init_33 : decode cX7_init 33 = .ok (.putfield 25, 3) := eX7_init_28.2.2.2.1
theorem dX7_init_36 : decode cX7_init 36 = .ok (.aload_n 0, 1) := eX7_init_28.2.2.2.2.1
theorem dX7_init_37 : decode cX7_init 37 = .ok (.getfield 18, 3) := eX7_init_28.2.2.2.2.2.1
theorem dX7_init_40 : decode cX7_init 40 = .ok (.iconst (-1), 1) := eX7_init_28.2.2.2.2.2.2.1
theorem dX7_init_41 : decode cX7_init 41 = .ok (.invokestatic 28, 3) := eX7_init_28.2.2.2.2.2.2.2
theorem dX7_init_44 : decode cX7_init 44 = .ok (.return_, 1) := by decide +kernel
theorem eX7_has_0 : (decode cX7_has 0 = .ok (.iload_n 1, 1)) ∧ (decode cX7_has 1 = .ok (.ifCond .lt 15, 3)) ∧ (decode cX7_has 4 = .ok (.iload_n 1, 1)) ∧ (decode cX7_has 5 = .ok (.aload_n 0, 1)) ∧ (decode cX7_has 6 = .ok (.getfield 21, 3)) ∧ (decode cX7_has 9 = .ok (.if_icmp .ge 7, 3)) ∧ (decode cX7_has 12 = .ok (.iconst 1, 1)) ∧ (decode cX7_has 13 = .ok (.goto 4, 3)) := by decide +kernel
theorem dX7_has_0 : decode cX7_has 0 = .ok (.iload_n 1, 1) := eX7_has_0.1
theorem dX7_has_1 : decode cX7_has 1 = .ok (.ifCond .lt 15, 3) := eX7_has_0.2.1
theorem dX7_has_4 : decode cX7_has 4 = .ok (.iload_n 1, 1) := eX7_has_0.2.2.1
theorem dX7_has_5 : decode cX7_has 5 = .ok (.aload_n 0, 1) := eX7_has_0.2.2.2.1
theorem dX7_has_6 : decode cX7_has 6 = .ok (.getfield 21, 3) := eX7_has_0.2.2.2.2.1
theorem dX7_has_9 : decode cX7_has 9 = .ok (.if_icmp .ge 7, 3) := eX7_has_0.2.2.2.2.2.1
theorem dX7_has_12 : decode cX7_has 12 = .ok (.iconst 1, 1) := eX7_has_0.2.2.2.2.2.2.1
theorem dX7_has_13 : decode cX7_has 13 = .ok (.goto 4, 3) := eX7_has_0.2.2.2.2.2.2.2
theorem eX7_has_16 : (decode cX7_has 16 = .ok (.iconst 0, 1)) ∧ (decode cX7_has 17 = .ok (.ireturn, 1)) := by decide +kernel
theorem dX7_has_16 : decode cX7_has 16 = .ok (.iconst 0, 1) := eX7_has_16.1
theorem dX7_has_17 : decode cX7_has 17 = .ok (.ireturn, 1) := eX7_has_16.2
theorem eX7_hasAll_0 : (decode cX7_hasAll 0 = .ok (.iload_n 2, 1)) ∧ (decode cX7_hasAll 1 = .ok (.istore_n 3, 1)) ∧ (decode cX7_hasAll 2 = .ok (.iconst 0, 1)) ∧ (decode cX7_hasAll 3 = .ok (.istore 4, 2)) ∧ (decode cX7_hasAll 5 = .ok (.iload 4, 2)) ∧ (decode cX7_hasAll 7 = .ok (.iload_n 1, 1)) ∧ (decode cX7_hasAll 8 = .ok (.if_icmp .ge 25, 3)) ∧ (decode cX7_hasAll 11 = .ok (.aload_n 0, 1)) := by decide +kernel
theorem dX7_hasAll_0 : decode cX7_hasAll 0 = .ok (.iload_n 2, 1) := eX7_hasAll_0.1
theorem dX7_hasAll_1 : decode cX7_hasAll 1 = .ok (.istore_n 3, 1) := eX7_hasAll_0.2.1
theorem dX7_hasAll_2 : decode cX7_hasAll 2 = .ok (.iconst 0, 1) := eX7_hasAll_0.2.2.1
theorem dX7_hasAll_3 : decode cX7_hasAll 3 = .ok (.istore 4, 2) := eX7_hasAll_0.2.2.2.1
theorem dX7_hasAll_5 : decode cX7_hasAll 5 = .ok (.iload 4, 2) := eX7_hasAll_0.2.2.2.2.1
theorem dX7_hasAll_7 : decode cX7_hasAll 7 = .ok (.iload_n 1, 1) := eX7_hasAll_0.2.2.2.2.2.1
theorem dX7_hasAll_8 : decode cX7_hasAll 8 = .ok (.if_icmp .ge 25, 3) := eX7_hasAll_0.2.2.2.2.2.2.1
theorem dX7_hasAll_11 : decode cX7_hasAll 11 = .ok (.aload_n 0, 1) := eX7_hasAll_0.2.2.2.2.2.2.2
theorem eX7_hasAll_12 : (decode cX7_hasAll 12 = .ok (.iload_n 3, 1)) ∧ (decode cX7_hasAll 13 = .ok (.iconst 4, 1)) ∧ (decode cX7_hasAll 14 = .ok (.irem, 1)) ∧ (decode cX7_hasAll 15 = .ok (.invokevirtual 34, 3)) ∧ (decode cX7_hasAll 18 = .ok (.ifCond .ne 5, 3)) ∧ (decode cX7_hasAll 21 = .ok (.iconst 0, 1)) ∧ (decode cX7_hasAll 22 = .ok (.ireturn, 1)) ∧ (decode cX7_hasAll 23 = .ok (.iload_n 3, 1)) := by decide +kernel
theorem dX7_hasAll_12 : decode cX7_hasAll 12 = .ok (.iload_n 3, 1) := eX7_hasAll_12.1
theorem dX7_hasAll_13 : decode cX7_hasAll 13 = .ok (.iconst 4, 1) := eX7_hasAll_12.2.1
theorem dX7_hasAll_14 : decode cX7_hasAll 14 = .ok (.irem, 1) := eX7_hasAll_12.2.2.1
theorem dX7_hasAll_15 : decode cX7_hasAll 15 = .ok (.invokevirtual 34, 3) := eX7_hasAll_12.2.2.2.1
theorem dX7_hasAll_18 : decode cX7_hasAll 18 = .ok (.ifCond .ne 5, 3) := eX7_hasAll_12.2.2.2.2.1
theorem dX7_hasAll_21 : decode cX7_hasAll 21 = .ok (.iconst 0, 1) := eX7_hasAll_12.2.2.2.2.2.1
theorem dX7_hasAll_22 : decode cX7_hasAll 22 = .ok (.ireturn, 1) := eX7_hasAll_12.2.2.2.2.2.2.1
theorem dX7_hasAll_23 : decode cX7_hasAll 23 = .ok (.iload_n 3, 1) := eX7_hasAll_12.2.2.2.2.2.2.2
theorem eX7_hasAll_24 : (decode cX7_hasAll 24 = .ok (.iconst 4, 1)) ∧ (decode cX7_hasAll 25 = .ok (.idiv, 1)) ∧ (decode cX7_hasAll 26 = .ok (.istore_n 3, 1)) ∧ (decode cX7_hasAll 27 = .ok (.iinc 4 1, 3)) ∧ (decode cX7_hasAll 30 = .ok (.goto (-25), 3)) ∧ (decode cX7_hasAll 33 = .ok (.iconst 1, 1)) ∧ (decode cX7_hasAll 34 = .ok (.ireturn, 1)) := by decide +kernel
theorem dX7_hasAll_24 : decode cX7_hasAll 24 = .ok (.iconst 4, 1) := eX7_hasAll_24.1
theorem dX7_hasAll_25 : decode cX7_hasAll 25 = .ok (.idiv, 1) := eX7_hasAll_24.2.1
theorem dX7_hasAll_26 : decode cX7_hasAll 26 = .ok (.istore_n 3, 1) := eX7_hasAll_24.2.2.1
theorem dX7_hasAll_27 : decode cX7_hasAll 27 = .ok (.iinc 4 1, 3) := eX7_hasAll_24.2.2.2.1
theorem dX7_hasAll_30 : decode cX7_hasAll 30 = .ok (.goto (-25), 3) := eX7_hasAll_24.2.2.2.2.1
theorem dX7_hasAll_33 : decode cX7_hasAll 33 = .ok (.iconst 1, 1) := eX7_hasAll_24.2.2.2.2.2.1
theorem dX7_hasAll_34 : decode cX7_hasAll 34 = .ok (.ireturn, 1) := eX7_hasAll_24.2.2.2.2.2.2
theorem eX7_total_0 : (decode cX7_total 0 = .ok (.aload_n 0, 1)) ∧ (decode cX7_total 1 = .ok (.getfield 9, 3)) ∧ (decode cX7_total 4 = .ok (.iconst 0, 1)) ∧ (decode cX7_total 5 = .ok (.iaload, 1)) ∧ (decode cX7_total 6 = .ok (.aload_n 0, 1)) ∧ (decode cX7_total 7 = .ok (.getfield 9, 3)) ∧ (decode cX7_total 10 = .ok (.iconst 1, 1)) ∧ (decode cX7_total 11 = .ok (.iaload, 1)) := by decide +kernel
theorem dX7_total_0 : decode cX7_total 0 = .ok (.aload_n 0, 1) := eX7_total_0.1
theorem dX7_total_1 : decode cX7_total 1 = .ok (.getfield 9, 3) := eX7_total_0.2.1
theorem dX7_total_4 : decode cX7_total 4 = .ok (.iconst 0, 1) := eX7_total_0.2.2.1
theorem dX7_total_5 : decode cX7_total 5 = .ok (.iaload, 1) := eX7_total_0.2.2.2.1
theorem dX7_total_6 : decode cX7_total 6 = .ok (.aload_n 0, 1) := eX7_total_0.2.2.2.2.1
theorem dX7_total_7 : decode cX7_total 7 = .ok (.getfield 9, 3) := eX7_total_0.2.2.2.2.2.1
theorem dX7_total_10 : decode cX7_total 10 = .ok (.iconst 1, 1) := eX7_total_0.2.2.2.2.2.2.1
theorem dX7_total_11 : decode cX7_total 11 = .ok (.iaload, 1) := eX7_total_0.2.2.2.2.2.2.2
theorem eX7_total_12 : (decode cX7_total 12 = .ok (.iadd, 1)) ∧ (decode cX7_total 13 = .ok (.aload_n 0, 1)) ∧ (decode cX7_total 14 = .ok (.getfield 9, 3)) ∧ (decode cX7_total 17 = .ok (.iconst 2, 1)) ∧ (decode cX7_total 18 = .ok (.iaload, 1)) ∧ (decode cX7_total 19 = .ok (.iadd, 1)) ∧ (decode cX7_total 20 = .ok (.aload_n 0, 1)) ∧ (decode cX7_total 21 = .ok (.getfield 9, 3)) := by decide +kernel
theorem dX7_total_12 : decode cX7_total 12 = .ok (.iadd, 1) := eX7_total_12.1
theorem dX7_total_13 : decode cX7_total 13 = .ok (.aload_n 0, 1) := eX7_total_12.2.1
theorem dX7_total_14 : decode cX7_total 14 = .ok (.getfield 9, 3) := eX7_total_12.2.2.1
theorem dX7_total_17 : decode cX7_total 17 = .ok (.iconst 2, 1) := eX7_total_12.2.2.2.1
theorem dX7_total_18 : decode cX7_total 18 = .ok (.iaload, 1) := eX7_total_12.2.2.2.2.1
theorem dX7_total_19 : decode cX7_total 19 = .ok (.iadd, 1) := eX7_total_12.2.2.2.2.2.1
theorem dX7_total_20 : decode cX7_total 20 = .ok (.aload_n 0, 1) := eX7_total_12.2.2.2.2.2.2.1
theorem dX7_total_21 : decode cX7_total 21 = .ok (.getfield 9, 3) := eX7_total_12.2.2.2.2.2.2.2
theorem eX7_total_24 : (decode cX7_total 24 = .ok (.iconst 3, 1)) ∧ (decode cX7_total 25 = .ok (.iaload, 1)) ∧ (decode cX7_total 26 = .ok (.iadd, 1)) ∧ (decode cX7_total 27 = .ok (.ireturn, 1)) := by decide +kernel
theorem dX7_total_24 : decode cX7_total 24 = .ok (.iconst 3, 1) := eX7_total_24.1
theorem dX7_total_25 : decode cX7_total 25 = .ok (.iaload, 1) := eX7_total_24.2.1
theorem dX7_total_26 : decode cX7_total 26 = .ok (.iadd, 1) := eX7_total_24.2.2.1
theorem dX7_total_27 : decode cX7_total 27 = .ok (.ireturn, 1) := eX7_total_24.2.2.2
theorem eX7_growth_0 : (decode cX7_growth 0 = .ok (.iconst 0, 1)) ∧ (decode cX7_growth 1 = .ok (.istore_n 2, 1)) ∧ (decode cX7_growth 2 = .ok (.iconst 0, 1)) ∧ (decode cX7_growth 3 = .ok (.istore_n 3, 1)) ∧ (decode cX7_growth 4 = .ok (.iload_n 3, 1)) ∧ (decode cX7_growth 5 = .ok (.aload_n 0, 1)) ∧ (decode cX7_growth 6 = .ok (.getfield 21, 3)) ∧ (decode cX7_growth 9 = .ok (.if_icmp .ge 22, 3)) := by decide +kernel
theorem dX7_growth_0 : decode cX7_growth 0 = .ok (.iconst 0, 1) := eX7_growth_0.1
theorem dX7_growth_1 : decode cX7_growth 1 = .ok (.istore_n 2, 1) := eX7_growth_0.2.1
theorem dX7_growth_2 : decode cX7_growth 2 = .ok (.iconst 0, 1) := eX7_growth_0.2.2.1
theorem dX7_growth_3 : decode cX7_growth 3 = .ok (.istore_n 3, 1) := eX7_growth_0.2.2.2.1
theorem dX7_growth_4 : decode cX7_growth 4 = .ok (.iload_n 3, 1) := eX7_growth_0.2.2.2.2.1
theorem dX7_growth_5 : decode cX7_growth 5 = .ok (.aload_n 0, 1) := eX7_growth_0.2.2.2.2.2.1
theorem dX7_growth_6 : decode cX7_growth 6 = .ok (.getfield 21, 3) := eX7_growth_0.2.2.2.2.2.2.1
theorem dX7_growth_9 : decode cX7_growth 9 = .ok (.if_icmp .ge 22, 3) := eX7_growth_0.2.2.2.2.2.2.2
theorem eX7_growth_12 : (decode cX7_growth 12 = .ok (.iload_n 2, 1)) ∧ (decode cX7_growth 13 = .ok (.aload_n 0, 1)) ∧ (decode cX7_growth 14 = .ok (.getfield 15, 3)) ∧ (decode cX7_growth 17 = .ok (.iload_n 1, 1)) ∧ (decode cX7_growth 18 = .ok (.iconst 4, 1)) ∧ (decode cX7_growth 19 = .ok (.imul, 1)) ∧ (decode cX7_growth 20 = .ok (.iload_n 3, 1)) ∧ (decode cX7_growth 21 = .ok (.iadd, 1)) := by decide +kernel
theorem dX7_growth_12 : decode cX7_growth 12 = .ok (.iload_n 2, 1) := eX7_growth_12.1
theorem dX7_growth_13 : decode cX7_growth 13 = .ok (.aload_n 0, 1) := eX7_growth_12.2.1
theorem dX7_growth_14 : decode cX7_growth 14 = .ok (.getfield 15, 3) := eX7_growth_12.2.2.1
theorem dX7_growth_17 : decode cX7_growth 17 = .ok (.iload_n 1, 1) := eX7_growth_12.2.2.2.1
theorem dX7_growth_18 : decode cX7_growth 18 = .ok (.iconst 4, 1) := eX7_growth_12.2.2.2.2.1
theorem dX7_growth_19 : decode cX7_growth 19 = .ok (.imul, 1) := eX7_growth_12.2.2.2.2.2.1
theorem dX7_growth_20 : decode cX7_growth 20 = .ok (.iload_n 3, 1) := eX7_growth_12.2.2.2.2.2.2.1
theorem dX7_growth_21 : decode cX7_growth 21 = .ok (.iadd, 1) := eX7_growth_12.2.2.2.2.2.2.2
theorem eX7_growth_22 : (decode cX7_growth 22 = .ok (.iaload, 1)) ∧ (decode cX7_growth 23 = .ok (.iadd, 1)) ∧ (decode cX7_growth 24 = .ok (.istore_n 2, 1)) ∧ (decode cX7_growth 25 = .ok (.iinc 3 1, 3)) ∧ (decode cX7_growth 28 = .ok (.goto (-24), 3)) ∧ (decode cX7_growth 31 = .ok (.iload_n 2, 1)) ∧ (decode cX7_growth 32 = .ok (.ireturn, 1)) := by decide +kernel
theorem dX7_growth_22 : decode cX7_growth 22 = .ok (.iaload, 1) := eX7_growth_22.1
theorem dX7_growth_23 : decode cX7_growth 23 = .ok (.iadd, 1) := eX7_growth_22.2.1
theorem dX7_growth_24 : decode cX7_growth 24 = .ok (.istore_n 2, 1) := eX7_growth_22.2.2.1
theorem dX7_growth_25 : decode cX7_growth 25 = .ok (.iinc 3 1, 3) := eX7_growth_22.2.2.2.1
theorem dX7_growth_28 : decode cX7_growth 28 = .ok (.goto (-24), 3) := eX7_growth_22.2.2.2.2.1
theorem dX7_growth_31 : decode cX7_growth 31 = .ok (.iload_n 2, 1) := eX7_growth_22.2.2.2.2.2.1
theorem dX7_growth_32 : decode cX7_growth 32 = .ok (.ireturn, 1) := eX7_growth_22.2.2.2.2.2.2
theorem eX7_isEven_0 : (decode cX7_isEven 0 = .ok (.iconst 1, 1)) ∧ (decode cX7_isEven 1 = .ok (.istore_n 1, 1)) ∧ (decode cX7_isEven 2 = .ok (.iload_n 1, 1)) ∧ (decode cX7_isEven 3 = .ok (.aload_n 0, 1)) ∧ (decode cX7_isEven 4 = .ok (.getfield 21, 3)) ∧ (decode cX7_isEven 7 = .ok (.if_icmp .ge 24, 3)) ∧ (decode cX7_isEven 10 = .ok (.aload_n 0, 1)) ∧ (decode cX7_isEven 11 = .ok (.iload_n 1, 1)) := by decide +kernel
theorem dX7_isEven_0 : decode cX7_isEven 0 = .ok (.iconst 1, 1) := eX7_isEven_0.1
theorem dX7_isEven_1 : decode cX7_isEven 1 = .ok (.istore_n 1, 1) := eX7_isEven_0.2.1
theorem dX7_isEven_2 : decode cX7_isEven 2 = .ok (.iload_n 1, 1) := eX7_isEven_0.2.2.1
theorem dX7_isEven_3 : decode cX7_isEven 3 = .ok (.aload_n 0, 1) := eX7_isEven_0.2.2.2.1
theorem dX7_isEven_4 : decode cX7_isEven 4 = .ok (.getfield 21, 3) := eX7_isEven_0.2.2.2.2.1
theorem dX7_isEven_7 : decode cX7_isEven 7 = .ok (.if_icmp .ge 24, 3) := eX7_isEven_0.2.2.2.2.2.1
theorem dX7_isEven_10 : decode cX7_isEven 10 = .ok (.aload_n 0, 1) := eX7_isEven_0.2.2.2.2.2.2.1
theorem dX7_isEven_11 : decode cX7_isEven 11 = .ok (.iload_n 1, 1) := eX7_isEven_0.2.2.2.2.2.2.2
theorem eX7_isEven_12 : (decode cX7_isEven 12 = .ok (.invokevirtual 38, 3)) ∧ (decode cX7_isEven 15 = .ok (.aload_n 0, 1)) ∧ (decode cX7_isEven 16 = .ok (.iconst 0, 1)) ∧ (decode cX7_isEven 17 = .ok (.invokevirtual 38, 3)) ∧ (decode cX7_isEven 20 = .ok (.if_icmp .eq 5, 3)) ∧ (decode cX7_isEven 23 = .ok (.iconst 0, 1)) ∧ (decode cX7_isEven 24 = .ok (.ireturn, 1)) ∧ (decode cX7_isEven 25 = .ok (.iinc 1 1, 3)) := by decide +kernel
theorem dX7_isEven_12 : decode cX7_isEven 12 = .ok (.invokevirtual 38, 3) := eX7_isEven_12.1
theorem dX7_isEven_15 : decode cX7_isEven 15 = .ok (.aload_n 0, 1) := eX7_isEven_12.2.1
theorem dX7_isEven_16 : decode cX7_isEven 16 = .ok (.iconst 0, 1) := eX7_isEven_12.2.2.1
theorem dX7_isEven_17 : decode cX7_isEven 17 = .ok (.invokevirtual 38, 3) := eX7_isEven_12.2.2.2.1
theorem dX7_isEven_20 : decode cX7_isEven 20 = .ok (.if_icmp .eq 5, 3) := eX7_isEven_12.2.2.2.2.1
theorem dX7_isEven_23 : decode cX7_isEven 23 = .ok (.iconst 0, 1) := eX7_isEven_12.2.2.2.2.2.1
theorem dX7_isEven_24 : decode cX7_isEven 24 = .ok (.ireturn, 1) := eX7_isEven_12.2.2.2.2.2.2.1
theorem dX7_isEven_25 : decode cX7_isEven 25 = .ok (.iinc 1 1, 3) := eX7_isEven_12.2.2.2.2.2.2.2
theorem eX7_isEven_28 : (decode cX7_isEven 28 = .ok (.goto (-26), 3)) ∧ (decode cX7_isEven 31 = .ok (.iconst 1, 1)) ∧ (decode cX7_isEven 32 = .ok (.ireturn, 1)) := by decide +kernel
theorem dX7_isEven_28 : decode cX7_isEven 28 = .ok (.goto (-26), 3) := eX7_isEven_28.1
theorem dX7_isEven_31 : decode cX7_isEven 31 = .ok (.iconst 1, 1) := eX7_isEven_28.2.1
theorem dX7_isEven_32 : decode cX7_isEven 32 = .ok (.ireturn, 1) := eX7_isEven_28.2.2
theorem eX7_isLike_0 : (decode cX7_isLike 0 = .ok (.aload_n 0, 1)) ∧ (decode cX7_isLike 1 = .ok (.getfield 15, 3)) ∧ (decode cX7_isLike 4 = .ok (.iconst 0, 1)) ∧ (decode cX7_isLike 5 = .ok (.iaload, 1)) ∧ (decode cX7_isLike 6 = .ok (.istore_n 1, 1)) ∧ (decode cX7_isLike 7 = .ok (.iconst 0, 1)) ∧ (decode cX7_isLike 8 = .ok (.istore_n 2, 1)) ∧ (decode cX7_isLike 9 = .ok (.iload_n 2, 1)) := by decide +kernel
theorem dX7_isLike_0 : decode cX7_isLike 0 = .ok (.aload_n 0, 1) := eX7_isLike_0.1
theorem dX7_isLike_1 : decode cX7_isLike 1 = .ok (.getfield 15, 3) := eX7_isLike_0.2.1
theorem dX7_isLike_4 : decode cX7_isLike 4 = .ok (.iconst 0, 1) := eX7_isLike_0.2.2.1
theorem dX7_isLike_5 : decode cX7_isLike 5 = .ok (.iaload, 1) := eX7_isLike_0.2.2.2.1
theorem dX7_isLike_6 : decode cX7_isLike 6 = .ok (.istore_n 1, 1) := eX7_isLike_0.2.2.2.2.1
theorem dX7_isLike_7 : decode cX7_isLike 7 = .ok (.iconst 0, 1) := eX7_isLike_0.2.2.2.2.2.1
theorem dX7_isLike_8 : decode cX7_isLike 8 = .ok (.istore_n 2, 1) := eX7_isLike_0.2.2.2.2.2.2.1
theorem dX7_isLike_9 : decode cX7_isLike 9 = .ok (.iload_n 2, 1) := eX7_isLike_0.2.2.2.2.2.2.2
theorem eX7_isLike_10 : (decode cX7_isLike 10 = .ok (.aload_n 0, 1)) ∧ (decode cX7_isLike 11 = .ok (.getfield 21, 3)) ∧ (decode cX7_isLike 14 = .ok (.if_icmp .ge 50, 3)) ∧ (decode cX7_isLike 17 = .ok (.iconst 0, 1)) ∧ (decode cX7_isLike 18 = .ok (.istore_n 3, 1)) ∧ (decode cX7_isLike 19 = .ok (.iload_n 3, 1)) ∧ (decode cX7_isLike 20 = .ok (.aload_n 0, 1)) ∧ (decode cX7_isLike 21 = .ok (.getfield 21, 3)) := by decide +kernel
theorem dX7_isLike_10 : decode cX7_isLike 10 = .ok (.aload_n 0, 1) := eX7_isLike_10.1
theorem dX7_isLike_11 : decode cX7_isLike 11 = .ok (.getfield 21, 3) := eX7_isLike_10.2.1
theorem dX7_isLike_14 : decode cX7_isLike 14 = .ok (.if_icmp .ge 50, 3) := eX7_isLike_10.2.2.1
theorem dX7_isLike_17 : decode cX7_isLike 17 = .ok (.iconst 0, 1) := eX7_isLike_10.2.2.2.1
theorem dX7_isLike_18 : decode cX7_isLike 18 = .ok (.istore_n 3, 1) := eX7_isLike_10.2.2.2.2.1
theorem dX7_isLike_19 : decode cX7_isLike 19 = .ok (.iload_n 3, 1) := eX7_isLike_10.2.2.2.2.2.1
theorem dX7_isLike_20 : decode cX7_isLike 20 = .ok (.aload_n 0, 1) := eX7_isLike_10.2.2.2.2.2.2.1
theorem dX7_isLike_21 : decode cX7_isLike 21 = .ok (.getfield 21, 3) := eX7_isLike_10.2.2.2.2.2.2.2
theorem eX7_isLike_24 : (decode cX7_isLike 24 = .ok (.if_icmp .ge 34, 3)) ∧ (decode cX7_isLike 27 = .ok (.aload_n 0, 1)) ∧ (decode cX7_isLike 28 = .ok (.getfield 15, 3)) ∧ (decode cX7_isLike 31 = .ok (.iload_n 2, 1)) ∧ (decode cX7_isLike 32 = .ok (.iconst 4, 1)) ∧ (decode cX7_isLike 33 = .ok (.imul, 1)) ∧ (decode cX7_isLike 34 = .ok (.iload_n 3, 1)) ∧ (decode cX7_isLike 35 = .ok (.iadd, 1)) := by decide +kernel
theorem dX7_isLike_24 : decode cX7_isLike 24 = .ok (.if_icmp .ge 34, 3) := eX7_isLike_24.1
theorem dX7_isLike_27 : decode cX7_isLike 27 = .ok (.aload_n 0, 1) := eX7_isLike_24.2.1
theorem dX7_isLike_28 : decode cX7_isLike 28 = .ok (.getfield 15, 3) := eX7_isLike_24.2.2.1
theorem dX7_isLike_31 : decode cX7_isLike 31 = .ok (.iload_n 2, 1) := eX7_isLike_24.2.2.2.1
theorem dX7_isLike_32 : decode cX7_isLike 32 = .ok (.iconst 4, 1) := eX7_isLike_24.2.2.2.2.1
theorem dX7_isLike_33 : decode cX7_isLike 33 = .ok (.imul, 1) := eX7_isLike_24.2.2.2.2.2.1
theorem dX7_isLike_34 : decode cX7_isLike 34 = .ok (.iload_n 3, 1) := eX7_isLike_24.2.2.2.2.2.2.1
theorem dX7_isLike_35 : decode cX7_isLike 35 = .ok (.iadd, 1) := eX7_isLike_24.2.2.2.2.2.2.2
theorem eX7_isLike_36 : (decode cX7_isLike 36 = .ok (.iaload, 1)) ∧ (decode cX7_isLike 37 = .ok (.iload_n 2, 1)) ∧ (decode cX7_isLike 38 = .ok (.iload_n 3, 1)) ∧ (decode cX7_isLike 39 = .ok (.if_icmp .ne 7, 3)) ∧ (decode cX7_isLike 42 = .ok (.iload_n 1, 1)) ∧ (decode cX7_isLike 43 = .ok (.goto 4, 3)) ∧ (decode cX7_isLike 46 = .ok (.iconst 0, 1)) ∧ (decode cX7_isLike 47 = .ok (.if_icmp .eq 5, 3)) := by decide +kernel
theorem dX7_isLike_36 : decode cX7_isLike 36 = .ok (.iaload, 1) := eX7_isLike_36.1
theorem dX7_isLike_37 : decode cX7_isLike 37 = .ok (.iload_n 2, 1) := eX7_isLike_36.2.1
theorem dX7_isLike_38 : decode cX7_isLike 38 = .ok (.iload_n 3, 1) := eX7_isLike_36.2.2.1
theorem dX7_isLike_39 : decode cX7_isLike 39 = .ok (.if_icmp .ne 7, 3) := eX7_isLike_36.2.2.2.1
theorem dX7_isLike_42 : decode cX7_isLike 42 = .ok (.iload_n 1, 1) := eX7_isLike_36.2.2.2.2.1
theorem dX7_isLike_43 : decode cX7_isLike 43 = .ok (.goto 4, 3) := eX7_isLike_36.2.2.2.2.2.1
theorem dX7_isLike_46 : decode cX7_isLike 46 = .ok (.iconst 0, 1) := eX7_isLike_36.2.2.2.2.2.2.1
theorem dX7_isLike_47 : decode cX7_isLike 47 = .ok (.if_icmp .eq 5, 3) := eX7_isLike_36.2.2.2.2.2.2.2
theorem eX7_isLike_50 : (decode cX7_isLike 50 = .ok (.iconst 0, 1)) ∧ (decode cX7_isLike 51 = .ok (.ireturn, 1)) ∧ (decode cX7_isLike 52 = .ok (.iinc 3 1, 3)) ∧ (decode cX7_isLike 55 = .ok (.goto (-36), 3)) ∧ (decode cX7_isLike 58 = .ok (.iinc 2 1, 3)) ∧ (decode cX7_isLike 61 = .ok (.goto (-52), 3)) ∧ (decode cX7_isLike 64 = .ok (.iload_n 1, 1)) ∧ (decode cX7_isLike 65 = .ok (.ifCond .lt 7, 3)) := by decide +kernel
theorem dX7_isLike_50 : decode cX7_isLike 50 = .ok (.iconst 0, 1) := eX7_isLike_50.1
theorem dX7_isLike_51 : decode cX7_isLike 51 = .ok (.ireturn, 1) := eX7_isLike_50.2.1
theorem dX7_isLike_52 : decode cX7_isLike 52 = .ok (.iinc 3 1, 3) := eX7_isLike_50.2.2.1
theorem dX7_isLike_55 : decode cX7_isLike 55 = .ok (.goto (-36), 3) := eX7_isLike_50.2.2.2.1
theorem dX7_isLike_58 : decode cX7_isLike 58 = .ok (.iinc 2 1, 3) := eX7_isLike_50.2.2.2.2.1
theorem dX7_isLike_61 : decode cX7_isLike 61 = .ok (.goto (-52), 3) := eX7_isLike_50.2.2.2.2.2.1
theorem dX7_isLike_64 : decode cX7_isLike 64 = .ok (.iload_n 1, 1) := eX7_isLike_50.2.2.2.2.2.2.1
theorem dX7_isLike_65 : decode cX7_isLike 65 = .ok (.ifCond .lt 7, 3) := eX7_isLike_50.2.2.2.2.2.2.2
theorem eX7_isLike_68 : (decode cX7_isLike 68 = .ok (.iconst 1, 1)) ∧ (decode cX7_isLike 69 = .ok (.goto 4, 3)) ∧ (decode cX7_isLike 72 = .ok (.iconst 0, 1)) ∧ (decode cX7_isLike 73 = .ok (.ireturn, 1)) := by decide +kernel
theorem dX7_isLike_68 : decode cX7_isLike 68 = .ok (.iconst 1, 1) := eX7_isLike_68.1
theorem dX7_isLike_69 : decode cX7_isLike 69 = .ok (.goto 4, 3) := eX7_isLike_68.2.1
theorem dX7_isLike_72 : decode cX7_isLike 72 = .ok (.iconst 0, 1) := eX7_isLike_68.2.2.1
theorem dX7_isLike_73 : decode cX7_isLike 73 = .ok (.ireturn, 1) := eX7_isLike_68.2.2.2
theorem eX7_lets_0 : (decode cX7_lets 0 = .ok (.aload_n 1, 1)) ∧ (decode cX7_lets 1 = .ok (.iload_n 2, 1)) ∧ (decode cX7_lets 2 = .ok (.iaload, 1)) ∧ (decode cX7_lets 3 = .ok (.ifCond .gt 5, 3)) ∧ (decode cX7_lets 6 = .ok (.iconst 0, 1)) ∧ (decode cX7_lets 7 = .ok (.ireturn, 1)) ∧ (decode cX7_lets 8 = .ok (.iconst 0, 1)) ∧ (decode cX7_lets 9 = .ok (.istore_n 3, 1)) := by decide +kernel
theorem dX7_lets_0 : decode cX7_lets 0 = .ok (.aload_n 1, 1) := eX7_lets_0.1
theorem dX7_lets_1 : decode cX7_lets 1 = .ok (.iload_n 2, 1) := eX7_lets_0.2.1
theorem dX7_lets_2 : decode cX7_lets 2 = .ok (.iaload, 1) := eX7_lets_0.2.2.1
theorem dX7_lets_3 : decode cX7_lets 3 = .ok (.ifCond .gt 5, 3) := eX7_lets_0.2.2.2.1
theorem dX7_lets_6 : decode cX7_lets 6 = .ok (.iconst 0, 1) := eX7_lets_0.2.2.2.2.1
theorem dX7_lets_7 : decode cX7_lets 7 = .ok (.ireturn, 1) := eX7_lets_0.2.2.2.2.2.1
theorem dX7_lets_8 : decode cX7_lets 8 = .ok (.iconst 0, 1) := eX7_lets_0.2.2.2.2.2.2.1
theorem dX7_lets_9 : decode cX7_lets 9 = .ok (.istore_n 3, 1) := eX7_lets_0.2.2.2.2.2.2.2
theorem eX7_lets_10 : (decode cX7_lets 10 = .ok (.iload_n 3, 1)) ∧ (decode cX7_lets 11 = .ok (.aload_n 0, 1)) ∧ (decode cX7_lets 12 = .ok (.getfield 21, 3)) ∧ (decode cX7_lets 15 = .ok (.if_icmp .ge 40, 3)) ∧ (decode cX7_lets 18 = .ok (.aload_n 1, 1)) ∧ (decode cX7_lets 19 = .ok (.iload_n 3, 1)) ∧ (decode cX7_lets 20 = .ok (.iaload, 1)) ∧ (decode cX7_lets 21 = .ok (.aload_n 0, 1)) := by decide +kernel
theorem dX7_lets_10 : decode cX7_lets 10 = .ok (.iload_n 3, 1) := eX7_lets_10.1
theorem dX7_lets_11 : decode cX7_lets 11 = .ok (.aload_n 0, 1) := eX7_lets_10.2.1
theorem dX7_lets_12 : decode cX7_lets 12 = .ok (.getfield 21, 3) := eX7_lets_10.2.2.1
theorem dX7_lets_15 : decode cX7_lets 15 = .ok (.if_icmp .ge 40, 3) := eX7_lets_10.2.2.2.1
theorem dX7_lets_18 : decode cX7_lets 18 = .ok (.aload_n 1, 1) := eX7_lets_10.2.2.2.2.1
theorem dX7_lets_19 : decode cX7_lets 19 = .ok (.iload_n 3, 1) := eX7_lets_10.2.2.2.2.2.1
theorem dX7_lets_20 : decode cX7_lets 20 = .ok (.iaload, 1) := eX7_lets_10.2.2.2.2.2.2.1
theorem dX7_lets_21 : decode cX7_lets 21 = .ok (.aload_n 0, 1) := eX7_lets_10.2.2.2.2.2.2.2
theorem eX7_lets_22 : (decode cX7_lets 22 = .ok (.getfield 15, 3)) ∧ (decode cX7_lets 25 = .ok (.iload_n 2, 1)) ∧ (decode cX7_lets 26 = .ok (.iconst 4, 1)) ∧ (decode cX7_lets 27 = .ok (.imul, 1)) ∧ (decode cX7_lets 28 = .ok (.iload_n 3, 1)) ∧ (decode cX7_lets 29 = .ok (.iadd, 1)) ∧ (decode cX7_lets 30 = .ok (.iaload, 1)) ∧ (decode cX7_lets 31 = .ok (.iadd, 1)) := by decide +kernel
theorem dX7_lets_22 : decode cX7_lets 22 = .ok (.getfield 15, 3) := eX7_lets_22.1
theorem dX7_lets_25 : decode cX7_lets 25 = .ok (.iload_n 2, 1) := eX7_lets_22.2.1
theorem dX7_lets_26 : decode cX7_lets 26 = .ok (.iconst 4, 1) := eX7_lets_22.2.2.1
theorem dX7_lets_27 : decode cX7_lets 27 = .ok (.imul, 1) := eX7_lets_22.2.2.2.1
theorem dX7_lets_28 : decode cX7_lets 28 = .ok (.iload_n 3, 1) := eX7_lets_22.2.2.2.2.1
theorem dX7_lets_29 : decode cX7_lets 29 = .ok (.iadd, 1) := eX7_lets_22.2.2.2.2.2.1
theorem dX7_lets_30 : decode cX7_lets 30 = .ok (.iaload, 1) := eX7_lets_22.2.2.2.2.2.2.1
theorem dX7_lets_31 : decode cX7_lets 31 = .ok (.iadd, 1) := eX7_lets_22.2.2.2.2.2.2.2
theorem eX7_lets_32 : (decode cX7_lets 32 = .ok (.istore 4, 2)) ∧ (decode cX7_lets 34 = .ok (.iload 4, 2)) ∧ (decode cX7_lets 36 = .ok (.ifCond .lt 11, 3)) ∧ (decode cX7_lets 39 = .ok (.iload 4, 2)) ∧ (decode cX7_lets 41 = .ok (.sipush 200, 3)) ∧ (decode cX7_lets 44 = .ok (.if_icmp .le 5, 3)) ∧ (decode cX7_lets 47 = .ok (.iconst 0, 1)) ∧ (decode cX7_lets 48 = .ok (.ireturn, 1)) := by decide +kernel
theorem dX7_lets_32 : decode cX7_lets 32 = .ok (.istore 4, 2) := eX7_lets_32.1
theorem dX7_lets_34 : decode cX7_lets 34 = .ok (.iload 4, 2) := eX7_lets_32.2.1
theorem dX7_lets_36 : decode cX7_lets 36 = .ok (.ifCond .lt 11, 3) := eX7_lets_32.2.2.1
theorem dX7_lets_39 : decode cX7_lets 39 = .ok (.iload 4, 2) := eX7_lets_32.2.2.2.1
theorem dX7_lets_41 : decode cX7_lets 41 = .ok (.sipush 200, 3) := eX7_lets_32.2.2.2.2.1
theorem dX7_lets_44 : decode cX7_lets 44 = .ok (.if_icmp .le 5, 3) := eX7_lets_32.2.2.2.2.2.1
theorem dX7_lets_47 : decode cX7_lets 47 = .ok (.iconst 0, 1) := eX7_lets_32.2.2.2.2.2.2.1
theorem dX7_lets_48 : decode cX7_lets 48 = .ok (.ireturn, 1) := eX7_lets_32.2.2.2.2.2.2.2
theorem eX7_lets_49 : (decode cX7_lets 49 = .ok (.iinc 3 1, 3)) ∧ (decode cX7_lets 52 = .ok (.goto (-42), 3)) ∧ (decode cX7_lets 55 = .ok (.iconst 1, 1)) ∧ (decode cX7_lets 56 = .ok (.ireturn, 1)) := by decide +kernel
theorem dX7_lets_49 : decode cX7_lets 49 = .ok (.iinc 3 1, 3) := eX7_lets_49.1
theorem dX7_lets_52 : decode cX7_lets 52 = .ok (.goto (-42), 3) := eX7_lets_49.2.1
theorem dX7_lets_55 : decode cX7_lets 55 = .ok (.iconst 1, 1) := eX7_lets_49.2.2.1
theorem dX7_lets_56 : decode cX7_lets 56 = .ok (.ireturn, 1) := eX7_lets_49.2.2.2
theorem eX7_grow_0 : (decode cX7_grow 0 = .ok (.iconst 0, 1)) ∧ (decode cX7_grow 1 = .ok (.istore_n 3, 1)) ∧ (decode cX7_grow 2 = .ok (.iload_n 3, 1)) ∧ (decode cX7_grow 3 = .ok (.aload_n 0, 1)) ∧ (decode cX7_grow 4 = .ok (.getfield 21, 3)) ∧ (decode cX7_grow 7 = .ok (.if_icmp .ge 25, 3)) ∧ (decode cX7_grow 10 = .ok (.aload_n 1, 1)) ∧ (decode cX7_grow 11 = .ok (.iload_n 3, 1)) := by decide +kernel
theorem dX7_grow_0 : decode cX7_grow 0 = .ok (.iconst 0, 1) := eX7_grow_0.1
theorem dX7_grow_1 : decode cX7_grow 1 = .ok (.istore_n 3, 1) := eX7_grow_0.2.1
theorem dX7_grow_2 : decode cX7_grow 2 = .ok (.iload_n 3, 1) := eX7_grow_0.2.2.1
theorem dX7_grow_3 : decode cX7_grow 3 = .ok (.aload_n 0, 1) := eX7_grow_0.2.2.2.1
theorem dX7_grow_4 : decode cX7_grow 4 = .ok (.getfield 21, 3) := eX7_grow_0.2.2.2.2.1
theorem dX7_grow_7 : decode cX7_grow 7 = .ok (.if_icmp .ge 25, 3) := eX7_grow_0.2.2.2.2.2.1
theorem dX7_grow_10 : decode cX7_grow 10 = .ok (.aload_n 1, 1) := eX7_grow_0.2.2.2.2.2.2.1
theorem dX7_grow_11 : decode cX7_grow 11 = .ok (.iload_n 3, 1) := eX7_grow_0.2.2.2.2.2.2.2
theorem eX7_grow_12 : (decode cX7_grow 12 = .ok (.dup2, 1)) ∧ (decode cX7_grow 13 = .ok (.iaload, 1)) ∧ (decode cX7_grow 14 = .ok (.aload_n 0, 1)) ∧ (decode cX7_grow 15 = .ok (.getfield 15, 3)) ∧ (decode cX7_grow 18 = .ok (.iload_n 2, 1)) ∧ (decode cX7_grow 19 = .ok (.iconst 4, 1)) ∧ (decode cX7_grow 20 = .ok (.imul, 1)) ∧ (decode cX7_grow 21 = .ok (.iload_n 3, 1)) := by decide +kernel
theorem dX7_grow_12 : decode cX7_grow 12 = .ok (.dup2, 1) := eX7_grow_12.1
theorem dX7_grow_13 : decode cX7_grow 13 = .ok (.iaload, 1) := eX7_grow_12.2.1
theorem dX7_grow_14 : decode cX7_grow 14 = .ok (.aload_n 0, 1) := eX7_grow_12.2.2.1
theorem dX7_grow_15 : decode cX7_grow 15 = .ok (.getfield 15, 3) := eX7_grow_12.2.2.2.1
theorem dX7_grow_18 : decode cX7_grow 18 = .ok (.iload_n 2, 1) := eX7_grow_12.2.2.2.2.1
theorem dX7_grow_19 : decode cX7_grow 19 = .ok (.iconst 4, 1) := eX7_grow_12.2.2.2.2.2.1
theorem dX7_grow_20 : decode cX7_grow 20 = .ok (.imul, 1) := eX7_grow_12.2.2.2.2.2.2.1
theorem dX7_grow_21 : decode cX7_grow 21 = .ok (.iload_n 3, 1) := eX7_grow_12.2.2.2.2.2.2.2
theorem eX7_grow_22 : (decode cX7_grow 22 = .ok (.iadd, 1)) ∧ (decode cX7_grow 23 = .ok (.iaload, 1)) ∧ (decode cX7_grow 24 = .ok (.iadd, 1)) ∧ (decode cX7_grow 25 = .ok (.iastore, 1)) ∧ (decode cX7_grow 26 = .ok (.iinc 3 1, 3)) ∧ (decode cX7_grow 29 = .ok (.goto (-27), 3)) ∧ (decode cX7_grow 32 = .ok (.return_, 1)) := by decide +kernel
theorem dX7_grow_22 : decode cX7_grow 22 = .ok (.iadd, 1) := eX7_grow_22.1
theorem dX7_grow_23 : decode cX7_grow 23 = .ok (.iaload, 1) := eX7_grow_22.2.1
theorem dX7_grow_24 : decode cX7_grow 24 = .ok (.iadd, 1) := eX7_grow_22.2.2.1
theorem dX7_grow_25 : decode cX7_grow 25 = .ok (.iastore, 1) := eX7_grow_22.2.2.2.1
theorem dX7_grow_26 : decode cX7_grow 26 = .ok (.iinc 3 1, 3) := eX7_grow_22.2.2.2.2.1
theorem dX7_grow_29 : decode cX7_grow 29 = .ok (.goto (-27), 3) := eX7_grow_22.2.2.2.2.2.1
theorem dX7_grow_32 : decode cX7_grow 32 = .ok (.return_, 1) := eX7_grow_22.2.2.2.2.2.2
theorem eX7_doDraw_0 : (decode cX7_doDraw 0 = .ok (.aload_n 0, 1)) ∧ (decode cX7_doDraw 1 = .ok (.aload_n 0, 1)) ∧ (decode cX7_doDraw 2 = .ok (.getfield 9, 3)) ∧ (decode cX7_doDraw 5 = .ok (.iload_n 1, 1)) ∧ (decode cX7_doDraw 6 = .ok (.invokevirtual 42, 3)) ∧ (decode cX7_doDraw 9 = .ok (.aload_n 0, 1)) ∧ (decode cX7_doDraw 10 = .ok (.dup, 1)) ∧ (decode cX7_doDraw 11 = .ok (.getfield 25, 3)) := by decide +kernel
theorem dX7_doDraw_0 : decode cX7_doDraw 0 = .ok (.aload_n 0, 1) := eX7_doDraw_0.1
theorem dX7_doDraw_1 : decode cX7_doDraw 1 = .ok (.aload_n 0, 1) := eX7_doDraw_0.2.1
theorem dX7_doDraw_2 : decode cX7_doDraw 2 = .ok (.getfield 9, 3) := eX7_doDraw_0.2.2.1
theorem dX7_doDraw_5 : decode cX7_doDraw 5 = .ok (.iload_n 1, 1) := eX7_doDraw_0.2.2.2.1
theorem dX7_doDraw_6 : decode cX7_doDraw 6 = .ok (.invokevirtual 42, 3) := eX7_doDraw_0.2.2.2.2.1
theorem dX7_doDraw_9 : decode cX7_doDraw 9 = .ok (.aload_n 0, 1) := eX7_doDraw_0.2.2.2.2.2.1
theorem dX7_doDraw_10 : decode cX7_doDraw 10 = .ok (.dup, 1) := eX7_doDraw_0.2.2.2.2.2.2.1
theorem dX7_doDraw_11 : decode cX7_doDraw 11 = .ok (.getfield 25, 3) := eX7_doDraw_0.2.2.2.2.2.2.2
theorem eX7_doDraw_14 : (decode cX7_doDraw 14 = .ok (.iconst 1, 1)) ∧ (decode cX7_doDraw 15 = .ok (.iadd, 1)) ∧ (decode cX7_doDraw 16 = .ok (.putfield 25, 3)) ∧ (decode cX7_doDraw 19 = .ok (.return_, 1)) := by decide +kernel
theorem dX7_doDraw_14 : decode cX7_doDraw 14 = .ok (.iconst 1, 1) := eX7_doDraw_14.1
theorem dX7_doDraw_15 : decode cX7_doDraw 15 = .ok (.iadd, 1) := eX7_doDraw_14.2.1
theorem dX7_doDraw_16 : decode cX7_doDraw 16 = .ok (.putfield 25, 3) := eX7_doDraw_14.2.2.1
theorem dX7_doDraw_19 : decode cX7_doDraw 19 = .ok (.return_, 1) := eX7_doDraw_14.2.2.2
theorem eX7_colourOf_0 : (decode cX7_colourOf 0 = .ok (.iconst 0, 1)) ∧ (decode cX7_colourOf 1 = .ok (.istore_n 2, 1)) ∧ (decode cX7_colourOf 2 = .ok (.iconst 0, 1)) ∧ (decode cX7_colourOf 3 = .ok (.istore_n 3, 1)) ∧ (decode cX7_colourOf 4 = .ok (.iload_n 3, 1)) ∧ (decode cX7_colourOf 5 = .ok (.aload_n 0, 1)) ∧ (decode cX7_colourOf 6 = .ok (.getfield 21, 3)) ∧ (decode cX7_colourOf 9 = .ok (.iconst 1, 1)) := by decide +kernel
theorem dX7_colourOf_0 : decode cX7_colourOf 0 = .ok (.iconst 0, 1) := eX7_colourOf_0.1
theorem dX7_colourOf_1 : decode cX7_colourOf 1 = .ok (.istore_n 2, 1) := eX7_colourOf_0.2.1
theorem dX7_colourOf_2 : decode cX7_colourOf 2 = .ok (.iconst 0, 1) := eX7_colourOf_0.2.2.1
theorem dX7_colourOf_3 : decode cX7_colourOf 3 = .ok (.istore_n 3, 1) := eX7_colourOf_0.2.2.2.1
theorem dX7_colourOf_4 : decode cX7_colourOf 4 = .ok (.iload_n 3, 1) := eX7_colourOf_0.2.2.2.2.1
theorem dX7_colourOf_5 : decode cX7_colourOf 5 = .ok (.aload_n 0, 1) := eX7_colourOf_0.2.2.2.2.2.1
theorem dX7_colourOf_6 : decode cX7_colourOf 6 = .ok (.getfield 21, 3) := eX7_colourOf_0.2.2.2.2.2.2.1
theorem dX7_colourOf_9 : decode cX7_colourOf 9 = .ok (.iconst 1, 1) := eX7_colourOf_0.2.2.2.2.2.2.2
theorem eX7_colourOf_10 : (decode cX7_colourOf 10 = .ok (.isub, 1)) ∧ (decode cX7_colourOf 11 = .ok (.if_icmp .ge 25, 3)) ∧ (decode cX7_colourOf 14 = .ok (.iload_n 2, 1)) ∧ (decode cX7_colourOf 15 = .ok (.aload_n 0, 1)) ∧ (decode cX7_colourOf 16 = .ok (.getfield 9, 3)) ∧ (decode cX7_colourOf 19 = .ok (.iload_n 3, 1)) ∧ (decode cX7_colourOf 20 = .ok (.iaload, 1)) ∧ (decode cX7_colourOf 21 = .ok (.iadd, 1)) := by decide +kernel
theorem dX7_colourOf_10 : decode cX7_colourOf 10 = .ok (.isub, 1) := eX7_colourOf_10.1
theorem dX7_colourOf_11 : decode cX7_colourOf 11 = .ok (.if_icmp .ge 25, 3) := eX7_colourOf_10.2.1
theorem dX7_colourOf_14 : decode cX7_colourOf 14 = .ok (.iload_n 2, 1) := eX7_colourOf_10.2.2.1
theorem dX7_colourOf_15 : decode cX7_colourOf 15 = .ok (.aload_n 0, 1) := eX7_colourOf_10.2.2.2.1
theorem dX7_colourOf_16 : decode cX7_colourOf 16 = .ok (.getfield 9, 3) := eX7_colourOf_10.2.2.2.2.1
theorem dX7_colourOf_19 : decode cX7_colourOf 19 = .ok (.iload_n 3, 1) := eX7_colourOf_10.2.2.2.2.2.1
theorem dX7_colourOf_20 : decode cX7_colourOf 20 = .ok (.iaload, 1) := eX7_colourOf_10.2.2.2.2.2.2.1
theorem dX7_colourOf_21 : decode cX7_colourOf 21 = .ok (.iadd, 1) := eX7_colourOf_10.2.2.2.2.2.2.2
theorem eX7_colourOf_22 : (decode cX7_colourOf 22 = .ok (.istore_n 2, 1)) ∧ (decode cX7_colourOf 23 = .ok (.iload_n 1, 1)) ∧ (decode cX7_colourOf 24 = .ok (.iload_n 2, 1)) ∧ (decode cX7_colourOf 25 = .ok (.if_icmp .ge 5, 3)) ∧ (decode cX7_colourOf 28 = .ok (.iload_n 3, 1)) ∧ (decode cX7_colourOf 29 = .ok (.ireturn, 1)) ∧ (decode cX7_colourOf 30 = .ok (.iinc 3 1, 3)) ∧ (decode cX7_colourOf 33 = .ok (.goto (-29), 3)) := by decide +kernel
theorem dX7_colourOf_22 : decode cX7_colourOf 22 = .ok (.istore_n 2, 1) := eX7_colourOf_22.1
theorem dX7_colourOf_23 : decode cX7_colourOf 23 = .ok (.iload_n 1, 1) := eX7_colourOf_22.2.1
theorem dX7_colourOf_24 : decode cX7_colourOf 24 = .ok (.iload_n 2, 1) := eX7_colourOf_22.2.2.1
theorem dX7_colourOf_25 : decode cX7_colourOf 25 = .ok (.if_icmp .ge 5, 3) := eX7_colourOf_22.2.2.2.1
theorem dX7_colourOf_28 : decode cX7_colourOf 28 = .ok (.iload_n 3, 1) := eX7_colourOf_22.2.2.2.2.1
theorem dX7_colourOf_29 : decode cX7_colourOf 29 = .ok (.ireturn, 1) := eX7_colourOf_22.2.2.2.2.2.1
theorem dX7_colourOf_30 : decode cX7_colourOf 30 = .ok (.iinc 3 1, 3) := eX7_colourOf_22.2.2.2.2.2.2.1
theorem dX7_colourOf_33 : decode cX7_colourOf 33 = .ok (.goto (-29), 3) := eX7_colourOf_22.2.2.2.2.2.2.2
theorem eX7_colourOf_36 : (decode cX7_colourOf 36 = .ok (.aload_n 0, 1)) ∧ (decode cX7_colourOf 37 = .ok (.getfield 21, 3)) ∧ (decode cX7_colourOf 40 = .ok (.iconst 1, 1)) ∧ (decode cX7_colourOf 41 = .ok (.isub, 1)) ∧ (decode cX7_colourOf 42 = .ok (.ireturn, 1)) := by decide +kernel
theorem dX7_colourOf_36 : decode cX7_colourOf 36 = .ok (.aload_n 0, 1) := eX7_colourOf_36.1
theorem dX7_colourOf_37 : decode cX7_colourOf 37 = .ok (.getfield 21, 3) := eX7_colourOf_36.2.1
theorem dX7_colourOf_40 : decode cX7_colourOf 40 = .ok (.iconst 1, 1) := eX7_colourOf_36.2.2.1
theorem dX7_colourOf_41 : decode cX7_colourOf 41 = .ok (.isub, 1) := eX7_colourOf_36.2.2.2.1
theorem dX7_colourOf_42 : decode cX7_colourOf 42 = .ok (.ireturn, 1) := eX7_colourOf_36.2.2.2.2
theorem eX7_goInto_0 : (decode cX7_goInto 0 = .ok (.aload_n 0, 1)) ∧ (decode cX7_goInto 1 = .ok (.getfield 9, 3)) ∧ (decode cX7_goInto 4 = .ok (.iconst 0, 1)) ∧ (decode cX7_goInto 5 = .ok (.aload_n 1, 1)) ∧ (decode cX7_goInto 6 = .ok (.iload_n 2, 1)) ∧ (decode cX7_goInto 7 = .ok (.iconst 4, 1)) ∧ (decode cX7_goInto 8 = .ok (.invokestatic 45, 3)) ∧ (decode cX7_goInto 11 = .ok (.aload_n 0, 1)) := by decide +kernel
theorem dX7_goInto_0 : decode cX7_goInto 0 = .ok (.aload_n 0, 1) := eX7_goInto_0.1
theorem dX7_goInto_1 : decode cX7_goInto 1 = .ok (.getfield 9, 3) := eX7_goInto_0.2.1
theorem dX7_goInto_4 : decode cX7_goInto 4 = .ok (.iconst 0, 1) := eX7_goInto_0.2.2.1
theorem dX7_goInto_5 : decode cX7_goInto 5 = .ok (.aload_n 1, 1) := eX7_goInto_0.2.2.2.1
theorem dX7_goInto_6 : decode cX7_goInto 6 = .ok (.iload_n 2, 1) := eX7_goInto_0.2.2.2.2.1
theorem dX7_goInto_7 : decode cX7_goInto 7 = .ok (.iconst 4, 1) := eX7_goInto_0.2.2.2.2.2.1
theorem dX7_goInto_8 : decode cX7_goInto 8 = .ok (.invokestatic 45, 3) := eX7_goInto_0.2.2.2.2.2.2.1
theorem dX7_goInto_11 : decode cX7_goInto 11 = .ok (.aload_n 0, 1) := eX7_goInto_0.2.2.2.2.2.2.2
theorem eX7_goInto_12 : (decode cX7_goInto 12 = .ok (.getfield 15, 3)) ∧ (decode cX7_goInto 15 = .ok (.iconst 0, 1)) ∧ (decode cX7_goInto 16 = .ok (.aload_n 1, 1)) ∧ (decode cX7_goInto 17 = .ok (.iload_n 2, 1)) ∧ (decode cX7_goInto 18 = .ok (.iconst 4, 1)) ∧ (decode cX7_goInto 19 = .ok (.iadd, 1)) ∧ (decode cX7_goInto 20 = .ok (.bipush 16, 2)) ∧ (decode cX7_goInto 22 = .ok (.invokestatic 45, 3)) := by decide +kernel
theorem dX7_goInto_12 : decode cX7_goInto 12 = .ok (.getfield 15, 3) := eX7_goInto_12.1
theorem dX7_goInto_15 : decode cX7_goInto 15 = .ok (.iconst 0, 1) := eX7_goInto_12.2.1
theorem dX7_goInto_16 : decode cX7_goInto 16 = .ok (.aload_n 1, 1) := eX7_goInto_12.2.2.1
theorem dX7_goInto_17 : decode cX7_goInto 17 = .ok (.iload_n 2, 1) := eX7_goInto_12.2.2.2.1
theorem dX7_goInto_18 : decode cX7_goInto 18 = .ok (.iconst 4, 1) := eX7_goInto_12.2.2.2.2.1
theorem dX7_goInto_19 : decode cX7_goInto 19 = .ok (.iadd, 1) := eX7_goInto_12.2.2.2.2.2.1
theorem dX7_goInto_20 : decode cX7_goInto 20 = .ok (.bipush 16, 2) := eX7_goInto_12.2.2.2.2.2.2.1
theorem dX7_goInto_22 : decode cX7_goInto 22 = .ok (.invokestatic 45, 3) := eX7_goInto_12.2.2.2.2.2.2.2
theorem eX7_goInto_25 : (decode cX7_goInto 25 = .ok (.aload_n 0, 1)) ∧ (decode cX7_goInto 26 = .ok (.getfield 18, 3)) ∧ (decode cX7_goInto 29 = .ok (.iconst 0, 1)) ∧ (decode cX7_goInto 30 = .ok (.aload_n 1, 1)) ∧ (decode cX7_goInto 31 = .ok (.iload_n 2, 1)) ∧ (decode cX7_goInto 32 = .ok (.iconst 4, 1)) ∧ (decode cX7_goInto 33 = .ok (.iadd, 1)) ∧ (decode cX7_goInto 34 = .ok (.bipush 16, 2)) := by decide +kernel
theorem dX7_goInto_25 : decode cX7_goInto 25 = .ok (.aload_n 0, 1) := eX7_goInto_25.1
theorem dX7_goInto_26 : decode cX7_goInto 26 = .ok (.getfield 18, 3) := eX7_goInto_25.2.1
theorem dX7_goInto_29 : decode cX7_goInto 29 = .ok (.iconst 0, 1) := eX7_goInto_25.2.2.1
theorem dX7_goInto_30 : decode cX7_goInto 30 = .ok (.aload_n 1, 1) := eX7_goInto_25.2.2.2.1
theorem dX7_goInto_31 : decode cX7_goInto 31 = .ok (.iload_n 2, 1) := eX7_goInto_25.2.2.2.2.1
theorem dX7_goInto_32 : decode cX7_goInto 32 = .ok (.iconst 4, 1) := eX7_goInto_25.2.2.2.2.2.1
theorem dX7_goInto_33 : decode cX7_goInto 33 = .ok (.iadd, 1) := eX7_goInto_25.2.2.2.2.2.2.1
theorem dX7_goInto_34 : decode cX7_goInto 34 = .ok (.bipush 16, 2) := eX7_goInto_25.2.2.2.2.2.2.2
theorem eX7_goInto_36 : (decode cX7_goInto 36 = .ok (.iadd, 1)) ∧ (decode cX7_goInto 37 = .ok (.iconst 4, 1)) ∧ (decode cX7_goInto 38 = .ok (.invokestatic 45, 3)) ∧ (decode cX7_goInto 41 = .ok (.aload_n 1, 1)) ∧ (decode cX7_goInto 42 = .ok (.iload_n 2, 1)) ∧ (decode cX7_goInto 43 = .ok (.bipush 25, 2)) ∧ (decode cX7_goInto 45 = .ok (.iadd, 1)) ∧ (decode cX7_goInto 46 = .ok (.iconst 1, 1)) := by decide +kernel
theorem dX7_goInto_36 : decode cX7_goInto 36 = .ok (.iadd, 1) := eX7_goInto_36.1
theorem dX7_goInto_37 : decode cX7_goInto 37 = .ok (.iconst 4, 1) := eX7_goInto_36.2.1
theorem dX7_goInto_38 : decode cX7_goInto 38 = .ok (.invokestatic 45, 3) := eX7_goInto_36.2.2.1
theorem dX7_goInto_41 : decode cX7_goInto 41 = .ok (.aload_n 1, 1) := eX7_goInto_36.2.2.2.1
theorem dX7_goInto_42 : decode cX7_goInto 42 = .ok (.iload_n 2, 1) := eX7_goInto_36.2.2.2.2.1
theorem dX7_goInto_43 : decode cX7_goInto 43 = .ok (.bipush 25, 2) := eX7_goInto_36.2.2.2.2.2.1
theorem dX7_goInto_45 : decode cX7_goInto 45 = .ok (.iadd, 1) := eX7_goInto_36.2.2.2.2.2.2.1
theorem dX7_goInto_46 : decode cX7_goInto 46 = .ok (.iconst 1, 1) := eX7_goInto_36.2.2.2.2.2.2.2
theorem eX7_goInto_47 : (decode cX7_goInto 47 = .ok (.isub, 1)) ∧ (decode cX7_goInto 48 = .ok (.aload_n 0, 1)) ∧ (decode cX7_goInto 49 = .ok (.getfield 25, 3)) ∧ (decode cX7_goInto 52 = .ok (.iastore, 1)) ∧ (decode cX7_goInto 53 = .ok (.return_, 1)) := by decide +kernel
theorem dX7_goInto_47 : decode cX7_goInto 47 = .ok (.isub, 1) := eX7_goInto_47.1
theorem dX7_goInto_48 : decode cX7_goInto 48 = .ok (.aload_n 0, 1) := eX7_goInto_47.2.1
theorem dX7_goInto_49 : decode cX7_goInto 49 = .ok (.getfield 25, 3) := eX7_goInto_47.2.2.1
theorem dX7_goInto_52 : decode cX7_goInto 52 = .ok (.iastore, 1) := eX7_goInto_47.2.2.2.1
theorem dX7_goInto_53 : decode cX7_goInto 53 = .ok (.return_, 1) := eX7_goInto_47.2.2.2.2
theorem eX7_comeFrom_0 : (decode cX7_comeFrom 0 = .ok (.aload_n 1, 1)) ∧ (decode cX7_comeFrom 1 = .ok (.iload_n 2, 1)) ∧ (decode cX7_comeFrom 2 = .ok (.aload_n 0, 1)) ∧ (decode cX7_comeFrom 3 = .ok (.getfield 9, 3)) ∧ (decode cX7_comeFrom 6 = .ok (.iconst 0, 1)) ∧ (decode cX7_comeFrom 7 = .ok (.iconst 4, 1)) ∧ (decode cX7_comeFrom 8 = .ok (.invokestatic 45, 3)) ∧ (decode cX7_comeFrom 11 = .ok (.aload_n 1, 1)) := by decide +kernel
theorem dX7_comeFrom_0 : decode cX7_comeFrom 0 = .ok (.aload_n 1, 1) := eX7_comeFrom_0.1
theorem dX7_comeFrom_1 : decode cX7_comeFrom 1 = .ok (.iload_n 2, 1) := eX7_comeFrom_0.2.1
theorem dX7_comeFrom_2 : decode cX7_comeFrom 2 = .ok (.aload_n 0, 1) := eX7_comeFrom_0.2.2.1
theorem dX7_comeFrom_3 : decode cX7_comeFrom 3 = .ok (.getfield 9, 3) := eX7_comeFrom_0.2.2.2.1
theorem dX7_comeFrom_6 : decode cX7_comeFrom 6 = .ok (.iconst 0, 1) := eX7_comeFrom_0.2.2.2.2.1
theorem dX7_comeFrom_7 : decode cX7_comeFrom 7 = .ok (.iconst 4, 1) := eX7_comeFrom_0.2.2.2.2.2.1
theorem dX7_comeFrom_8 : decode cX7_comeFrom 8 = .ok (.invokestatic 45, 3) := eX7_comeFrom_0.2.2.2.2.2.2.1
theorem dX7_comeFrom_11 : decode cX7_comeFrom 11 = .ok (.aload_n 1, 1) := eX7_comeFrom_0.2.2.2.2.2.2.2
theorem eX7_comeFrom_12 : (decode cX7_comeFrom 12 = .ok (.iload_n 2, 1)) ∧ (decode cX7_comeFrom 13 = .ok (.iconst 4, 1)) ∧ (decode cX7_comeFrom 14 = .ok (.iadd, 1)) ∧ (decode cX7_comeFrom 15 = .ok (.aload_n 0, 1)) ∧ (decode cX7_comeFrom 16 = .ok (.getfield 15, 3)) ∧ (decode cX7_comeFrom 19 = .ok (.iconst 0, 1)) ∧ (decode cX7_comeFrom 20 = .ok (.bipush 16, 2)) ∧ (decode cX7_comeFrom 22 = .ok (.invokestatic 45, 3)) := by decide +kernel
theorem dX7_comeFrom_12 : decode cX7_comeFrom 12 = .ok (.iload_n 2, 1) := eX7_comeFrom_12.1
theorem dX7_comeFrom_13 : decode cX7_comeFrom 13 = .ok (.iconst 4, 1) := eX7_comeFrom_12.2.1
theorem dX7_comeFrom_14 : decode cX7_comeFrom 14 = .ok (.iadd, 1) := eX7_comeFrom_12.2.2.1
theorem dX7_comeFrom_15 : decode cX7_comeFrom 15 = .ok (.aload_n 0, 1) := eX7_comeFrom_12.2.2.2.1
theorem dX7_comeFrom_16 : decode cX7_comeFrom 16 = .ok (.getfield 15, 3) := eX7_comeFrom_12.2.2.2.2.1
theorem dX7_comeFrom_19 : decode cX7_comeFrom 19 = .ok (.iconst 0, 1) := eX7_comeFrom_12.2.2.2.2.2.1
theorem dX7_comeFrom_20 : decode cX7_comeFrom 20 = .ok (.bipush 16, 2) := eX7_comeFrom_12.2.2.2.2.2.2.1
theorem dX7_comeFrom_22 : decode cX7_comeFrom 22 = .ok (.invokestatic 45, 3) := eX7_comeFrom_12.2.2.2.2.2.2.2
theorem eX7_comeFrom_25 : (decode cX7_comeFrom 25 = .ok (.aload_n 1, 1)) ∧ (decode cX7_comeFrom 26 = .ok (.iload_n 2, 1)) ∧ (decode cX7_comeFrom 27 = .ok (.iconst 4, 1)) ∧ (decode cX7_comeFrom 28 = .ok (.iadd, 1)) ∧ (decode cX7_comeFrom 29 = .ok (.bipush 16, 2)) ∧ (decode cX7_comeFrom 31 = .ok (.iadd, 1)) ∧ (decode cX7_comeFrom 32 = .ok (.aload_n 0, 1)) ∧ (decode cX7_comeFrom 33 = .ok (.getfield 18, 3)) := by decide +kernel
theorem dX7_comeFrom_25 : decode cX7_comeFrom 25 = .ok (.aload_n 1, 1) := eX7_comeFrom_25.1
theorem dX7_comeFrom_26 : decode cX7_comeFrom 26 = .ok (.iload_n 2, 1) := eX7_comeFrom_25.2.1
theorem dX7_comeFrom_27 : decode cX7_comeFrom 27 = .ok (.iconst 4, 1) := eX7_comeFrom_25.2.2.1
theorem dX7_comeFrom_28 : decode cX7_comeFrom 28 = .ok (.iadd, 1) := eX7_comeFrom_25.2.2.2.1
theorem dX7_comeFrom_29 : decode cX7_comeFrom 29 = .ok (.bipush 16, 2) := eX7_comeFrom_25.2.2.2.2.1
theorem dX7_comeFrom_31 : decode cX7_comeFrom 31 = .ok (.iadd, 1) := eX7_comeFrom_25.2.2.2.2.2.1
theorem dX7_comeFrom_32 : decode cX7_comeFrom 32 = .ok (.aload_n 0, 1) := eX7_comeFrom_25.2.2.2.2.2.2.1
theorem dX7_comeFrom_33 : decode cX7_comeFrom 33 = .ok (.getfield 18, 3) := eX7_comeFrom_25.2.2.2.2.2.2.2
theorem eX7_comeFrom_36 : (decode cX7_comeFrom 36 = .ok (.iconst 0, 1)) ∧ (decode cX7_comeFrom 37 = .ok (.iconst 4, 1)) ∧ (decode cX7_comeFrom 38 = .ok (.invokestatic 45, 3)) ∧ (decode cX7_comeFrom 41 = .ok (.aload_n 0, 1)) ∧ (decode cX7_comeFrom 42 = .ok (.aload_n 1, 1)) ∧ (decode cX7_comeFrom 43 = .ok (.iload_n 2, 1)) ∧ (decode cX7_comeFrom 44 = .ok (.bipush 25, 2)) ∧ (decode cX7_comeFrom 46 = .ok (.iadd, 1)) := by decide +kernel
theorem dX7_comeFrom_36 : decode cX7_comeFrom 36 = .ok (.iconst 0, 1) := eX7_comeFrom_36.1
theorem dX7_comeFrom_37 : decode cX7_comeFrom 37 = .ok (.iconst 4, 1) := eX7_comeFrom_36.2.1
theorem dX7_comeFrom_38 : decode cX7_comeFrom 38 = .ok (.invokestatic 45, 3) := eX7_comeFrom_36.2.2.1
theorem dX7_comeFrom_41 : decode cX7_comeFrom 41 = .ok (.aload_n 0, 1) := eX7_comeFrom_36.2.2.2.1
theorem dX7_comeFrom_42 : decode cX7_comeFrom 42 = .ok (.aload_n 1, 1) := eX7_comeFrom_36.2.2.2.2.1
theorem dX7_comeFrom_43 : decode cX7_comeFrom 43 = .ok (.iload_n 2, 1) := eX7_comeFrom_36.2.2.2.2.2.1
theorem dX7_comeFrom_44 : decode cX7_comeFrom 44 = .ok (.bipush 25, 2) := eX7_comeFrom_36.2.2.2.2.2.2.1
theorem dX7_comeFrom_46 : decode cX7_comeFrom 46 = .ok (.iadd, 1) := eX7_comeFrom_36.2.2.2.2.2.2.2
theorem eX7_comeFrom_47 : (decode cX7_comeFrom 47 = .ok (.iconst 1, 1)) ∧ (decode cX7_comeFrom 48 = .ok (.isub, 1)) ∧ (decode cX7_comeFrom 49 = .ok (.iaload, 1)) ∧ (decode cX7_comeFrom 50 = .ok (.putfield 25, 3)) ∧ (decode cX7_comeFrom 53 = .ok (.return_, 1)) := by decide +kernel
theorem dX7_comeFrom_47 : decode cX7_comeFrom 47 = .ok (.iconst 1, 1) := eX7_comeFrom_47.1
theorem dX7_comeFrom_48 : decode cX7_comeFrom 48 = .ok (.isub, 1) := eX7_comeFrom_47.2.1
theorem dX7_comeFrom_49 : decode cX7_comeFrom 49 = .ok (.iaload, 1) := eX7_comeFrom_47.2.2.1
theorem dX7_comeFrom_50 : decode cX7_comeFrom 50 = .ok (.putfield 25, 3) := eX7_comeFrom_47.2.2.2.1
theorem dX7_comeFrom_53 : decode cX7_comeFrom 53 = .ok (.return_, 1) := eX7_comeFrom_47.2.2.2.2
theorem eX8_init_0 : (decode cX8_init 0 = .ok (.aload_n 0, 1)) ∧ (decode cX8_init 1 = .ok (.invokespecial 3, 3)) ∧ (decode cX8_init 4 = .ok (.aload_n 0, 1)) ∧ (decode cX8_init 5 = .ok (.bipush 6, 2)) ∧ (decode cX8_init 7 = .ok (.anewarray 9, 3)) ∧ (decode cX8_init 10 = .ok (.putfield 11, 3)) ∧ (decode cX8_init 13 = .ok (.aload_n 0, 1)) ∧ (decode cX8_init 14 = .ok (.bipush 8, 2)) := by decide +kernel
theorem dX8_init_0 : decode cX8_init 0 = .ok (.aload_n 0, 1) := eX8_init_0.1
theorem dX8_init_1 : decode cX8_init 1 = .ok (.invokespecial 3, 3) := eX8_init_0.2.1
theorem dX8_init_4 : decode cX8_init 4 = .ok (.aload_n 0, 1) := eX8_init_0.2.2.1
theorem dX8_init_5 : decode cX8_init 5 = .ok (.bipush 6, 2) := eX8_init_0.2.2.2.1
theorem dX8_init_7 : decode cX8_init 7 = .ok (.anewarray 9, 3) := eX8_init_0.2.2.2.2.1
theorem dX8_init_10 : decode cX8_init 10 = .ok (.putfield 11, 3) := eX8_init_0.2.2.2.2.2.1
theorem dX8_init_13 : decode cX8_init 13 = .ok (.aload_n 0, 1) := eX8_init_0.2.2.2.2.2.2.1
theorem dX8_init_14 : decode cX8_init 14 = .ok (.bipush 8, 2) := eX8_init_0.2.2.2.2.2.2.2
theorem eX8_init_16 : (decode cX8_init 16 = .ok (.anewarray 15, 3)) ∧ (decode cX8_init 19 = .ok (.putfield 17, 3)) ∧ (decode cX8_init 22 = .ok (.aload_n 0, 1)) ∧ (decode cX8_init 23 = .ok (.new 21, 3)) ∧ (decode cX8_init 26 = .ok (.dup, 1)) ∧ (decode cX8_init 27 = .ok (.invokespecial 23, 3)) ∧ (decode cX8_init 30 = .ok (.putfield 24, 3)) ∧ (decode cX8_init 33 = .ok (.aload_n 0, 1)) := by decide +kernel
theorem dX8_init_16 : decode cX8_init 16 = .ok (.anewarray 15, 3) := eX8_init_16.1
theorem dX8_init_19 : decode cX8_init 19 = .ok (.putfield 17, 3) := eX8_init_16.2.1
theorem dX8_init_22 : decode cX8_init 22 = .ok (.aload_n 0, 1) := eX8_init_16.2.2.1
theorem dX8_init_23 : decode cX8_init 23 = .ok (.new 21, 3) := eX8_init_16.2.2.2.1
theorem dX8_init_26 : decode cX8_init 26 = .ok (.dup, 1) := eX8_init_16.2.2.2.2.1
theorem dX8_init_27 : decode cX8_init 27 = .ok (.invokespecial 23, 3) := eX8_init_16.2.2.2.2.2.1
theorem dX8_init_30 : decode cX8_init 30 = .ok (.putfield 24, 3) := eX8_init_16.2.2.2.2.2.2.1
theorem dX8_init_33 : decode cX8_init 33 = .ok (.aload_n 0, 1) := eX8_init_16.2.2.2.2.2.2.2
theorem eX8_init_34 : (decode cX8_init 34 = .ok (.new 28, 3)) ∧ (decode cX8_init 37 = .ok (.dup, 1)) ∧ (decode cX8_init 38 = .ok (.invokespecial 30, 3)) ∧ (decode cX8_init 41 = .ok (.putfield 31, 3)) ∧ (decode cX8_init 44 = .ok (.aload_n 0, 1)) ∧ (decode cX8_init 45 = .ok (.new 35, 3)) ∧ (decode cX8_init 48 = .ok (.dup, 1)) ∧ (decode cX8_init 49 = .ok (.invokespecial 37, 3)) := by decide +kernel
theorem dX8_init_34 : decode cX8_init 34 = .ok (.new 28, 3) := eX8_init_34.1
theorem dX8_init_37 : decode cX8_init 37 = .ok (.dup, 1) := eX8_init_34.2.1
theorem dX8_init_38 : decode cX8_init 38 = .ok (.invokespecial 30, 3) := eX8_init_34.2.2.1
theorem dX8_init_41 : decode cX8_init 41 = .ok (.putfield 31, 3) := eX8_init_34.2.2.2.1
theorem dX8_init_44 : decode cX8_init 44 = .ok (.aload_n 0, 1) := eX8_init_34.2.2.2.2.1
theorem dX8_init_45 : decode cX8_init 45 = .ok (.new 35, 3) := eX8_init_34.2.2.2.2.2.1
theorem dX8_init_48 : decode cX8_init 48 = .ok (.dup, 1) := eX8_init_34.2.2.2.2.2.2.1
theorem dX8_init_49 : decode cX8_init 49 = .ok (.invokespecial 37, 3) := eX8_init_34.2.2.2.2.2.2.2
theorem eX8_init_52 : (decode cX8_init 52 = .ok (.putfield 38, 3)) ∧ (decode cX8_init 55 = .ok (.aload_n 0, 1)) ∧ (decode cX8_init 56 = .ok (.new 42, 3)) ∧ (decode cX8_init 59 = .ok (.dup, 1)) ∧ (decode cX8_init 60 = .ok (.invokespecial 44, 3)) ∧ (decode cX8_init 63 = .ok (.putfield 45, 3)) ∧ (decode cX8_init 66 = .ok (.aload_n 0, 1)) ∧ (decode cX8_init 67 = .ok (.new 49, 3)) := by decide +kernel
theorem dX8_init_52 : decode cX8_init 52 = .ok (.putfield 38, 3) := eX8_init_52.1
theorem dX8_init_55 : decode cX8_init 55 = .ok (.aload_n 0, 1) := eX8_init_52.2.1
theorem dX8_init_56 : decode cX8_init 56 = .ok (.new 42, 3) := eX8_init_52.2.2.1
theorem dX8_init_59 : decode cX8_init 59 = .ok (.dup, 1) := eX8_init_52.2.2.2.1
theorem dX8_init_60 : decode cX8_init 60 = .ok (.invokespecial 44, 3) := eX8_init_52.2.2.2.2.1
theorem dX8_init_63 : decode cX8_init 63 = .ok (.putfield 45, 3) := eX8_init_52.2.2.2.2.2.1
theorem dX8_init_66 : decode cX8_init 66 = .ok (.aload_n 0, 1) := eX8_init_52.2.2.2.2.2.2.1
theorem dX8_init_67 : decode cX8_init 67 = .ok (.new 49, 3) := eX8_init_52.2.2.2.2.2.2.2
theorem eX8_init_70 : (decode cX8_init 70 = .ok (.dup, 1)) ∧ (decode cX8_init 71 = .ok (.invokespecial 51, 3)) ∧ (decode cX8_init 74 = .ok (.putfield 52, 3)) ∧ (decode cX8_init 77 = .ok (.aload_n 0, 1)) ∧ (decode cX8_init 78 = .ok (.new 56, 3)) ∧ (decode cX8_init 81 = .ok (.dup, 1)) ∧ (decode cX8_init 82 = .ok (.invokespecial 58, 3)) ∧ (decode cX8_init 85 = .ok (.putfield 59, 3)) := by decide +kernel
theorem dX8_init_70 : decode cX8_init 70 = .ok (.dup, 1) := eX8_init_70.1
theorem dX8_init_71 : decode cX8_init 71 = .ok (.invokespecial 51, 3) := eX8_init_70.2.1
theorem dX8_init_74 : decode cX8_init 74 = .ok (.putfield 52, 3) := eX8_init_70.2.2.1
theorem dX8_init_77 : decode cX8_init 77 = .ok (.aload_n 0, 1) := eX8_init_70.2.2.2.1
theorem dX8_init_78 : decode cX8_init 78 = .ok (.new 56, 3) := eX8_init_70.2.2.2.2.1
theorem dX8_init_81 : decode cX8_init 81 = .ok (.dup, 1) := eX8_init_70.2.2.2.2.2.1
theorem dX8_init_82 : decode cX8_init 82 = .ok (.invokespecial 58, 3) := eX8_init_70.2.2.2.2.2.2.1
theorem dX8_init_85 : decode cX8_init 85 = .ok (.putfield 59, 3) := eX8_init_70.2.2.2.2.2.2.2
theorem eX8_init_88 : (decode cX8_init 88 = .ok (.aload_n 0, 1)) ∧ (decode cX8_init 89 = .ok (.iconst 0, 1)) ∧ (decode cX8_init 90 = .ok (.putfield 63, 3)) ∧ (decode cX8_init 93 = .ok (.aload_n 0, 1)) ∧ (decode cX8_init 94 = .ok (.iconst 1, 1)) ∧ (decode cX8_init 95 = .ok (.putfield 67, 3)) ∧ (decode cX8_init 98 = .ok (.iconst 0, 1)) ∧ (decode cX8_init 99 = .ok (.istore_n 1, 1)) := by decide +kernel
theorem dX8_init_88 : decode cX8_init 88 = .ok (.aload_n 0, 1) := eX8_init_88.1
theorem dX8_init_89 : decode cX8_init 89 = .ok (.iconst 0, 1) := eX8_init_88.2.1
theorem dX8_init_90 : decode cX8_init 90 = .ok (.putfield 63, 3) := eX8_init_88.2.2.1
theorem dX8_init_93 : decode cX8_init 93 = .ok (.aload_n 0, 1) := eX8_init_88.2.2.2.1
theorem dX8_init_94 : decode cX8_init 94 = .ok (.iconst 1, 1) := eX8_init_88.2.2.2.2.1
theorem dX8_init_95 : decode cX8_init 95 = .ok (.putfield 67, 3) := eX8_init_88.2.2.2.2.2.1
theorem dX8_init_98 : decode cX8_init 98 = .ok (.iconst 0, 1) := eX8_init_88.2.2.2.2.2.2.1
theorem dX8_init_99 : decode cX8_init 99 = .ok (.istore_n 1, 1) := eX8_init_88.2.2.2.2.2.2.2
theorem eX8_init_100 : (decode cX8_init 100 = .ok (.iload_n 1, 1)) ∧ (decode cX8_init 101 = .ok (.bipush 6, 2)) ∧ (decode cX8_init 103 = .ok (.if_icmp .ge 22, 3)) ∧ (decode cX8_init 106 = .ok (.aload_n 0, 1)) ∧ (decode cX8_init 107 = .ok (.getfield 11, 3)) ∧ (decode cX8_init 110 = .ok (.iload_n 1, 1)) ∧ (decode cX8_init 111 = .ok (.new 9, 3)) ∧ (decode cX8_init 114 = .ok (.dup, 1)) := by decide +kernel
theorem dX8_init_100 : decode cX8_init 100 = .ok (.iload_n 1, 1) := eX8_init_100.1
theorem dX8_init_101 : decode cX8_init 101 = .ok (.bipush 6, 2) := eX8_init_100.2.1
theorem dX8_init_103 : decode cX8_init 103 = .ok (.if_icmp .ge 22, 3) := eX8_init_100.2.2.1
theorem dX8_init_106 : decode cX8_init 106 = .ok (.aload_n 0, 1) := eX8_init_100.2.2.2.1
theorem dX8_init_107 : decode cX8_init 107 = .ok (.getfield 11, 3) := eX8_init_100.2.2.2.2.1
theorem dX8_init_110 : decode cX8_init 110 = .ok (.iload_n 1, 1) := eX8_init_100.2.2.2.2.2.1
theorem dX8_init_111 : decode cX8_init 111 = .ok (.new 9, 3) := eX8_init_100.2.2.2.2.2.2.1
theorem dX8_init_114 : decode cX8_init 114 = .ok (.dup, 1) := eX8_init_100.2.2.2.2.2.2.2
theorem eX8_init_115 : (decode cX8_init 115 = .ok (.invokespecial 70, 3)) ∧ (decode cX8_init 118 = .ok (.aastore, 1)) ∧ (decode cX8_init 119 = .ok (.iinc 1 1, 3)) ∧ (decode cX8_init 122 = .ok (.goto (-22), 3)) ∧ (decode cX8_init 125 = .ok (.iconst 0, 1)) ∧ (decode cX8_init 126 = .ok (.istore_n 1, 1)) ∧ (decode cX8_init 127 = .ok (.iload_n 1, 1)) ∧ (decode cX8_init 128 = .ok (.bipush 8, 2)) := by decide +kernel
theorem dX8_init_115 : decode cX8_init 115 = .ok (.invokespecial 70, 3) := eX8_init_115.1
theorem dX8_init_118 : decode cX8_init 118 = .ok (.aastore, 1) := eX8_init_115.2.1
theorem dX8_init_119 : decode cX8_init 119 = .ok (.iinc 1 1, 3) := eX8_init_115.2.2.1
theorem dX8_init_122 : decode cX8_init 122 = .ok (.goto (-22), 3) := eX8_init_115.2.2.2.1
theorem dX8_init_125 : decode cX8_init 125 = .ok (.iconst 0, 1) := eX8_init_115.2.2.2.2.1
theorem dX8_init_126 : decode cX8_init 126 = .ok (.istore_n 1, 1) := eX8_init_115.2.2.2.2.2.1
theorem dX8_init_127 : decode cX8_init 127 = .ok (.iload_n 1, 1) := eX8_init_115.2.2.2.2.2.2.1
theorem dX8_init_128 : decode cX8_init 128 = .ok (.bipush 8, 2) := eX8_init_115.2.2.2.2.2.2.2
theorem eX8_init_130 : (decode cX8_init 130 = .ok (.if_icmp .ge 22, 3)) ∧ (decode cX8_init 133 = .ok (.aload_n 0, 1)) ∧ (decode cX8_init 134 = .ok (.getfield 17, 3)) ∧ (decode cX8_init 137 = .ok (.iload_n 1, 1)) ∧ (decode cX8_init 138 = .ok (.new 15, 3)) ∧ (decode cX8_init 141 = .ok (.dup, 1)) ∧ (decode cX8_init 142 = .ok (.invokespecial 71, 3)) ∧ (decode cX8_init 145 = .ok (.aastore, 1)) := by decide +kernel
theorem dX8_init_130 : decode cX8_init 130 = .ok (.if_icmp .ge 22, 3) := eX8_init_130.1
theorem dX8_init_133 : decode cX8_init 133 = .ok (.aload_n 0, 1) := eX8_init_130.2.1
theorem dX8_init_134 : decode cX8_init 134 = .ok (.getfield 17, 3) := eX8_init_130.2.2.1
theorem dX8_init_137 : decode cX8_init 137 = .ok (.iload_n 1, 1) := eX8_init_130.2.2.2.1
theorem dX8_init_138 : decode cX8_init 138 = .ok (.new 15, 3) := eX8_init_130.2.2.2.2.1
theorem dX8_init_141 : decode cX8_init 141 = .ok (.dup, 1) := eX8_init_130.2.2.2.2.2.1
theorem dX8_init_142 : decode cX8_init 142 = .ok (.invokespecial 71, 3) := eX8_init_130.2.2.2.2.2.2.1
theorem dX8_init_145 : decode cX8_init 145 = .ok (.aastore, 1) := eX8_init_130.2.2.2.2.2.2.2
theorem eX8_init_146 : (decode cX8_init 146 = .ok (.iinc 1 1, 3)) ∧ (decode cX8_init 149 = .ok (.goto (-22), 3)) ∧ (decode cX8_init 152 = .ok (.return_, 1)) := by decide +kernel
theorem dX8_init_146 : decode cX8_init 146 = .ok (.iinc 1 1, 3) := eX8_init_146.1
theorem dX8_init_149 : decode cX8_init 149 = .ok (.goto (-22), 3) := eX8_init_146.2.1
theorem dX8_init_152 : decode cX8_init 152 = .ok (.return_, 1) := eX8_init_146.2.2
theorem eX8_sheet_0 : (decode cX8_sheet 0 = .ok (.aload_n 0, 1)) ∧ (decode cX8_sheet 1 = .ok (.iload_n 1, 1)) ∧ (decode cX8_sheet 2 = .ok (.invokevirtual 72, 3)) ∧ (decode cX8_sheet 5 = .ok (.astore 4, 2)) ∧ (decode cX8_sheet 7 = .ok (.aload 4, 2)) ∧ (decode cX8_sheet 9 = .ok (.ifnull 13, 3)) ∧ (decode cX8_sheet 12 = .ok (.iload_n 2, 1)) ∧ (decode cX8_sheet 13 = .ok (.iconst (-1), 1)) := by decide +kernel
theorem dX8_sheet_0 : decode cX8_sheet 0 = .ok (.aload_n 0, 1) := eX8_sheet_0.1
theorem dX8_sheet_1 : decode cX8_sheet 1 = .ok (.iload_n 1, 1) := eX8_sheet_0.2.1
theorem dX8_sheet_2 : decode cX8_sheet 2 = .ok (.invokevirtual 72, 3) := eX8_sheet_0.2.2.1
theorem dX8_sheet_5 : decode cX8_sheet 5 = .ok (.astore 4, 2) := eX8_sheet_0.2.2.2.1
theorem dX8_sheet_7 : decode cX8_sheet 7 = .ok (.aload 4, 2) := eX8_sheet_0.2.2.2.2.1
theorem dX8_sheet_9 : decode cX8_sheet 9 = .ok (.ifnull 13, 3) := eX8_sheet_0.2.2.2.2.2.1
theorem dX8_sheet_12 : decode cX8_sheet 12 = .ok (.iload_n 2, 1) := eX8_sheet_0.2.2.2.2.2.2.1
theorem dX8_sheet_13 : decode cX8_sheet 13 = .ok (.iconst (-1), 1) := eX8_sheet_0.2.2.2.2.2.2.2
theorem eX8_sheet_14 : (decode cX8_sheet 14 = .ok (.if_icmp .lt 8, 3)) ∧ (decode cX8_sheet 17 = .ok (.iload_n 2, 1)) ∧ (decode cX8_sheet 18 = .ok (.iconst 2, 1)) ∧ (decode cX8_sheet 19 = .ok (.if_icmp .le 5, 3)) ∧ (decode cX8_sheet 22 = .ok (.iconst (-1), 1)) ∧ (decode cX8_sheet 23 = .ok (.ireturn, 1)) ∧ (decode cX8_sheet 24 = .ok (.iload_n 2, 1)) ∧ (decode cX8_sheet 25 = .ok (.iconst (-1), 1)) := by decide +kernel
theorem dX8_sheet_14 : decode cX8_sheet 14 = .ok (.if_icmp .lt 8, 3) := eX8_sheet_14.1
theorem dX8_sheet_17 : decode cX8_sheet 17 = .ok (.iload_n 2, 1) := eX8_sheet_14.2.1
theorem dX8_sheet_18 : decode cX8_sheet 18 = .ok (.iconst 2, 1) := eX8_sheet_14.2.2.1
theorem dX8_sheet_19 : decode cX8_sheet 19 = .ok (.if_icmp .le 5, 3) := eX8_sheet_14.2.2.2.1
theorem dX8_sheet_22 : decode cX8_sheet 22 = .ok (.iconst (-1), 1) := eX8_sheet_14.2.2.2.2.1
theorem dX8_sheet_23 : decode cX8_sheet 23 = .ok (.ireturn, 1) := eX8_sheet_14.2.2.2.2.2.1
theorem dX8_sheet_24 : decode cX8_sheet 24 = .ok (.iload_n 2, 1) := eX8_sheet_14.2.2.2.2.2.2.1
theorem dX8_sheet_25 : decode cX8_sheet 25 = .ok (.iconst (-1), 1) := eX8_sheet_14.2.2.2.2.2.2.2
theorem eX8_sheet_26 : (decode cX8_sheet 26 = .ok (.if_icmp .ne 12, 3)) ∧ (decode cX8_sheet 29 = .ok (.aload 4, 2)) ∧ (decode cX8_sheet 31 = .ok (.iconst (-1), 1)) ∧ (decode cX8_sheet 32 = .ok (.iconst 0, 1)) ∧ (decode cX8_sheet 33 = .ok (.invokevirtual 76, 3)) ∧ (decode cX8_sheet 36 = .ok (.iconst 0, 1)) ∧ (decode cX8_sheet 37 = .ok (.ireturn, 1)) ∧ (decode cX8_sheet 38 = .ok (.iload_n 3, 1)) := by decide +kernel
theorem dX8_sheet_26 : decode cX8_sheet 26 = .ok (.if_icmp .ne 12, 3) := eX8_sheet_26.1
theorem dX8_sheet_29 : decode cX8_sheet 29 = .ok (.aload 4, 2) := eX8_sheet_26.2.1
theorem dX8_sheet_31 : decode cX8_sheet 31 = .ok (.iconst (-1), 1) := eX8_sheet_26.2.2.1
theorem dX8_sheet_32 : decode cX8_sheet 32 = .ok (.iconst 0, 1) := eX8_sheet_26.2.2.2.1
theorem dX8_sheet_33 : decode cX8_sheet 33 = .ok (.invokevirtual 76, 3) := eX8_sheet_26.2.2.2.2.1
theorem dX8_sheet_36 : decode cX8_sheet 36 = .ok (.iconst 0, 1) := eX8_sheet_26.2.2.2.2.2.1
theorem dX8_sheet_37 : decode cX8_sheet 37 = .ok (.ireturn, 1) := eX8_sheet_26.2.2.2.2.2.2.1
theorem dX8_sheet_38 : decode cX8_sheet 38 = .ok (.iload_n 3, 1) := eX8_sheet_26.2.2.2.2.2.2.2
theorem eX8_sheet_39 : (decode cX8_sheet 39 = .ok (.bipush 16, 2)) ∧ (decode cX8_sheet 41 = .ok (.if_icmp .le 5, 3)) ∧ (decode cX8_sheet 44 = .ok (.iconst (-1), 1)) ∧ (decode cX8_sheet 45 = .ok (.ireturn, 1)) ∧ (decode cX8_sheet 46 = .ok (.iload_n 3, 1)) ∧ (decode cX8_sheet 47 = .ok (.ifCond .ge 6, 3)) ∧ (decode cX8_sheet 50 = .ok (.bipush (-13), 2)) ∧ (decode cX8_sheet 52 = .ok (.ireturn, 1)) := by decide +kernel
theorem dX8_sheet_39 : decode cX8_sheet 39 = .ok (.bipush 16, 2) := eX8_sheet_39.1
theorem dX8_sheet_41 : decode cX8_sheet 41 = .ok (.if_icmp .le 5, 3) := eX8_sheet_39.2.1
theorem dX8_sheet_44 : decode cX8_sheet 44 = .ok (.iconst (-1), 1) := eX8_sheet_39.2.2.1
theorem dX8_sheet_45 : decode cX8_sheet 45 = .ok (.ireturn, 1) := eX8_sheet_39.2.2.2.1
theorem dX8_sheet_46 : decode cX8_sheet 46 = .ok (.iload_n 3, 1) := eX8_sheet_39.2.2.2.2.1
theorem dX8_sheet_47 : decode cX8_sheet 47 = .ok (.ifCond .ge 6, 3) := eX8_sheet_39.2.2.2.2.2.1
theorem dX8_sheet_50 : decode cX8_sheet 50 = .ok (.bipush (-13), 2) := eX8_sheet_39.2.2.2.2.2.2.1
theorem dX8_sheet_52 : decode cX8_sheet 52 = .ok (.ireturn, 1) := eX8_sheet_39.2.2.2.2.2.2.2
theorem eX8_sheet_53 : (decode cX8_sheet 53 = .ok (.aload 4, 2)) ∧ (decode cX8_sheet 55 = .ok (.iload_n 2, 1)) ∧ (decode cX8_sheet 56 = .ok (.iload_n 3, 1)) ∧ (decode cX8_sheet 57 = .ok (.invokevirtual 76, 3)) ∧ (decode cX8_sheet 60 = .ok (.iconst 0, 1)) ∧ (decode cX8_sheet 61 = .ok (.ireturn, 1)) := by decide +kernel
theorem dX8_sheet_53 : decode cX8_sheet 53 = .ok (.aload 4, 2) := eX8_sheet_53.1
theorem dX8_sheet_55 : decode cX8_sheet 55 = .ok (.iload_n 2, 1) := eX8_sheet_53.2.1
theorem dX8_sheet_56 : decode cX8_sheet 56 = .ok (.iload_n 3, 1) := eX8_sheet_53.2.2.1
theorem dX8_sheet_57 : decode cX8_sheet 57 = .ok (.invokevirtual 76, 3) := eX8_sheet_53.2.2.2.1
theorem dX8_sheet_60 : decode cX8_sheet 60 = .ok (.iconst 0, 1) := eX8_sheet_53.2.2.2.2.1
theorem dX8_sheet_61 : decode cX8_sheet 61 = .ok (.ireturn, 1) := eX8_sheet_53.2.2.2.2.2
theorem eX8_lay_0 : (decode cX8_lay 0 = .ok (.aload_n 0, 1)) ∧ (decode cX8_lay 1 = .ok (.iload_n 1, 1)) ∧ (decode cX8_lay 2 = .ok (.invokevirtual 72, 3)) ∧ (decode cX8_lay 5 = .ok (.astore 5, 2)) ∧ (decode cX8_lay 7 = .ok (.aload 5, 2)) ∧ (decode cX8_lay 9 = .ok (.ifnonnull 5, 3)) ∧ (decode cX8_lay 12 = .ok (.iconst (-1), 1)) ∧ (decode cX8_lay 13 = .ok (.ireturn, 1)) := by decide +kernel
theorem dX8_lay_0 : decode cX8_lay 0 = .ok (.aload_n 0, 1) := eX8_lay_0.1
theorem dX8_lay_1 : decode cX8_lay 1 = .ok (.iload_n 1, 1) := eX8_lay_0.2.1
theorem dX8_lay_2 : decode cX8_lay 2 = .ok (.invokevirtual 72, 3) := eX8_lay_0.2.2.1
theorem dX8_lay_5 : decode cX8_lay 5 = .ok (.astore 5, 2) := eX8_lay_0.2.2.2.1
theorem dX8_lay_7 : decode cX8_lay 7 = .ok (.aload 5, 2) := eX8_lay_0.2.2.2.2.1
theorem dX8_lay_9 : decode cX8_lay 9 = .ok (.ifnonnull 5, 3) := eX8_lay_0.2.2.2.2.2.1
theorem dX8_lay_12 : decode cX8_lay 12 = .ok (.iconst (-1), 1) := eX8_lay_0.2.2.2.2.2.2.1
theorem dX8_lay_13 : decode cX8_lay 13 = .ok (.ireturn, 1) := eX8_lay_0.2.2.2.2.2.2.2
theorem eX8_lay_14 : (decode cX8_lay 14 = .ok (.aload 5, 2)) ∧ (decode cX8_lay 16 = .ok (.getfield 80, 3)) ∧ (decode cX8_lay 19 = .ok (.iconst (-1), 1)) ∧ (decode cX8_lay 20 = .ok (.if_icmp .ne 6, 3)) ∧ (decode cX8_lay 23 = .ok (.bipush (-11), 2)) ∧ (decode cX8_lay 25 = .ok (.ireturn, 1)) ∧ (decode cX8_lay 26 = .ok (.aload 5, 2)) ∧ (decode cX8_lay 28 = .ok (.iload_n 2, 1)) := by decide +kernel
theorem dX8_lay_14 : decode cX8_lay 14 = .ok (.aload 5, 2) := eX8_lay_14.1
theorem dX8_lay_16 : decode cX8_lay 16 = .ok (.getfield 80, 3) := eX8_lay_14.2.1
theorem dX8_lay_19 : decode cX8_lay 19 = .ok (.iconst (-1), 1) := eX8_lay_14.2.2.1
theorem dX8_lay_20 : decode cX8_lay 20 = .ok (.if_icmp .ne 6, 3) := eX8_lay_14.2.2.2.1
theorem dX8_lay_23 : decode cX8_lay 23 = .ok (.bipush (-11), 2) := eX8_lay_14.2.2.2.2.1
theorem dX8_lay_25 : decode cX8_lay 25 = .ok (.ireturn, 1) := eX8_lay_14.2.2.2.2.2.1
theorem dX8_lay_26 : decode cX8_lay 26 = .ok (.aload 5, 2) := eX8_lay_14.2.2.2.2.2.2.1
theorem dX8_lay_28 : decode cX8_lay 28 = .ok (.iload_n 2, 1) := eX8_lay_14.2.2.2.2.2.2.2
theorem eX8_lay_29 : (decode cX8_lay 29 = .ok (.iconst 1, 1)) ∧ (decode cX8_lay 30 = .ok (.invokevirtual 83, 3)) ∧ (decode cX8_lay 33 = .ok (.ifCond .ne 6, 3)) ∧ (decode cX8_lay 36 = .ok (.bipush (-12), 2)) ∧ (decode cX8_lay 38 = .ok (.ireturn, 1)) ∧ (decode cX8_lay 39 = .ok (.aload 5, 2)) ∧ (decode cX8_lay 41 = .ok (.getfield 87, 3)) ∧ (decode cX8_lay 44 = .ok (.iload_n 2, 1)) := by decide +kernel
theorem dX8_lay_29 : decode cX8_lay 29 = .ok (.iconst 1, 1) := eX8_lay_29.1
theorem dX8_lay_30 : decode cX8_lay 30 = .ok (.invokevirtual 83, 3) := eX8_lay_29.2.1
theorem dX8_lay_33 : decode cX8_lay 33 = .ok (.ifCond .ne 6, 3) := eX8_lay_29.2.2.1
theorem dX8_lay_36 : decode cX8_lay 36 = .ok (.bipush (-12), 2) := eX8_lay_29.2.2.2.1
theorem dX8_lay_38 : decode cX8_lay 38 = .ok (.ireturn, 1) := eX8_lay_29.2.2.2.2.1
theorem dX8_lay_39 : decode cX8_lay 39 = .ok (.aload 5, 2) := eX8_lay_29.2.2.2.2.2.1
theorem dX8_lay_41 : decode cX8_lay 41 = .ok (.getfield 87, 3) := eX8_lay_29.2.2.2.2.2.2.1
theorem dX8_lay_44 : decode cX8_lay 44 = .ok (.iload_n 2, 1) := eX8_lay_29.2.2.2.2.2.2.2
theorem eX8_lay_45 : (decode cX8_lay 45 = .ok (.aload 5, 2)) ∧ (decode cX8_lay 47 = .ok (.lload_n 3, 1)) ∧ (decode cX8_lay 48 = .ok (.invokevirtual 91, 3)) ∧ (decode cX8_lay 51 = .ok (.lastore, 1)) ∧ (decode cX8_lay 52 = .ok (.iconst 0, 1)) ∧ (decode cX8_lay 53 = .ok (.ireturn, 1)) := by decide +kernel
theorem dX8_lay_45 : decode cX8_lay 45 = .ok (.aload 5, 2) := eX8_lay_45.1
theorem dX8_lay_47 : decode cX8_lay 47 = .ok (.lload_n 3, 1) := eX8_lay_45.2.1
theorem dX8_lay_48 : decode cX8_lay 48 = .ok (.invokevirtual 91, 3) := eX8_lay_45.2.2.1
theorem dX8_lay_51 : decode cX8_lay 51 = .ok (.lastore, 1) := eX8_lay_45.2.2.2.1
theorem dX8_lay_52 : decode cX8_lay 52 = .ok (.iconst 0, 1) := eX8_lay_45.2.2.2.2.1
theorem dX8_lay_53 : decode cX8_lay 53 = .ok (.ireturn, 1) := eX8_lay_45.2.2.2.2.2
theorem eX8_copy_0 : (decode cX8_copy 0 = .ok (.aload_n 0, 1)) ∧ (decode cX8_copy 1 = .ok (.iload_n 1, 1)) ∧ (decode cX8_copy 2 = .ok (.invokevirtual 72, 3)) ∧ (decode cX8_copy 5 = .ok (.astore 6, 2)) ∧ (decode cX8_copy 7 = .ok (.aload_n 0, 1)) ∧ (decode cX8_copy 8 = .ok (.iload_n 3, 1)) ∧ (decode cX8_copy 9 = .ok (.invokevirtual 72, 3)) ∧ (decode cX8_copy 12 = .ok (.astore 7, 2)) := by decide +kernel
theorem dX8_copy_0 : decode cX8_copy 0 = .ok (.aload_n 0, 1) := eX8_copy_0.1
theorem dX8_copy_1 : decode cX8_copy 1 = .ok (.iload_n 1, 1) := eX8_copy_0.2.1
theorem dX8_copy_2 : decode cX8_copy 2 = .ok (.invokevirtual 72, 3) := eX8_copy_0.2.2.1
theorem dX8_copy_5 : decode cX8_copy 5 = .ok (.astore 6, 2) := eX8_copy_0.2.2.2.1
theorem dX8_copy_7 : decode cX8_copy 7 = .ok (.aload_n 0, 1) := eX8_copy_0.2.2.2.2.1
theorem dX8_copy_8 : decode cX8_copy 8 = .ok (.iload_n 3, 1) := eX8_copy_0.2.2.2.2.2.1
theorem dX8_copy_9 : decode cX8_copy 9 = .ok (.invokevirtual 72, 3) := eX8_copy_0.2.2.2.2.2.2.1
theorem dX8_copy_12 : decode cX8_copy 12 = .ok (.astore 7, 2) := eX8_copy_0.2.2.2.2.2.2.2
theorem eX8_copy_14 : (decode cX8_copy 14 = .ok (.aload 6, 2)) ∧ (decode cX8_copy 16 = .ok (.ifnull 8, 3)) ∧ (decode cX8_copy 19 = .ok (.aload 7, 2)) ∧ (decode cX8_copy 21 = .ok (.ifnonnull 5, 3)) ∧ (decode cX8_copy 24 = .ok (.iconst (-1), 1)) ∧ (decode cX8_copy 25 = .ok (.ireturn, 1)) ∧ (decode cX8_copy 26 = .ok (.aload 6, 2)) ∧ (decode cX8_copy 28 = .ok (.getfield 80, 3)) := by decide +kernel
theorem dX8_copy_14 : decode cX8_copy 14 = .ok (.aload 6, 2) := eX8_copy_14.1
theorem dX8_copy_16 : decode cX8_copy 16 = .ok (.ifnull 8, 3) := eX8_copy_14.2.1
theorem dX8_copy_19 : decode cX8_copy 19 = .ok (.aload 7, 2) := eX8_copy_14.2.2.1
theorem dX8_copy_21 : decode cX8_copy 21 = .ok (.ifnonnull 5, 3) := eX8_copy_14.2.2.2.1
theorem dX8_copy_24 : decode cX8_copy 24 = .ok (.iconst (-1), 1) := eX8_copy_14.2.2.2.2.1
theorem dX8_copy_25 : decode cX8_copy 25 = .ok (.ireturn, 1) := eX8_copy_14.2.2.2.2.2.1
theorem dX8_copy_26 : decode cX8_copy 26 = .ok (.aload 6, 2) := eX8_copy_14.2.2.2.2.2.2.1
theorem dX8_copy_28 : decode cX8_copy 28 = .ok (.getfield 80, 3) := eX8_copy_14.2.2.2.2.2.2.2
theorem eX8_copy_31 : (decode cX8_copy 31 = .ok (.iconst (-1), 1)) ∧ (decode cX8_copy 32 = .ok (.if_icmp .eq 12, 3)) ∧ (decode cX8_copy 35 = .ok (.aload 7, 2)) ∧ (decode cX8_copy 37 = .ok (.getfield 80, 3)) ∧ (decode cX8_copy 40 = .ok (.iconst (-1), 1)) ∧ (decode cX8_copy 41 = .ok (.if_icmp .ne 6, 3)) ∧ (decode cX8_copy 44 = .ok (.bipush (-11), 2)) ∧ (decode cX8_copy 46 = .ok (.ireturn, 1)) := by decide +kernel
theorem dX8_copy_31 : decode cX8_copy 31 = .ok (.iconst (-1), 1) := eX8_copy_31.1
theorem dX8_copy_32 : decode cX8_copy 32 = .ok (.if_icmp .eq 12, 3) := eX8_copy_31.2.1
theorem dX8_copy_35 : decode cX8_copy 35 = .ok (.aload 7, 2) := eX8_copy_31.2.2.1
theorem dX8_copy_37 : decode cX8_copy 37 = .ok (.getfield 80, 3) := eX8_copy_31.2.2.2.1
theorem dX8_copy_40 : decode cX8_copy 40 = .ok (.iconst (-1), 1) := eX8_copy_31.2.2.2.2.1
theorem dX8_copy_41 : decode cX8_copy 41 = .ok (.if_icmp .ne 6, 3) := eX8_copy_31.2.2.2.2.2.1
theorem dX8_copy_44 : decode cX8_copy 44 = .ok (.bipush (-11), 2) := eX8_copy_31.2.2.2.2.2.2.1
theorem dX8_copy_46 : decode cX8_copy 46 = .ok (.ireturn, 1) := eX8_copy_31.2.2.2.2.2.2.2
theorem eX8_copy_47 : (decode cX8_copy 47 = .ok (.aload 6, 2)) ∧ (decode cX8_copy 49 = .ok (.getfield 80, 3)) ∧ (decode cX8_copy 52 = .ok (.aload 7, 2)) ∧ (decode cX8_copy 54 = .ok (.getfield 80, 3)) ∧ (decode cX8_copy 57 = .ok (.if_icmp .eq 6, 3)) ∧ (decode cX8_copy 60 = .ok (.bipush (-14), 2)) ∧ (decode cX8_copy 62 = .ok (.ireturn, 1)) ∧ (decode cX8_copy 63 = .ok (.aload 6, 2)) := by decide +kernel
theorem dX8_copy_47 : decode cX8_copy 47 = .ok (.aload 6, 2) := eX8_copy_47.1
theorem dX8_copy_49 : decode cX8_copy 49 = .ok (.getfield 80, 3) := eX8_copy_47.2.1
theorem dX8_copy_52 : decode cX8_copy 52 = .ok (.aload 7, 2) := eX8_copy_47.2.2.1
theorem dX8_copy_54 : decode cX8_copy 54 = .ok (.getfield 80, 3) := eX8_copy_47.2.2.2.1
theorem dX8_copy_57 : decode cX8_copy 57 = .ok (.if_icmp .eq 6, 3) := eX8_copy_47.2.2.2.2.1
theorem dX8_copy_60 : decode cX8_copy 60 = .ok (.bipush (-14), 2) := eX8_copy_47.2.2.2.2.2.1
theorem dX8_copy_62 : decode cX8_copy 62 = .ok (.ireturn, 1) := eX8_copy_47.2.2.2.2.2.2.1
theorem dX8_copy_63 : decode cX8_copy 63 = .ok (.aload 6, 2) := eX8_copy_47.2.2.2.2.2.2.2
theorem eX8_copy_65 : (decode cX8_copy 65 = .ok (.iload_n 2, 1)) ∧ (decode cX8_copy 66 = .ok (.iload 5, 2)) ∧ (decode cX8_copy 68 = .ok (.invokevirtual 83, 3)) ∧ (decode cX8_copy 71 = .ok (.ifCond .eq 15, 3)) ∧ (decode cX8_copy 74 = .ok (.aload 7, 2)) ∧ (decode cX8_copy 76 = .ok (.iload 4, 2)) ∧ (decode cX8_copy 78 = .ok (.iload 5, 2)) ∧ (decode cX8_copy 80 = .ok (.invokevirtual 83, 3)) := by decide +kernel
theorem dX8_copy_65 : decode cX8_copy 65 = .ok (.iload_n 2, 1) := eX8_copy_65.1
theorem dX8_copy_66 : decode cX8_copy 66 = .ok (.iload 5, 2) := eX8_copy_65.2.1
theorem dX8_copy_68 : decode cX8_copy 68 = .ok (.invokevirtual 83, 3) := eX8_copy_65.2.2.1
theorem dX8_copy_71 : decode cX8_copy 71 = .ok (.ifCond .eq 15, 3) := eX8_copy_65.2.2.2.1
theorem dX8_copy_74 : decode cX8_copy 74 = .ok (.aload 7, 2) := eX8_copy_65.2.2.2.2.1
theorem dX8_copy_76 : decode cX8_copy 76 = .ok (.iload 4, 2) := eX8_copy_65.2.2.2.2.2.1
theorem dX8_copy_78 : decode cX8_copy 78 = .ok (.iload 5, 2) := eX8_copy_65.2.2.2.2.2.2.1
theorem dX8_copy_80 : decode cX8_copy 80 = .ok (.invokevirtual 83, 3) := eX8_copy_65.2.2.2.2.2.2.2
theorem eX8_copy_83 : (decode cX8_copy 83 = .ok (.ifCond .ne 6, 3)) ∧ (decode cX8_copy 86 = .ok (.bipush (-12), 2)) ∧ (decode cX8_copy 88 = .ok (.ireturn, 1)) ∧ (decode cX8_copy 89 = .ok (.aload 6, 2)) ∧ (decode cX8_copy 91 = .ok (.getfield 87, 3)) ∧ (decode cX8_copy 94 = .ok (.iload_n 2, 1)) ∧ (decode cX8_copy 95 = .ok (.aload 7, 2)) ∧ (decode cX8_copy 97 = .ok (.getfield 87, 3)) := by decide +kernel
theorem dX8_copy_83 : decode cX8_copy 83 = .ok (.ifCond .ne 6, 3) := eX8_copy_83.1
theorem dX8_copy_86 : decode cX8_copy 86 = .ok (.bipush (-12), 2) := eX8_copy_83.2.1
theorem dX8_copy_88 : decode cX8_copy 88 = .ok (.ireturn, 1) := eX8_copy_83.2.2.1
theorem dX8_copy_89 : decode cX8_copy 89 = .ok (.aload 6, 2) := eX8_copy_83.2.2.2.1
theorem dX8_copy_91 : decode cX8_copy 91 = .ok (.getfield 87, 3) := eX8_copy_83.2.2.2.2.1
theorem dX8_copy_94 : decode cX8_copy 94 = .ok (.iload_n 2, 1) := eX8_copy_83.2.2.2.2.2.1
theorem dX8_copy_95 : decode cX8_copy 95 = .ok (.aload 7, 2) := eX8_copy_83.2.2.2.2.2.2.1
theorem dX8_copy_97 : decode cX8_copy 97 = .ok (.getfield 87, 3) := eX8_copy_83.2.2.2.2.2.2.2
theorem eX8_copy_100 : (decode cX8_copy 100 = .ok (.iload 4, 2)) ∧ (decode cX8_copy 102 = .ok (.iload 5, 2)) ∧ (decode cX8_copy 104 = .ok (.invokestatic 95, 3)) ∧ (decode cX8_copy 107 = .ok (.iconst 0, 1)) ∧ (decode cX8_copy 108 = .ok (.ireturn, 1)) := by decide +kernel
theorem dX8_copy_100 : decode cX8_copy 100 = .ok (.iload 4, 2) := eX8_copy_100.1
theorem dX8_copy_102 : decode cX8_copy 102 = .ok (.iload 5, 2) := eX8_copy_100.2.1
theorem dX8_copy_104 : decode cX8_copy 104 = .ok (.invokestatic 95, 3) := eX8_copy_100.2.2.1
theorem dX8_copy_107 : decode cX8_copy 107 = .ok (.iconst 0, 1) := eX8_copy_100.2.2.2.1
theorem dX8_copy_108 : decode cX8_copy 108 = .ok (.ireturn, 1) := eX8_copy_100.2.2.2.2
theorem eX8_holds_0 : (decode cX8_holds 0 = .ok (.aload_n 0, 1)) ∧ (decode cX8_holds 1 = .ok (.iload_n 1, 1)) ∧ (decode cX8_holds 2 = .ok (.invokevirtual 72, 3)) ∧ (decode cX8_holds 5 = .ok (.astore 5, 2)) ∧ (decode cX8_holds 7 = .ok (.aload 5, 2)) ∧ (decode cX8_holds 9 = .ok (.ifnonnull 5, 3)) ∧ (decode cX8_holds 12 = .ok (.iconst (-1), 1)) ∧ (decode cX8_holds 13 = .ok (.ireturn, 1)) := by decide +kernel
theorem dX8_holds_0 : decode cX8_holds 0 = .ok (.aload_n 0, 1) := eX8_holds_0.1
theorem dX8_holds_1 : decode cX8_holds 1 = .ok (.iload_n 1, 1) := eX8_holds_0.2.1
theorem dX8_holds_2 : decode cX8_holds 2 = .ok (.invokevirtual 72, 3) := eX8_holds_0.2.2.1
theorem dX8_holds_5 : decode cX8_holds 5 = .ok (.astore 5, 2) := eX8_holds_0.2.2.2.1
theorem dX8_holds_7 : decode cX8_holds 7 = .ok (.aload 5, 2) := eX8_holds_0.2.2.2.2.1
theorem dX8_holds_9 : decode cX8_holds 9 = .ok (.ifnonnull 5, 3) := eX8_holds_0.2.2.2.2.2.1
theorem dX8_holds_12 : decode cX8_holds 12 = .ok (.iconst (-1), 1) := eX8_holds_0.2.2.2.2.2.2.1
theorem dX8_holds_13 : decode cX8_holds 13 = .ok (.ireturn, 1) := eX8_holds_0.2.2.2.2.2.2.2
theorem eX8_holds_14 : (decode cX8_holds 14 = .ok (.aload 5, 2)) ∧ (decode cX8_holds 16 = .ok (.getfield 80, 3)) ∧ (decode cX8_holds 19 = .ok (.iconst (-1), 1)) ∧ (decode cX8_holds 20 = .ok (.if_icmp .ne 6, 3)) ∧ (decode cX8_holds 23 = .ok (.bipush (-11), 2)) ∧ (decode cX8_holds 25 = .ok (.ireturn, 1)) ∧ (decode cX8_holds 26 = .ok (.aload 5, 2)) ∧ (decode cX8_holds 28 = .ok (.iload_n 2, 1)) := by decide +kernel
theorem dX8_holds_14 : decode cX8_holds 14 = .ok (.aload 5, 2) := eX8_holds_14.1
theorem dX8_holds_16 : decode cX8_holds 16 = .ok (.getfield 80, 3) := eX8_holds_14.2.1
theorem dX8_holds_19 : decode cX8_holds 19 = .ok (.iconst (-1), 1) := eX8_holds_14.2.2.1
theorem dX8_holds_20 : decode cX8_holds 20 = .ok (.if_icmp .ne 6, 3) := eX8_holds_14.2.2.2.1
theorem dX8_holds_23 : decode cX8_holds 23 = .ok (.bipush (-11), 2) := eX8_holds_14.2.2.2.2.1
theorem dX8_holds_25 : decode cX8_holds 25 = .ok (.ireturn, 1) := eX8_holds_14.2.2.2.2.2.1
theorem dX8_holds_26 : decode cX8_holds 26 = .ok (.aload 5, 2) := eX8_holds_14.2.2.2.2.2.2.1
theorem dX8_holds_28 : decode cX8_holds 28 = .ok (.iload_n 2, 1) := eX8_holds_14.2.2.2.2.2.2.2
theorem eX8_holds_29 : (decode cX8_holds 29 = .ok (.iconst 1, 1)) ∧ (decode cX8_holds 30 = .ok (.invokevirtual 83, 3)) ∧ (decode cX8_holds 33 = .ok (.ifCond .ne 6, 3)) ∧ (decode cX8_holds 36 = .ok (.bipush (-12), 2)) ∧ (decode cX8_holds 38 = .ok (.ireturn, 1)) ∧ (decode cX8_holds 39 = .ok (.aload 5, 2)) ∧ (decode cX8_holds 41 = .ok (.getfield 87, 3)) ∧ (decode cX8_holds 44 = .ok (.iload_n 2, 1)) := by decide +kernel
theorem dX8_holds_29 : decode cX8_holds 29 = .ok (.iconst 1, 1) := eX8_holds_29.1
theorem dX8_holds_30 : decode cX8_holds 30 = .ok (.invokevirtual 83, 3) := eX8_holds_29.2.1
theorem dX8_holds_33 : decode cX8_holds 33 = .ok (.ifCond .ne 6, 3) := eX8_holds_29.2.2.1
theorem dX8_holds_36 : decode cX8_holds 36 = .ok (.bipush (-12), 2) := eX8_holds_29.2.2.2.1
theorem dX8_holds_38 : decode cX8_holds 38 = .ok (.ireturn, 1) := eX8_holds_29.2.2.2.2.1
theorem dX8_holds_39 : decode cX8_holds 39 = .ok (.aload 5, 2) := eX8_holds_29.2.2.2.2.2.1
theorem dX8_holds_41 : decode cX8_holds 41 = .ok (.getfield 87, 3) := eX8_holds_29.2.2.2.2.2.2.1
theorem dX8_holds_44 : decode cX8_holds 44 = .ok (.iload_n 2, 1) := eX8_holds_29.2.2.2.2.2.2.2
theorem eX8_holds_45 : (decode cX8_holds 45 = .ok (.laload, 1)) ∧ (decode cX8_holds 46 = .ok (.lload_n 3, 1)) ∧ (decode cX8_holds 47 = .ok (.lcmp, 1)) ∧ (decode cX8_holds 48 = .ok (.ifCond .ne 7, 3)) ∧ (decode cX8_holds 51 = .ok (.iconst 1, 1)) ∧ (decode cX8_holds 52 = .ok (.goto 4, 3)) ∧ (decode cX8_holds 55 = .ok (.iconst 0, 1)) ∧ (decode cX8_holds 56 = .ok (.ireturn, 1)) := by decide +kernel
theorem dX8_holds_45 : decode cX8_holds 45 = .ok (.laload, 1) := eX8_holds_45.1
theorem dX8_holds_46 : decode cX8_holds 46 = .ok (.lload_n 3, 1) := eX8_holds_45.2.1
theorem dX8_holds_47 : decode cX8_holds 47 = .ok (.lcmp, 1) := eX8_holds_45.2.2.1
theorem dX8_holds_48 : decode cX8_holds 48 = .ok (.ifCond .ne 7, 3) := eX8_holds_45.2.2.2.1
theorem dX8_holds_51 : decode cX8_holds 51 = .ok (.iconst 1, 1) := eX8_holds_45.2.2.2.2.1
theorem dX8_holds_52 : decode cX8_holds 52 = .ok (.goto 4, 3) := eX8_holds_45.2.2.2.2.2.1
theorem dX8_holds_55 : decode cX8_holds 55 = .ok (.iconst 0, 1) := eX8_holds_45.2.2.2.2.2.2.1
theorem dX8_holds_56 : decode cX8_holds 56 = .ok (.ireturn, 1) := eX8_holds_45.2.2.2.2.2.2.2
theorem eX8_read_0 : (decode cX8_read 0 = .ok (.aload_n 0, 1)) ∧ (decode cX8_read 1 = .ok (.iload_n 1, 1)) ∧ (decode cX8_read 2 = .ok (.invokevirtual 101, 3)) ∧ (decode cX8_read 5 = .ok (.astore 6, 2)) ∧ (decode cX8_read 7 = .ok (.aload_n 0, 1)) ∧ (decode cX8_read 8 = .ok (.iload 4, 2)) ∧ (decode cX8_read 10 = .ok (.invokevirtual 72, 3)) ∧ (decode cX8_read 13 = .ok (.astore 7, 2)) := by decide +kernel
theorem dX8_read_0 : decode cX8_read 0 = .ok (.aload_n 0, 1) := eX8_read_0.1
theorem dX8_read_1 : decode cX8_read 1 = .ok (.iload_n 1, 1) := eX8_read_0.2.1
theorem dX8_read_2 : decode cX8_read 2 = .ok (.invokevirtual 101, 3) := eX8_read_0.2.2.1
theorem dX8_read_5 : decode cX8_read 5 = .ok (.astore 6, 2) := eX8_read_0.2.2.2.1
theorem dX8_read_7 : decode cX8_read 7 = .ok (.aload_n 0, 1) := eX8_read_0.2.2.2.2.1
theorem dX8_read_8 : decode cX8_read 8 = .ok (.iload 4, 2) := eX8_read_0.2.2.2.2.2.1
theorem dX8_read_10 : decode cX8_read 10 = .ok (.invokevirtual 72, 3) := eX8_read_0.2.2.2.2.2.2.1
theorem dX8_read_13 : decode cX8_read 13 = .ok (.astore 7, 2) := eX8_read_0.2.2.2.2.2.2.2
theorem eX8_read_15 : (decode cX8_read 15 = .ok (.aload 6, 2)) ∧ (decode cX8_read 17 = .ok (.ifnull 17, 3)) ∧ (decode cX8_read 20 = .ok (.aload 7, 2)) ∧ (decode cX8_read 22 = .ok (.ifnull 12, 3)) ∧ (decode cX8_read 25 = .ok (.iload_n 2, 1)) ∧ (decode cX8_read 26 = .ok (.ifCond .lt 8, 3)) ∧ (decode cX8_read 29 = .ok (.iload_n 2, 1)) ∧ (decode cX8_read 30 = .ok (.iconst 1, 1)) := by decide +kernel
theorem dX8_read_15 : decode cX8_read 15 = .ok (.aload 6, 2) := eX8_read_15.1
theorem dX8_read_17 : decode cX8_read 17 = .ok (.ifnull 17, 3) := eX8_read_15.2.1
theorem dX8_read_20 : decode cX8_read 20 = .ok (.aload 7, 2) := eX8_read_15.2.2.1
theorem dX8_read_22 : decode cX8_read 22 = .ok (.ifnull 12, 3) := eX8_read_15.2.2.2.1
theorem dX8_read_25 : decode cX8_read 25 = .ok (.iload_n 2, 1) := eX8_read_15.2.2.2.2.1
theorem dX8_read_26 : decode cX8_read 26 = .ok (.ifCond .lt 8, 3) := eX8_read_15.2.2.2.2.2.1
theorem dX8_read_29 : decode cX8_read 29 = .ok (.iload_n 2, 1) := eX8_read_15.2.2.2.2.2.2.1
theorem dX8_read_30 : decode cX8_read 30 = .ok (.iconst 1, 1) := eX8_read_15.2.2.2.2.2.2.2
theorem eX8_read_31 : (decode cX8_read 31 = .ok (.if_icmp .le 5, 3)) ∧ (decode cX8_read 34 = .ok (.iconst (-1), 1)) ∧ (decode cX8_read 35 = .ok (.ireturn, 1)) ∧ (decode cX8_read 36 = .ok (.iload_n 2, 1)) ∧ (decode cX8_read 37 = .ok (.iconst 1, 1)) ∧ (decode cX8_read 38 = .ok (.if_icmp .ne 14, 3)) ∧ (decode cX8_read 41 = .ok (.aload 6, 2)) ∧ (decode cX8_read 43 = .ok (.iload_n 3, 1)) := by decide +kernel
theorem dX8_read_31 : decode cX8_read 31 = .ok (.if_icmp .le 5, 3) := eX8_read_31.1
theorem dX8_read_34 : decode cX8_read 34 = .ok (.iconst (-1), 1) := eX8_read_31.2.1
theorem dX8_read_35 : decode cX8_read 35 = .ok (.ireturn, 1) := eX8_read_31.2.2.1
theorem dX8_read_36 : decode cX8_read 36 = .ok (.iload_n 2, 1) := eX8_read_31.2.2.2.1
theorem dX8_read_37 : decode cX8_read 37 = .ok (.iconst 1, 1) := eX8_read_31.2.2.2.2.1
theorem dX8_read_38 : decode cX8_read 38 = .ok (.if_icmp .ne 14, 3) := eX8_read_31.2.2.2.2.2.1
theorem dX8_read_41 : decode cX8_read 41 = .ok (.aload 6, 2) := eX8_read_31.2.2.2.2.2.2.1
theorem dX8_read_43 : decode cX8_read 43 = .ok (.iload_n 3, 1) := eX8_read_31.2.2.2.2.2.2.2
theorem eX8_read_44 : (decode cX8_read 44 = .ok (.invokevirtual 105, 3)) ∧ (decode cX8_read 47 = .ok (.ifCond .ne 5, 3)) ∧ (decode cX8_read 50 = .ok (.iconst (-1), 1)) ∧ (decode cX8_read 51 = .ok (.ireturn, 1)) ∧ (decode cX8_read 52 = .ok (.aload 7, 2)) ∧ (decode cX8_read 54 = .ok (.getfield 80, 3)) ∧ (decode cX8_read 57 = .ok (.iconst (-1), 1)) ∧ (decode cX8_read 58 = .ok (.if_icmp .ne 6, 3)) := by decide +kernel
theorem dX8_read_44 : decode cX8_read 44 = .ok (.invokevirtual 105, 3) := eX8_read_44.1
theorem dX8_read_47 : decode cX8_read 47 = .ok (.ifCond .ne 5, 3) := eX8_read_44.2.1
theorem dX8_read_50 : decode cX8_read 50 = .ok (.iconst (-1), 1) := eX8_read_44.2.2.1
theorem dX8_read_51 : decode cX8_read 51 = .ok (.ireturn, 1) := eX8_read_44.2.2.2.1
theorem dX8_read_52 : decode cX8_read 52 = .ok (.aload 7, 2) := eX8_read_44.2.2.2.2.1
theorem dX8_read_54 : decode cX8_read 54 = .ok (.getfield 80, 3) := eX8_read_44.2.2.2.2.2.1
theorem dX8_read_57 : decode cX8_read 57 = .ok (.iconst (-1), 1) := eX8_read_44.2.2.2.2.2.2.1
theorem dX8_read_58 : decode cX8_read 58 = .ok (.if_icmp .ne 6, 3) := eX8_read_44.2.2.2.2.2.2.2
theorem eX8_read_61 : (decode cX8_read 61 = .ok (.bipush (-11), 2)) ∧ (decode cX8_read 63 = .ok (.ireturn, 1)) ∧ (decode cX8_read 64 = .ok (.aload 7, 2)) ∧ (decode cX8_read 66 = .ok (.iload 5, 2)) ∧ (decode cX8_read 68 = .ok (.aload 6, 2)) ∧ (decode cX8_read 70 = .ok (.getfield 109, 3)) ∧ (decode cX8_read 73 = .ok (.invokevirtual 83, 3)) ∧ (decode cX8_read 76 = .ok (.ifCond .ne 6, 3)) := by decide +kernel
theorem dX8_read_61 : decode cX8_read 61 = .ok (.bipush (-11), 2) := eX8_read_61.1
theorem dX8_read_63 : decode cX8_read 63 = .ok (.ireturn, 1) := eX8_read_61.2.1
theorem dX8_read_64 : decode cX8_read 64 = .ok (.aload 7, 2) := eX8_read_61.2.2.1
theorem dX8_read_66 : decode cX8_read 66 = .ok (.iload 5, 2) := eX8_read_61.2.2.2.1
theorem dX8_read_68 : decode cX8_read 68 = .ok (.aload 6, 2) := eX8_read_61.2.2.2.2.1
theorem dX8_read_70 : decode cX8_read 70 = .ok (.getfield 109, 3) := eX8_read_61.2.2.2.2.2.1
theorem dX8_read_73 : decode cX8_read 73 = .ok (.invokevirtual 83, 3) := eX8_read_61.2.2.2.2.2.2.1
theorem dX8_read_76 : decode cX8_read 76 = .ok (.ifCond .ne 6, 3) := eX8_read_61.2.2.2.2.2.2.2
theorem eX8_read_79 : (decode cX8_read 79 = .ok (.bipush (-12), 2)) ∧ (decode cX8_read 81 = .ok (.ireturn, 1)) ∧ (decode cX8_read 82 = .ok (.iload_n 2, 1)) ∧ (decode cX8_read 83 = .ok (.ifCond .ne 7, 3)) ∧ (decode cX8_read 86 = .ok (.iconst 0, 1)) ∧ (decode cX8_read 87 = .ok (.goto 5, 3)) ∧ (decode cX8_read 90 = .ok (.bipush (-9), 2)) ∧ (decode cX8_read 92 = .ok (.istore 8, 2)) := by decide +kernel
theorem dX8_read_79 : decode cX8_read 79 = .ok (.bipush (-12), 2) := eX8_read_79.1
theorem dX8_read_81 : decode cX8_read 81 = .ok (.ireturn, 1) := eX8_read_79.2.1
theorem dX8_read_82 : decode cX8_read 82 = .ok (.iload_n 2, 1) := eX8_read_79.2.2.1
theorem dX8_read_83 : decode cX8_read 83 = .ok (.ifCond .ne 7, 3) := eX8_read_79.2.2.2.1
theorem dX8_read_86 : decode cX8_read 86 = .ok (.iconst 0, 1) := eX8_read_79.2.2.2.2.1
theorem dX8_read_87 : decode cX8_read 87 = .ok (.goto 5, 3) := eX8_read_79.2.2.2.2.2.1
theorem dX8_read_90 : decode cX8_read 90 = .ok (.bipush (-9), 2) := eX8_read_79.2.2.2.2.2.2.1
theorem dX8_read_92 : decode cX8_read 92 = .ok (.istore 8, 2) := eX8_read_79.2.2.2.2.2.2.2
theorem eX8_read_94 : (decode cX8_read 94 = .ok (.iload_n 2, 1)) ∧ (decode cX8_read 95 = .ok (.ifCond .ne 9, 3)) ∧ (decode cX8_read 98 = .ok (.sipush 200, 3)) ∧ (decode cX8_read 101 = .ok (.goto 5, 3)) ∧ (decode cX8_read 104 = .ok (.bipush 9, 2)) ∧ (decode cX8_read 106 = .ok (.istore 9, 2)) ∧ (decode cX8_read 108 = .ok (.aload 7, 2)) ∧ (decode cX8_read 110 = .ok (.iload 5, 2)) := by decide +kernel
theorem dX8_read_94 : decode cX8_read 94 = .ok (.iload_n 2, 1) := eX8_read_94.1
theorem dX8_read_95 : decode cX8_read 95 = .ok (.ifCond .ne 9, 3) := eX8_read_94.2.1
theorem dX8_read_98 : decode cX8_read 98 = .ok (.sipush 200, 3) := eX8_read_94.2.2.1
theorem dX8_read_101 : decode cX8_read 101 = .ok (.goto 5, 3) := eX8_read_94.2.2.2.1
theorem dX8_read_104 : decode cX8_read 104 = .ok (.bipush 9, 2) := eX8_read_94.2.2.2.2.1
theorem dX8_read_106 : decode cX8_read 106 = .ok (.istore 9, 2) := eX8_read_94.2.2.2.2.2.1
theorem dX8_read_108 : decode cX8_read 108 = .ok (.aload 7, 2) := eX8_read_94.2.2.2.2.2.2.1
theorem dX8_read_110 : decode cX8_read 110 = .ok (.iload 5, 2) := eX8_read_94.2.2.2.2.2.2.2
theorem eX8_read_112 : (decode cX8_read 112 = .ok (.aload 6, 2)) ∧ (decode cX8_read 114 = .ok (.getfield 109, 3)) ∧ (decode cX8_read 117 = .ok (.iload 8, 2)) ∧ (decode cX8_read 119 = .ok (.iload 9, 2)) ∧ (decode cX8_read 121 = .ok (.invokevirtual 112, 3)) ∧ (decode cX8_read 124 = .ok (.ifCond .ne 6, 3)) ∧ (decode cX8_read 127 = .ok (.bipush (-15), 2)) ∧ (decode cX8_read 129 = .ok (.ireturn, 1)) := by decide +kernel
theorem dX8_read_112 : decode cX8_read 112 = .ok (.aload 6, 2) := eX8_read_112.1
theorem dX8_read_114 : decode cX8_read 114 = .ok (.getfield 109, 3) := eX8_read_112.2.1
theorem dX8_read_117 : decode cX8_read 117 = .ok (.iload 8, 2) := eX8_read_112.2.2.1
theorem dX8_read_119 : decode cX8_read 119 = .ok (.iload 9, 2) := eX8_read_112.2.2.2.1
theorem dX8_read_121 : decode cX8_read 121 = .ok (.invokevirtual 112, 3) := eX8_read_112.2.2.2.2.1
theorem dX8_read_124 : decode cX8_read 124 = .ok (.ifCond .ne 6, 3) := eX8_read_112.2.2.2.2.2.1
theorem dX8_read_127 : decode cX8_read 127 = .ok (.bipush (-15), 2) := eX8_read_112.2.2.2.2.2.2.1
theorem dX8_read_129 : decode cX8_read 129 = .ok (.ireturn, 1) := eX8_read_112.2.2.2.2.2.2.2
theorem eX8_read_130 : (decode cX8_read 130 = .ok (.aload_n 0, 1)) ∧ (decode cX8_read 131 = .ok (.invokevirtual 116, 3)) ∧ (decode cX8_read 134 = .ok (.iload_n 2, 1)) ∧ (decode cX8_read 135 = .ok (.ifCond .ne 11, 3)) ∧ (decode cX8_read 138 = .ok (.aload 6, 2)) ∧ (decode cX8_read 140 = .ok (.getfield 119, 3)) ∧ (decode cX8_read 143 = .ok (.goto 8, 3)) ∧ (decode cX8_read 146 = .ok (.aload 6, 2)) := by decide +kernel
theorem dX8_read_130 : decode cX8_read 130 = .ok (.aload_n 0, 1) := eX8_read_130.1
theorem dX8_read_131 : decode cX8_read 131 = .ok (.invokevirtual 116, 3) := eX8_read_130.2.1
theorem dX8_read_134 : decode cX8_read 134 = .ok (.iload_n 2, 1) := eX8_read_130.2.2.1
theorem dX8_read_135 : decode cX8_read 135 = .ok (.ifCond .ne 11, 3) := eX8_read_130.2.2.2.1
theorem dX8_read_138 : decode cX8_read 138 = .ok (.aload 6, 2) := eX8_read_130.2.2.2.2.1
theorem dX8_read_140 : decode cX8_read 140 = .ok (.getfield 119, 3) := eX8_read_130.2.2.2.2.2.1
theorem dX8_read_143 : decode cX8_read 143 = .ok (.goto 8, 3) := eX8_read_130.2.2.2.2.2.2.1
theorem dX8_read_146 : decode cX8_read 146 = .ok (.aload 6, 2) := eX8_read_130.2.2.2.2.2.2.2
theorem eX8_read_148 : (decode cX8_read 148 = .ok (.getfield 123, 3)) ∧ (decode cX8_read 151 = .ok (.astore 10, 2)) ∧ (decode cX8_read 153 = .ok (.iload_n 2, 1)) ∧ (decode cX8_read 154 = .ok (.ifCond .ne 7, 3)) ∧ (decode cX8_read 157 = .ok (.iconst 0, 1)) ∧ (decode cX8_read 158 = .ok (.goto 6, 3)) ∧ (decode cX8_read 161 = .ok (.iload_n 3, 1)) ∧ (decode cX8_read 162 = .ok (.iconst 4, 1)) := by decide +kernel
theorem dX8_read_148 : decode cX8_read 148 = .ok (.getfield 123, 3) := eX8_read_148.1
theorem dX8_read_151 : decode cX8_read 151 = .ok (.astore 10, 2) := eX8_read_148.2.1
theorem dX8_read_153 : decode cX8_read 153 = .ok (.iload_n 2, 1) := eX8_read_148.2.2.1
theorem dX8_read_154 : decode cX8_read 154 = .ok (.ifCond .ne 7, 3) := eX8_read_148.2.2.2.1
theorem dX8_read_157 : decode cX8_read 157 = .ok (.iconst 0, 1) := eX8_read_148.2.2.2.2.1
theorem dX8_read_158 : decode cX8_read 158 = .ok (.goto 6, 3) := eX8_read_148.2.2.2.2.2.1
theorem dX8_read_161 : decode cX8_read 161 = .ok (.iload_n 3, 1) := eX8_read_148.2.2.2.2.2.2.1
theorem dX8_read_162 : decode cX8_read 162 = .ok (.iconst 4, 1) := eX8_read_148.2.2.2.2.2.2.2
theorem eX8_read_163 : (decode cX8_read 163 = .ok (.imul, 1)) ∧ (decode cX8_read 164 = .ok (.istore 11, 2)) ∧ (decode cX8_read 166 = .ok (.iconst 0, 1)) ∧ (decode cX8_read 167 = .ok (.istore 12, 2)) ∧ (decode cX8_read 169 = .ok (.iload 12, 2)) ∧ (decode cX8_read 171 = .ok (.aload 6, 2)) ∧ (decode cX8_read 173 = .ok (.getfield 109, 3)) ∧ (decode cX8_read 176 = .ok (.if_icmp .ge 29, 3)) := by decide +kernel
theorem dX8_read_163 : decode cX8_read 163 = .ok (.imul, 1) := eX8_read_163.1
theorem dX8_read_164 : decode cX8_read 164 = .ok (.istore 11, 2) := eX8_read_163.2.1
theorem dX8_read_166 : decode cX8_read 166 = .ok (.iconst 0, 1) := eX8_read_163.2.2.1
theorem dX8_read_167 : decode cX8_read 167 = .ok (.istore 12, 2) := eX8_read_163.2.2.2.1
theorem dX8_read_169 : decode cX8_read 169 = .ok (.iload 12, 2) := eX8_read_163.2.2.2.2.1
theorem dX8_read_171 : decode cX8_read 171 = .ok (.aload 6, 2) := eX8_read_163.2.2.2.2.2.1
theorem dX8_read_173 : decode cX8_read 173 = .ok (.getfield 109, 3) := eX8_read_163.2.2.2.2.2.2.1
theorem dX8_read_176 : decode cX8_read 176 = .ok (.if_icmp .ge 29, 3) := eX8_read_163.2.2.2.2.2.2.2
theorem eX8_read_179 : (decode cX8_read 179 = .ok (.aload 10, 2)) ∧ (decode cX8_read 181 = .ok (.iload 11, 2)) ∧ (decode cX8_read 183 = .ok (.iload 12, 2)) ∧ (decode cX8_read 185 = .ok (.iadd, 1)) ∧ (decode cX8_read 186 = .ok (.aload 7, 2)) ∧ (decode cX8_read 188 = .ok (.getfield 87, 3)) ∧ (decode cX8_read 191 = .ok (.iload 5, 2)) ∧ (decode cX8_read 193 = .ok (.iload 12, 2)) := by decide +kernel
theorem dX8_read_179 : decode cX8_read 179 = .ok (.aload 10, 2) := eX8_read_179.1
theorem dX8_read_181 : decode cX8_read 181 = .ok (.iload 11, 2) := eX8_read_179.2.1
theorem dX8_read_183 : decode cX8_read 183 = .ok (.iload 12, 2) := eX8_read_179.2.2.1
theorem dX8_read_185 : decode cX8_read 185 = .ok (.iadd, 1) := eX8_read_179.2.2.2.1
theorem dX8_read_186 : decode cX8_read 186 = .ok (.aload 7, 2) := eX8_read_179.2.2.2.2.1
theorem dX8_read_188 : decode cX8_read 188 = .ok (.getfield 87, 3) := eX8_read_179.2.2.2.2.2.1
theorem dX8_read_191 : decode cX8_read 191 = .ok (.iload 5, 2) := eX8_read_179.2.2.2.2.2.2.1
theorem dX8_read_193 : decode cX8_read 193 = .ok (.iload 12, 2) := eX8_read_179.2.2.2.2.2.2.2
theorem eX8_read_195 : (decode cX8_read 195 = .ok (.iadd, 1)) ∧ (decode cX8_read 196 = .ok (.laload, 1)) ∧ (decode cX8_read 197 = .ok (.l2i, 1)) ∧ (decode cX8_read 198 = .ok (.iastore, 1)) ∧ (decode cX8_read 199 = .ok (.iinc 12 1, 3)) ∧ (decode cX8_read 202 = .ok (.goto (-33), 3)) ∧ (decode cX8_read 205 = .ok (.iconst 0, 1)) ∧ (decode cX8_read 206 = .ok (.ireturn, 1)) := by decide +kernel
theorem dX8_read_195 : decode cX8_read 195 = .ok (.iadd, 1) := eX8_read_195.1
theorem dX8_read_196 : decode cX8_read 196 = .ok (.laload, 1) := eX8_read_195.2.1
theorem dX8_read_197 : decode cX8_read 197 = .ok (.l2i, 1) := eX8_read_195.2.2.1
theorem dX8_read_198 : decode cX8_read 198 = .ok (.iastore, 1) := eX8_read_195.2.2.2.1
theorem dX8_read_199 : decode cX8_read 199 = .ok (.iinc 12 1, 3) := eX8_read_195.2.2.2.2.1
theorem dX8_read_202 : decode cX8_read 202 = .ok (.goto (-33), 3) := eX8_read_195.2.2.2.2.2.1
theorem dX8_read_205 : decode cX8_read 205 = .ok (.iconst 0, 1) := eX8_read_195.2.2.2.2.2.2.1
theorem dX8_read_206 : decode cX8_read 206 = .ok (.ireturn, 1) := eX8_read_195.2.2.2.2.2.2.2
theorem eX8_urn_0 : (decode cX8_urn 0 = .ok (.iload_n 1, 1)) ∧ (decode cX8_urn 1 = .ok (.iconst 2, 1)) ∧ (decode cX8_urn 2 = .ok (.if_icmp .lt 8, 3)) ∧ (decode cX8_urn 5 = .ok (.iload_n 1, 1)) ∧ (decode cX8_urn 6 = .ok (.iconst 4, 1)) ∧ (decode cX8_urn 7 = .ok (.if_icmp .le 5, 3)) ∧ (decode cX8_urn 10 = .ok (.iconst (-1), 1)) ∧ (decode cX8_urn 11 = .ok (.ireturn, 1)) := by decide +kernel
theorem dX8_urn_0 : decode cX8_urn 0 = .ok (.iload_n 1, 1) := eX8_urn_0.1
theorem dX8_urn_1 : decode cX8_urn 1 = .ok (.iconst 2, 1) := eX8_urn_0.2.1
theorem dX8_urn_2 : decode cX8_urn 2 = .ok (.if_icmp .lt 8, 3) := eX8_urn_0.2.2.1
theorem dX8_urn_5 : decode cX8_urn 5 = .ok (.iload_n 1, 1) := eX8_urn_0.2.2.2.1
theorem dX8_urn_6 : decode cX8_urn 6 = .ok (.iconst 4, 1) := eX8_urn_0.2.2.2.2.1
theorem dX8_urn_7 : decode cX8_urn 7 = .ok (.if_icmp .le 5, 3) := eX8_urn_0.2.2.2.2.2.1
theorem dX8_urn_10 : decode cX8_urn 10 = .ok (.iconst (-1), 1) := eX8_urn_0.2.2.2.2.2.2.1
theorem dX8_urn_11 : decode cX8_urn 11 = .ok (.ireturn, 1) := eX8_urn_0.2.2.2.2.2.2.2
theorem eX8_urn_12 : (decode cX8_urn 12 = .ok (.aload_n 0, 1)) ∧ (decode cX8_urn 13 = .ok (.getfield 63, 3)) ∧ (decode cX8_urn 16 = .ok (.bipush 8, 2)) ∧ (decode cX8_urn 18 = .ok (.if_icmp .lt 6, 3)) ∧ (decode cX8_urn 21 = .ok (.bipush (-3), 2)) ∧ (decode cX8_urn 23 = .ok (.ireturn, 1)) ∧ (decode cX8_urn 24 = .ok (.aload_n 0, 1)) ∧ (decode cX8_urn 25 = .ok (.getfield 17, 3)) := by decide +kernel
theorem dX8_urn_12 : decode cX8_urn 12 = .ok (.aload_n 0, 1) := eX8_urn_12.1
theorem dX8_urn_13 : decode cX8_urn 13 = .ok (.getfield 63, 3) := eX8_urn_12.2.1
theorem dX8_urn_16 : decode cX8_urn 16 = .ok (.bipush 8, 2) := eX8_urn_12.2.2.1
theorem dX8_urn_18 : decode cX8_urn 18 = .ok (.if_icmp .lt 6, 3) := eX8_urn_12.2.2.2.1
theorem dX8_urn_21 : decode cX8_urn 21 = .ok (.bipush (-3), 2) := eX8_urn_12.2.2.2.2.1
theorem dX8_urn_23 : decode cX8_urn 23 = .ok (.ireturn, 1) := eX8_urn_12.2.2.2.2.2.1
theorem dX8_urn_24 : decode cX8_urn 24 = .ok (.aload_n 0, 1) := eX8_urn_12.2.2.2.2.2.2.1
theorem dX8_urn_25 : decode cX8_urn 25 = .ok (.getfield 17, 3) := eX8_urn_12.2.2.2.2.2.2.2
theorem eX8_urn_28 : (decode cX8_urn 28 = .ok (.aload_n 0, 1)) ∧ (decode cX8_urn 29 = .ok (.getfield 63, 3)) ∧ (decode cX8_urn 32 = .ok (.aaload, 1)) ∧ (decode cX8_urn 33 = .ok (.iload_n 1, 1)) ∧ (decode cX8_urn 34 = .ok (.putfield 109, 3)) ∧ (decode cX8_urn 37 = .ok (.aload_n 0, 1)) ∧ (decode cX8_urn 38 = .ok (.dup, 1)) ∧ (decode cX8_urn 39 = .ok (.getfield 63, 3)) := by decide +kernel
theorem dX8_urn_28 : decode cX8_urn 28 = .ok (.aload_n 0, 1) := eX8_urn_28.1
theorem dX8_urn_29 : decode cX8_urn 29 = .ok (.getfield 63, 3) := eX8_urn_28.2.1
theorem dX8_urn_32 : decode cX8_urn 32 = .ok (.aaload, 1) := eX8_urn_28.2.2.1
theorem dX8_urn_33 : decode cX8_urn 33 = .ok (.iload_n 1, 1) := eX8_urn_28.2.2.2.1
theorem dX8_urn_34 : decode cX8_urn 34 = .ok (.putfield 109, 3) := eX8_urn_28.2.2.2.2.1
theorem dX8_urn_37 : decode cX8_urn 37 = .ok (.aload_n 0, 1) := eX8_urn_28.2.2.2.2.2.1
theorem dX8_urn_38 : decode cX8_urn 38 = .ok (.dup, 1) := eX8_urn_28.2.2.2.2.2.2.1
theorem dX8_urn_39 : decode cX8_urn 39 = .ok (.getfield 63, 3) := eX8_urn_28.2.2.2.2.2.2.2
theorem eX8_urn_42 : (decode cX8_urn 42 = .ok (.iconst 1, 1)) ∧ (decode cX8_urn 43 = .ok (.iadd, 1)) ∧ (decode cX8_urn 44 = .ok (.putfield 63, 3)) ∧ (decode cX8_urn 47 = .ok (.aload_n 0, 1)) ∧ (decode cX8_urn 48 = .ok (.getfield 63, 3)) ∧ (decode cX8_urn 51 = .ok (.iconst 1, 1)) ∧ (decode cX8_urn 52 = .ok (.isub, 1)) ∧ (decode cX8_urn 53 = .ok (.ireturn, 1)) := by decide +kernel
theorem dX8_urn_42 : decode cX8_urn 42 = .ok (.iconst 1, 1) := eX8_urn_42.1
theorem dX8_urn_43 : decode cX8_urn 43 = .ok (.iadd, 1) := eX8_urn_42.2.1
theorem dX8_urn_44 : decode cX8_urn 44 = .ok (.putfield 63, 3) := eX8_urn_42.2.2.1
theorem dX8_urn_47 : decode cX8_urn 47 = .ok (.aload_n 0, 1) := eX8_urn_42.2.2.2.1
theorem dX8_urn_48 : decode cX8_urn 48 = .ok (.getfield 63, 3) := eX8_urn_42.2.2.2.2.1
theorem dX8_urn_51 : decode cX8_urn 51 = .ok (.iconst 1, 1) := eX8_urn_42.2.2.2.2.2.1
theorem dX8_urn_52 : decode cX8_urn 52 = .ok (.isub, 1) := eX8_urn_42.2.2.2.2.2.2.1
theorem dX8_urn_53 : decode cX8_urn 53 = .ok (.ireturn, 1) := eX8_urn_42.2.2.2.2.2.2.2
theorem eX8_put_0 : (decode cX8_put 0 = .ok (.aload_n 0, 1)) ∧ (decode cX8_put 1 = .ok (.iload_n 1, 1)) ∧ (decode cX8_put 2 = .ok (.invokevirtual 101, 3)) ∧ (decode cX8_put 5 = .ok (.astore 4, 2)) ∧ (decode cX8_put 7 = .ok (.aload 4, 2)) ∧ (decode cX8_put 9 = .ok (.ifnull 23, 3)) ∧ (decode cX8_put 12 = .ok (.aload 4, 2)) ∧ (decode cX8_put 14 = .ok (.iload_n 2, 1)) := by decide +kernel
theorem dX8_put_0 : decode cX8_put 0 = .ok (.aload_n 0, 1) := eX8_put_0.1
theorem dX8_put_1 : decode cX8_put 1 = .ok (.iload_n 1, 1) := eX8_put_0.2.1
theorem dX8_put_2 : decode cX8_put 2 = .ok (.invokevirtual 101, 3) := eX8_put_0.2.2.1
theorem dX8_put_5 : decode cX8_put 5 = .ok (.astore 4, 2) := eX8_put_0.2.2.2.1
theorem dX8_put_7 : decode cX8_put 7 = .ok (.aload 4, 2) := eX8_put_0.2.2.2.2.1
theorem dX8_put_9 : decode cX8_put 9 = .ok (.ifnull 23, 3) := eX8_put_0.2.2.2.2.2.1
theorem dX8_put_12 : decode cX8_put 12 = .ok (.aload 4, 2) := eX8_put_0.2.2.2.2.2.2.1
theorem dX8_put_14 : decode cX8_put 14 = .ok (.iload_n 2, 1) := eX8_put_0.2.2.2.2.2.2.2
theorem eX8_put_15 : (decode cX8_put 15 = .ok (.invokevirtual 105, 3)) ∧ (decode cX8_put 18 = .ok (.ifCond .eq 14, 3)) ∧ (decode cX8_put 21 = .ok (.iload_n 3, 1)) ∧ (decode cX8_put 22 = .ok (.ifCond .lt 10, 3)) ∧ (decode cX8_put 25 = .ok (.iload_n 3, 1)) ∧ (decode cX8_put 26 = .ok (.sipush 200, 3)) ∧ (decode cX8_put 29 = .ok (.if_icmp .le 5, 3)) ∧ (decode cX8_put 32 = .ok (.iconst (-1), 1)) := by decide +kernel
theorem dX8_put_15 : decode cX8_put 15 = .ok (.invokevirtual 105, 3) := eX8_put_15.1
theorem dX8_put_18 : decode cX8_put 18 = .ok (.ifCond .eq 14, 3) := eX8_put_15.2.1
theorem dX8_put_21 : decode cX8_put 21 = .ok (.iload_n 3, 1) := eX8_put_15.2.2.1
theorem dX8_put_22 : decode cX8_put 22 = .ok (.ifCond .lt 10, 3) := eX8_put_15.2.2.2.1
theorem dX8_put_25 : decode cX8_put 25 = .ok (.iload_n 3, 1) := eX8_put_15.2.2.2.2.1
theorem dX8_put_26 : decode cX8_put 26 = .ok (.sipush 200, 3) := eX8_put_15.2.2.2.2.2.1
theorem dX8_put_29 : decode cX8_put 29 = .ok (.if_icmp .le 5, 3) := eX8_put_15.2.2.2.2.2.2.1
theorem dX8_put_32 : decode cX8_put 32 = .ok (.iconst (-1), 1) := eX8_put_15.2.2.2.2.2.2.2
theorem eX8_put_33 : (decode cX8_put 33 = .ok (.ireturn, 1)) ∧ (decode cX8_put 34 = .ok (.aload_n 0, 1)) ∧ (decode cX8_put 35 = .ok (.invokevirtual 116, 3)) ∧ (decode cX8_put 38 = .ok (.aload 4, 2)) ∧ (decode cX8_put 40 = .ok (.getfield 119, 3)) ∧ (decode cX8_put 43 = .ok (.iload_n 2, 1)) ∧ (decode cX8_put 44 = .ok (.iaload, 1)) ∧ (decode cX8_put 45 = .ok (.istore 5, 2)) := by decide +kernel
theorem dX8_put_33 : decode cX8_put 33 = .ok (.ireturn, 1) := eX8_put_33.1
theorem dX8_put_34 : decode cX8_put 34 = .ok (.aload_n 0, 1) := eX8_put_33.2.1
theorem dX8_put_35 : decode cX8_put 35 = .ok (.invokevirtual 116, 3) := eX8_put_33.2.2.1
theorem dX8_put_38 : decode cX8_put 38 = .ok (.aload 4, 2) := eX8_put_33.2.2.2.1
theorem dX8_put_40 : decode cX8_put 40 = .ok (.getfield 119, 3) := eX8_put_33.2.2.2.2.1
theorem dX8_put_43 : decode cX8_put 43 = .ok (.iload_n 2, 1) := eX8_put_33.2.2.2.2.2.1
theorem dX8_put_44 : decode cX8_put 44 = .ok (.iaload, 1) := eX8_put_33.2.2.2.2.2.2.1
theorem dX8_put_45 : decode cX8_put 45 = .ok (.istore 5, 2) := eX8_put_33.2.2.2.2.2.2.2
theorem eX8_put_47 : (decode cX8_put 47 = .ok (.aload 4, 2)) ∧ (decode cX8_put 49 = .ok (.getfield 119, 3)) ∧ (decode cX8_put 52 = .ok (.iload_n 2, 1)) ∧ (decode cX8_put 53 = .ok (.iload_n 3, 1)) ∧ (decode cX8_put 54 = .ok (.iastore, 1)) ∧ (decode cX8_put 55 = .ok (.iload 5, 2)) ∧ (decode cX8_put 57 = .ok (.ireturn, 1)) := by decide +kernel
theorem dX8_put_47 : decode cX8_put 47 = .ok (.aload 4, 2) := eX8_put_47.1
theorem dX8_put_49 : decode cX8_put 49 = .ok (.getfield 119, 3) := eX8_put_47.2.1
theorem dX8_put_52 : decode cX8_put 52 = .ok (.iload_n 2, 1) := eX8_put_47.2.2.1
theorem dX8_put_53 : decode cX8_put 53 = .ok (.iload_n 3, 1) := eX8_put_47.2.2.2.1
theorem dX8_put_54 : decode cX8_put 54 = .ok (.iastore, 1) := eX8_put_47.2.2.2.2.1
theorem dX8_put_55 : decode cX8_put 55 = .ok (.iload 5, 2) := eX8_put_47.2.2.2.2.2.1
theorem dX8_put_57 : decode cX8_put 57 = .ok (.ireturn, 1) := eX8_put_47.2.2.2.2.2.2
theorem eX8_add_0 : (decode cX8_add 0 = .ok (.aload_n 0, 1)) ∧ (decode cX8_add 1 = .ok (.iload_n 1, 1)) ∧ (decode cX8_add 2 = .ok (.invokevirtual 101, 3)) ∧ (decode cX8_add 5 = .ok (.astore 5, 2)) ∧ (decode cX8_add 7 = .ok (.aload 5, 2)) ∧ (decode cX8_add 9 = .ok (.ifnull 35, 3)) ∧ (decode cX8_add 12 = .ok (.aload 5, 2)) ∧ (decode cX8_add 14 = .ok (.iload_n 2, 1)) := by decide +kernel
theorem dX8_add_0 : decode cX8_add 0 = .ok (.aload_n 0, 1) := eX8_add_0.1
theorem dX8_add_1 : decode cX8_add 1 = .ok (.iload_n 1, 1) := eX8_add_0.2.1
theorem dX8_add_2 : decode cX8_add 2 = .ok (.invokevirtual 101, 3) := eX8_add_0.2.2.1
theorem dX8_add_5 : decode cX8_add 5 = .ok (.astore 5, 2) := eX8_add_0.2.2.2.1
theorem dX8_add_7 : decode cX8_add 7 = .ok (.aload 5, 2) := eX8_add_0.2.2.2.2.1
theorem dX8_add_9 : decode cX8_add 9 = .ok (.ifnull 35, 3) := eX8_add_0.2.2.2.2.2.1
theorem dX8_add_12 : decode cX8_add 12 = .ok (.aload 5, 2) := eX8_add_0.2.2.2.2.2.2.1
theorem dX8_add_14 : decode cX8_add 14 = .ok (.iload_n 2, 1) := eX8_add_0.2.2.2.2.2.2.2
theorem eX8_add_15 : (decode cX8_add 15 = .ok (.invokevirtual 105, 3)) ∧ (decode cX8_add 18 = .ok (.ifCond .eq 26, 3)) ∧ (decode cX8_add 21 = .ok (.aload 5, 2)) ∧ (decode cX8_add 23 = .ok (.iload_n 3, 1)) ∧ (decode cX8_add 24 = .ok (.invokevirtual 105, 3)) ∧ (decode cX8_add 27 = .ok (.ifCond .eq 17, 3)) ∧ (decode cX8_add 30 = .ok (.iload 4, 2)) ∧ (decode cX8_add 32 = .ok (.bipush (-9), 2)) := by decide +kernel
theorem dX8_add_15 : decode cX8_add 15 = .ok (.invokevirtual 105, 3) := eX8_add_15.1
theorem dX8_add_18 : decode cX8_add 18 = .ok (.ifCond .eq 26, 3) := eX8_add_15.2.1
theorem dX8_add_21 : decode cX8_add 21 = .ok (.aload 5, 2) := eX8_add_15.2.2.1
theorem dX8_add_23 : decode cX8_add 23 = .ok (.iload_n 3, 1) := eX8_add_15.2.2.2.1
theorem dX8_add_24 : decode cX8_add 24 = .ok (.invokevirtual 105, 3) := eX8_add_15.2.2.2.2.1
theorem dX8_add_27 : decode cX8_add 27 = .ok (.ifCond .eq 17, 3) := eX8_add_15.2.2.2.2.2.1
theorem dX8_add_30 : decode cX8_add 30 = .ok (.iload 4, 2) := eX8_add_15.2.2.2.2.2.2.1
theorem dX8_add_32 : decode cX8_add 32 = .ok (.bipush (-9), 2) := eX8_add_15.2.2.2.2.2.2.2
theorem eX8_add_34 : (decode cX8_add 34 = .ok (.if_icmp .lt 10, 3)) ∧ (decode cX8_add 37 = .ok (.iload 4, 2)) ∧ (decode cX8_add 39 = .ok (.bipush 9, 2)) ∧ (decode cX8_add 41 = .ok (.if_icmp .le 6, 3)) ∧ (decode cX8_add 44 = .ok (.bipush (-100), 2)) ∧ (decode cX8_add 46 = .ok (.ireturn, 1)) ∧ (decode cX8_add 47 = .ok (.aload_n 0, 1)) ∧ (decode cX8_add 48 = .ok (.invokevirtual 116, 3)) := by decide +kernel
theorem dX8_add_34 : decode cX8_add 34 = .ok (.if_icmp .lt 10, 3) := eX8_add_34.1
theorem dX8_add_37 : decode cX8_add 37 = .ok (.iload 4, 2) := eX8_add_34.2.1
theorem dX8_add_39 : decode cX8_add 39 = .ok (.bipush 9, 2) := eX8_add_34.2.2.1
theorem dX8_add_41 : decode cX8_add 41 = .ok (.if_icmp .le 6, 3) := eX8_add_34.2.2.2.1
theorem dX8_add_44 : decode cX8_add 44 = .ok (.bipush (-100), 2) := eX8_add_34.2.2.2.2.1
theorem dX8_add_46 : decode cX8_add 46 = .ok (.ireturn, 1) := eX8_add_34.2.2.2.2.2.1
theorem dX8_add_47 : decode cX8_add 47 = .ok (.aload_n 0, 1) := eX8_add_34.2.2.2.2.2.2.1
theorem dX8_add_48 : decode cX8_add 48 = .ok (.invokevirtual 116, 3) := eX8_add_34.2.2.2.2.2.2.2
theorem eX8_add_51 : (decode cX8_add 51 = .ok (.aload 5, 2)) ∧ (decode cX8_add 53 = .ok (.getfield 123, 3)) ∧ (decode cX8_add 56 = .ok (.iload_n 2, 1)) ∧ (decode cX8_add 57 = .ok (.iconst 4, 1)) ∧ (decode cX8_add 58 = .ok (.imul, 1)) ∧ (decode cX8_add 59 = .ok (.iload_n 3, 1)) ∧ (decode cX8_add 60 = .ok (.iadd, 1)) ∧ (decode cX8_add 61 = .ok (.iaload, 1)) := by decide +kernel
theorem dX8_add_51 : decode cX8_add 51 = .ok (.aload 5, 2) := eX8_add_51.1
theorem dX8_add_53 : decode cX8_add 53 = .ok (.getfield 123, 3) := eX8_add_51.2.1
theorem dX8_add_56 : decode cX8_add 56 = .ok (.iload_n 2, 1) := eX8_add_51.2.2.1
theorem dX8_add_57 : decode cX8_add 57 = .ok (.iconst 4, 1) := eX8_add_51.2.2.2.1
theorem dX8_add_58 : decode cX8_add 58 = .ok (.imul, 1) := eX8_add_51.2.2.2.2.1
theorem dX8_add_59 : decode cX8_add 59 = .ok (.iload_n 3, 1) := eX8_add_51.2.2.2.2.2.1
theorem dX8_add_60 : decode cX8_add 60 = .ok (.iadd, 1) := eX8_add_51.2.2.2.2.2.2.1
theorem dX8_add_61 : decode cX8_add 61 = .ok (.iaload, 1) := eX8_add_51.2.2.2.2.2.2.2
theorem eX8_add_62 : (decode cX8_add 62 = .ok (.istore 6, 2)) ∧ (decode cX8_add 64 = .ok (.aload 5, 2)) ∧ (decode cX8_add 66 = .ok (.getfield 123, 3)) ∧ (decode cX8_add 69 = .ok (.iload_n 2, 1)) ∧ (decode cX8_add 70 = .ok (.iconst 4, 1)) ∧ (decode cX8_add 71 = .ok (.imul, 1)) ∧ (decode cX8_add 72 = .ok (.iload_n 3, 1)) ∧ (decode cX8_add 73 = .ok (.iadd, 1)) := by decide +kernel
theorem dX8_add_62 : decode cX8_add 62 = .ok (.istore 6, 2) := eX8_add_62.1
theorem dX8_add_64 : decode cX8_add 64 = .ok (.aload 5, 2) := eX8_add_62.2.1
theorem dX8_add_66 : decode cX8_add 66 = .ok (.getfield 123, 3) := eX8_add_62.2.2.1
theorem dX8_add_69 : decode cX8_add 69 = .ok (.iload_n 2, 1) := eX8_add_62.2.2.2.1
theorem dX8_add_70 : decode cX8_add 70 = .ok (.iconst 4, 1) := eX8_add_62.2.2.2.2.1
theorem dX8_add_71 : decode cX8_add 71 = .ok (.imul, 1) := eX8_add_62.2.2.2.2.2.1
theorem dX8_add_72 : decode cX8_add 72 = .ok (.iload_n 3, 1) := eX8_add_62.2.2.2.2.2.2.1
theorem dX8_add_73 : decode cX8_add 73 = .ok (.iadd, 1) := eX8_add_62.2.2.2.2.2.2.2
theorem eX8_add_74 : (decode cX8_add 74 = .ok (.iload 4, 2)) ∧ (decode cX8_add 76 = .ok (.iastore, 1)) ∧ (decode cX8_add 77 = .ok (.iload 6, 2)) ∧ (decode cX8_add 79 = .ok (.ireturn, 1)) := by decide +kernel
theorem dX8_add_74 : decode cX8_add 74 = .ok (.iload 4, 2) := eX8_add_74.1
theorem dX8_add_76 : decode cX8_add 76 = .ok (.iastore, 1) := eX8_add_74.2.1
theorem dX8_add_77 : decode cX8_add 77 = .ok (.iload 6, 2) := eX8_add_74.2.2.1
theorem dX8_add_79 : decode cX8_add 79 = .ok (.ireturn, 1) := eX8_add_74.2.2.2
theorem eX8_is_0 : (decode cX8_is 0 = .ok (.aload_n 0, 1)) ∧ (decode cX8_is 1 = .ok (.iload_n 1, 1)) ∧ (decode cX8_is 2 = .ok (.invokevirtual 101, 3)) ∧ (decode cX8_is 5 = .ok (.astore 4, 2)) ∧ (decode cX8_is 7 = .ok (.aload 4, 2)) ∧ (decode cX8_is 9 = .ok (.ifnull 22, 3)) ∧ (decode cX8_is 12 = .ok (.aload 4, 2)) ∧ (decode cX8_is 14 = .ok (.iload_n 2, 1)) := by decide +kernel
theorem dX8_is_0 : decode cX8_is 0 = .ok (.aload_n 0, 1) := eX8_is_0.1
theorem dX8_is_1 : decode cX8_is 1 = .ok (.iload_n 1, 1) := eX8_is_0.2.1
theorem dX8_is_2 : decode cX8_is 2 = .ok (.invokevirtual 101, 3) := eX8_is_0.2.2.1
theorem dX8_is_5 : decode cX8_is 5 = .ok (.astore 4, 2) := eX8_is_0.2.2.2.1
theorem dX8_is_7 : decode cX8_is 7 = .ok (.aload 4, 2) := eX8_is_0.2.2.2.2.1
theorem dX8_is_9 : decode cX8_is 9 = .ok (.ifnull 22, 3) := eX8_is_0.2.2.2.2.2.1
theorem dX8_is_12 : decode cX8_is 12 = .ok (.aload 4, 2) := eX8_is_0.2.2.2.2.2.2.1
theorem dX8_is_14 : decode cX8_is 14 = .ok (.iload_n 2, 1) := eX8_is_0.2.2.2.2.2.2.2
theorem eX8_is_15 : (decode cX8_is 15 = .ok (.invokevirtual 105, 3)) ∧ (decode cX8_is 18 = .ok (.ifCond .eq 13, 3)) ∧ (decode cX8_is 21 = .ok (.iload_n 3, 1)) ∧ (decode cX8_is 22 = .ok (.iconst (-1), 1)) ∧ (decode cX8_is 23 = .ok (.if_icmp .lt 8, 3)) ∧ (decode cX8_is 26 = .ok (.iload_n 3, 1)) ∧ (decode cX8_is 27 = .ok (.iload_n 1, 1)) ∧ (decode cX8_is 28 = .ok (.if_icmp .lt 5, 3)) := by decide +kernel
theorem dX8_is_15 : decode cX8_is 15 = .ok (.invokevirtual 105, 3) := eX8_is_15.1
theorem dX8_is_18 : decode cX8_is 18 = .ok (.ifCond .eq 13, 3) := eX8_is_15.2.1
theorem dX8_is_21 : decode cX8_is 21 = .ok (.iload_n 3, 1) := eX8_is_15.2.2.1
theorem dX8_is_22 : decode cX8_is 22 = .ok (.iconst (-1), 1) := eX8_is_15.2.2.2.1
theorem dX8_is_23 : decode cX8_is 23 = .ok (.if_icmp .lt 8, 3) := eX8_is_15.2.2.2.2.1
theorem dX8_is_26 : decode cX8_is 26 = .ok (.iload_n 3, 1) := eX8_is_15.2.2.2.2.2.1
theorem dX8_is_27 : decode cX8_is 27 = .ok (.iload_n 1, 1) := eX8_is_15.2.2.2.2.2.2.1
theorem dX8_is_28 : decode cX8_is 28 = .ok (.if_icmp .lt 5, 3) := eX8_is_15.2.2.2.2.2.2.2
theorem eX8_is_31 : (decode cX8_is 31 = .ok (.iconst (-1), 1)) ∧ (decode cX8_is 32 = .ok (.ireturn, 1)) ∧ (decode cX8_is 33 = .ok (.aload_n 0, 1)) ∧ (decode cX8_is 34 = .ok (.invokevirtual 116, 3)) ∧ (decode cX8_is 37 = .ok (.aload 4, 2)) ∧ (decode cX8_is 39 = .ok (.getfield 126, 3)) ∧ (decode cX8_is 42 = .ok (.iload_n 2, 1)) ∧ (decode cX8_is 43 = .ok (.iaload, 1)) := by decide +kernel
theorem dX8_is_31 : decode cX8_is 31 = .ok (.iconst (-1), 1) := eX8_is_31.1
theorem dX8_is_32 : decode cX8_is 32 = .ok (.ireturn, 1) := eX8_is_31.2.1
theorem dX8_is_33 : decode cX8_is 33 = .ok (.aload_n 0, 1) := eX8_is_31.2.2.1
theorem dX8_is_34 : decode cX8_is 34 = .ok (.invokevirtual 116, 3) := eX8_is_31.2.2.2.1
theorem dX8_is_37 : decode cX8_is 37 = .ok (.aload 4, 2) := eX8_is_31.2.2.2.2.1
theorem dX8_is_39 : decode cX8_is 39 = .ok (.getfield 126, 3) := eX8_is_31.2.2.2.2.2.1
theorem dX8_is_42 : decode cX8_is 42 = .ok (.iload_n 2, 1) := eX8_is_31.2.2.2.2.2.2.1
theorem dX8_is_43 : decode cX8_is 43 = .ok (.iaload, 1) := eX8_is_31.2.2.2.2.2.2.2
theorem eX8_is_44 : (decode cX8_is 44 = .ok (.istore 5, 2)) ∧ (decode cX8_is 46 = .ok (.aload 4, 2)) ∧ (decode cX8_is 48 = .ok (.getfield 126, 3)) ∧ (decode cX8_is 51 = .ok (.iload_n 2, 1)) ∧ (decode cX8_is 52 = .ok (.iload_n 3, 1)) ∧ (decode cX8_is 53 = .ok (.iastore, 1)) ∧ (decode cX8_is 54 = .ok (.iload 5, 2)) ∧ (decode cX8_is 56 = .ok (.ifCond .ge 8, 3)) := by decide +kernel
theorem dX8_is_44 : decode cX8_is 44 = .ok (.istore 5, 2) := eX8_is_44.1
theorem dX8_is_46 : decode cX8_is 46 = .ok (.aload 4, 2) := eX8_is_44.2.1
theorem dX8_is_48 : decode cX8_is 48 = .ok (.getfield 126, 3) := eX8_is_44.2.2.1
theorem dX8_is_51 : decode cX8_is 51 = .ok (.iload_n 2, 1) := eX8_is_44.2.2.2.1
theorem dX8_is_52 : decode cX8_is 52 = .ok (.iload_n 3, 1) := eX8_is_44.2.2.2.2.1
theorem dX8_is_53 : decode cX8_is 53 = .ok (.iastore, 1) := eX8_is_44.2.2.2.2.2.1
theorem dX8_is_54 : decode cX8_is 54 = .ok (.iload 5, 2) := eX8_is_44.2.2.2.2.2.2.1
theorem dX8_is_56 : decode cX8_is 56 = .ok (.ifCond .ge 8, 3) := eX8_is_44.2.2.2.2.2.2.2
theorem eX8_is_59 : (decode cX8_is 59 = .ok (.bipush (-4), 2)) ∧ (decode cX8_is 61 = .ok (.goto 5, 3)) ∧ (decode cX8_is 64 = .ok (.iload 5, 2)) ∧ (decode cX8_is 66 = .ok (.ireturn, 1)) := by decide +kernel
theorem dX8_is_59 : decode cX8_is 59 = .ok (.bipush (-4), 2) := eX8_is_59.1
theorem dX8_is_61 : decode cX8_is 61 = .ok (.goto 5, 3) := eX8_is_59.2.1
theorem dX8_is_64 : decode cX8_is 64 = .ok (.iload 5, 2) := eX8_is_59.2.2.1
theorem dX8_is_66 : decode cX8_is 66 = .ok (.ireturn, 1) := eX8_is_59.2.2.2
theorem eX8_about_0 : (decode cX8_about 0 = .ok (.aload_n 0, 1)) ∧ (decode cX8_about 1 = .ok (.iload_n 1, 1)) ∧ (decode cX8_about 2 = .ok (.invokevirtual 101, 3)) ∧ (decode cX8_about 5 = .ok (.astore_n 3, 1)) ∧ (decode cX8_about 6 = .ok (.aload_n 3, 1)) ∧ (decode cX8_about 7 = .ok (.ifnonnull 7, 3)) ∧ (decode cX8_about 10 = .ok (.sipush (-1000), 3)) ∧ (decode cX8_about 13 = .ok (.ireturn, 1)) := by decide +kernel
theorem dX8_about_0 : decode cX8_about 0 = .ok (.aload_n 0, 1) := eX8_about_0.1
theorem dX8_about_1 : decode cX8_about 1 = .ok (.iload_n 1, 1) := eX8_about_0.2.1
theorem dX8_about_2 : decode cX8_about 2 = .ok (.invokevirtual 101, 3) := eX8_about_0.2.2.1
theorem dX8_about_5 : decode cX8_about 5 = .ok (.astore_n 3, 1) := eX8_about_0.2.2.2.1
theorem dX8_about_6 : decode cX8_about 6 = .ok (.aload_n 3, 1) := eX8_about_0.2.2.2.2.1
theorem dX8_about_7 : decode cX8_about 7 = .ok (.ifnonnull 7, 3) := eX8_about_0.2.2.2.2.2.1
theorem dX8_about_10 : decode cX8_about 10 = .ok (.sipush (-1000), 3) := eX8_about_0.2.2.2.2.2.2.1
theorem dX8_about_13 : decode cX8_about 13 = .ok (.ireturn, 1) := eX8_about_0.2.2.2.2.2.2.2
theorem eX8_about_14 : (decode cX8_about 14 = .ok (.iload_n 2, 1)) ∧ (decode cX8_about 15 = .ok (.tableswitch 95 0 5 #[37, 42, 47, 52, 65, 82], 37)) ∧ (decode cX8_about 52 = .ok (.aload_n 3, 1)) ∧ (decode cX8_about 53 = .ok (.getfield 109, 3)) ∧ (decode cX8_about 56 = .ok (.ireturn, 1)) ∧ (decode cX8_about 57 = .ok (.aload_n 3, 1)) ∧ (decode cX8_about 58 = .ok (.invokevirtual 129, 3)) ∧ (decode cX8_about 61 = .ok (.ireturn, 1)) := by decide +kernel
theorem dX8_about_14 : decode cX8_about 14 = .ok (.iload_n 2, 1) := eX8_about_14.1
theorem dX8_about_15 : decode cX8_about 15 = .ok (.tableswitch 95 0 5 #[37, 42, 47, 52, 65, 82], 37) := eX8_about_14.2.1
theorem dX8_about_52 : decode cX8_about 52 = .ok (.aload_n 3, 1) := eX8_about_14.2.2.1
theorem dX8_about_53 : decode cX8_about 53 = .ok (.getfield 109, 3) := eX8_about_14.2.2.2.1
theorem dX8_about_56 : decode cX8_about 56 = .ok (.ireturn, 1) := eX8_about_14.2.2.2.2.1
theorem dX8_about_57 : decode cX8_about 57 = .ok (.aload_n 3, 1) := eX8_about_14.2.2.2.2.2.1
theorem dX8_about_58 : decode cX8_about 58 = .ok (.invokevirtual 129, 3) := eX8_about_14.2.2.2.2.2.2.1
theorem dX8_about_61 : decode cX8_about 61 = .ok (.ireturn, 1) := eX8_about_14.2.2.2.2.2.2.2
theorem eX8_about_62 : (decode cX8_about 62 = .ok (.aload_n 3, 1)) ∧ (decode cX8_about 63 = .ok (.getfield 133, 3)) ∧ (decode cX8_about 66 = .ok (.ireturn, 1)) ∧ (decode cX8_about 67 = .ok (.aload_n 3, 1)) ∧ (decode cX8_about 68 = .ok (.invokevirtual 136, 3)) ∧ (decode cX8_about 71 = .ok (.ifCond .eq 7, 3)) ∧ (decode cX8_about 74 = .ok (.iconst 1, 1)) ∧ (decode cX8_about 75 = .ok (.goto 4, 3)) := by decide +kernel
theorem dX8_about_62 : decode cX8_about 62 = .ok (.aload_n 3, 1) := eX8_about_62.1
theorem dX8_about_63 : decode cX8_about 63 = .ok (.getfield 133, 3) := eX8_about_62.2.1
theorem dX8_about_66 : decode cX8_about 66 = .ok (.ireturn, 1) := eX8_about_62.2.2.1
theorem dX8_about_67 : decode cX8_about 67 = .ok (.aload_n 3, 1) := eX8_about_62.2.2.2.1
theorem dX8_about_68 : decode cX8_about 68 = .ok (.invokevirtual 136, 3) := eX8_about_62.2.2.2.2.1
theorem dX8_about_71 : decode cX8_about 71 = .ok (.ifCond .eq 7, 3) := eX8_about_62.2.2.2.2.2.1
theorem dX8_about_74 : decode cX8_about 74 = .ok (.iconst 1, 1) := eX8_about_62.2.2.2.2.2.2.1
theorem dX8_about_75 : decode cX8_about 75 = .ok (.goto 4, 3) := eX8_about_62.2.2.2.2.2.2.2
theorem eX8_about_78 : (decode cX8_about 78 = .ok (.iconst 0, 1)) ∧ (decode cX8_about 79 = .ok (.ireturn, 1)) ∧ (decode cX8_about 80 = .ok (.aload_n 3, 1)) ∧ (decode cX8_about 81 = .ok (.invokevirtual 136, 3)) ∧ (decode cX8_about 84 = .ok (.ifCond .eq 11, 3)) ∧ (decode cX8_about 87 = .ok (.aload_n 3, 1)) ∧ (decode cX8_about 88 = .ok (.iconst 0, 1)) ∧ (decode cX8_about 89 = .ok (.invokevirtual 140, 3)) := by decide +kernel
theorem dX8_about_78 : decode cX8_about 78 = .ok (.iconst 0, 1) := eX8_about_78.1
theorem dX8_about_79 : decode cX8_about 79 = .ok (.ireturn, 1) := eX8_about_78.2.1
theorem dX8_about_80 : decode cX8_about 80 = .ok (.aload_n 3, 1) := eX8_about_78.2.2.1
theorem dX8_about_81 : decode cX8_about 81 = .ok (.invokevirtual 136, 3) := eX8_about_78.2.2.2.1
theorem dX8_about_84 : decode cX8_about 84 = .ok (.ifCond .eq 11, 3) := eX8_about_78.2.2.2.2.1
theorem dX8_about_87 : decode cX8_about 87 = .ok (.aload_n 3, 1) := eX8_about_78.2.2.2.2.2.1
theorem dX8_about_88 : decode cX8_about 88 = .ok (.iconst 0, 1) := eX8_about_78.2.2.2.2.2.2.1
theorem dX8_about_89 : decode cX8_about 89 = .ok (.invokevirtual 140, 3) := eX8_about_78.2.2.2.2.2.2.2
theorem eX8_about_92 : (decode cX8_about 92 = .ok (.goto 4, 3)) ∧ (decode cX8_about 95 = .ok (.iconst 0, 1)) ∧ (decode cX8_about 96 = .ok (.ireturn, 1)) ∧ (decode cX8_about 97 = .ok (.aload_n 3, 1)) ∧ (decode cX8_about 98 = .ok (.invokevirtual 144, 3)) ∧ (decode cX8_about 101 = .ok (.ifCond .eq 7, 3)) ∧ (decode cX8_about 104 = .ok (.iconst 1, 1)) ∧ (decode cX8_about 105 = .ok (.goto 4, 3)) := by decide +kernel
theorem dX8_about_92 : decode cX8_about 92 = .ok (.goto 4, 3) := eX8_about_92.1
theorem dX8_about_95 : decode cX8_about 95 = .ok (.iconst 0, 1) := eX8_about_92.2.1
theorem dX8_about_96 : decode cX8_about 96 = .ok (.ireturn, 1) := eX8_about_92.2.2.1
theorem dX8_about_97 : decode cX8_about 97 = .ok (.aload_n 3, 1) := eX8_about_92.2.2.2.1
theorem dX8_about_98 : decode cX8_about 98 = .ok (.invokevirtual 144, 3) := eX8_about_92.2.2.2.2.1
theorem dX8_about_101 : decode cX8_about 101 = .ok (.ifCond .eq 7, 3) := eX8_about_92.2.2.2.2.2.1
theorem dX8_about_104 : decode cX8_about 104 = .ok (.iconst 1, 1) := eX8_about_92.2.2.2.2.2.2.1
theorem dX8_about_105 : decode cX8_about 105 = .ok (.goto 4, 3) := eX8_about_92.2.2.2.2.2.2.2
theorem eX8_about_108 : (decode cX8_about 108 = .ok (.iconst 0, 1)) ∧ (decode cX8_about 109 = .ok (.ireturn, 1)) ∧ (decode cX8_about 110 = .ok (.iload_n 2, 1)) ∧ (decode cX8_about 111 = .ok (.bipush 6, 2)) ∧ (decode cX8_about 113 = .ok (.if_icmp .lt 26, 3)) ∧ (decode cX8_about 116 = .ok (.iload_n 2, 1)) ∧ (decode cX8_about 117 = .ok (.bipush 6, 2)) ∧ (decode cX8_about 119 = .ok (.aload_n 3, 1)) := by decide +kernel
theorem dX8_about_108 : decode cX8_about 108 = .ok (.iconst 0, 1) := eX8_about_108.1
theorem dX8_about_109 : decode cX8_about 109 = .ok (.ireturn, 1) := eX8_about_108.2.1
theorem dX8_about_110 : decode cX8_about 110 = .ok (.iload_n 2, 1) := eX8_about_108.2.2.1
theorem dX8_about_111 : decode cX8_about 111 = .ok (.bipush 6, 2) := eX8_about_108.2.2.2.1
theorem dX8_about_113 : decode cX8_about 113 = .ok (.if_icmp .lt 26, 3) := eX8_about_108.2.2.2.2.1
theorem dX8_about_116 : decode cX8_about 116 = .ok (.iload_n 2, 1) := eX8_about_108.2.2.2.2.2.1
theorem dX8_about_117 : decode cX8_about 117 = .ok (.bipush 6, 2) := eX8_about_108.2.2.2.2.2.2.1
theorem dX8_about_119 : decode cX8_about 119 = .ok (.aload_n 3, 1) := eX8_about_108.2.2.2.2.2.2.2
theorem eX8_about_120 : (decode cX8_about 120 = .ok (.getfield 109, 3)) ∧ (decode cX8_about 123 = .ok (.iadd, 1)) ∧ (decode cX8_about 124 = .ok (.if_icmp .ge 15, 3)) ∧ (decode cX8_about 127 = .ok (.aload_n 3, 1)) ∧ (decode cX8_about 128 = .ok (.getfield 119, 3)) ∧ (decode cX8_about 131 = .ok (.iload_n 2, 1)) ∧ (decode cX8_about 132 = .ok (.bipush 6, 2)) ∧ (decode cX8_about 134 = .ok (.isub, 1)) := by decide +kernel
theorem dX8_about_120 : decode cX8_about 120 = .ok (.getfield 109, 3) := eX8_about_120.1
theorem dX8_about_123 : decode cX8_about 123 = .ok (.iadd, 1) := eX8_about_120.2.1
theorem dX8_about_124 : decode cX8_about 124 = .ok (.if_icmp .ge 15, 3) := eX8_about_120.2.2.1
theorem dX8_about_127 : decode cX8_about 127 = .ok (.aload_n 3, 1) := eX8_about_120.2.2.2.1
theorem dX8_about_128 : decode cX8_about 128 = .ok (.getfield 119, 3) := eX8_about_120.2.2.2.2.1
theorem dX8_about_131 : decode cX8_about 131 = .ok (.iload_n 2, 1) := eX8_about_120.2.2.2.2.2.1
theorem dX8_about_132 : decode cX8_about 132 = .ok (.bipush 6, 2) := eX8_about_120.2.2.2.2.2.2.1
theorem dX8_about_134 : decode cX8_about 134 = .ok (.isub, 1) := eX8_about_120.2.2.2.2.2.2.2
theorem eX8_about_135 : (decode cX8_about 135 = .ok (.iaload, 1)) ∧ (decode cX8_about 136 = .ok (.goto 6, 3)) ∧ (decode cX8_about 139 = .ok (.sipush (-1000), 3)) ∧ (decode cX8_about 142 = .ok (.ireturn, 1)) := by decide +kernel
theorem dX8_about_135 : decode cX8_about 135 = .ok (.iaload, 1) := eX8_about_135.1
theorem dX8_about_136 : decode cX8_about 136 = .ok (.goto 6, 3) := eX8_about_135.2.1
theorem dX8_about_139 : decode cX8_about 139 = .ok (.sipush (-1000), 3) := eX8_about_135.2.2.1
theorem dX8_about_142 : decode cX8_about 142 = .ok (.ireturn, 1) := eX8_about_135.2.2.2
theorem eX8_added_0 : (decode cX8_added 0 = .ok (.aload_n 0, 1)) ∧ (decode cX8_added 1 = .ok (.iload_n 1, 1)) ∧ (decode cX8_added 2 = .ok (.invokevirtual 101, 3)) ∧ (decode cX8_added 5 = .ok (.astore 4, 2)) ∧ (decode cX8_added 7 = .ok (.aload 4, 2)) ∧ (decode cX8_added 9 = .ok (.ifnull 21, 3)) ∧ (decode cX8_added 12 = .ok (.aload 4, 2)) ∧ (decode cX8_added 14 = .ok (.iload_n 2, 1)) := by decide +kernel
theorem dX8_added_0 : decode cX8_added 0 = .ok (.aload_n 0, 1) := eX8_added_0.1
theorem dX8_added_1 : decode cX8_added 1 = .ok (.iload_n 1, 1) := eX8_added_0.2.1
theorem dX8_added_2 : decode cX8_added 2 = .ok (.invokevirtual 101, 3) := eX8_added_0.2.2.1
theorem dX8_added_5 : decode cX8_added 5 = .ok (.astore 4, 2) := eX8_added_0.2.2.2.1
theorem dX8_added_7 : decode cX8_added 7 = .ok (.aload 4, 2) := eX8_added_0.2.2.2.2.1
theorem dX8_added_9 : decode cX8_added 9 = .ok (.ifnull 21, 3) := eX8_added_0.2.2.2.2.2.1
theorem dX8_added_12 : decode cX8_added 12 = .ok (.aload 4, 2) := eX8_added_0.2.2.2.2.2.2.1
theorem dX8_added_14 : decode cX8_added 14 = .ok (.iload_n 2, 1) := eX8_added_0.2.2.2.2.2.2.2
theorem eX8_added_15 : (decode cX8_added 15 = .ok (.invokevirtual 105, 3)) ∧ (decode cX8_added 18 = .ok (.ifCond .eq 12, 3)) ∧ (decode cX8_added 21 = .ok (.aload 4, 2)) ∧ (decode cX8_added 23 = .ok (.iload_n 3, 1)) ∧ (decode cX8_added 24 = .ok (.invokevirtual 105, 3)) ∧ (decode cX8_added 27 = .ok (.ifCond .ne 6, 3)) ∧ (decode cX8_added 30 = .ok (.bipush (-100), 2)) ∧ (decode cX8_added 32 = .ok (.ireturn, 1)) := by decide +kernel
theorem dX8_added_15 : decode cX8_added 15 = .ok (.invokevirtual 105, 3) := eX8_added_15.1
theorem dX8_added_18 : decode cX8_added 18 = .ok (.ifCond .eq 12, 3) := eX8_added_15.2.1
theorem dX8_added_21 : decode cX8_added 21 = .ok (.aload 4, 2) := eX8_added_15.2.2.1
theorem dX8_added_23 : decode cX8_added 23 = .ok (.iload_n 3, 1) := eX8_added_15.2.2.2.1
theorem dX8_added_24 : decode cX8_added 24 = .ok (.invokevirtual 105, 3) := eX8_added_15.2.2.2.2.1
theorem dX8_added_27 : decode cX8_added 27 = .ok (.ifCond .ne 6, 3) := eX8_added_15.2.2.2.2.2.1
theorem dX8_added_30 : decode cX8_added 30 = .ok (.bipush (-100), 2) := eX8_added_15.2.2.2.2.2.2.1
theorem dX8_added_32 : decode cX8_added 32 = .ok (.ireturn, 1) := eX8_added_15.2.2.2.2.2.2.2
theorem eX8_added_33 : (decode cX8_added 33 = .ok (.aload 4, 2)) ∧ (decode cX8_added 35 = .ok (.getfield 123, 3)) ∧ (decode cX8_added 38 = .ok (.iload_n 2, 1)) ∧ (decode cX8_added 39 = .ok (.iconst 4, 1)) ∧ (decode cX8_added 40 = .ok (.imul, 1)) ∧ (decode cX8_added 41 = .ok (.iload_n 3, 1)) ∧ (decode cX8_added 42 = .ok (.iadd, 1)) ∧ (decode cX8_added 43 = .ok (.iaload, 1)) := by decide +kernel
theorem dX8_added_33 : decode cX8_added 33 = .ok (.aload 4, 2) := eX8_added_33.1
theorem dX8_added_35 : decode cX8_added 35 = .ok (.getfield 123, 3) := eX8_added_33.2.1
theorem dX8_added_38 : decode cX8_added 38 = .ok (.iload_n 2, 1) := eX8_added_33.2.2.1
theorem dX8_added_39 : decode cX8_added 39 = .ok (.iconst 4, 1) := eX8_added_33.2.2.2.1
theorem dX8_added_40 : decode cX8_added 40 = .ok (.imul, 1) := eX8_added_33.2.2.2.2.1
theorem dX8_added_41 : decode cX8_added 41 = .ok (.iload_n 3, 1) := eX8_added_33.2.2.2.2.2.1
theorem dX8_added_42 : decode cX8_added 42 = .ok (.iadd, 1) := eX8_added_33.2.2.2.2.2.2.1
theorem dX8_added_43 : decode cX8_added 43 = .ok (.iaload, 1) := eX8_added_33.2.2.2.2.2.2.2
theorem dX8_added_44 : decode cX8_added 44 = .ok (.ireturn, 1) := by decide +kernel
theorem eX8_draw_0 : (decode cX8_draw 0 = .ok (.aload_n 0, 1)) ∧ (decode cX8_draw 1 = .ok (.iload_n 1, 1)) ∧ (decode cX8_draw 2 = .ok (.invokevirtual 101, 3)) ∧ (decode cX8_draw 5 = .ok (.astore_n 3, 1)) ∧ (decode cX8_draw 6 = .ok (.aload_n 3, 1)) ∧ (decode cX8_draw 7 = .ok (.ifnull 11, 3)) ∧ (decode cX8_draw 10 = .ok (.aload_n 3, 1)) ∧ (decode cX8_draw 11 = .ok (.iload_n 2, 1)) := by decide +kernel
theorem dX8_draw_0 : decode cX8_draw 0 = .ok (.aload_n 0, 1) := eX8_draw_0.1
theorem dX8_draw_1 : decode cX8_draw 1 = .ok (.iload_n 1, 1) := eX8_draw_0.2.1
theorem dX8_draw_2 : decode cX8_draw 2 = .ok (.invokevirtual 101, 3) := eX8_draw_0.2.2.1
theorem dX8_draw_5 : decode cX8_draw 5 = .ok (.astore_n 3, 1) := eX8_draw_0.2.2.2.1
theorem dX8_draw_6 : decode cX8_draw 6 = .ok (.aload_n 3, 1) := eX8_draw_0.2.2.2.2.1
theorem dX8_draw_7 : decode cX8_draw 7 = .ok (.ifnull 11, 3) := eX8_draw_0.2.2.2.2.2.1
theorem dX8_draw_10 : decode cX8_draw 10 = .ok (.aload_n 3, 1) := eX8_draw_0.2.2.2.2.2.2.1
theorem dX8_draw_11 : decode cX8_draw 11 = .ok (.iload_n 2, 1) := eX8_draw_0.2.2.2.2.2.2.2
theorem eX8_draw_12 : (decode cX8_draw 12 = .ok (.invokevirtual 105, 3)) ∧ (decode cX8_draw 15 = .ok (.ifCond .ne 5, 3)) ∧ (decode cX8_draw 18 = .ok (.iconst (-1), 1)) ∧ (decode cX8_draw 19 = .ok (.ireturn, 1)) ∧ (decode cX8_draw 20 = .ok (.aload_n 3, 1)) ∧ (decode cX8_draw 21 = .ok (.aload_n 3, 1)) ∧ (decode cX8_draw 22 = .ok (.getfield 119, 3)) ∧ (decode cX8_draw 25 = .ok (.iload_n 2, 1)) := by decide +kernel
theorem dX8_draw_12 : decode cX8_draw 12 = .ok (.invokevirtual 105, 3) := eX8_draw_12.1
theorem dX8_draw_15 : decode cX8_draw 15 = .ok (.ifCond .ne 5, 3) := eX8_draw_12.2.1
theorem dX8_draw_18 : decode cX8_draw 18 = .ok (.iconst (-1), 1) := eX8_draw_12.2.2.1
theorem dX8_draw_19 : decode cX8_draw 19 = .ok (.ireturn, 1) := eX8_draw_12.2.2.2.1
theorem dX8_draw_20 : decode cX8_draw 20 = .ok (.aload_n 3, 1) := eX8_draw_12.2.2.2.2.1
theorem dX8_draw_21 : decode cX8_draw 21 = .ok (.aload_n 3, 1) := eX8_draw_12.2.2.2.2.2.1
theorem dX8_draw_22 : decode cX8_draw 22 = .ok (.getfield 119, 3) := eX8_draw_12.2.2.2.2.2.2.1
theorem dX8_draw_25 : decode cX8_draw 25 = .ok (.iload_n 2, 1) := eX8_draw_12.2.2.2.2.2.2.2
theorem eX8_draw_26 : (decode cX8_draw 26 = .ok (.invokevirtual 147, 3)) ∧ (decode cX8_draw 29 = .ok (.ifCond .ne 6, 3)) ∧ (decode cX8_draw 32 = .ok (.bipush (-5), 2)) ∧ (decode cX8_draw 34 = .ok (.ireturn, 1)) ∧ (decode cX8_draw 35 = .ok (.aload_n 0, 1)) ∧ (decode cX8_draw 36 = .ok (.invokevirtual 116, 3)) ∧ (decode cX8_draw 39 = .ok (.aload_n 3, 1)) ∧ (decode cX8_draw 40 = .ok (.iload_n 2, 1)) := by decide +kernel
theorem dX8_draw_26 : decode cX8_draw 26 = .ok (.invokevirtual 147, 3) := eX8_draw_26.1
theorem dX8_draw_29 : decode cX8_draw 29 = .ok (.ifCond .ne 6, 3) := eX8_draw_26.2.1
theorem dX8_draw_32 : decode cX8_draw 32 = .ok (.bipush (-5), 2) := eX8_draw_26.2.2.1
theorem dX8_draw_34 : decode cX8_draw 34 = .ok (.ireturn, 1) := eX8_draw_26.2.2.2.1
theorem dX8_draw_35 : decode cX8_draw 35 = .ok (.aload_n 0, 1) := eX8_draw_26.2.2.2.2.1
theorem dX8_draw_36 : decode cX8_draw 36 = .ok (.invokevirtual 116, 3) := eX8_draw_26.2.2.2.2.2.1
theorem dX8_draw_39 : decode cX8_draw 39 = .ok (.aload_n 3, 1) := eX8_draw_26.2.2.2.2.2.2.1
theorem dX8_draw_40 : decode cX8_draw 40 = .ok (.iload_n 2, 1) := eX8_draw_26.2.2.2.2.2.2.2
theorem eX8_draw_41 : (decode cX8_draw 41 = .ok (.invokevirtual 151, 3)) ∧ (decode cX8_draw 44 = .ok (.aload_n 3, 1)) ∧ (decode cX8_draw 45 = .ok (.invokevirtual 129, 3)) ∧ (decode cX8_draw 48 = .ok (.ireturn, 1)) := by decide +kernel
theorem dX8_draw_41 : decode cX8_draw 41 = .ok (.invokevirtual 151, 3) := eX8_draw_41.1
theorem dX8_draw_44 : decode cX8_draw 44 = .ok (.aload_n 3, 1) := eX8_draw_41.2.1
theorem dX8_draw_45 : decode cX8_draw 45 = .ok (.invokevirtual 129, 3) := eX8_draw_41.2.2.1
theorem dX8_draw_48 : decode cX8_draw 48 = .ok (.ireturn, 1) := eX8_draw_41.2.2.2
theorem eX8_seed_0 : (decode cX8_seed 0 = .ok (.iload_n 1, 1)) ∧ (decode cX8_seed 1 = .ok (.iconst 1, 1)) ∧ (decode cX8_seed 2 = .ok (.if_icmp .lt 9, 3)) ∧ (decode cX8_seed 5 = .ok (.iload_n 1, 1)) ∧ (decode cX8_seed 6 = .ok (.ldc 155, 2)) ∧ (decode cX8_seed 8 = .ok (.if_icmp .le 5, 3)) ∧ (decode cX8_seed 11 = .ok (.iconst (-1), 1)) ∧ (decode cX8_seed 12 = .ok (.ireturn, 1)) := by decide +kernel
theorem dX8_seed_0 : decode cX8_seed 0 = .ok (.iload_n 1, 1) := eX8_seed_0.1
theorem dX8_seed_1 : decode cX8_seed 1 = .ok (.iconst 1, 1) := eX8_seed_0.2.1
theorem dX8_seed_2 : decode cX8_seed 2 = .ok (.if_icmp .lt 9, 3) := eX8_seed_0.2.2.1
theorem dX8_seed_5 : decode cX8_seed 5 = .ok (.iload_n 1, 1) := eX8_seed_0.2.2.2.1
theorem dX8_seed_6 : decode cX8_seed 6 = .ok (.ldc 155, 2) := eX8_seed_0.2.2.2.2.1
theorem dX8_seed_8 : decode cX8_seed 8 = .ok (.if_icmp .le 5, 3) := eX8_seed_0.2.2.2.2.2.1
theorem dX8_seed_11 : decode cX8_seed 11 = .ok (.iconst (-1), 1) := eX8_seed_0.2.2.2.2.2.2.1
theorem dX8_seed_12 : decode cX8_seed 12 = .ok (.ireturn, 1) := eX8_seed_0.2.2.2.2.2.2.2
theorem eX8_seed_13 : (decode cX8_seed 13 = .ok (.aload_n 0, 1)) ∧ (decode cX8_seed 14 = .ok (.iload_n 1, 1)) ∧ (decode cX8_seed 15 = .ok (.putfield 67, 3)) ∧ (decode cX8_seed 18 = .ok (.iconst 0, 1)) ∧ (decode cX8_seed 19 = .ok (.ireturn, 1)) := by decide +kernel
theorem dX8_seed_13 : decode cX8_seed 13 = .ok (.aload_n 0, 1) := eX8_seed_13.1
theorem dX8_seed_14 : decode cX8_seed 14 = .ok (.iload_n 1, 1) := eX8_seed_13.2.1
theorem dX8_seed_15 : decode cX8_seed 15 = .ok (.putfield 67, 3) := eX8_seed_13.2.2.1
theorem dX8_seed_18 : decode cX8_seed 18 = .ok (.iconst 0, 1) := eX8_seed_13.2.2.2.1
theorem dX8_seed_19 : decode cX8_seed 19 = .ok (.ireturn, 1) := eX8_seed_13.2.2.2.2
theorem eX8_drawn_0 : (decode cX8_drawn 0 = .ok (.aload_n 0, 1)) ∧ (decode cX8_drawn 1 = .ok (.iload_n 1, 1)) ∧ (decode cX8_drawn 2 = .ok (.invokevirtual 101, 3)) ∧ (decode cX8_drawn 5 = .ok (.ifnonnull 5, 3)) ∧ (decode cX8_drawn 8 = .ok (.iconst (-1), 1)) ∧ (decode cX8_drawn 9 = .ok (.ireturn, 1)) ∧ (decode cX8_drawn 10 = .ok (.aload_n 0, 1)) ∧ (decode cX8_drawn 11 = .ok (.iload_n 1, 1)) := by decide +kernel
theorem dX8_drawn_0 : decode cX8_drawn 0 = .ok (.aload_n 0, 1) := eX8_drawn_0.1
theorem dX8_drawn_1 : decode cX8_drawn 1 = .ok (.iload_n 1, 1) := eX8_drawn_0.2.1
theorem dX8_drawn_2 : decode cX8_drawn 2 = .ok (.invokevirtual 101, 3) := eX8_drawn_0.2.2.1
theorem dX8_drawn_5 : decode cX8_drawn 5 = .ok (.ifnonnull 5, 3) := eX8_drawn_0.2.2.2.1
theorem dX8_drawn_8 : decode cX8_drawn 8 = .ok (.iconst (-1), 1) := eX8_drawn_0.2.2.2.2.1
theorem dX8_drawn_9 : decode cX8_drawn 9 = .ok (.ireturn, 1) := eX8_drawn_0.2.2.2.2.2.1
theorem dX8_drawn_10 : decode cX8_drawn 10 = .ok (.aload_n 0, 1) := eX8_drawn_0.2.2.2.2.2.2.1
theorem dX8_drawn_11 : decode cX8_drawn 11 = .ok (.iload_n 1, 1) := eX8_drawn_0.2.2.2.2.2.2.2
theorem eX8_drawn_12 : (decode cX8_drawn 12 = .ok (.invokevirtual 156, 3)) ∧ (decode cX8_drawn 15 = .ok (.ifCond .ne 6, 3)) ∧ (decode cX8_drawn 18 = .ok (.bipush (-5), 2)) ∧ (decode cX8_drawn 20 = .ok (.ireturn, 1)) ∧ (decode cX8_drawn 21 = .ok (.aload_n 0, 1)) ∧ (decode cX8_drawn 22 = .ok (.invokevirtual 116, 3)) ∧ (decode cX8_drawn 25 = .ok (.aload_n 0, 1)) ∧ (decode cX8_drawn 26 = .ok (.invokevirtual 159, 3)) := by decide +kernel
theorem dX8_drawn_12 : decode cX8_drawn 12 = .ok (.invokevirtual 156, 3) := eX8_drawn_12.1
theorem dX8_drawn_15 : decode cX8_drawn 15 = .ok (.ifCond .ne 6, 3) := eX8_drawn_12.2.1
theorem dX8_drawn_18 : decode cX8_drawn 18 = .ok (.bipush (-5), 2) := eX8_drawn_12.2.2.1
theorem dX8_drawn_20 : decode cX8_drawn 20 = .ok (.ireturn, 1) := eX8_drawn_12.2.2.2.1
theorem dX8_drawn_21 : decode cX8_drawn 21 = .ok (.aload_n 0, 1) := eX8_drawn_12.2.2.2.2.1
theorem dX8_drawn_22 : decode cX8_drawn 22 = .ok (.invokevirtual 116, 3) := eX8_drawn_12.2.2.2.2.2.1
theorem dX8_drawn_25 : decode cX8_drawn 25 = .ok (.aload_n 0, 1) := eX8_drawn_12.2.2.2.2.2.2.1
theorem dX8_drawn_26 : decode cX8_drawn 26 = .ok (.invokevirtual 159, 3) := eX8_drawn_12.2.2.2.2.2.2.2
theorem eX8_drawn_29 : (decode cX8_drawn 29 = .ok (.iconst 1, 1)) ∧ (decode cX8_drawn 30 = .ok (.istore_n 2, 1)) ∧ (decode cX8_drawn 31 = .ok (.iconst 0, 1)) ∧ (decode cX8_drawn 32 = .ok (.istore_n 3, 1)) ∧ (decode cX8_drawn 33 = .ok (.iload_n 3, 1)) ∧ (decode cX8_drawn 34 = .ok (.aload_n 0, 1)) ∧ (decode cX8_drawn 35 = .ok (.getfield 31, 3)) ∧ (decode cX8_drawn 38 = .ok (.getfield 162, 3)) := by decide +kernel
theorem dX8_drawn_29 : decode cX8_drawn 29 = .ok (.iconst 1, 1) := eX8_drawn_29.1
theorem dX8_drawn_30 : decode cX8_drawn 30 = .ok (.istore_n 2, 1) := eX8_drawn_29.2.1
theorem dX8_drawn_31 : decode cX8_drawn 31 = .ok (.iconst 0, 1) := eX8_drawn_29.2.2.1
theorem dX8_drawn_32 : decode cX8_drawn 32 = .ok (.istore_n 3, 1) := eX8_drawn_29.2.2.2.1
theorem dX8_drawn_33 : decode cX8_drawn 33 = .ok (.iload_n 3, 1) := eX8_drawn_29.2.2.2.2.1
theorem dX8_drawn_34 : decode cX8_drawn 34 = .ok (.aload_n 0, 1) := eX8_drawn_29.2.2.2.2.2.1
theorem dX8_drawn_35 : decode cX8_drawn 35 = .ok (.getfield 31, 3) := eX8_drawn_29.2.2.2.2.2.2.1
theorem dX8_drawn_38 : decode cX8_drawn 38 = .ok (.getfield 162, 3) := eX8_drawn_29.2.2.2.2.2.2.2
theorem eX8_drawn_41 : (decode cX8_drawn 41 = .ok (.if_icmp .ge 24, 3)) ∧ (decode cX8_drawn 44 = .ok (.iload_n 2, 1)) ∧ (decode cX8_drawn 45 = .ok (.bipush 10, 2)) ∧ (decode cX8_drawn 47 = .ok (.imul, 1)) ∧ (decode cX8_drawn 48 = .ok (.aload_n 0, 1)) ∧ (decode cX8_drawn 49 = .ok (.getfield 31, 3)) ∧ (decode cX8_drawn 52 = .ok (.getfield 165, 3)) ∧ (decode cX8_drawn 55 = .ok (.iload_n 3, 1)) := by decide +kernel
theorem dX8_drawn_41 : decode cX8_drawn 41 = .ok (.if_icmp .ge 24, 3) := eX8_drawn_41.1
theorem dX8_drawn_44 : decode cX8_drawn 44 = .ok (.iload_n 2, 1) := eX8_drawn_41.2.1
theorem dX8_drawn_45 : decode cX8_drawn 45 = .ok (.bipush 10, 2) := eX8_drawn_41.2.2.1
theorem dX8_drawn_47 : decode cX8_drawn 47 = .ok (.imul, 1) := eX8_drawn_41.2.2.2.1
theorem dX8_drawn_48 : decode cX8_drawn 48 = .ok (.aload_n 0, 1) := eX8_drawn_41.2.2.2.2.1
theorem dX8_drawn_49 : decode cX8_drawn 49 = .ok (.getfield 31, 3) := eX8_drawn_41.2.2.2.2.2.1
theorem dX8_drawn_52 : decode cX8_drawn 52 = .ok (.getfield 165, 3) := eX8_drawn_41.2.2.2.2.2.2.1
theorem dX8_drawn_55 : decode cX8_drawn 55 = .ok (.iload_n 3, 1) := eX8_drawn_41.2.2.2.2.2.2.2
theorem eX8_drawn_56 : (decode cX8_drawn 56 = .ok (.iaload, 1)) ∧ (decode cX8_drawn 57 = .ok (.iadd, 1)) ∧ (decode cX8_drawn 58 = .ok (.istore_n 2, 1)) ∧ (decode cX8_drawn 59 = .ok (.iinc 3 1, 3)) ∧ (decode cX8_drawn 62 = .ok (.goto (-29), 3)) ∧ (decode cX8_drawn 65 = .ok (.iload_n 2, 1)) ∧ (decode cX8_drawn 66 = .ok (.ireturn, 1)) := by decide +kernel
theorem dX8_drawn_56 : decode cX8_drawn 56 = .ok (.iaload, 1) := eX8_drawn_56.1
theorem dX8_drawn_57 : decode cX8_drawn 57 = .ok (.iadd, 1) := eX8_drawn_56.2.1
theorem dX8_drawn_58 : decode cX8_drawn 58 = .ok (.istore_n 2, 1) := eX8_drawn_56.2.2.1
theorem dX8_drawn_59 : decode cX8_drawn 59 = .ok (.iinc 3 1, 3) := eX8_drawn_56.2.2.2.1
theorem dX8_drawn_62 : decode cX8_drawn 62 = .ok (.goto (-29), 3) := eX8_drawn_56.2.2.2.2.1
theorem dX8_drawn_65 : decode cX8_drawn 65 = .ok (.iload_n 2, 1) := eX8_drawn_56.2.2.2.2.2.1
theorem dX8_drawn_66 : decode cX8_drawn 66 = .ok (.ireturn, 1) := eX8_drawn_56.2.2.2.2.2.2
theorem eX8_shake_0 : (decode cX8_shake 0 = .ok (.aload_n 0, 1)) ∧ (decode cX8_shake 1 = .ok (.iload_n 1, 1)) ∧ (decode cX8_shake 2 = .ok (.invokevirtual 101, 3)) ∧ (decode cX8_shake 5 = .ok (.ifnull 14, 3)) ∧ (decode cX8_shake 8 = .ok (.iload_n 2, 1)) ∧ (decode cX8_shake 9 = .ok (.iconst 1, 1)) ∧ (decode cX8_shake 10 = .ok (.if_icmp .lt 9, 3)) ∧ (decode cX8_shake 13 = .ok (.iload_n 2, 1)) := by decide +kernel
theorem dX8_shake_0 : decode cX8_shake 0 = .ok (.aload_n 0, 1) := eX8_shake_0.1
theorem dX8_shake_1 : decode cX8_shake 1 = .ok (.iload_n 1, 1) := eX8_shake_0.2.1
theorem dX8_shake_2 : decode cX8_shake 2 = .ok (.invokevirtual 101, 3) := eX8_shake_0.2.2.1
theorem dX8_shake_5 : decode cX8_shake 5 = .ok (.ifnull 14, 3) := eX8_shake_0.2.2.2.1
theorem dX8_shake_8 : decode cX8_shake 8 = .ok (.iload_n 2, 1) := eX8_shake_0.2.2.2.2.1
theorem dX8_shake_9 : decode cX8_shake 9 = .ok (.iconst 1, 1) := eX8_shake_0.2.2.2.2.2.1
theorem dX8_shake_10 : decode cX8_shake 10 = .ok (.if_icmp .lt 9, 3) := eX8_shake_0.2.2.2.2.2.2.1
theorem dX8_shake_13 : decode cX8_shake 13 = .ok (.iload_n 2, 1) := eX8_shake_0.2.2.2.2.2.2.2
theorem eX8_shake_14 : (decode cX8_shake 14 = .ok (.bipush 50, 2)) ∧ (decode cX8_shake 16 = .ok (.if_icmp .le 5, 3)) ∧ (decode cX8_shake 19 = .ok (.iconst (-1), 1)) ∧ (decode cX8_shake 20 = .ok (.ireturn, 1)) ∧ (decode cX8_shake 21 = .ok (.iconst 0, 1)) ∧ (decode cX8_shake 22 = .ok (.istore_n 3, 1)) ∧ (decode cX8_shake 23 = .ok (.iload_n 3, 1)) ∧ (decode cX8_shake 24 = .ok (.iload_n 2, 1)) := by decide +kernel
theorem dX8_shake_14 : decode cX8_shake 14 = .ok (.bipush 50, 2) := eX8_shake_14.1
theorem dX8_shake_16 : decode cX8_shake 16 = .ok (.if_icmp .le 5, 3) := eX8_shake_14.2.1
theorem dX8_shake_19 : decode cX8_shake 19 = .ok (.iconst (-1), 1) := eX8_shake_14.2.2.1
theorem dX8_shake_20 : decode cX8_shake 20 = .ok (.ireturn, 1) := eX8_shake_14.2.2.2.1
theorem dX8_shake_21 : decode cX8_shake 21 = .ok (.iconst 0, 1) := eX8_shake_14.2.2.2.2.1
theorem dX8_shake_22 : decode cX8_shake 22 = .ok (.istore_n 3, 1) := eX8_shake_14.2.2.2.2.2.1
theorem dX8_shake_23 : decode cX8_shake 23 = .ok (.iload_n 3, 1) := eX8_shake_14.2.2.2.2.2.2.1
theorem dX8_shake_24 : decode cX8_shake 24 = .ok (.iload_n 2, 1) := eX8_shake_14.2.2.2.2.2.2.2
theorem eX8_shake_25 : (decode cX8_shake 25 = .ok (.if_icmp .ge 29, 3)) ∧ (decode cX8_shake 28 = .ok (.aload_n 0, 1)) ∧ (decode cX8_shake 29 = .ok (.iload_n 1, 1)) ∧ (decode cX8_shake 30 = .ok (.invokevirtual 156, 3)) ∧ (decode cX8_shake 33 = .ok (.ifCond .eq 21, 3)) ∧ (decode cX8_shake 36 = .ok (.iload_n 3, 1)) ∧ (decode cX8_shake 37 = .ok (.ifCond .ne 7, 3)) ∧ (decode cX8_shake 40 = .ok (.aload_n 0, 1)) := by decide +kernel
theorem dX8_shake_25 : decode cX8_shake 25 = .ok (.if_icmp .ge 29, 3) := eX8_shake_25.1
theorem dX8_shake_28 : decode cX8_shake 28 = .ok (.aload_n 0, 1) := eX8_shake_25.2.1
theorem dX8_shake_29 : decode cX8_shake 29 = .ok (.iload_n 1, 1) := eX8_shake_25.2.2.1
theorem dX8_shake_30 : decode cX8_shake 30 = .ok (.invokevirtual 156, 3) := eX8_shake_25.2.2.2.1
theorem dX8_shake_33 : decode cX8_shake 33 = .ok (.ifCond .eq 21, 3) := eX8_shake_25.2.2.2.2.1
theorem dX8_shake_36 : decode cX8_shake 36 = .ok (.iload_n 3, 1) := eX8_shake_25.2.2.2.2.2.1
theorem dX8_shake_37 : decode cX8_shake 37 = .ok (.ifCond .ne 7, 3) := eX8_shake_25.2.2.2.2.2.2.1
theorem dX8_shake_40 : decode cX8_shake 40 = .ok (.aload_n 0, 1) := eX8_shake_25.2.2.2.2.2.2.2
theorem eX8_shake_41 : (decode cX8_shake 41 = .ok (.invokevirtual 116, 3)) ∧ (decode cX8_shake 44 = .ok (.aload_n 0, 1)) ∧ (decode cX8_shake 45 = .ok (.invokevirtual 159, 3)) ∧ (decode cX8_shake 48 = .ok (.iinc 3 1, 3)) ∧ (decode cX8_shake 51 = .ok (.goto (-28), 3)) ∧ (decode cX8_shake 54 = .ok (.iload_n 3, 1)) ∧ (decode cX8_shake 55 = .ok (.ireturn, 1)) := by decide +kernel
theorem dX8_shake_41 : decode cX8_shake 41 = .ok (.invokevirtual 116, 3) := eX8_shake_41.1
theorem dX8_shake_44 : decode cX8_shake 44 = .ok (.aload_n 0, 1) := eX8_shake_41.2.1
theorem dX8_shake_45 : decode cX8_shake 45 = .ok (.invokevirtual 159, 3) := eX8_shake_41.2.2.1
theorem dX8_shake_48 : decode cX8_shake 48 = .ok (.iinc 3 1, 3) := eX8_shake_41.2.2.2.1
theorem dX8_shake_51 : decode cX8_shake 51 = .ok (.goto (-28), 3) := eX8_shake_41.2.2.2.2.1
theorem dX8_shake_54 : decode cX8_shake 54 = .ok (.iload_n 3, 1) := eX8_shake_41.2.2.2.2.2.1
theorem dX8_shake_55 : decode cX8_shake 55 = .ok (.ireturn, 1) := eX8_shake_41.2.2.2.2.2.2
theorem eX8_undo_0 : (decode cX8_undo 0 = .ok (.aload_n 0, 1)) ∧ (decode cX8_undo 1 = .ok (.getfield 24, 3)) ∧ (decode cX8_undo 4 = .ok (.invokevirtual 167, 3)) ∧ (decode cX8_undo 7 = .ok (.astore_n 1, 1)) ∧ (decode cX8_undo 8 = .ok (.aload_n 1, 1)) ∧ (decode cX8_undo 9 = .ok (.ifnonnull 6, 3)) ∧ (decode cX8_undo 12 = .ok (.bipush (-2), 2)) ∧ (decode cX8_undo 14 = .ok (.ireturn, 1)) := by decide +kernel
theorem dX8_undo_0 : decode cX8_undo 0 = .ok (.aload_n 0, 1) := eX8_undo_0.1
theorem dX8_undo_1 : decode cX8_undo 1 = .ok (.getfield 24, 3) := eX8_undo_0.2.1
theorem dX8_undo_4 : decode cX8_undo 4 = .ok (.invokevirtual 167, 3) := eX8_undo_0.2.2.1
theorem dX8_undo_7 : decode cX8_undo 7 = .ok (.astore_n 1, 1) := eX8_undo_0.2.2.2.1
theorem dX8_undo_8 : decode cX8_undo 8 = .ok (.aload_n 1, 1) := eX8_undo_0.2.2.2.2.1
theorem dX8_undo_9 : decode cX8_undo 9 = .ok (.ifnonnull 6, 3) := eX8_undo_0.2.2.2.2.2.1
theorem dX8_undo_12 : decode cX8_undo 12 = .ok (.bipush (-2), 2) := eX8_undo_0.2.2.2.2.2.2.1
theorem dX8_undo_14 : decode cX8_undo 14 = .ok (.ireturn, 1) := eX8_undo_0.2.2.2.2.2.2.2
theorem eX8_undo_15 : (decode cX8_undo 15 = .ok (.iconst 0, 1)) ∧ (decode cX8_undo 16 = .ok (.istore_n 2, 1)) ∧ (decode cX8_undo 17 = .ok (.iload_n 2, 1)) ∧ (decode cX8_undo 18 = .ok (.bipush 8, 2)) ∧ (decode cX8_undo 20 = .ok (.if_icmp .ge 23, 3)) ∧ (decode cX8_undo 23 = .ok (.aload_n 0, 1)) ∧ (decode cX8_undo 24 = .ok (.getfield 17, 3)) ∧ (decode cX8_undo 27 = .ok (.iload_n 2, 1)) := by decide +kernel
theorem dX8_undo_15 : decode cX8_undo 15 = .ok (.iconst 0, 1) := eX8_undo_15.1
theorem dX8_undo_16 : decode cX8_undo 16 = .ok (.istore_n 2, 1) := eX8_undo_15.2.1
theorem dX8_undo_17 : decode cX8_undo 17 = .ok (.iload_n 2, 1) := eX8_undo_15.2.2.1
theorem dX8_undo_18 : decode cX8_undo 18 = .ok (.bipush 8, 2) := eX8_undo_15.2.2.2.1
theorem dX8_undo_20 : decode cX8_undo 20 = .ok (.if_icmp .ge 23, 3) := eX8_undo_15.2.2.2.2.1
theorem dX8_undo_23 : decode cX8_undo 23 = .ok (.aload_n 0, 1) := eX8_undo_15.2.2.2.2.2.1
theorem dX8_undo_24 : decode cX8_undo 24 = .ok (.getfield 17, 3) := eX8_undo_15.2.2.2.2.2.2.1
theorem dX8_undo_27 : decode cX8_undo 27 = .ok (.iload_n 2, 1) := eX8_undo_15.2.2.2.2.2.2.2
theorem eX8_undo_28 : (decode cX8_undo 28 = .ok (.aaload, 1)) ∧ (decode cX8_undo 29 = .ok (.aload_n 1, 1)) ∧ (decode cX8_undo 30 = .ok (.iload_n 2, 1)) ∧ (decode cX8_undo 31 = .ok (.bipush 25, 2)) ∧ (decode cX8_undo 33 = .ok (.imul, 1)) ∧ (decode cX8_undo 34 = .ok (.invokevirtual 171, 3)) ∧ (decode cX8_undo 37 = .ok (.iinc 2 1, 3)) ∧ (decode cX8_undo 40 = .ok (.goto (-23), 3)) := by decide +kernel
theorem dX8_undo_28 : decode cX8_undo 28 = .ok (.aaload, 1) := eX8_undo_28.1
theorem dX8_undo_29 : decode cX8_undo 29 = .ok (.aload_n 1, 1) := eX8_undo_28.2.1
theorem dX8_undo_30 : decode cX8_undo 30 = .ok (.iload_n 2, 1) := eX8_undo_28.2.2.1
theorem dX8_undo_31 : decode cX8_undo 31 = .ok (.bipush 25, 2) := eX8_undo_28.2.2.2.1
theorem dX8_undo_33 : decode cX8_undo 33 = .ok (.imul, 1) := eX8_undo_28.2.2.2.2.1
theorem dX8_undo_34 : decode cX8_undo 34 = .ok (.invokevirtual 171, 3) := eX8_undo_28.2.2.2.2.2.1
theorem dX8_undo_37 : decode cX8_undo 37 = .ok (.iinc 2 1, 3) := eX8_undo_28.2.2.2.2.2.2.1
theorem dX8_undo_40 : decode cX8_undo 40 = .ok (.goto (-23), 3) := eX8_undo_28.2.2.2.2.2.2.2
theorem eX8_undo_43 : (decode cX8_undo 43 = .ok (.aload_n 0, 1)) ∧ (decode cX8_undo 44 = .ok (.aload_n 1, 1)) ∧ (decode cX8_undo 45 = .ok (.sipush 200, 3)) ∧ (decode cX8_undo 48 = .ok (.iaload, 1)) ∧ (decode cX8_undo 49 = .ok (.putfield 67, 3)) ∧ (decode cX8_undo 52 = .ok (.iconst 1, 1)) ∧ (decode cX8_undo 53 = .ok (.ireturn, 1)) := by decide +kernel
theorem dX8_undo_43 : decode cX8_undo 43 = .ok (.aload_n 0, 1) := eX8_undo_43.1
theorem dX8_undo_44 : decode cX8_undo 44 = .ok (.aload_n 1, 1) := eX8_undo_43.2.1
theorem dX8_undo_45 : decode cX8_undo 45 = .ok (.sipush 200, 3) := eX8_undo_43.2.2.1
theorem dX8_undo_48 : decode cX8_undo 48 = .ok (.iaload, 1) := eX8_undo_43.2.2.2.1
theorem dX8_undo_49 : decode cX8_undo 49 = .ok (.putfield 67, 3) := eX8_undo_43.2.2.2.2.1
theorem dX8_undo_52 : decode cX8_undo 52 = .ok (.iconst 1, 1) := eX8_undo_43.2.2.2.2.2.1
theorem dX8_undo_53 : decode cX8_undo 53 = .ok (.ireturn, 1) := eX8_undo_43.2.2.2.2.2.2
theorem eX8_chance_0 : (decode cX8_chance 0 = .ok (.aload_n 0, 1)) ∧ (decode cX8_chance 1 = .ok (.iload_n 1, 1)) ∧ (decode cX8_chance 2 = .ok (.invokevirtual 101, 3)) ∧ (decode cX8_chance 5 = .ok (.astore 4, 2)) ∧ (decode cX8_chance 7 = .ok (.aload 4, 2)) ∧ (decode cX8_chance 9 = .ok (.ifnull 27, 3)) ∧ (decode cX8_chance 12 = .ok (.iload_n 2, 1)) ∧ (decode cX8_chance 13 = .ok (.ifCond .lt 23, 3)) := by decide +kernel
theorem dX8_chance_0 : decode cX8_chance 0 = .ok (.aload_n 0, 1) := eX8_chance_0.1
theorem dX8_chance_1 : decode cX8_chance 1 = .ok (.iload_n 1, 1) := eX8_chance_0.2.1
theorem dX8_chance_2 : decode cX8_chance 2 = .ok (.invokevirtual 101, 3) := eX8_chance_0.2.2.1
theorem dX8_chance_5 : decode cX8_chance 5 = .ok (.astore 4, 2) := eX8_chance_0.2.2.2.1
theorem dX8_chance_7 : decode cX8_chance 7 = .ok (.aload 4, 2) := eX8_chance_0.2.2.2.2.1
theorem dX8_chance_9 : decode cX8_chance 9 = .ok (.ifnull 27, 3) := eX8_chance_0.2.2.2.2.2.1
theorem dX8_chance_12 : decode cX8_chance 12 = .ok (.iload_n 2, 1) := eX8_chance_0.2.2.2.2.2.2.1
theorem dX8_chance_13 : decode cX8_chance 13 = .ok (.ifCond .lt 23, 3) := eX8_chance_0.2.2.2.2.2.2.2
theorem eX8_chance_16 : (decode cX8_chance 16 = .ok (.iload_n 2, 1)) ∧ (decode cX8_chance 17 = .ok (.bipush 12, 2)) ∧ (decode cX8_chance 19 = .ok (.if_icmp .gt 17, 3)) ∧ (decode cX8_chance 22 = .ok (.iload_n 3, 1)) ∧ (decode cX8_chance 23 = .ok (.ifCond .lt 13, 3)) ∧ (decode cX8_chance 26 = .ok (.aload 4, 2)) ∧ (decode cX8_chance 28 = .ok (.iload_n 2, 1)) ∧ (decode cX8_chance 29 = .ok (.iload_n 3, 1)) := by decide +kernel
theorem dX8_chance_16 : decode cX8_chance 16 = .ok (.iload_n 2, 1) := eX8_chance_16.1
theorem dX8_chance_17 : decode cX8_chance 17 = .ok (.bipush 12, 2) := eX8_chance_16.2.1
theorem dX8_chance_19 : decode cX8_chance 19 = .ok (.if_icmp .gt 17, 3) := eX8_chance_16.2.2.1
theorem dX8_chance_22 : decode cX8_chance 22 = .ok (.iload_n 3, 1) := eX8_chance_16.2.2.2.1
theorem dX8_chance_23 : decode cX8_chance 23 = .ok (.ifCond .lt 13, 3) := eX8_chance_16.2.2.2.2.1
theorem dX8_chance_26 : decode cX8_chance 26 = .ok (.aload 4, 2) := eX8_chance_16.2.2.2.2.2.1
theorem dX8_chance_28 : decode cX8_chance 28 = .ok (.iload_n 2, 1) := eX8_chance_16.2.2.2.2.2.2.1
theorem dX8_chance_29 : decode cX8_chance 29 = .ok (.iload_n 3, 1) := eX8_chance_16.2.2.2.2.2.2.2
theorem eX8_chance_30 : (decode cX8_chance 30 = .ok (.invokevirtual 175, 3)) ∧ (decode cX8_chance 33 = .ok (.ifCond .ne 5, 3)) ∧ (decode cX8_chance 36 = .ok (.iconst (-1), 1)) ∧ (decode cX8_chance 37 = .ok (.ireturn, 1)) ∧ (decode cX8_chance 38 = .ok (.iload_n 2, 1)) ∧ (decode cX8_chance 39 = .ok (.ifCond .le 14, 3)) ∧ (decode cX8_chance 42 = .ok (.aload 4, 2)) ∧ (decode cX8_chance 44 = .ok (.invokevirtual 129, 3)) := by decide +kernel
theorem dX8_chance_30 : decode cX8_chance 30 = .ok (.invokevirtual 175, 3) := eX8_chance_30.1
theorem dX8_chance_33 : decode cX8_chance 33 = .ok (.ifCond .ne 5, 3) := eX8_chance_30.2.1
theorem dX8_chance_36 : decode cX8_chance 36 = .ok (.iconst (-1), 1) := eX8_chance_30.2.2.1
theorem dX8_chance_37 : decode cX8_chance 37 = .ok (.ireturn, 1) := eX8_chance_30.2.2.2.1
theorem dX8_chance_38 : decode cX8_chance 38 = .ok (.iload_n 2, 1) := eX8_chance_30.2.2.2.2.1
theorem dX8_chance_39 : decode cX8_chance 39 = .ok (.ifCond .le 14, 3) := eX8_chance_30.2.2.2.2.2.1
theorem dX8_chance_42 : decode cX8_chance 42 = .ok (.aload 4, 2) := eX8_chance_30.2.2.2.2.2.2.1
theorem dX8_chance_44 : decode cX8_chance 44 = .ok (.invokevirtual 129, 3) := eX8_chance_30.2.2.2.2.2.2.2
theorem eX8_chance_47 : (decode cX8_chance 47 = .ok (.ifCond .ne 6, 3)) ∧ (decode cX8_chance 50 = .ok (.bipush (-2), 2)) ∧ (decode cX8_chance 52 = .ok (.ireturn, 1)) ∧ (decode cX8_chance 53 = .ok (.aload_n 0, 1)) ∧ (decode cX8_chance 54 = .ok (.getfield 38, 3)) ∧ (decode cX8_chance 57 = .ok (.aload 4, 2)) ∧ (decode cX8_chance 59 = .ok (.iload_n 2, 1)) ∧ (decode cX8_chance 60 = .ok (.iload_n 3, 1)) := by decide +kernel
theorem dX8_chance_47 : decode cX8_chance 47 = .ok (.ifCond .ne 6, 3) := eX8_chance_47.1
theorem dX8_chance_50 : decode cX8_chance 50 = .ok (.bipush (-2), 2) := eX8_chance_47.2.1
theorem dX8_chance_52 : decode cX8_chance 52 = .ok (.ireturn, 1) := eX8_chance_47.2.2.1
theorem dX8_chance_53 : decode cX8_chance 53 = .ok (.aload_n 0, 1) := eX8_chance_47.2.2.2.1
theorem dX8_chance_54 : decode cX8_chance 54 = .ok (.getfield 38, 3) := eX8_chance_47.2.2.2.2.1
theorem dX8_chance_57 : decode cX8_chance 57 = .ok (.aload 4, 2) := eX8_chance_47.2.2.2.2.2.1
theorem dX8_chance_59 : decode cX8_chance 59 = .ok (.iload_n 2, 1) := eX8_chance_47.2.2.2.2.2.2.1
theorem dX8_chance_60 : decode cX8_chance 60 = .ok (.iload_n 3, 1) := eX8_chance_47.2.2.2.2.2.2.2
theorem eX8_chance_61 : (decode cX8_chance 61 = .ok (.invokevirtual 178, 3)) ∧ (decode cX8_chance 64 = .ok (.ifCond .ne 6, 3)) ∧ (decode cX8_chance 67 = .ok (.bipush (-6), 2)) ∧ (decode cX8_chance 69 = .ok (.ireturn, 1)) ∧ (decode cX8_chance 70 = .ok (.aload_n 0, 1)) ∧ (decode cX8_chance 71 = .ok (.getfield 59, 3)) ∧ (decode cX8_chance 74 = .ok (.lconst 0, 1)) ∧ (decode cX8_chance 75 = .ok (.aload_n 0, 1)) := by decide +kernel
theorem dX8_chance_61 : decode cX8_chance 61 = .ok (.invokevirtual 178, 3) := eX8_chance_61.1
theorem dX8_chance_64 : decode cX8_chance 64 = .ok (.ifCond .ne 6, 3) := eX8_chance_61.2.1
theorem dX8_chance_67 : decode cX8_chance 67 = .ok (.bipush (-6), 2) := eX8_chance_61.2.2.1
theorem dX8_chance_69 : decode cX8_chance 69 = .ok (.ireturn, 1) := eX8_chance_61.2.2.2.1
theorem dX8_chance_70 : decode cX8_chance 70 = .ok (.aload_n 0, 1) := eX8_chance_61.2.2.2.2.1
theorem dX8_chance_71 : decode cX8_chance 71 = .ok (.getfield 59, 3) := eX8_chance_61.2.2.2.2.2.1
theorem dX8_chance_74 : decode cX8_chance 74 = .ok (.lconst 0, 1) := eX8_chance_61.2.2.2.2.2.2.1
theorem dX8_chance_75 : decode cX8_chance 75 = .ok (.aload_n 0, 1) := eX8_chance_61.2.2.2.2.2.2.2
theorem eX8_chance_76 : (decode cX8_chance 76 = .ok (.getfield 38, 3)) ∧ (decode cX8_chance 79 = .ok (.getfield 182, 3)) ∧ (decode cX8_chance 82 = .ok (.aload_n 0, 1)) ∧ (decode cX8_chance 83 = .ok (.getfield 38, 3)) ∧ (decode cX8_chance 86 = .ok (.getfield 186, 3)) ∧ (decode cX8_chance 89 = .ok (.invokevirtual 189, 3)) ∧ (decode cX8_chance 92 = .ok (.iconst 0, 1)) ∧ (decode cX8_chance 93 = .ok (.ireturn, 1)) := by decide +kernel
theorem dX8_chance_76 : decode cX8_chance 76 = .ok (.getfield 38, 3) := eX8_chance_76.1
theorem dX8_chance_79 : decode cX8_chance 79 = .ok (.getfield 182, 3) := eX8_chance_76.2.1
theorem dX8_chance_82 : decode cX8_chance 82 = .ok (.aload_n 0, 1) := eX8_chance_76.2.2.1
theorem dX8_chance_83 : decode cX8_chance 83 = .ok (.getfield 38, 3) := eX8_chance_76.2.2.2.1
theorem dX8_chance_86 : decode cX8_chance 86 = .ok (.getfield 186, 3) := eX8_chance_76.2.2.2.2.1
theorem dX8_chance_89 : decode cX8_chance 89 = .ok (.invokevirtual 189, 3) := eX8_chance_76.2.2.2.2.2.1
theorem dX8_chance_92 : decode cX8_chance 92 = .ok (.iconst 0, 1) := eX8_chance_76.2.2.2.2.2.2.1
theorem dX8_chance_93 : decode cX8_chance 93 = .ok (.ireturn, 1) := eX8_chance_76.2.2.2.2.2.2.2
theorem eX8_times_0 : (decode cX8_times 0 = .ok (.aload_n 0, 1)) ∧ (decode cX8_times 1 = .ok (.iload_n 1, 1)) ∧ (decode cX8_times 2 = .ok (.invokevirtual 101, 3)) ∧ (decode cX8_times 5 = .ok (.astore 5, 2)) ∧ (decode cX8_times 7 = .ok (.aload 5, 2)) ∧ (decode cX8_times 9 = .ok (.ifnull 31, 3)) ∧ (decode cX8_times 12 = .ok (.iload_n 2, 1)) ∧ (decode cX8_times 13 = .ok (.invokestatic 192, 3)) := by decide +kernel
theorem dX8_times_0 : decode cX8_times 0 = .ok (.aload_n 0, 1) := eX8_times_0.1
theorem dX8_times_1 : decode cX8_times 1 = .ok (.iload_n 1, 1) := eX8_times_0.2.1
theorem dX8_times_2 : decode cX8_times 2 = .ok (.invokevirtual 101, 3) := eX8_times_0.2.2.1
theorem dX8_times_5 : decode cX8_times 5 = .ok (.astore 5, 2) := eX8_times_0.2.2.2.1
theorem dX8_times_7 : decode cX8_times 7 = .ok (.aload 5, 2) := eX8_times_0.2.2.2.2.1
theorem dX8_times_9 : decode cX8_times 9 = .ok (.ifnull 31, 3) := eX8_times_0.2.2.2.2.2.1
theorem dX8_times_12 : decode cX8_times 12 = .ok (.iload_n 2, 1) := eX8_times_0.2.2.2.2.2.2.1
theorem dX8_times_13 : decode cX8_times 13 = .ok (.invokestatic 192, 3) := eX8_times_0.2.2.2.2.2.2.2
theorem eX8_times_16 : (decode cX8_times 16 = .ok (.ifCond .eq 24, 3)) ∧ (decode cX8_times 19 = .ok (.aload 5, 2)) ∧ (decode cX8_times 21 = .ok (.iload_n 3, 1)) ∧ (decode cX8_times 22 = .ok (.invokevirtual 105, 3)) ∧ (decode cX8_times 25 = .ok (.ifCond .eq 15, 3)) ∧ (decode cX8_times 28 = .ok (.iload 4, 2)) ∧ (decode cX8_times 30 = .ok (.ifCond .lt 10, 3)) ∧ (decode cX8_times 33 = .ok (.iload 4, 2)) := by decide +kernel
theorem dX8_times_16 : decode cX8_times 16 = .ok (.ifCond .eq 24, 3) := eX8_times_16.1
theorem dX8_times_19 : decode cX8_times 19 = .ok (.aload 5, 2) := eX8_times_16.2.1
theorem dX8_times_21 : decode cX8_times 21 = .ok (.iload_n 3, 1) := eX8_times_16.2.2.1
theorem dX8_times_22 : decode cX8_times 22 = .ok (.invokevirtual 105, 3) := eX8_times_16.2.2.2.1
theorem dX8_times_25 : decode cX8_times 25 = .ok (.ifCond .eq 15, 3) := eX8_times_16.2.2.2.2.1
theorem dX8_times_28 : decode cX8_times 28 = .ok (.iload 4, 2) := eX8_times_16.2.2.2.2.2.1
theorem dX8_times_30 : decode cX8_times 30 = .ok (.ifCond .lt 10, 3) := eX8_times_16.2.2.2.2.2.2.1
theorem dX8_times_33 : decode cX8_times 33 = .ok (.iload 4, 2) := eX8_times_16.2.2.2.2.2.2.2
theorem eX8_times_35 : (decode cX8_times 35 = .ok (.bipush 12, 2)) ∧ (decode cX8_times 37 = .ok (.if_icmp .le 5, 3)) ∧ (decode cX8_times 40 = .ok (.iconst (-1), 1)) ∧ (decode cX8_times 41 = .ok (.ireturn, 1)) ∧ (decode cX8_times 42 = .ok (.aload_n 0, 1)) ∧ (decode cX8_times 43 = .ok (.aload 5, 2)) ∧ (decode cX8_times 45 = .ok (.iload_n 2, 1)) ∧ (decode cX8_times 46 = .ok (.iload_n 3, 1)) := by decide +kernel
theorem dX8_times_35 : decode cX8_times 35 = .ok (.bipush 12, 2) := eX8_times_35.1
theorem dX8_times_37 : decode cX8_times 37 = .ok (.if_icmp .le 5, 3) := eX8_times_35.2.1
theorem dX8_times_40 : decode cX8_times 40 = .ok (.iconst (-1), 1) := eX8_times_35.2.2.1
theorem dX8_times_41 : decode cX8_times 41 = .ok (.ireturn, 1) := eX8_times_35.2.2.2.1
theorem dX8_times_42 : decode cX8_times 42 = .ok (.aload_n 0, 1) := eX8_times_35.2.2.2.2.1
theorem dX8_times_43 : decode cX8_times 43 = .ok (.aload 5, 2) := eX8_times_35.2.2.2.2.2.1
theorem dX8_times_45 : decode cX8_times 45 = .ok (.iload_n 2, 1) := eX8_times_35.2.2.2.2.2.2.1
theorem dX8_times_46 : decode cX8_times 46 = .ok (.iload_n 3, 1) := eX8_times_35.2.2.2.2.2.2.2
theorem eX8_times_47 : (decode cX8_times 47 = .ok (.invokevirtual 195, 3)) ∧ (decode cX8_times 50 = .ok (.istore 6, 2)) ∧ (decode cX8_times 52 = .ok (.iload 6, 2)) ∧ (decode cX8_times 54 = .ok (.ifCond .eq 6, 3)) ∧ (decode cX8_times 57 = .ok (.iload 6, 2)) ∧ (decode cX8_times 59 = .ok (.ireturn, 1)) ∧ (decode cX8_times 60 = .ok (.aload_n 0, 1)) ∧ (decode cX8_times 61 = .ok (.getfield 59, 3)) := by decide +kernel
theorem dX8_times_47 : decode cX8_times 47 = .ok (.invokevirtual 195, 3) := eX8_times_47.1
theorem dX8_times_50 : decode cX8_times 50 = .ok (.istore 6, 2) := eX8_times_47.2.1
theorem dX8_times_52 : decode cX8_times 52 = .ok (.iload 6, 2) := eX8_times_47.2.2.1
theorem dX8_times_54 : decode cX8_times 54 = .ok (.ifCond .eq 6, 3) := eX8_times_47.2.2.2.1
theorem dX8_times_57 : decode cX8_times 57 = .ok (.iload 6, 2) := eX8_times_47.2.2.2.2.1
theorem dX8_times_59 : decode cX8_times 59 = .ok (.ireturn, 1) := eX8_times_47.2.2.2.2.2.1
theorem dX8_times_60 : decode cX8_times 60 = .ok (.aload_n 0, 1) := eX8_times_47.2.2.2.2.2.2.1
theorem dX8_times_61 : decode cX8_times 61 = .ok (.getfield 59, 3) := eX8_times_47.2.2.2.2.2.2.2
theorem eX8_times_64 : (decode cX8_times 64 = .ok (.lconst 0, 1)) ∧ (decode cX8_times 65 = .ok (.aload_n 0, 1)) ∧ (decode cX8_times 66 = .ok (.getfield 52, 3)) ∧ (decode cX8_times 69 = .ok (.getfield 199, 3)) ∧ (decode cX8_times 72 = .ok (.iload 4, 2)) ∧ (decode cX8_times 74 = .ok (.laload, 1)) ∧ (decode cX8_times 75 = .ok (.aload_n 0, 1)) ∧ (decode cX8_times 76 = .ok (.getfield 52, 3)) := by decide +kernel
theorem dX8_times_64 : decode cX8_times 64 = .ok (.lconst 0, 1) := eX8_times_64.1
theorem dX8_times_65 : decode cX8_times 65 = .ok (.aload_n 0, 1) := eX8_times_64.2.1
theorem dX8_times_66 : decode cX8_times 66 = .ok (.getfield 52, 3) := eX8_times_64.2.2.1
theorem dX8_times_69 : decode cX8_times 69 = .ok (.getfield 199, 3) := eX8_times_64.2.2.2.1
theorem dX8_times_72 : decode cX8_times 72 = .ok (.iload 4, 2) := eX8_times_64.2.2.2.2.1
theorem dX8_times_74 : decode cX8_times 74 = .ok (.laload, 1) := eX8_times_64.2.2.2.2.2.1
theorem dX8_times_75 : decode cX8_times 75 = .ok (.aload_n 0, 1) := eX8_times_64.2.2.2.2.2.2.1
theorem dX8_times_76 : decode cX8_times 76 = .ok (.getfield 52, 3) := eX8_times_64.2.2.2.2.2.2.2
theorem eX8_times_79 : (decode cX8_times 79 = .ok (.getfield 202, 3)) ∧ (decode cX8_times 82 = .ok (.invokevirtual 189, 3)) ∧ (decode cX8_times 85 = .ok (.iconst 0, 1)) ∧ (decode cX8_times 86 = .ok (.ireturn, 1)) := by decide +kernel
theorem dX8_times_79 : decode cX8_times 79 = .ok (.getfield 202, 3) := eX8_times_79.1
theorem dX8_times_82 : decode cX8_times 82 = .ok (.invokevirtual 189, 3) := eX8_times_79.2.1
theorem dX8_times_85 : decode cX8_times 85 = .ok (.iconst 0, 1) := eX8_times_79.2.2.1
theorem dX8_times_86 : decode cX8_times 86 = .ok (.ireturn, 1) := eX8_times_79.2.2.2
theorem eX8_left_0 : (decode cX8_left 0 = .ok (.aload_n 0, 1)) ∧ (decode cX8_left 1 = .ok (.iload_n 1, 1)) ∧ (decode cX8_left 2 = .ok (.invokevirtual 101, 3)) ∧ (decode cX8_left 5 = .ok (.astore 5, 2)) ∧ (decode cX8_left 7 = .ok (.aload 5, 2)) ∧ (decode cX8_left 9 = .ok (.ifnull 32, 3)) ∧ (decode cX8_left 12 = .ok (.iload_n 2, 1)) ∧ (decode cX8_left 13 = .ok (.invokestatic 192, 3)) := by decide +kernel
theorem dX8_left_0 : decode cX8_left 0 = .ok (.aload_n 0, 1) := eX8_left_0.1
theorem dX8_left_1 : decode cX8_left 1 = .ok (.iload_n 1, 1) := eX8_left_0.2.1
theorem dX8_left_2 : decode cX8_left 2 = .ok (.invokevirtual 101, 3) := eX8_left_0.2.2.1
theorem dX8_left_5 : decode cX8_left 5 = .ok (.astore 5, 2) := eX8_left_0.2.2.2.1
theorem dX8_left_7 : decode cX8_left 7 = .ok (.aload 5, 2) := eX8_left_0.2.2.2.2.1
theorem dX8_left_9 : decode cX8_left 9 = .ok (.ifnull 32, 3) := eX8_left_0.2.2.2.2.2.1
theorem dX8_left_12 : decode cX8_left 12 = .ok (.iload_n 2, 1) := eX8_left_0.2.2.2.2.2.2.1
theorem dX8_left_13 : decode cX8_left 13 = .ok (.invokestatic 192, 3) := eX8_left_0.2.2.2.2.2.2.2
theorem eX8_left_16 : (decode cX8_left 16 = .ok (.ifCond .eq 25, 3)) ∧ (decode cX8_left 19 = .ok (.aload 5, 2)) ∧ (decode cX8_left 21 = .ok (.iload_n 3, 1)) ∧ (decode cX8_left 22 = .ok (.invokevirtual 105, 3)) ∧ (decode cX8_left 25 = .ok (.ifCond .eq 16, 3)) ∧ (decode cX8_left 28 = .ok (.iload 4, 2)) ∧ (decode cX8_left 30 = .ok (.ifCond .lt 11, 3)) ∧ (decode cX8_left 33 = .ok (.iload 4, 2)) := by decide +kernel
theorem dX8_left_16 : decode cX8_left 16 = .ok (.ifCond .eq 25, 3) := eX8_left_16.1
theorem dX8_left_19 : decode cX8_left 19 = .ok (.aload 5, 2) := eX8_left_16.2.1
theorem dX8_left_21 : decode cX8_left 21 = .ok (.iload_n 3, 1) := eX8_left_16.2.2.1
theorem dX8_left_22 : decode cX8_left 22 = .ok (.invokevirtual 105, 3) := eX8_left_16.2.2.2.1
theorem dX8_left_25 : decode cX8_left 25 = .ok (.ifCond .eq 16, 3) := eX8_left_16.2.2.2.2.1
theorem dX8_left_28 : decode cX8_left 28 = .ok (.iload 4, 2) := eX8_left_16.2.2.2.2.2.1
theorem dX8_left_30 : decode cX8_left 30 = .ok (.ifCond .lt 11, 3) := eX8_left_16.2.2.2.2.2.2.1
theorem dX8_left_33 : decode cX8_left 33 = .ok (.iload 4, 2) := eX8_left_16.2.2.2.2.2.2.2
theorem eX8_left_35 : (decode cX8_left 35 = .ok (.sipush 400, 3)) ∧ (decode cX8_left 38 = .ok (.if_icmp .le 5, 3)) ∧ (decode cX8_left 41 = .ok (.iconst (-1), 1)) ∧ (decode cX8_left 42 = .ok (.ireturn, 1)) ∧ (decode cX8_left 43 = .ok (.aload_n 0, 1)) ∧ (decode cX8_left 44 = .ok (.aload 5, 2)) ∧ (decode cX8_left 46 = .ok (.iload_n 2, 1)) ∧ (decode cX8_left 47 = .ok (.iload_n 3, 1)) := by decide +kernel
theorem dX8_left_35 : decode cX8_left 35 = .ok (.sipush 400, 3) := eX8_left_35.1
theorem dX8_left_38 : decode cX8_left 38 = .ok (.if_icmp .le 5, 3) := eX8_left_35.2.1
theorem dX8_left_41 : decode cX8_left 41 = .ok (.iconst (-1), 1) := eX8_left_35.2.2.1
theorem dX8_left_42 : decode cX8_left 42 = .ok (.ireturn, 1) := eX8_left_35.2.2.2.1
theorem dX8_left_43 : decode cX8_left 43 = .ok (.aload_n 0, 1) := eX8_left_35.2.2.2.2.1
theorem dX8_left_44 : decode cX8_left 44 = .ok (.aload 5, 2) := eX8_left_35.2.2.2.2.2.1
theorem dX8_left_46 : decode cX8_left 46 = .ok (.iload_n 2, 1) := eX8_left_35.2.2.2.2.2.2.1
theorem dX8_left_47 : decode cX8_left 47 = .ok (.iload_n 3, 1) := eX8_left_35.2.2.2.2.2.2.2
theorem eX8_left_48 : (decode cX8_left 48 = .ok (.invokevirtual 195, 3)) ∧ (decode cX8_left 51 = .ok (.istore 6, 2)) ∧ (decode cX8_left 53 = .ok (.iload 6, 2)) ∧ (decode cX8_left 55 = .ok (.ifCond .eq 6, 3)) ∧ (decode cX8_left 58 = .ok (.iload 6, 2)) ∧ (decode cX8_left 60 = .ok (.ireturn, 1)) ∧ (decode cX8_left 61 = .ok (.aload_n 0, 1)) ∧ (decode cX8_left 62 = .ok (.getfield 59, 3)) := by decide +kernel
theorem dX8_left_48 : decode cX8_left 48 = .ok (.invokevirtual 195, 3) := eX8_left_48.1
theorem dX8_left_51 : decode cX8_left 51 = .ok (.istore 6, 2) := eX8_left_48.2.1
theorem dX8_left_53 : decode cX8_left 53 = .ok (.iload 6, 2) := eX8_left_48.2.2.1
theorem dX8_left_55 : decode cX8_left 55 = .ok (.ifCond .eq 6, 3) := eX8_left_48.2.2.2.1
theorem dX8_left_58 : decode cX8_left 58 = .ok (.iload 6, 2) := eX8_left_48.2.2.2.2.1
theorem dX8_left_60 : decode cX8_left 60 = .ok (.ireturn, 1) := eX8_left_48.2.2.2.2.2.1
theorem dX8_left_61 : decode cX8_left 61 = .ok (.aload_n 0, 1) := eX8_left_48.2.2.2.2.2.2.1
theorem dX8_left_62 : decode cX8_left 62 = .ok (.getfield 59, 3) := eX8_left_48.2.2.2.2.2.2.2
theorem eX8_left_65 : (decode cX8_left 65 = .ok (.lconst 0, 1)) ∧ (decode cX8_left 66 = .ok (.iload 4, 2)) ∧ (decode cX8_left 68 = .ok (.sipush 200, 3)) ∧ (decode cX8_left 71 = .ok (.if_icmp .le 7, 3)) ∧ (decode cX8_left 74 = .ok (.lconst 0, 1)) ∧ (decode cX8_left 75 = .ok (.goto 13, 3)) ∧ (decode cX8_left 78 = .ok (.aload_n 0, 1)) ∧ (decode cX8_left 79 = .ok (.getfield 52, 3)) := by decide +kernel
theorem dX8_left_65 : decode cX8_left 65 = .ok (.lconst 0, 1) := eX8_left_65.1
theorem dX8_left_66 : decode cX8_left 66 = .ok (.iload 4, 2) := eX8_left_65.2.1
theorem dX8_left_68 : decode cX8_left 68 = .ok (.sipush 200, 3) := eX8_left_65.2.2.1
theorem dX8_left_71 : decode cX8_left 71 = .ok (.if_icmp .le 7, 3) := eX8_left_65.2.2.2.1
theorem dX8_left_74 : decode cX8_left 74 = .ok (.lconst 0, 1) := eX8_left_65.2.2.2.2.1
theorem dX8_left_75 : decode cX8_left 75 = .ok (.goto 13, 3) := eX8_left_65.2.2.2.2.2.1
theorem dX8_left_78 : decode cX8_left 78 = .ok (.aload_n 0, 1) := eX8_left_65.2.2.2.2.2.2.1
theorem dX8_left_79 : decode cX8_left 79 = .ok (.getfield 52, 3) := eX8_left_65.2.2.2.2.2.2.2
theorem eX8_left_82 : (decode cX8_left 82 = .ok (.getfield 203, 3)) ∧ (decode cX8_left 85 = .ok (.iload 4, 2)) ∧ (decode cX8_left 87 = .ok (.laload, 1)) ∧ (decode cX8_left 88 = .ok (.aload_n 0, 1)) ∧ (decode cX8_left 89 = .ok (.getfield 52, 3)) ∧ (decode cX8_left 92 = .ok (.getfield 202, 3)) ∧ (decode cX8_left 95 = .ok (.invokevirtual 189, 3)) ∧ (decode cX8_left 98 = .ok (.iconst 0, 1)) := by decide +kernel
theorem dX8_left_82 : decode cX8_left 82 = .ok (.getfield 203, 3) := eX8_left_82.1
theorem dX8_left_85 : decode cX8_left 85 = .ok (.iload 4, 2) := eX8_left_82.2.1
theorem dX8_left_87 : decode cX8_left 87 = .ok (.laload, 1) := eX8_left_82.2.2.1
theorem dX8_left_88 : decode cX8_left 88 = .ok (.aload_n 0, 1) := eX8_left_82.2.2.2.1
theorem dX8_left_89 : decode cX8_left 89 = .ok (.getfield 52, 3) := eX8_left_82.2.2.2.2.1
theorem dX8_left_92 : decode cX8_left 92 = .ok (.getfield 202, 3) := eX8_left_82.2.2.2.2.2.1
theorem dX8_left_95 : decode cX8_left 95 = .ok (.invokevirtual 189, 3) := eX8_left_82.2.2.2.2.2.2.1
theorem dX8_left_98 : decode cX8_left 98 = .ok (.iconst 0, 1) := eX8_left_82.2.2.2.2.2.2.2
theorem dX8_left_99 : decode cX8_left 99 = .ok (.ireturn, 1) := by decide +kernel
theorem eX8_stuck_0 : (decode cX8_stuck 0 = .ok (.aload_n 0, 1)) ∧ (decode cX8_stuck 1 = .ok (.iload_n 1, 1)) ∧ (decode cX8_stuck 2 = .ok (.invokevirtual 101, 3)) ∧ (decode cX8_stuck 5 = .ok (.astore_n 3, 1)) ∧ (decode cX8_stuck 6 = .ok (.aload_n 3, 1)) ∧ (decode cX8_stuck 7 = .ok (.ifnull 10, 3)) ∧ (decode cX8_stuck 10 = .ok (.iload_n 2, 1)) ∧ (decode cX8_stuck 11 = .ok (.invokestatic 192, 3)) := by decide +kernel
theorem dX8_stuck_0 : decode cX8_stuck 0 = .ok (.aload_n 0, 1) := eX8_stuck_0.1
theorem dX8_stuck_1 : decode cX8_stuck 1 = .ok (.iload_n 1, 1) := eX8_stuck_0.2.1
theorem dX8_stuck_2 : decode cX8_stuck 2 = .ok (.invokevirtual 101, 3) := eX8_stuck_0.2.2.1
theorem dX8_stuck_5 : decode cX8_stuck 5 = .ok (.astore_n 3, 1) := eX8_stuck_0.2.2.2.1
theorem dX8_stuck_6 : decode cX8_stuck 6 = .ok (.aload_n 3, 1) := eX8_stuck_0.2.2.2.2.1
theorem dX8_stuck_7 : decode cX8_stuck 7 = .ok (.ifnull 10, 3) := eX8_stuck_0.2.2.2.2.2.1
theorem dX8_stuck_10 : decode cX8_stuck 10 = .ok (.iload_n 2, 1) := eX8_stuck_0.2.2.2.2.2.2.1
theorem dX8_stuck_11 : decode cX8_stuck 11 = .ok (.invokestatic 192, 3) := eX8_stuck_0.2.2.2.2.2.2.2
theorem eX8_stuck_14 : (decode cX8_stuck 14 = .ok (.ifCond .ne 5, 3)) ∧ (decode cX8_stuck 17 = .ok (.iconst (-1), 1)) ∧ (decode cX8_stuck 18 = .ok (.ireturn, 1)) ∧ (decode cX8_stuck 19 = .ok (.aload_n 0, 1)) ∧ (decode cX8_stuck 20 = .ok (.aload_n 3, 1)) ∧ (decode cX8_stuck 21 = .ok (.iload_n 2, 1)) ∧ (decode cX8_stuck 22 = .ok (.iconst 0, 1)) ∧ (decode cX8_stuck 23 = .ok (.invokevirtual 195, 3)) := by decide +kernel
theorem dX8_stuck_14 : decode cX8_stuck 14 = .ok (.ifCond .ne 5, 3) := eX8_stuck_14.1
theorem dX8_stuck_17 : decode cX8_stuck 17 = .ok (.iconst (-1), 1) := eX8_stuck_14.2.1
theorem dX8_stuck_18 : decode cX8_stuck 18 = .ok (.ireturn, 1) := eX8_stuck_14.2.2.1
theorem dX8_stuck_19 : decode cX8_stuck 19 = .ok (.aload_n 0, 1) := eX8_stuck_14.2.2.2.1
theorem dX8_stuck_20 : decode cX8_stuck 20 = .ok (.aload_n 3, 1) := eX8_stuck_14.2.2.2.2.1
theorem dX8_stuck_21 : decode cX8_stuck 21 = .ok (.iload_n 2, 1) := eX8_stuck_14.2.2.2.2.2.1
theorem dX8_stuck_22 : decode cX8_stuck 22 = .ok (.iconst 0, 1) := eX8_stuck_14.2.2.2.2.2.2.1
theorem dX8_stuck_23 : decode cX8_stuck 23 = .ok (.invokevirtual 195, 3) := eX8_stuck_14.2.2.2.2.2.2.2
theorem eX8_stuck_26 : (decode cX8_stuck 26 = .ok (.istore 4, 2)) ∧ (decode cX8_stuck 28 = .ok (.iload 4, 2)) ∧ (decode cX8_stuck 30 = .ok (.ifCond .eq 6, 3)) ∧ (decode cX8_stuck 33 = .ok (.iload 4, 2)) ∧ (decode cX8_stuck 35 = .ok (.ireturn, 1)) ∧ (decode cX8_stuck 36 = .ok (.aload_n 0, 1)) ∧ (decode cX8_stuck 37 = .ok (.getfield 59, 3)) ∧ (decode cX8_stuck 40 = .ok (.lconst 0, 1)) := by decide +kernel
theorem dX8_stuck_26 : decode cX8_stuck 26 = .ok (.istore 4, 2) := eX8_stuck_26.1
theorem dX8_stuck_28 : decode cX8_stuck 28 = .ok (.iload 4, 2) := eX8_stuck_26.2.1
theorem dX8_stuck_30 : decode cX8_stuck 30 = .ok (.ifCond .eq 6, 3) := eX8_stuck_26.2.2.1
theorem dX8_stuck_33 : decode cX8_stuck 33 = .ok (.iload 4, 2) := eX8_stuck_26.2.2.2.1
theorem dX8_stuck_35 : decode cX8_stuck 35 = .ok (.ireturn, 1) := eX8_stuck_26.2.2.2.2.1
theorem dX8_stuck_36 : decode cX8_stuck 36 = .ok (.aload_n 0, 1) := eX8_stuck_26.2.2.2.2.2.1
theorem dX8_stuck_37 : decode cX8_stuck 37 = .ok (.getfield 59, 3) := eX8_stuck_26.2.2.2.2.2.2.1
theorem dX8_stuck_40 : decode cX8_stuck 40 = .ok (.lconst 0, 1) := eX8_stuck_26.2.2.2.2.2.2.2
theorem eX8_stuck_41 : (decode cX8_stuck 41 = .ok (.aload_n 0, 1)) ∧ (decode cX8_stuck 42 = .ok (.getfield 52, 3)) ∧ (decode cX8_stuck 45 = .ok (.getfield 206, 3)) ∧ (decode cX8_stuck 48 = .ok (.aload_n 0, 1)) ∧ (decode cX8_stuck 49 = .ok (.getfield 52, 3)) ∧ (decode cX8_stuck 52 = .ok (.getfield 202, 3)) ∧ (decode cX8_stuck 55 = .ok (.invokevirtual 189, 3)) ∧ (decode cX8_stuck 58 = .ok (.iconst 0, 1)) := by decide +kernel
theorem dX8_stuck_41 : decode cX8_stuck 41 = .ok (.aload_n 0, 1) := eX8_stuck_41.1
theorem dX8_stuck_42 : decode cX8_stuck 42 = .ok (.getfield 52, 3) := eX8_stuck_41.2.1
theorem dX8_stuck_45 : decode cX8_stuck 45 = .ok (.getfield 206, 3) := eX8_stuck_41.2.2.1
theorem dX8_stuck_48 : decode cX8_stuck 48 = .ok (.aload_n 0, 1) := eX8_stuck_41.2.2.2.1
theorem dX8_stuck_49 : decode cX8_stuck 49 = .ok (.getfield 52, 3) := eX8_stuck_41.2.2.2.2.1
theorem dX8_stuck_52 : decode cX8_stuck 52 = .ok (.getfield 202, 3) := eX8_stuck_41.2.2.2.2.2.1
theorem dX8_stuck_55 : decode cX8_stuck 55 = .ok (.invokevirtual 189, 3) := eX8_stuck_41.2.2.2.2.2.2.1
theorem dX8_stuck_58 : decode cX8_stuck 58 = .ok (.iconst 0, 1) := eX8_stuck_41.2.2.2.2.2.2.2
theorem dX8_stuck_59 : decode cX8_stuck 59 = .ok (.ireturn, 1) := by decide +kernel
theorem eX8_mean_0 : (decode cX8_mean 0 = .ok (.aload_n 0, 1)) ∧ (decode cX8_mean 1 = .ok (.iload_n 1, 1)) ∧ (decode cX8_mean 2 = .ok (.invokevirtual 101, 3)) ∧ (decode cX8_mean 5 = .ok (.astore 5, 2)) ∧ (decode cX8_mean 7 = .ok (.aload 5, 2)) ∧ (decode cX8_mean 9 = .ok (.ifnull 31, 3)) ∧ (decode cX8_mean 12 = .ok (.iload_n 2, 1)) ∧ (decode cX8_mean 13 = .ok (.invokestatic 192, 3)) := by decide +kernel
theorem dX8_mean_0 : decode cX8_mean 0 = .ok (.aload_n 0, 1) := eX8_mean_0.1
theorem dX8_mean_1 : decode cX8_mean 1 = .ok (.iload_n 1, 1) := eX8_mean_0.2.1
theorem dX8_mean_2 : decode cX8_mean 2 = .ok (.invokevirtual 101, 3) := eX8_mean_0.2.2.1
theorem dX8_mean_5 : decode cX8_mean 5 = .ok (.astore 5, 2) := eX8_mean_0.2.2.2.1
theorem dX8_mean_7 : decode cX8_mean 7 = .ok (.aload 5, 2) := eX8_mean_0.2.2.2.2.1
theorem dX8_mean_9 : decode cX8_mean 9 = .ok (.ifnull 31, 3) := eX8_mean_0.2.2.2.2.2.1
theorem dX8_mean_12 : decode cX8_mean 12 = .ok (.iload_n 2, 1) := eX8_mean_0.2.2.2.2.2.2.1
theorem dX8_mean_13 : decode cX8_mean 13 = .ok (.invokestatic 192, 3) := eX8_mean_0.2.2.2.2.2.2.2
theorem eX8_mean_16 : (decode cX8_mean 16 = .ok (.ifCond .eq 24, 3)) ∧ (decode cX8_mean 19 = .ok (.aload 5, 2)) ∧ (decode cX8_mean 21 = .ok (.iload_n 3, 1)) ∧ (decode cX8_mean 22 = .ok (.invokevirtual 105, 3)) ∧ (decode cX8_mean 25 = .ok (.ifCond .eq 15, 3)) ∧ (decode cX8_mean 28 = .ok (.iload 4, 2)) ∧ (decode cX8_mean 30 = .ok (.iconst 1, 1)) ∧ (decode cX8_mean 31 = .ok (.if_icmp .lt 9, 3)) := by decide +kernel
theorem dX8_mean_16 : decode cX8_mean 16 = .ok (.ifCond .eq 24, 3) := eX8_mean_16.1
theorem dX8_mean_19 : decode cX8_mean 19 = .ok (.aload 5, 2) := eX8_mean_16.2.1
theorem dX8_mean_21 : decode cX8_mean 21 = .ok (.iload_n 3, 1) := eX8_mean_16.2.2.1
theorem dX8_mean_22 : decode cX8_mean 22 = .ok (.invokevirtual 105, 3) := eX8_mean_16.2.2.2.1
theorem dX8_mean_25 : decode cX8_mean 25 = .ok (.ifCond .eq 15, 3) := eX8_mean_16.2.2.2.2.1
theorem dX8_mean_28 : decode cX8_mean 28 = .ok (.iload 4, 2) := eX8_mean_16.2.2.2.2.2.1
theorem dX8_mean_30 : decode cX8_mean 30 = .ok (.iconst 1, 1) := eX8_mean_16.2.2.2.2.2.2.1
theorem dX8_mean_31 : decode cX8_mean 31 = .ok (.if_icmp .lt 9, 3) := eX8_mean_16.2.2.2.2.2.2.2
theorem eX8_mean_34 : (decode cX8_mean 34 = .ok (.iload 4, 2)) ∧ (decode cX8_mean 36 = .ok (.iconst 3, 1)) ∧ (decode cX8_mean 37 = .ok (.if_icmp .le 5, 3)) ∧ (decode cX8_mean 40 = .ok (.iconst (-1), 1)) ∧ (decode cX8_mean 41 = .ok (.ireturn, 1)) ∧ (decode cX8_mean 42 = .ok (.aload_n 0, 1)) ∧ (decode cX8_mean 43 = .ok (.aload 5, 2)) ∧ (decode cX8_mean 45 = .ok (.iload_n 2, 1)) := by decide +kernel
theorem dX8_mean_34 : decode cX8_mean 34 = .ok (.iload 4, 2) := eX8_mean_34.1
theorem dX8_mean_36 : decode cX8_mean 36 = .ok (.iconst 3, 1) := eX8_mean_34.2.1
theorem dX8_mean_37 : decode cX8_mean 37 = .ok (.if_icmp .le 5, 3) := eX8_mean_34.2.2.1
theorem dX8_mean_40 : decode cX8_mean 40 = .ok (.iconst (-1), 1) := eX8_mean_34.2.2.2.1
theorem dX8_mean_41 : decode cX8_mean 41 = .ok (.ireturn, 1) := eX8_mean_34.2.2.2.2.1
theorem dX8_mean_42 : decode cX8_mean 42 = .ok (.aload_n 0, 1) := eX8_mean_34.2.2.2.2.2.1
theorem dX8_mean_43 : decode cX8_mean 43 = .ok (.aload 5, 2) := eX8_mean_34.2.2.2.2.2.2.1
theorem dX8_mean_45 : decode cX8_mean 45 = .ok (.iload_n 2, 1) := eX8_mean_34.2.2.2.2.2.2.2
theorem eX8_mean_46 : (decode cX8_mean 46 = .ok (.iload_n 3, 1)) ∧ (decode cX8_mean 47 = .ok (.invokevirtual 195, 3)) ∧ (decode cX8_mean 50 = .ok (.istore 6, 2)) ∧ (decode cX8_mean 52 = .ok (.iload 6, 2)) ∧ (decode cX8_mean 54 = .ok (.ifCond .eq 6, 3)) ∧ (decode cX8_mean 57 = .ok (.iload 6, 2)) ∧ (decode cX8_mean 59 = .ok (.ireturn, 1)) ∧ (decode cX8_mean 60 = .ok (.aload_n 0, 1)) := by decide +kernel
theorem dX8_mean_46 : decode cX8_mean 46 = .ok (.iload_n 3, 1) := eX8_mean_46.1
theorem dX8_mean_47 : decode cX8_mean 47 = .ok (.invokevirtual 195, 3) := eX8_mean_46.2.1
theorem dX8_mean_50 : decode cX8_mean 50 = .ok (.istore 6, 2) := eX8_mean_46.2.2.1
theorem dX8_mean_52 : decode cX8_mean 52 = .ok (.iload 6, 2) := eX8_mean_46.2.2.2.1
theorem dX8_mean_54 : decode cX8_mean 54 = .ok (.ifCond .eq 6, 3) := eX8_mean_46.2.2.2.2.1
theorem dX8_mean_57 : decode cX8_mean 57 = .ok (.iload 6, 2) := eX8_mean_46.2.2.2.2.2.1
theorem dX8_mean_59 : decode cX8_mean 59 = .ok (.ireturn, 1) := eX8_mean_46.2.2.2.2.2.2.1
theorem dX8_mean_60 : decode cX8_mean 60 = .ok (.aload_n 0, 1) := eX8_mean_46.2.2.2.2.2.2.2
theorem eX8_mean_61 : (decode cX8_mean 61 = .ok (.getfield 52, 3)) ∧ (decode cX8_mean 64 = .ok (.iload 4, 2)) ∧ (decode cX8_mean 66 = .ok (.invokevirtual 209, 3)) ∧ (decode cX8_mean 69 = .ok (.aload_n 0, 1)) ∧ (decode cX8_mean 70 = .ok (.getfield 59, 3)) ∧ (decode cX8_mean 73 = .ok (.aload_n 0, 1)) ∧ (decode cX8_mean 74 = .ok (.getfield 52, 3)) ∧ (decode cX8_mean 77 = .ok (.getfield 212, 3)) := by decide +kernel
theorem dX8_mean_61 : decode cX8_mean 61 = .ok (.getfield 52, 3) := eX8_mean_61.1
theorem dX8_mean_64 : decode cX8_mean 64 = .ok (.iload 4, 2) := eX8_mean_61.2.1
theorem dX8_mean_66 : decode cX8_mean 66 = .ok (.invokevirtual 209, 3) := eX8_mean_61.2.2.1
theorem dX8_mean_69 : decode cX8_mean 69 = .ok (.aload_n 0, 1) := eX8_mean_61.2.2.2.1
theorem dX8_mean_70 : decode cX8_mean 70 = .ok (.getfield 59, 3) := eX8_mean_61.2.2.2.2.1
theorem dX8_mean_73 : decode cX8_mean 73 = .ok (.aload_n 0, 1) := eX8_mean_61.2.2.2.2.2.1
theorem dX8_mean_74 : decode cX8_mean 74 = .ok (.getfield 52, 3) := eX8_mean_61.2.2.2.2.2.2.1
theorem dX8_mean_77 : decode cX8_mean 77 = .ok (.getfield 212, 3) := eX8_mean_61.2.2.2.2.2.2.2
theorem eX8_mean_80 : (decode cX8_mean 80 = .ok (.aload_n 0, 1)) ∧ (decode cX8_mean 81 = .ok (.getfield 52, 3)) ∧ (decode cX8_mean 84 = .ok (.getfield 215, 3)) ∧ (decode cX8_mean 87 = .ok (.aload_n 0, 1)) ∧ (decode cX8_mean 88 = .ok (.getfield 52, 3)) ∧ (decode cX8_mean 91 = .ok (.getfield 202, 3)) ∧ (decode cX8_mean 94 = .ok (.invokevirtual 189, 3)) ∧ (decode cX8_mean 97 = .ok (.iconst 0, 1)) := by decide +kernel
theorem dX8_mean_80 : decode cX8_mean 80 = .ok (.aload_n 0, 1) := eX8_mean_80.1
theorem dX8_mean_81 : decode cX8_mean 81 = .ok (.getfield 52, 3) := eX8_mean_80.2.1
theorem dX8_mean_84 : decode cX8_mean 84 = .ok (.getfield 215, 3) := eX8_mean_80.2.2.1
theorem dX8_mean_87 : decode cX8_mean 87 = .ok (.aload_n 0, 1) := eX8_mean_80.2.2.2.1
theorem dX8_mean_88 : decode cX8_mean 88 = .ok (.getfield 52, 3) := eX8_mean_80.2.2.2.2.1
theorem dX8_mean_91 : decode cX8_mean 91 = .ok (.getfield 202, 3) := eX8_mean_80.2.2.2.2.2.1
theorem dX8_mean_94 : decode cX8_mean 94 = .ok (.invokevirtual 189, 3) := eX8_mean_80.2.2.2.2.2.2.1
theorem dX8_mean_97 : decode cX8_mean 97 = .ok (.iconst 0, 1) := eX8_mean_80.2.2.2.2.2.2.2
theorem dX8_mean_98 : decode cX8_mean 98 = .ok (.ireturn, 1) := by decide +kernel
theorem eX8_told_0 : (decode cX8_told 0 = .ok (.aload_n 0, 1)) ∧ (decode cX8_told 1 = .ok (.iload_n 1, 1)) ∧ (decode cX8_told 2 = .ok (.invokevirtual 101, 3)) ∧ (decode cX8_told 5 = .ok (.astore 6, 2)) ∧ (decode cX8_told 7 = .ok (.aload 6, 2)) ∧ (decode cX8_told 9 = .ok (.ifnull 40, 3)) ∧ (decode cX8_told 12 = .ok (.iload_n 2, 1)) ∧ (decode cX8_told 13 = .ok (.iconst 1, 1)) := by decide +kernel
theorem dX8_told_0 : decode cX8_told 0 = .ok (.aload_n 0, 1) := eX8_told_0.1
theorem dX8_told_1 : decode cX8_told 1 = .ok (.iload_n 1, 1) := eX8_told_0.2.1
theorem dX8_told_2 : decode cX8_told 2 = .ok (.invokevirtual 101, 3) := eX8_told_0.2.2.1
theorem dX8_told_5 : decode cX8_told 5 = .ok (.astore 6, 2) := eX8_told_0.2.2.2.1
theorem dX8_told_7 : decode cX8_told 7 = .ok (.aload 6, 2) := eX8_told_0.2.2.2.2.1
theorem dX8_told_9 : decode cX8_told 9 = .ok (.ifnull 40, 3) := eX8_told_0.2.2.2.2.2.1
theorem dX8_told_12 : decode cX8_told 12 = .ok (.iload_n 2, 1) := eX8_told_0.2.2.2.2.2.2.1
theorem dX8_told_13 : decode cX8_told 13 = .ok (.iconst 1, 1) := eX8_told_0.2.2.2.2.2.2.2
theorem eX8_told_14 : (decode cX8_told 14 = .ok (.if_icmp .lt 35, 3)) ∧ (decode cX8_told 17 = .ok (.iload 4, 2)) ∧ (decode cX8_told 19 = .ok (.iload_n 2, 1)) ∧ (decode cX8_told 20 = .ok (.if_icmp .le 29, 3)) ∧ (decode cX8_told 23 = .ok (.iload 4, 2)) ∧ (decode cX8_told 25 = .ok (.bipush 12, 2)) ∧ (decode cX8_told 27 = .ok (.if_icmp .gt 22, 3)) ∧ (decode cX8_told 30 = .ok (.aload 6, 2)) := by decide +kernel
theorem dX8_told_14 : decode cX8_told 14 = .ok (.if_icmp .lt 35, 3) := eX8_told_14.1
theorem dX8_told_17 : decode cX8_told 17 = .ok (.iload 4, 2) := eX8_told_14.2.1
theorem dX8_told_19 : decode cX8_told 19 = .ok (.iload_n 2, 1) := eX8_told_14.2.2.1
theorem dX8_told_20 : decode cX8_told 20 = .ok (.if_icmp .le 29, 3) := eX8_told_14.2.2.2.1
theorem dX8_told_23 : decode cX8_told 23 = .ok (.iload 4, 2) := eX8_told_14.2.2.2.2.1
theorem dX8_told_25 : decode cX8_told 25 = .ok (.bipush 12, 2) := eX8_told_14.2.2.2.2.2.1
theorem dX8_told_27 : decode cX8_told 27 = .ok (.if_icmp .gt 22, 3) := eX8_told_14.2.2.2.2.2.2.1
theorem dX8_told_30 : decode cX8_told 30 = .ok (.aload 6, 2) := eX8_told_14.2.2.2.2.2.2.2
theorem eX8_told_32 : (decode cX8_told 32 = .ok (.iload_n 3, 1)) ∧ (decode cX8_told 33 = .ok (.invokevirtual 105, 3)) ∧ (decode cX8_told 36 = .ok (.ifCond .eq 13, 3)) ∧ (decode cX8_told 39 = .ok (.aload 6, 2)) ∧ (decode cX8_told 41 = .ok (.iload 5, 2)) ∧ (decode cX8_told 43 = .ok (.invokevirtual 105, 3)) ∧ (decode cX8_told 46 = .ok (.ifCond .ne 5, 3)) ∧ (decode cX8_told 49 = .ok (.iconst (-1), 1)) := by decide +kernel
theorem dX8_told_32 : decode cX8_told 32 = .ok (.iload_n 3, 1) := eX8_told_32.1
theorem dX8_told_33 : decode cX8_told 33 = .ok (.invokevirtual 105, 3) := eX8_told_32.2.1
theorem dX8_told_36 : decode cX8_told 36 = .ok (.ifCond .eq 13, 3) := eX8_told_32.2.2.1
theorem dX8_told_39 : decode cX8_told 39 = .ok (.aload 6, 2) := eX8_told_32.2.2.2.1
theorem dX8_told_41 : decode cX8_told 41 = .ok (.iload 5, 2) := eX8_told_32.2.2.2.2.1
theorem dX8_told_43 : decode cX8_told 43 = .ok (.invokevirtual 105, 3) := eX8_told_32.2.2.2.2.2.1
theorem dX8_told_46 : decode cX8_told 46 = .ok (.ifCond .ne 5, 3) := eX8_told_32.2.2.2.2.2.2.1
theorem dX8_told_49 : decode cX8_told 49 = .ok (.iconst (-1), 1) := eX8_told_32.2.2.2.2.2.2.2
theorem eX8_told_50 : (decode cX8_told 50 = .ok (.ireturn, 1)) ∧ (decode cX8_told 51 = .ok (.aload 6, 2)) ∧ (decode cX8_told 53 = .ok (.invokevirtual 136, 3)) ∧ (decode cX8_told 56 = .ok (.ifCond .eq 11, 3)) ∧ (decode cX8_told 59 = .ok (.aload 6, 2)) ∧ (decode cX8_told 61 = .ok (.invokevirtual 129, 3)) ∧ (decode cX8_told 64 = .ok (.ifCond .ne 6, 3)) ∧ (decode cX8_told 67 = .ok (.bipush (-2), 2)) := by decide +kernel
theorem dX8_told_50 : decode cX8_told 50 = .ok (.ireturn, 1) := eX8_told_50.1
theorem dX8_told_51 : decode cX8_told 51 = .ok (.aload 6, 2) := eX8_told_50.2.1
theorem dX8_told_53 : decode cX8_told 53 = .ok (.invokevirtual 136, 3) := eX8_told_50.2.2.1
theorem dX8_told_56 : decode cX8_told 56 = .ok (.ifCond .eq 11, 3) := eX8_told_50.2.2.2.1
theorem dX8_told_59 : decode cX8_told 59 = .ok (.aload 6, 2) := eX8_told_50.2.2.2.2.1
theorem dX8_told_61 : decode cX8_told 61 = .ok (.invokevirtual 129, 3) := eX8_told_50.2.2.2.2.2.1
theorem dX8_told_64 : decode cX8_told 64 = .ok (.ifCond .ne 6, 3) := eX8_told_50.2.2.2.2.2.2.1
theorem dX8_told_67 : decode cX8_told 67 = .ok (.bipush (-2), 2) := eX8_told_50.2.2.2.2.2.2.2
theorem eX8_told_69 : (decode cX8_told 69 = .ok (.ireturn, 1)) ∧ (decode cX8_told 70 = .ok (.aload_n 0, 1)) ∧ (decode cX8_told 71 = .ok (.getfield 52, 3)) ∧ (decode cX8_told 74 = .ok (.invokevirtual 218, 3)) ∧ (decode cX8_told 77 = .ok (.aload_n 0, 1)) ∧ (decode cX8_told 78 = .ok (.getfield 52, 3)) ∧ (decode cX8_told 81 = .ok (.iload 4, 2)) ∧ (decode cX8_told 83 = .ok (.iload 5, 2)) := by decide +kernel
theorem dX8_told_69 : decode cX8_told 69 = .ok (.ireturn, 1) := eX8_told_69.1
theorem dX8_told_70 : decode cX8_told 70 = .ok (.aload_n 0, 1) := eX8_told_69.2.1
theorem dX8_told_71 : decode cX8_told 71 = .ok (.getfield 52, 3) := eX8_told_69.2.2.1
theorem dX8_told_74 : decode cX8_told 74 = .ok (.invokevirtual 218, 3) := eX8_told_69.2.2.2.1
theorem dX8_told_77 : decode cX8_told 77 = .ok (.aload_n 0, 1) := eX8_told_69.2.2.2.2.1
theorem dX8_told_78 : decode cX8_told 78 = .ok (.getfield 52, 3) := eX8_told_69.2.2.2.2.2.1
theorem dX8_told_81 : decode cX8_told 81 = .ok (.iload 4, 2) := eX8_told_69.2.2.2.2.2.2.1
theorem dX8_told_83 : decode cX8_told 83 = .ok (.iload 5, 2) := eX8_told_69.2.2.2.2.2.2.2
theorem eX8_told_85 : (decode cX8_told 85 = .ok (.invokevirtual 221, 3)) ∧ (decode cX8_told 88 = .ok (.aload_n 0, 1)) ∧ (decode cX8_told 89 = .ok (.getfield 52, 3)) ∧ (decode cX8_told 92 = .ok (.aload 6, 2)) ∧ (decode cX8_told 94 = .ok (.iload 4, 2)) ∧ (decode cX8_told 96 = .ok (.invokevirtual 224, 3)) ∧ (decode cX8_told 99 = .ok (.lconst 0, 1)) ∧ (decode cX8_told 100 = .ok (.lcmp, 1)) := by decide +kernel
theorem dX8_told_85 : decode cX8_told 85 = .ok (.invokevirtual 221, 3) := eX8_told_85.1
theorem dX8_told_88 : decode cX8_told 88 = .ok (.aload_n 0, 1) := eX8_told_85.2.1
theorem dX8_told_89 : decode cX8_told 89 = .ok (.getfield 52, 3) := eX8_told_85.2.2.1
theorem dX8_told_92 : decode cX8_told 92 = .ok (.aload 6, 2) := eX8_told_85.2.2.2.1
theorem dX8_told_94 : decode cX8_told 94 = .ok (.iload 4, 2) := eX8_told_85.2.2.2.2.1
theorem dX8_told_96 : decode cX8_told 96 = .ok (.invokevirtual 224, 3) := eX8_told_85.2.2.2.2.2.1
theorem dX8_told_99 : decode cX8_told 99 = .ok (.lconst 0, 1) := eX8_told_85.2.2.2.2.2.2.1
theorem dX8_told_100 : decode cX8_told 100 = .ok (.lcmp, 1) := eX8_told_85.2.2.2.2.2.2.2
theorem eX8_told_101 : (decode cX8_told 101 = .ok (.ifCond .ne 6, 3)) ∧ (decode cX8_told 104 = .ok (.bipush (-2), 2)) ∧ (decode cX8_told 106 = .ok (.ireturn, 1)) ∧ (decode cX8_told 107 = .ok (.aload_n 0, 1)) ∧ (decode cX8_told 108 = .ok (.getfield 52, 3)) ∧ (decode cX8_told 111 = .ok (.aload 6, 2)) ∧ (decode cX8_told 113 = .ok (.iload 4, 2)) ∧ (decode cX8_told 115 = .ok (.invokevirtual 228, 3)) := by decide +kernel
theorem dX8_told_101 : decode cX8_told 101 = .ok (.ifCond .ne 6, 3) := eX8_told_101.1
theorem dX8_told_104 : decode cX8_told 104 = .ok (.bipush (-2), 2) := eX8_told_101.2.1
theorem dX8_told_106 : decode cX8_told 106 = .ok (.ireturn, 1) := eX8_told_101.2.2.1
theorem dX8_told_107 : decode cX8_told 107 = .ok (.aload_n 0, 1) := eX8_told_101.2.2.2.1
theorem dX8_told_108 : decode cX8_told 108 = .ok (.getfield 52, 3) := eX8_told_101.2.2.2.2.1
theorem dX8_told_111 : decode cX8_told 111 = .ok (.aload 6, 2) := eX8_told_101.2.2.2.2.2.1
theorem dX8_told_113 : decode cX8_told 113 = .ok (.iload 4, 2) := eX8_told_101.2.2.2.2.2.2.1
theorem dX8_told_115 : decode cX8_told 115 = .ok (.invokevirtual 228, 3) := eX8_told_101.2.2.2.2.2.2.2
theorem eX8_told_118 : (decode cX8_told 118 = .ok (.ifCond .ne 6, 3)) ∧ (decode cX8_told 121 = .ok (.bipush (-6), 2)) ∧ (decode cX8_told 123 = .ok (.ireturn, 1)) ∧ (decode cX8_told 124 = .ok (.aload_n 0, 1)) ∧ (decode cX8_told 125 = .ok (.getfield 52, 3)) ∧ (decode cX8_told 128 = .ok (.aload 6, 2)) ∧ (decode cX8_told 130 = .ok (.iload 4, 2)) ∧ (decode cX8_told 132 = .ok (.iload 5, 2)) := by decide +kernel
theorem dX8_told_118 : decode cX8_told 118 = .ok (.ifCond .ne 6, 3) := eX8_told_118.1
theorem dX8_told_121 : decode cX8_told 121 = .ok (.bipush (-6), 2) := eX8_told_118.2.1
theorem dX8_told_123 : decode cX8_told 123 = .ok (.ireturn, 1) := eX8_told_118.2.2.1
theorem dX8_told_124 : decode cX8_told 124 = .ok (.aload_n 0, 1) := eX8_told_118.2.2.2.1
theorem dX8_told_125 : decode cX8_told 125 = .ok (.getfield 52, 3) := eX8_told_118.2.2.2.2.1
theorem dX8_told_128 : decode cX8_told 128 = .ok (.aload 6, 2) := eX8_told_118.2.2.2.2.2.1
theorem dX8_told_130 : decode cX8_told 130 = .ok (.iload 4, 2) := eX8_told_118.2.2.2.2.2.2.1
theorem dX8_told_132 : decode cX8_told 132 = .ok (.iload 5, 2) := eX8_told_118.2.2.2.2.2.2.2
theorem eX8_told_134 : (decode cX8_told 134 = .ok (.invokevirtual 232, 3)) ∧ (decode cX8_told 137 = .ok (.aload_n 0, 1)) ∧ (decode cX8_told 138 = .ok (.getfield 52, 3)) ∧ (decode cX8_told 141 = .ok (.invokevirtual 236, 3)) ∧ (decode cX8_told 144 = .ok (.lstore 7, 2)) ∧ (decode cX8_told 146 = .ok (.aload_n 0, 1)) ∧ (decode cX8_told 147 = .ok (.getfield 52, 3)) ∧ (decode cX8_told 150 = .ok (.iload_n 2, 1)) := by decide +kernel
theorem dX8_told_134 : decode cX8_told 134 = .ok (.invokevirtual 232, 3) := eX8_told_134.1
theorem dX8_told_137 : decode cX8_told 137 = .ok (.aload_n 0, 1) := eX8_told_134.2.1
theorem dX8_told_138 : decode cX8_told 138 = .ok (.getfield 52, 3) := eX8_told_134.2.2.1
theorem dX8_told_141 : decode cX8_told 141 = .ok (.invokevirtual 236, 3) := eX8_told_134.2.2.2.1
theorem dX8_told_144 : decode cX8_told 144 = .ok (.lstore 7, 2) := eX8_told_134.2.2.2.2.1
theorem dX8_told_146 : decode cX8_told 146 = .ok (.aload_n 0, 1) := eX8_told_134.2.2.2.2.2.1
theorem dX8_told_147 : decode cX8_told 147 = .ok (.getfield 52, 3) := eX8_told_134.2.2.2.2.2.2.1
theorem dX8_told_150 : decode cX8_told 150 = .ok (.iload_n 2, 1) := eX8_told_134.2.2.2.2.2.2.2
theorem eX8_told_151 : (decode cX8_told 151 = .ok (.iload_n 3, 1)) ∧ (decode cX8_told 152 = .ok (.invokevirtual 221, 3)) ∧ (decode cX8_told 155 = .ok (.aload_n 0, 1)) ∧ (decode cX8_told 156 = .ok (.getfield 52, 3)) ∧ (decode cX8_told 159 = .ok (.aload 6, 2)) ∧ (decode cX8_told 161 = .ok (.iload 4, 2)) ∧ (decode cX8_told 163 = .ok (.iload 5, 2)) ∧ (decode cX8_told 165 = .ok (.invokevirtual 232, 3)) := by decide +kernel
theorem dX8_told_151 : decode cX8_told 151 = .ok (.iload_n 3, 1) := eX8_told_151.1
theorem dX8_told_152 : decode cX8_told 152 = .ok (.invokevirtual 221, 3) := eX8_told_151.2.1
theorem dX8_told_155 : decode cX8_told 155 = .ok (.aload_n 0, 1) := eX8_told_151.2.2.1
theorem dX8_told_156 : decode cX8_told 156 = .ok (.getfield 52, 3) := eX8_told_151.2.2.2.1
theorem dX8_told_159 : decode cX8_told 159 = .ok (.aload 6, 2) := eX8_told_151.2.2.2.2.1
theorem dX8_told_161 : decode cX8_told 161 = .ok (.iload 4, 2) := eX8_told_151.2.2.2.2.2.1
theorem dX8_told_163 : decode cX8_told 163 = .ok (.iload 5, 2) := eX8_told_151.2.2.2.2.2.2.1
theorem dX8_told_165 : decode cX8_told 165 = .ok (.invokevirtual 232, 3) := eX8_told_151.2.2.2.2.2.2.2
theorem eX8_told_168 : (decode cX8_told 168 = .ok (.aload_n 0, 1)) ∧ (decode cX8_told 169 = .ok (.getfield 59, 3)) ∧ (decode cX8_told 172 = .ok (.lconst 0, 1)) ∧ (decode cX8_told 173 = .ok (.aload_n 0, 1)) ∧ (decode cX8_told 174 = .ok (.getfield 52, 3)) ∧ (decode cX8_told 177 = .ok (.invokevirtual 236, 3)) ∧ (decode cX8_told 180 = .ok (.lload 7, 2)) ∧ (decode cX8_told 182 = .ok (.invokevirtual 189, 3)) := by decide +kernel
theorem dX8_told_168 : decode cX8_told 168 = .ok (.aload_n 0, 1) := eX8_told_168.1
theorem dX8_told_169 : decode cX8_told 169 = .ok (.getfield 59, 3) := eX8_told_168.2.1
theorem dX8_told_172 : decode cX8_told 172 = .ok (.lconst 0, 1) := eX8_told_168.2.2.1
theorem dX8_told_173 : decode cX8_told 173 = .ok (.aload_n 0, 1) := eX8_told_168.2.2.2.1
theorem dX8_told_174 : decode cX8_told 174 = .ok (.getfield 52, 3) := eX8_told_168.2.2.2.2.1
theorem dX8_told_177 : decode cX8_told 177 = .ok (.invokevirtual 236, 3) := eX8_told_168.2.2.2.2.2.1
theorem dX8_told_180 : decode cX8_told 180 = .ok (.lload 7, 2) := eX8_told_168.2.2.2.2.2.2.1
theorem dX8_told_182 : decode cX8_told 182 = .ok (.invokevirtual 189, 3) := eX8_told_168.2.2.2.2.2.2.2
theorem eX8_told_185 : (decode cX8_told 185 = .ok (.iconst 0, 1)) ∧ (decode cX8_told 186 = .ok (.ireturn, 1)) := by decide +kernel
theorem dX8_told_185 : decode cX8_told 185 = .ok (.iconst 0, 1) := eX8_told_185.1
theorem dX8_told_186 : decode cX8_told 186 = .ok (.ireturn, 1) := eX8_told_185.2
theorem eX8_share_0 : (decode cX8_share 0 = .ok (.aload_n 0, 1)) ∧ (decode cX8_share 1 = .ok (.iload_n 1, 1)) ∧ (decode cX8_share 2 = .ok (.invokevirtual 101, 3)) ∧ (decode cX8_share 5 = .ok (.astore 4, 2)) ∧ (decode cX8_share 7 = .ok (.aload 4, 2)) ∧ (decode cX8_share 9 = .ok (.ifnull 22, 3)) ∧ (decode cX8_share 12 = .ok (.aload 4, 2)) ∧ (decode cX8_share 14 = .ok (.iload_n 2, 1)) := by decide +kernel
theorem dX8_share_0 : decode cX8_share 0 = .ok (.aload_n 0, 1) := eX8_share_0.1
theorem dX8_share_1 : decode cX8_share 1 = .ok (.iload_n 1, 1) := eX8_share_0.2.1
theorem dX8_share_2 : decode cX8_share 2 = .ok (.invokevirtual 101, 3) := eX8_share_0.2.2.1
theorem dX8_share_5 : decode cX8_share 5 = .ok (.astore 4, 2) := eX8_share_0.2.2.2.1
theorem dX8_share_7 : decode cX8_share 7 = .ok (.aload 4, 2) := eX8_share_0.2.2.2.2.1
theorem dX8_share_9 : decode cX8_share 9 = .ok (.ifnull 22, 3) := eX8_share_0.2.2.2.2.2.1
theorem dX8_share_12 : decode cX8_share 12 = .ok (.aload 4, 2) := eX8_share_0.2.2.2.2.2.2.1
theorem dX8_share_14 : decode cX8_share 14 = .ok (.iload_n 2, 1) := eX8_share_0.2.2.2.2.2.2.2
theorem eX8_share_15 : (decode cX8_share 15 = .ok (.invokevirtual 105, 3)) ∧ (decode cX8_share 18 = .ok (.ifCond .eq 13, 3)) ∧ (decode cX8_share 21 = .ok (.iload_n 3, 1)) ∧ (decode cX8_share 22 = .ok (.iconst 1, 1)) ∧ (decode cX8_share 23 = .ok (.if_icmp .lt 8, 3)) ∧ (decode cX8_share 26 = .ok (.iload_n 3, 1)) ∧ (decode cX8_share 27 = .ok (.iconst 4, 1)) ∧ (decode cX8_share 28 = .ok (.if_icmp .le 5, 3)) := by decide +kernel
theorem dX8_share_15 : decode cX8_share 15 = .ok (.invokevirtual 105, 3) := eX8_share_15.1
theorem dX8_share_18 : decode cX8_share 18 = .ok (.ifCond .eq 13, 3) := eX8_share_15.2.1
theorem dX8_share_21 : decode cX8_share 21 = .ok (.iload_n 3, 1) := eX8_share_15.2.2.1
theorem dX8_share_22 : decode cX8_share 22 = .ok (.iconst 1, 1) := eX8_share_15.2.2.2.1
theorem dX8_share_23 : decode cX8_share 23 = .ok (.if_icmp .lt 8, 3) := eX8_share_15.2.2.2.2.1
theorem dX8_share_26 : decode cX8_share 26 = .ok (.iload_n 3, 1) := eX8_share_15.2.2.2.2.2.1
theorem dX8_share_27 : decode cX8_share 27 = .ok (.iconst 4, 1) := eX8_share_15.2.2.2.2.2.2.1
theorem dX8_share_28 : decode cX8_share 28 = .ok (.if_icmp .le 5, 3) := eX8_share_15.2.2.2.2.2.2.2
theorem eX8_share_31 : (decode cX8_share 31 = .ok (.iconst (-1), 1)) ∧ (decode cX8_share 32 = .ok (.ireturn, 1)) ∧ (decode cX8_share 33 = .ok (.aload 4, 2)) ∧ (decode cX8_share 35 = .ok (.iconst 0, 1)) ∧ (decode cX8_share 36 = .ok (.invokevirtual 140, 3)) ∧ (decode cX8_share 39 = .ok (.istore 5, 2)) ∧ (decode cX8_share 41 = .ok (.aload 4, 2)) ∧ (decode cX8_share 43 = .ok (.invokevirtual 144, 3)) := by decide +kernel
theorem dX8_share_31 : decode cX8_share 31 = .ok (.iconst (-1), 1) := eX8_share_31.1
theorem dX8_share_32 : decode cX8_share 32 = .ok (.ireturn, 1) := eX8_share_31.2.1
theorem dX8_share_33 : decode cX8_share 33 = .ok (.aload 4, 2) := eX8_share_31.2.2.1
theorem dX8_share_35 : decode cX8_share 35 = .ok (.iconst 0, 1) := eX8_share_31.2.2.2.1
theorem dX8_share_36 : decode cX8_share 36 = .ok (.invokevirtual 140, 3) := eX8_share_31.2.2.2.2.1
theorem dX8_share_39 : decode cX8_share 39 = .ok (.istore 5, 2) := eX8_share_31.2.2.2.2.2.1
theorem dX8_share_41 : decode cX8_share 41 = .ok (.aload 4, 2) := eX8_share_31.2.2.2.2.2.2.1
theorem dX8_share_43 : decode cX8_share 43 = .ok (.invokevirtual 144, 3) := eX8_share_31.2.2.2.2.2.2.2
theorem eX8_share_46 : (decode cX8_share 46 = .ok (.ifCond .eq 16, 3)) ∧ (decode cX8_share 49 = .ok (.iload 5, 2)) ∧ (decode cX8_share 51 = .ok (.ifCond .le 11, 3)) ∧ (decode cX8_share 54 = .ok (.aload 4, 2)) ∧ (decode cX8_share 56 = .ok (.invokevirtual 129, 3)) ∧ (decode cX8_share 59 = .ok (.ifCond .ne 6, 3)) ∧ (decode cX8_share 62 = .ok (.bipush (-2), 2)) ∧ (decode cX8_share 64 = .ok (.ireturn, 1)) := by decide +kernel
theorem dX8_share_46 : decode cX8_share 46 = .ok (.ifCond .eq 16, 3) := eX8_share_46.1
theorem dX8_share_49 : decode cX8_share 49 = .ok (.iload 5, 2) := eX8_share_46.2.1
theorem dX8_share_51 : decode cX8_share 51 = .ok (.ifCond .le 11, 3) := eX8_share_46.2.2.1
theorem dX8_share_54 : decode cX8_share 54 = .ok (.aload 4, 2) := eX8_share_46.2.2.2.1
theorem dX8_share_56 : decode cX8_share 56 = .ok (.invokevirtual 129, 3) := eX8_share_46.2.2.2.2.1
theorem dX8_share_59 : decode cX8_share 59 = .ok (.ifCond .ne 6, 3) := eX8_share_46.2.2.2.2.2.1
theorem dX8_share_62 : decode cX8_share 62 = .ok (.bipush (-2), 2) := eX8_share_46.2.2.2.2.2.2.1
theorem dX8_share_64 : decode cX8_share 64 = .ok (.ireturn, 1) := eX8_share_46.2.2.2.2.2.2.2
theorem eX8_share_65 : (decode cX8_share 65 = .ok (.lconst 1, 1)) ∧ (decode cX8_share 66 = .ok (.lstore 6, 2)) ∧ (decode cX8_share 68 = .ok (.lconst 1, 1)) ∧ (decode cX8_share 69 = .ok (.lstore 8, 2)) ∧ (decode cX8_share 71 = .ok (.iconst 0, 1)) ∧ (decode cX8_share 72 = .ok (.istore 10, 2)) ∧ (decode cX8_share 74 = .ok (.iload 10, 2)) ∧ (decode cX8_share 76 = .ok (.iload_n 3, 1)) := by decide +kernel
theorem dX8_share_65 : decode cX8_share 65 = .ok (.lconst 1, 1) := eX8_share_65.1
theorem dX8_share_66 : decode cX8_share 66 = .ok (.lstore 6, 2) := eX8_share_65.2.1
theorem dX8_share_68 : decode cX8_share 68 = .ok (.lconst 1, 1) := eX8_share_65.2.2.1
theorem dX8_share_69 : decode cX8_share 69 = .ok (.lstore 8, 2) := eX8_share_65.2.2.2.1
theorem dX8_share_71 : decode cX8_share 71 = .ok (.iconst 0, 1) := eX8_share_65.2.2.2.2.1
theorem dX8_share_72 : decode cX8_share 72 = .ok (.istore 10, 2) := eX8_share_65.2.2.2.2.2.1
theorem dX8_share_74 : decode cX8_share 74 = .ok (.iload 10, 2) := eX8_share_65.2.2.2.2.2.2.1
theorem dX8_share_76 : decode cX8_share 76 = .ok (.iload_n 3, 1) := eX8_share_65.2.2.2.2.2.2.2
theorem eX8_share_77 : (decode cX8_share 77 = .ok (.if_icmp .ge 45, 3)) ∧ (decode cX8_share 80 = .ok (.lload 6, 2)) ∧ (decode cX8_share 82 = .ok (.aload 4, 2)) ∧ (decode cX8_share 84 = .ok (.getfield 119, 3)) ∧ (decode cX8_share 87 = .ok (.iload_n 2, 1)) ∧ (decode cX8_share 88 = .ok (.iaload, 1)) ∧ (decode cX8_share 89 = .ok (.iload 10, 2)) ∧ (decode cX8_share 91 = .ok (.iload 5, 2)) := by decide +kernel
theorem dX8_share_77 : decode cX8_share 77 = .ok (.if_icmp .ge 45, 3) := eX8_share_77.1
theorem dX8_share_80 : decode cX8_share 80 = .ok (.lload 6, 2) := eX8_share_77.2.1
theorem dX8_share_82 : decode cX8_share 82 = .ok (.aload 4, 2) := eX8_share_77.2.2.1
theorem dX8_share_84 : decode cX8_share 84 = .ok (.getfield 119, 3) := eX8_share_77.2.2.2.1
theorem dX8_share_87 : decode cX8_share 87 = .ok (.iload_n 2, 1) := eX8_share_77.2.2.2.2.1
theorem dX8_share_88 : decode cX8_share 88 = .ok (.iaload, 1) := eX8_share_77.2.2.2.2.2.1
theorem dX8_share_89 : decode cX8_share 89 = .ok (.iload 10, 2) := eX8_share_77.2.2.2.2.2.2.1
theorem dX8_share_91 : decode cX8_share 91 = .ok (.iload 5, 2) := eX8_share_77.2.2.2.2.2.2.2
theorem eX8_share_93 : (decode cX8_share 93 = .ok (.imul, 1)) ∧ (decode cX8_share 94 = .ok (.iadd, 1)) ∧ (decode cX8_share 95 = .ok (.i2l, 1)) ∧ (decode cX8_share 96 = .ok (.lmul, 1)) ∧ (decode cX8_share 97 = .ok (.lstore 6, 2)) ∧ (decode cX8_share 99 = .ok (.lload 8, 2)) ∧ (decode cX8_share 101 = .ok (.aload 4, 2)) ∧ (decode cX8_share 103 = .ok (.invokevirtual 129, 3)) := by decide +kernel
theorem dX8_share_93 : decode cX8_share 93 = .ok (.imul, 1) := eX8_share_93.1
theorem dX8_share_94 : decode cX8_share 94 = .ok (.iadd, 1) := eX8_share_93.2.1
theorem dX8_share_95 : decode cX8_share 95 = .ok (.i2l, 1) := eX8_share_93.2.2.1
theorem dX8_share_96 : decode cX8_share 96 = .ok (.lmul, 1) := eX8_share_93.2.2.2.1
theorem dX8_share_97 : decode cX8_share 97 = .ok (.lstore 6, 2) := eX8_share_93.2.2.2.2.1
theorem dX8_share_99 : decode cX8_share 99 = .ok (.lload 8, 2) := eX8_share_93.2.2.2.2.2.1
theorem dX8_share_101 : decode cX8_share 101 = .ok (.aload 4, 2) := eX8_share_93.2.2.2.2.2.2.1
theorem dX8_share_103 : decode cX8_share 103 = .ok (.invokevirtual 129, 3) := eX8_share_93.2.2.2.2.2.2.2
theorem eX8_share_106 : (decode cX8_share 106 = .ok (.iload 10, 2)) ∧ (decode cX8_share 108 = .ok (.iload 5, 2)) ∧ (decode cX8_share 110 = .ok (.imul, 1)) ∧ (decode cX8_share 111 = .ok (.iadd, 1)) ∧ (decode cX8_share 112 = .ok (.i2l, 1)) ∧ (decode cX8_share 113 = .ok (.lmul, 1)) ∧ (decode cX8_share 114 = .ok (.lstore 8, 2)) ∧ (decode cX8_share 116 = .ok (.iinc 10 1, 3)) := by decide +kernel
theorem dX8_share_106 : decode cX8_share 106 = .ok (.iload 10, 2) := eX8_share_106.1
theorem dX8_share_108 : decode cX8_share 108 = .ok (.iload 5, 2) := eX8_share_106.2.1
theorem dX8_share_110 : decode cX8_share 110 = .ok (.imul, 1) := eX8_share_106.2.2.1
theorem dX8_share_111 : decode cX8_share 111 = .ok (.iadd, 1) := eX8_share_106.2.2.2.1
theorem dX8_share_112 : decode cX8_share 112 = .ok (.i2l, 1) := eX8_share_106.2.2.2.2.1
theorem dX8_share_113 : decode cX8_share 113 = .ok (.lmul, 1) := eX8_share_106.2.2.2.2.2.1
theorem dX8_share_114 : decode cX8_share 114 = .ok (.lstore 8, 2) := eX8_share_106.2.2.2.2.2.2.1
theorem dX8_share_116 : decode cX8_share 116 = .ok (.iinc 10 1, 3) := eX8_share_106.2.2.2.2.2.2.2
theorem eX8_share_119 : (decode cX8_share 119 = .ok (.goto (-45), 3)) ∧ (decode cX8_share 122 = .ok (.aload_n 0, 1)) ∧ (decode cX8_share 123 = .ok (.getfield 59, 3)) ∧ (decode cX8_share 126 = .ok (.lconst 0, 1)) ∧ (decode cX8_share 127 = .ok (.lload 6, 2)) ∧ (decode cX8_share 129 = .ok (.lload 8, 2)) ∧ (decode cX8_share 131 = .ok (.invokevirtual 189, 3)) ∧ (decode cX8_share 134 = .ok (.iconst 0, 1)) := by decide +kernel
theorem dX8_share_119 : decode cX8_share 119 = .ok (.goto (-45), 3) := eX8_share_119.1
theorem dX8_share_122 : decode cX8_share 122 = .ok (.aload_n 0, 1) := eX8_share_119.2.1
theorem dX8_share_123 : decode cX8_share 123 = .ok (.getfield 59, 3) := eX8_share_119.2.2.1
theorem dX8_share_126 : decode cX8_share 126 = .ok (.lconst 0, 1) := eX8_share_119.2.2.2.1
theorem dX8_share_127 : decode cX8_share 127 = .ok (.lload 6, 2) := eX8_share_119.2.2.2.2.1
theorem dX8_share_129 : decode cX8_share 129 = .ok (.lload 8, 2) := eX8_share_119.2.2.2.2.2.1
theorem dX8_share_131 : decode cX8_share 131 = .ok (.invokevirtual 189, 3) := eX8_share_119.2.2.2.2.2.2.1
theorem dX8_share_134 : decode cX8_share 134 = .ok (.iconst 0, 1) := eX8_share_119.2.2.2.2.2.2.2
theorem dX8_share_135 : decode cX8_share 135 = .ok (.ireturn, 1) := by decide +kernel
theorem eX8_free_0 : (decode cX8_free 0 = .ok (.aload_n 0, 1)) ∧ (decode cX8_free 1 = .ok (.iload_n 1, 1)) ∧ (decode cX8_free 2 = .ok (.invokevirtual 101, 3)) ∧ (decode cX8_free 5 = .ok (.astore_n 3, 1)) ∧ (decode cX8_free 6 = .ok (.aload_n 3, 1)) ∧ (decode cX8_free 7 = .ok (.ifnull 13, 3)) ∧ (decode cX8_free 10 = .ok (.iload_n 2, 1)) ∧ (decode cX8_free 11 = .ok (.iconst 1, 1)) := by decide +kernel
theorem dX8_free_0 : decode cX8_free 0 = .ok (.aload_n 0, 1) := eX8_free_0.1
theorem dX8_free_1 : decode cX8_free 1 = .ok (.iload_n 1, 1) := eX8_free_0.2.1
theorem dX8_free_2 : decode cX8_free 2 = .ok (.invokevirtual 101, 3) := eX8_free_0.2.2.1
theorem dX8_free_5 : decode cX8_free 5 = .ok (.astore_n 3, 1) := eX8_free_0.2.2.2.1
theorem dX8_free_6 : decode cX8_free 6 = .ok (.aload_n 3, 1) := eX8_free_0.2.2.2.2.1
theorem dX8_free_7 : decode cX8_free 7 = .ok (.ifnull 13, 3) := eX8_free_0.2.2.2.2.2.1
theorem dX8_free_10 : decode cX8_free 10 = .ok (.iload_n 2, 1) := eX8_free_0.2.2.2.2.2.2.1
theorem dX8_free_11 : decode cX8_free 11 = .ok (.iconst 1, 1) := eX8_free_0.2.2.2.2.2.2.2
theorem eX8_free_12 : (decode cX8_free 12 = .ok (.if_icmp .lt 8, 3)) ∧ (decode cX8_free 15 = .ok (.iload_n 2, 1)) ∧ (decode cX8_free 16 = .ok (.iconst 5, 1)) ∧ (decode cX8_free 17 = .ok (.if_icmp .le 5, 3)) ∧ (decode cX8_free 20 = .ok (.iconst (-1), 1)) ∧ (decode cX8_free 21 = .ok (.ireturn, 1)) ∧ (decode cX8_free 22 = .ok (.aload_n 3, 1)) ∧ (decode cX8_free 23 = .ok (.invokevirtual 129, 3)) := by decide +kernel
theorem dX8_free_12 : decode cX8_free 12 = .ok (.if_icmp .lt 8, 3) := eX8_free_12.1
theorem dX8_free_15 : decode cX8_free 15 = .ok (.iload_n 2, 1) := eX8_free_12.2.1
theorem dX8_free_16 : decode cX8_free 16 = .ok (.iconst 5, 1) := eX8_free_12.2.2.1
theorem dX8_free_17 : decode cX8_free 17 = .ok (.if_icmp .le 5, 3) := eX8_free_12.2.2.2.1
theorem dX8_free_20 : decode cX8_free 20 = .ok (.iconst (-1), 1) := eX8_free_12.2.2.2.2.1
theorem dX8_free_21 : decode cX8_free 21 = .ok (.ireturn, 1) := eX8_free_12.2.2.2.2.2.1
theorem dX8_free_22 : decode cX8_free 22 = .ok (.aload_n 3, 1) := eX8_free_12.2.2.2.2.2.2.1
theorem dX8_free_23 : decode cX8_free 23 = .ok (.invokevirtual 129, 3) := eX8_free_12.2.2.2.2.2.2.2
theorem eX8_free_26 : (decode cX8_free 26 = .ok (.ifCond .ne 6, 3)) ∧ (decode cX8_free 29 = .ok (.bipush (-2), 2)) ∧ (decode cX8_free 31 = .ok (.ireturn, 1)) ∧ (decode cX8_free 32 = .ok (.aload_n 0, 1)) ∧ (decode cX8_free 33 = .ok (.getfield 45, 3)) ∧ (decode cX8_free 36 = .ok (.aload_n 3, 1)) ∧ (decode cX8_free 37 = .ok (.iload_n 2, 1)) ∧ (decode cX8_free 38 = .ok (.aload_n 0, 1)) := by decide +kernel
theorem dX8_free_26 : decode cX8_free 26 = .ok (.ifCond .ne 6, 3) := eX8_free_26.1
theorem dX8_free_29 : decode cX8_free 29 = .ok (.bipush (-2), 2) := eX8_free_26.2.1
theorem dX8_free_31 : decode cX8_free 31 = .ok (.ireturn, 1) := eX8_free_26.2.2.1
theorem dX8_free_32 : decode cX8_free 32 = .ok (.aload_n 0, 1) := eX8_free_26.2.2.2.1
theorem dX8_free_33 : decode cX8_free 33 = .ok (.getfield 45, 3) := eX8_free_26.2.2.2.2.1
theorem dX8_free_36 : decode cX8_free 36 = .ok (.aload_n 3, 1) := eX8_free_26.2.2.2.2.2.1
theorem dX8_free_37 : decode cX8_free 37 = .ok (.iload_n 2, 1) := eX8_free_26.2.2.2.2.2.2.1
theorem dX8_free_38 : decode cX8_free 38 = .ok (.aload_n 0, 1) := eX8_free_26.2.2.2.2.2.2.2
theorem eX8_free_39 : (decode cX8_free 39 = .ok (.getfield 38, 3)) ∧ (decode cX8_free 42 = .ok (.invokevirtual 240, 3)) ∧ (decode cX8_free 45 = .ok (.ifCond .eq 7, 3)) ∧ (decode cX8_free 48 = .ok (.iconst 1, 1)) ∧ (decode cX8_free 49 = .ok (.goto 4, 3)) ∧ (decode cX8_free 52 = .ok (.iconst 0, 1)) ∧ (decode cX8_free 53 = .ok (.ireturn, 1)) := by decide +kernel
theorem dX8_free_39 : decode cX8_free 39 = .ok (.getfield 38, 3) := eX8_free_39.1
theorem dX8_free_42 : decode cX8_free 42 = .ok (.invokevirtual 240, 3) := eX8_free_39.2.1
theorem dX8_free_45 : decode cX8_free 45 = .ok (.ifCond .eq 7, 3) := eX8_free_39.2.2.1
theorem dX8_free_48 : decode cX8_free 48 = .ok (.iconst 1, 1) := eX8_free_39.2.2.2.1
theorem dX8_free_49 : decode cX8_free 49 = .ok (.goto 4, 3) := eX8_free_39.2.2.2.2.1
theorem dX8_free_52 : decode cX8_free 52 = .ok (.iconst 0, 1) := eX8_free_39.2.2.2.2.2.1
theorem dX8_free_53 : decode cX8_free 53 = .ok (.ireturn, 1) := eX8_free_39.2.2.2.2.2.2
theorem eX8_part_0 : (decode cX8_part 0 = .ok (.iload_n 1, 1)) ∧ (decode cX8_part 1 = .ok (.tableswitch 51 0 2 #[27, 35, 43], 27)) ∧ (decode cX8_part 28 = .ok (.aload_n 0, 1)) ∧ (decode cX8_part 29 = .ok (.getfield 59, 3)) ∧ (decode cX8_part 32 = .ok (.getfield 244, 3)) ∧ (decode cX8_part 35 = .ok (.lreturn, 1)) ∧ (decode cX8_part 36 = .ok (.aload_n 0, 1)) ∧ (decode cX8_part 37 = .ok (.getfield 59, 3)) := by decide +kernel
theorem dX8_part_0 : decode cX8_part 0 = .ok (.iload_n 1, 1) := eX8_part_0.1
theorem dX8_part_1 : decode cX8_part 1 = .ok (.tableswitch 51 0 2 #[27, 35, 43], 27) := eX8_part_0.2.1
theorem dX8_part_28 : decode cX8_part 28 = .ok (.aload_n 0, 1) := eX8_part_0.2.2.1
theorem dX8_part_29 : decode cX8_part 29 = .ok (.getfield 59, 3) := eX8_part_0.2.2.2.1
theorem dX8_part_32 : decode cX8_part 32 = .ok (.getfield 244, 3) := eX8_part_0.2.2.2.2.1
theorem dX8_part_35 : decode cX8_part 35 = .ok (.lreturn, 1) := eX8_part_0.2.2.2.2.2.1
theorem dX8_part_36 : decode cX8_part 36 = .ok (.aload_n 0, 1) := eX8_part_0.2.2.2.2.2.2.1
theorem dX8_part_37 : decode cX8_part 37 = .ok (.getfield 59, 3) := eX8_part_0.2.2.2.2.2.2.2
theorem eX8_part_40 : (decode cX8_part 40 = .ok (.getfield 247, 3)) ∧ (decode cX8_part 43 = .ok (.lreturn, 1)) ∧ (decode cX8_part 44 = .ok (.aload_n 0, 1)) ∧ (decode cX8_part 45 = .ok (.getfield 59, 3)) ∧ (decode cX8_part 48 = .ok (.getfield 248, 3)) ∧ (decode cX8_part 51 = .ok (.lreturn, 1)) ∧ (decode cX8_part 52 = .ok (.ldc2_w 249, 3)) ∧ (decode cX8_part 55 = .ok (.lreturn, 1)) := by decide +kernel
theorem dX8_part_40 : decode cX8_part 40 = .ok (.getfield 247, 3) := eX8_part_40.1
theorem dX8_part_43 : decode cX8_part 43 = .ok (.lreturn, 1) := eX8_part_40.2.1
theorem dX8_part_44 : decode cX8_part 44 = .ok (.aload_n 0, 1) := eX8_part_40.2.2.1
theorem dX8_part_45 : decode cX8_part 45 = .ok (.getfield 59, 3) := eX8_part_40.2.2.2.1
theorem dX8_part_48 : decode cX8_part 48 = .ok (.getfield 248, 3) := eX8_part_40.2.2.2.2.1
theorem dX8_part_51 : decode cX8_part 51 = .ok (.lreturn, 1) := eX8_part_40.2.2.2.2.2.1
theorem dX8_part_52 : decode cX8_part 52 = .ok (.ldc2_w 249, 3) := eX8_part_40.2.2.2.2.2.2.1
theorem dX8_part_55 : decode cX8_part 55 = .ok (.lreturn, 1) := eX8_part_40.2.2.2.2.2.2.2
theorem eX8_count_0 : (decode cX8_count 0 = .ok (.iload_n 1, 1)) ∧ (decode cX8_count 1 = .ok (.tableswitch 54 0 3 #[31, 36, 44, 49], 31)) ∧ (decode cX8_count 32 = .ok (.aload_n 0, 1)) ∧ (decode cX8_count 33 = .ok (.getfield 63, 3)) ∧ (decode cX8_count 36 = .ok (.ireturn, 1)) ∧ (decode cX8_count 37 = .ok (.aload_n 0, 1)) ∧ (decode cX8_count 38 = .ok (.getfield 24, 3)) ∧ (decode cX8_count 41 = .ok (.getfield 251, 3)) := by decide +kernel
theorem dX8_count_0 : decode cX8_count 0 = .ok (.iload_n 1, 1) := eX8_count_0.1
theorem dX8_count_1 : decode cX8_count 1 = .ok (.tableswitch 54 0 3 #[31, 36, 44, 49], 31) := eX8_count_0.2.1
theorem dX8_count_32 : decode cX8_count 32 = .ok (.aload_n 0, 1) := eX8_count_0.2.2.1
theorem dX8_count_33 : decode cX8_count 33 = .ok (.getfield 63, 3) := eX8_count_0.2.2.2.1
theorem dX8_count_36 : decode cX8_count 36 = .ok (.ireturn, 1) := eX8_count_0.2.2.2.2.1
theorem dX8_count_37 : decode cX8_count 37 = .ok (.aload_n 0, 1) := eX8_count_0.2.2.2.2.2.1
theorem dX8_count_38 : decode cX8_count 38 = .ok (.getfield 24, 3) := eX8_count_0.2.2.2.2.2.2.1
theorem dX8_count_41 : decode cX8_count 41 = .ok (.getfield 251, 3) := eX8_count_0.2.2.2.2.2.2.2
theorem eX8_count_44 : (decode cX8_count 44 = .ok (.ireturn, 1)) ∧ (decode cX8_count 45 = .ok (.aload_n 0, 1)) ∧ (decode cX8_count 46 = .ok (.invokevirtual 252, 3)) ∧ (decode cX8_count 49 = .ok (.ireturn, 1)) ∧ (decode cX8_count 50 = .ok (.aload_n 0, 1)) ∧ (decode cX8_count 51 = .ok (.getfield 67, 3)) ∧ (decode cX8_count 54 = .ok (.ireturn, 1)) ∧ (decode cX8_count 55 = .ok (.iconst (-1), 1)) := by decide +kernel
theorem dX8_count_44 : decode cX8_count 44 = .ok (.ireturn, 1) := eX8_count_44.1
theorem dX8_count_45 : decode cX8_count 45 = .ok (.aload_n 0, 1) := eX8_count_44.2.1
theorem dX8_count_46 : decode cX8_count 46 = .ok (.invokevirtual 252, 3) := eX8_count_44.2.2.1
theorem dX8_count_49 : decode cX8_count 49 = .ok (.ireturn, 1) := eX8_count_44.2.2.2.1
theorem dX8_count_50 : decode cX8_count 50 = .ok (.aload_n 0, 1) := eX8_count_44.2.2.2.2.1
theorem dX8_count_51 : decode cX8_count 51 = .ok (.getfield 67, 3) := eX8_count_44.2.2.2.2.2.1
theorem dX8_count_54 : decode cX8_count 54 = .ok (.ireturn, 1) := eX8_count_44.2.2.2.2.2.2.1
theorem dX8_count_55 : decode cX8_count 55 = .ok (.iconst (-1), 1) := eX8_count_44.2.2.2.2.2.2.2
theorem dX8_count_56 : decode cX8_count 56 = .ok (.ireturn, 1) := by decide +kernel
theorem eX8_sheetAt_0 : (decode cX8_sheetAt 0 = .ok (.iload_n 1, 1)) ∧ (decode cX8_sheetAt 1 = .ok (.ifCond .lt 9, 3)) ∧ (decode cX8_sheetAt 4 = .ok (.iload_n 1, 1)) ∧ (decode cX8_sheetAt 5 = .ok (.bipush 6, 2)) ∧ (decode cX8_sheetAt 7 = .ok (.if_icmp .lt 7, 3)) ∧ (decode cX8_sheetAt 10 = .ok (.aconst_null, 1)) ∧ (decode cX8_sheetAt 11 = .ok (.goto 9, 3)) ∧ (decode cX8_sheetAt 14 = .ok (.aload_n 0, 1)) := by decide +kernel
theorem dX8_sheetAt_0 : decode cX8_sheetAt 0 = .ok (.iload_n 1, 1) := eX8_sheetAt_0.1
theorem dX8_sheetAt_1 : decode cX8_sheetAt 1 = .ok (.ifCond .lt 9, 3) := eX8_sheetAt_0.2.1
theorem dX8_sheetAt_4 : decode cX8_sheetAt 4 = .ok (.iload_n 1, 1) := eX8_sheetAt_0.2.2.1
theorem dX8_sheetAt_5 : decode cX8_sheetAt 5 = .ok (.bipush 6, 2) := eX8_sheetAt_0.2.2.2.1
theorem dX8_sheetAt_7 : decode cX8_sheetAt 7 = .ok (.if_icmp .lt 7, 3) := eX8_sheetAt_0.2.2.2.2.1
theorem dX8_sheetAt_10 : decode cX8_sheetAt 10 = .ok (.aconst_null, 1) := eX8_sheetAt_0.2.2.2.2.2.1
theorem dX8_sheetAt_11 : decode cX8_sheetAt 11 = .ok (.goto 9, 3) := eX8_sheetAt_0.2.2.2.2.2.2.1
theorem dX8_sheetAt_14 : decode cX8_sheetAt 14 = .ok (.aload_n 0, 1) := eX8_sheetAt_0.2.2.2.2.2.2.2
theorem eX8_sheetAt_15 : (decode cX8_sheetAt 15 = .ok (.getfield 11, 3)) ∧ (decode cX8_sheetAt 18 = .ok (.iload_n 1, 1)) ∧ (decode cX8_sheetAt 19 = .ok (.aaload, 1)) ∧ (decode cX8_sheetAt 20 = .ok (.areturn, 1)) := by decide +kernel
theorem dX8_sheetAt_15 : decode cX8_sheetAt 15 = .ok (.getfield 11, 3) := eX8_sheetAt_15.1
theorem dX8_sheetAt_18 : decode cX8_sheetAt 18 = .ok (.iload_n 1, 1) := eX8_sheetAt_15.2.1
theorem dX8_sheetAt_19 : decode cX8_sheetAt 19 = .ok (.aaload, 1) := eX8_sheetAt_15.2.2.1
theorem dX8_sheetAt_20 : decode cX8_sheetAt 20 = .ok (.areturn, 1) := eX8_sheetAt_15.2.2.2
theorem eX8_urnAt_0 : (decode cX8_urnAt 0 = .ok (.iload_n 1, 1)) ∧ (decode cX8_urnAt 1 = .ok (.ifCond .lt 11, 3)) ∧ (decode cX8_urnAt 4 = .ok (.iload_n 1, 1)) ∧ (decode cX8_urnAt 5 = .ok (.aload_n 0, 1)) ∧ (decode cX8_urnAt 6 = .ok (.getfield 63, 3)) ∧ (decode cX8_urnAt 9 = .ok (.if_icmp .lt 7, 3)) ∧ (decode cX8_urnAt 12 = .ok (.aconst_null, 1)) ∧ (decode cX8_urnAt 13 = .ok (.goto 9, 3)) := by decide +kernel
theorem dX8_urnAt_0 : decode cX8_urnAt 0 = .ok (.iload_n 1, 1) := eX8_urnAt_0.1
theorem dX8_urnAt_1 : decode cX8_urnAt 1 = .ok (.ifCond .lt 11, 3) := eX8_urnAt_0.2.1
theorem dX8_urnAt_4 : decode cX8_urnAt 4 = .ok (.iload_n 1, 1) := eX8_urnAt_0.2.2.1
theorem dX8_urnAt_5 : decode cX8_urnAt 5 = .ok (.aload_n 0, 1) := eX8_urnAt_0.2.2.2.1
theorem dX8_urnAt_6 : decode cX8_urnAt 6 = .ok (.getfield 63, 3) := eX8_urnAt_0.2.2.2.2.1
theorem dX8_urnAt_9 : decode cX8_urnAt 9 = .ok (.if_icmp .lt 7, 3) := eX8_urnAt_0.2.2.2.2.2.1
theorem dX8_urnAt_12 : decode cX8_urnAt 12 = .ok (.aconst_null, 1) := eX8_urnAt_0.2.2.2.2.2.2.1
theorem dX8_urnAt_13 : decode cX8_urnAt 13 = .ok (.goto 9, 3) := eX8_urnAt_0.2.2.2.2.2.2.2
theorem eX8_urnAt_16 : (decode cX8_urnAt 16 = .ok (.aload_n 0, 1)) ∧ (decode cX8_urnAt 17 = .ok (.getfield 17, 3)) ∧ (decode cX8_urnAt 20 = .ok (.iload_n 1, 1)) ∧ (decode cX8_urnAt 21 = .ok (.aaload, 1)) ∧ (decode cX8_urnAt 22 = .ok (.areturn, 1)) := by decide +kernel
theorem dX8_urnAt_16 : decode cX8_urnAt 16 = .ok (.aload_n 0, 1) := eX8_urnAt_16.1
theorem dX8_urnAt_17 : decode cX8_urnAt 17 = .ok (.getfield 17, 3) := eX8_urnAt_16.2.1
theorem dX8_urnAt_20 : decode cX8_urnAt 20 = .ok (.iload_n 1, 1) := eX8_urnAt_16.2.2.1
theorem dX8_urnAt_21 : decode cX8_urnAt 21 = .ok (.aaload, 1) := eX8_urnAt_16.2.2.2.1
theorem dX8_urnAt_22 : decode cX8_urnAt 22 = .ok (.areturn, 1) := eX8_urnAt_16.2.2.2.2
theorem eX8_areDraws_0 : (decode cX8_areDraws 0 = .ok (.iload_n 0, 1)) ∧ (decode cX8_areDraws 1 = .ok (.ifCond .lt 13, 3)) ∧ (decode cX8_areDraws 4 = .ok (.iload_n 0, 1)) ∧ (decode cX8_areDraws 5 = .ok (.bipush 12, 2)) ∧ (decode cX8_areDraws 7 = .ok (.if_icmp .gt 7, 3)) ∧ (decode cX8_areDraws 10 = .ok (.iconst 1, 1)) ∧ (decode cX8_areDraws 11 = .ok (.goto 4, 3)) ∧ (decode cX8_areDraws 14 = .ok (.iconst 0, 1)) := by decide +kernel
theorem dX8_areDraws_0 : decode cX8_areDraws 0 = .ok (.iload_n 0, 1) := eX8_areDraws_0.1
theorem dX8_areDraws_1 : decode cX8_areDraws 1 = .ok (.ifCond .lt 13, 3) := eX8_areDraws_0.2.1
theorem dX8_areDraws_4 : decode cX8_areDraws 4 = .ok (.iload_n 0, 1) := eX8_areDraws_0.2.2.1
theorem dX8_areDraws_5 : decode cX8_areDraws 5 = .ok (.bipush 12, 2) := eX8_areDraws_0.2.2.2.1
theorem dX8_areDraws_7 : decode cX8_areDraws 7 = .ok (.if_icmp .gt 7, 3) := eX8_areDraws_0.2.2.2.2.1
theorem dX8_areDraws_10 : decode cX8_areDraws 10 = .ok (.iconst 1, 1) := eX8_areDraws_0.2.2.2.2.2.1
theorem dX8_areDraws_11 : decode cX8_areDraws 11 = .ok (.goto 4, 3) := eX8_areDraws_0.2.2.2.2.2.2.1
theorem dX8_areDraws_14 : decode cX8_areDraws 14 = .ok (.iconst 0, 1) := eX8_areDraws_0.2.2.2.2.2.2.2
theorem dX8_areDraws_15 : decode cX8_areDraws 15 = .ok (.ireturn, 1) := by decide +kernel
theorem eX8_drawsInAll_0 : (decode cX8_drawsInAll 0 = .ok (.iconst 0, 1)) ∧ (decode cX8_drawsInAll 1 = .ok (.istore_n 1, 1)) ∧ (decode cX8_drawsInAll 2 = .ok (.iconst 0, 1)) ∧ (decode cX8_drawsInAll 3 = .ok (.istore_n 2, 1)) ∧ (decode cX8_drawsInAll 4 = .ok (.iload_n 2, 1)) ∧ (decode cX8_drawsInAll 5 = .ok (.bipush 8, 2)) ∧ (decode cX8_drawsInAll 7 = .ok (.if_icmp .ge 21, 3)) ∧ (decode cX8_drawsInAll 10 = .ok (.iload_n 1, 1)) := by decide +kernel
theorem dX8_drawsInAll_0 : decode cX8_drawsInAll 0 = .ok (.iconst 0, 1) := eX8_drawsInAll_0.1
theorem dX8_drawsInAll_1 : decode cX8_drawsInAll 1 = .ok (.istore_n 1, 1) := eX8_drawsInAll_0.2.1
theorem dX8_drawsInAll_2 : decode cX8_drawsInAll 2 = .ok (.iconst 0, 1) := eX8_drawsInAll_0.2.2.1
theorem dX8_drawsInAll_3 : decode cX8_drawsInAll 3 = .ok (.istore_n 2, 1) := eX8_drawsInAll_0.2.2.2.1
theorem dX8_drawsInAll_4 : decode cX8_drawsInAll 4 = .ok (.iload_n 2, 1) := eX8_drawsInAll_0.2.2.2.2.1
theorem dX8_drawsInAll_5 : decode cX8_drawsInAll 5 = .ok (.bipush 8, 2) := eX8_drawsInAll_0.2.2.2.2.2.1
theorem dX8_drawsInAll_7 : decode cX8_drawsInAll 7 = .ok (.if_icmp .ge 21, 3) := eX8_drawsInAll_0.2.2.2.2.2.2.1
theorem dX8_drawsInAll_10 : decode cX8_drawsInAll 10 = .ok (.iload_n 1, 1) := eX8_drawsInAll_0.2.2.2.2.2.2.2
theorem eX8_drawsInAll_11 : (decode cX8_drawsInAll 11 = .ok (.aload_n 0, 1)) ∧ (decode cX8_drawsInAll 12 = .ok (.getfield 17, 3)) ∧ (decode cX8_drawsInAll 15 = .ok (.iload_n 2, 1)) ∧ (decode cX8_drawsInAll 16 = .ok (.aaload, 1)) ∧ (decode cX8_drawsInAll 17 = .ok (.getfield 133, 3)) ∧ (decode cX8_drawsInAll 20 = .ok (.iadd, 1)) ∧ (decode cX8_drawsInAll 21 = .ok (.istore_n 1, 1)) ∧ (decode cX8_drawsInAll 22 = .ok (.iinc 2 1, 3)) := by decide +kernel
theorem dX8_drawsInAll_11 : decode cX8_drawsInAll 11 = .ok (.aload_n 0, 1) := eX8_drawsInAll_11.1
theorem dX8_drawsInAll_12 : decode cX8_drawsInAll 12 = .ok (.getfield 17, 3) := eX8_drawsInAll_11.2.1
theorem dX8_drawsInAll_15 : decode cX8_drawsInAll 15 = .ok (.iload_n 2, 1) := eX8_drawsInAll_11.2.2.1
theorem dX8_drawsInAll_16 : decode cX8_drawsInAll 16 = .ok (.aaload, 1) := eX8_drawsInAll_11.2.2.2.1
theorem dX8_drawsInAll_17 : decode cX8_drawsInAll 17 = .ok (.getfield 133, 3) := eX8_drawsInAll_11.2.2.2.2.1
theorem dX8_drawsInAll_20 : decode cX8_drawsInAll 20 = .ok (.iadd, 1) := eX8_drawsInAll_11.2.2.2.2.2.1
theorem dX8_drawsInAll_21 : decode cX8_drawsInAll 21 = .ok (.istore_n 1, 1) := eX8_drawsInAll_11.2.2.2.2.2.2.1
theorem dX8_drawsInAll_22 : decode cX8_drawsInAll 22 = .ok (.iinc 2 1, 3) := eX8_drawsInAll_11.2.2.2.2.2.2.2
theorem eX8_drawsInAll_25 : (decode cX8_drawsInAll 25 = .ok (.goto (-21), 3)) ∧ (decode cX8_drawsInAll 28 = .ok (.iload_n 1, 1)) ∧ (decode cX8_drawsInAll 29 = .ok (.ireturn, 1)) := by decide +kernel
theorem dX8_drawsInAll_25 : decode cX8_drawsInAll 25 = .ok (.goto (-21), 3) := eX8_drawsInAll_25.1
theorem dX8_drawsInAll_28 : decode cX8_drawsInAll 28 = .ok (.iload_n 1, 1) := eX8_drawsInAll_25.2.1
theorem dX8_drawsInAll_29 : decode cX8_drawsInAll 29 = .ok (.ireturn, 1) := eX8_drawsInAll_25.2.2
theorem eX8_keepAct_0 : (decode cX8_keepAct 0 = .ok (.aload_n 0, 1)) ∧ (decode cX8_keepAct 1 = .ok (.getfield 24, 3)) ∧ (decode cX8_keepAct 4 = .ok (.invokevirtual 255, 3)) ∧ (decode cX8_keepAct 7 = .ok (.astore_n 1, 1)) ∧ (decode cX8_keepAct 8 = .ok (.iconst 0, 1)) ∧ (decode cX8_keepAct 9 = .ok (.istore_n 2, 1)) ∧ (decode cX8_keepAct 10 = .ok (.iload_n 2, 1)) ∧ (decode cX8_keepAct 11 = .ok (.bipush 8, 2)) := by decide +kernel
theorem dX8_keepAct_0 : decode cX8_keepAct 0 = .ok (.aload_n 0, 1) := eX8_keepAct_0.1
theorem dX8_keepAct_1 : decode cX8_keepAct 1 = .ok (.getfield 24, 3) := eX8_keepAct_0.2.1
theorem dX8_keepAct_4 : decode cX8_keepAct 4 = .ok (.invokevirtual 255, 3) := eX8_keepAct_0.2.2.1
theorem dX8_keepAct_7 : decode cX8_keepAct 7 = .ok (.astore_n 1, 1) := eX8_keepAct_0.2.2.2.1
theorem dX8_keepAct_8 : decode cX8_keepAct 8 = .ok (.iconst 0, 1) := eX8_keepAct_0.2.2.2.2.1
theorem dX8_keepAct_9 : decode cX8_keepAct 9 = .ok (.istore_n 2, 1) := eX8_keepAct_0.2.2.2.2.2.1
theorem dX8_keepAct_10 : decode cX8_keepAct 10 = .ok (.iload_n 2, 1) := eX8_keepAct_0.2.2.2.2.2.2.1
theorem dX8_keepAct_11 : decode cX8_keepAct 11 = .ok (.bipush 8, 2) := eX8_keepAct_0.2.2.2.2.2.2.2
theorem eX8_keepAct_13 : (decode cX8_keepAct 13 = .ok (.if_icmp .ge 23, 3)) ∧ (decode cX8_keepAct 16 = .ok (.aload_n 0, 1)) ∧ (decode cX8_keepAct 17 = .ok (.getfield 17, 3)) ∧ (decode cX8_keepAct 20 = .ok (.iload_n 2, 1)) ∧ (decode cX8_keepAct 21 = .ok (.aaload, 1)) ∧ (decode cX8_keepAct 22 = .ok (.aload_n 1, 1)) ∧ (decode cX8_keepAct 23 = .ok (.iload_n 2, 1)) ∧ (decode cX8_keepAct 24 = .ok (.bipush 25, 2)) := by decide +kernel
theorem dX8_keepAct_13 : decode cX8_keepAct 13 = .ok (.if_icmp .ge 23, 3) := eX8_keepAct_13.1
theorem dX8_keepAct_16 : decode cX8_keepAct 16 = .ok (.aload_n 0, 1) := eX8_keepAct_13.2.1
theorem dX8_keepAct_17 : decode cX8_keepAct 17 = .ok (.getfield 17, 3) := eX8_keepAct_13.2.2.1
theorem dX8_keepAct_20 : decode cX8_keepAct 20 = .ok (.iload_n 2, 1) := eX8_keepAct_13.2.2.2.1
theorem dX8_keepAct_21 : decode cX8_keepAct 21 = .ok (.aaload, 1) := eX8_keepAct_13.2.2.2.2.1
theorem dX8_keepAct_22 : decode cX8_keepAct 22 = .ok (.aload_n 1, 1) := eX8_keepAct_13.2.2.2.2.2.1
theorem dX8_keepAct_23 : decode cX8_keepAct 23 = .ok (.iload_n 2, 1) := eX8_keepAct_13.2.2.2.2.2.2.1
theorem dX8_keepAct_24 : decode cX8_keepAct 24 = .ok (.bipush 25, 2) := eX8_keepAct_13.2.2.2.2.2.2.2
theorem eX8_keepAct_26 : (decode cX8_keepAct 26 = .ok (.imul, 1)) ∧ (decode cX8_keepAct 27 = .ok (.invokevirtual 258, 3)) ∧ (decode cX8_keepAct 30 = .ok (.iinc 2 1, 3)) ∧ (decode cX8_keepAct 33 = .ok (.goto (-23), 3)) ∧ (decode cX8_keepAct 36 = .ok (.aload_n 1, 1)) ∧ (decode cX8_keepAct 37 = .ok (.sipush 200, 3)) ∧ (decode cX8_keepAct 40 = .ok (.aload_n 0, 1)) ∧ (decode cX8_keepAct 41 = .ok (.getfield 67, 3)) := by decide +kernel
theorem dX8_keepAct_26 : decode cX8_keepAct 26 = .ok (.imul, 1) := eX8_keepAct_26.1
theorem dX8_keepAct_27 : decode cX8_keepAct 27 = .ok (.invokevirtual 258, 3) := eX8_keepAct_26.2.1
theorem dX8_keepAct_30 : decode cX8_keepAct 30 = .ok (.iinc 2 1, 3) := eX8_keepAct_26.2.2.1
theorem dX8_keepAct_33 : decode cX8_keepAct 33 = .ok (.goto (-23), 3) := eX8_keepAct_26.2.2.2.1
theorem dX8_keepAct_36 : decode cX8_keepAct 36 = .ok (.aload_n 1, 1) := eX8_keepAct_26.2.2.2.2.1
theorem dX8_keepAct_37 : decode cX8_keepAct 37 = .ok (.sipush 200, 3) := eX8_keepAct_26.2.2.2.2.2.1
theorem dX8_keepAct_40 : decode cX8_keepAct 40 = .ok (.aload_n 0, 1) := eX8_keepAct_26.2.2.2.2.2.2.1
theorem dX8_keepAct_41 : decode cX8_keepAct 41 = .ok (.getfield 67, 3) := eX8_keepAct_26.2.2.2.2.2.2.2
theorem eX8_keepAct_44 : (decode cX8_keepAct 44 = .ok (.iastore, 1)) ∧ (decode cX8_keepAct 45 = .ok (.return_, 1)) := by decide +kernel
theorem dX8_keepAct_44 : decode cX8_keepAct 44 = .ok (.iastore, 1) := eX8_keepAct_44.1
theorem dX8_keepAct_45 : decode cX8_keepAct 45 = .ok (.return_, 1) := eX8_keepAct_44.2
theorem eX8_findPath_0 : (decode cX8_findPath 0 = .ok (.iload_n 1, 1)) ∧ (decode cX8_findPath 1 = .ok (.istore_n 2, 1)) ∧ (decode cX8_findPath 2 = .ok (.aload_n 0, 1)) ∧ (decode cX8_findPath 3 = .ok (.getfield 31, 3)) ∧ (decode cX8_findPath 6 = .ok (.iconst 0, 1)) ∧ (decode cX8_findPath 7 = .ok (.putfield 162, 3)) ∧ (decode cX8_findPath 10 = .ok (.aload_n 0, 1)) ∧ (decode cX8_findPath 11 = .ok (.getfield 31, 3)) := by decide +kernel
theorem dX8_findPath_0 : decode cX8_findPath 0 = .ok (.iload_n 1, 1) := eX8_findPath_0.1
theorem dX8_findPath_1 : decode cX8_findPath 1 = .ok (.istore_n 2, 1) := eX8_findPath_0.2.1
theorem dX8_findPath_2 : decode cX8_findPath 2 = .ok (.aload_n 0, 1) := eX8_findPath_0.2.2.1
theorem dX8_findPath_3 : decode cX8_findPath 3 = .ok (.getfield 31, 3) := eX8_findPath_0.2.2.2.1
theorem dX8_findPath_6 : decode cX8_findPath 6 = .ok (.iconst 0, 1) := eX8_findPath_0.2.2.2.2.1
theorem dX8_findPath_7 : decode cX8_findPath 7 = .ok (.putfield 162, 3) := eX8_findPath_0.2.2.2.2.2.1
theorem dX8_findPath_10 : decode cX8_findPath 10 = .ok (.aload_n 0, 1) := eX8_findPath_0.2.2.2.2.2.2.1
theorem dX8_findPath_11 : decode cX8_findPath 11 = .ok (.getfield 31, 3) := eX8_findPath_0.2.2.2.2.2.2.2
theorem eX8_findPath_14 : (decode cX8_findPath 14 = .ok (.aload_n 0, 1)) ∧ (decode cX8_findPath 15 = .ok (.getfield 67, 3)) ∧ (decode cX8_findPath 18 = .ok (.i2l, 1)) ∧ (decode cX8_findPath 19 = .ok (.putfield 261, 3)) ∧ (decode cX8_findPath 22 = .ok (.iload_n 2, 1)) ∧ (decode cX8_findPath 23 = .ok (.ifCond .lt 163, 3)) ∧ (decode cX8_findPath 26 = .ok (.iload_n 2, 1)) ∧ (decode cX8_findPath 27 = .ok (.aload_n 0, 1)) := by decide +kernel
theorem dX8_findPath_14 : decode cX8_findPath 14 = .ok (.aload_n 0, 1) := eX8_findPath_14.1
theorem dX8_findPath_15 : decode cX8_findPath 15 = .ok (.getfield 67, 3) := eX8_findPath_14.2.1
theorem dX8_findPath_18 : decode cX8_findPath 18 = .ok (.i2l, 1) := eX8_findPath_14.2.2.1
theorem dX8_findPath_19 : decode cX8_findPath 19 = .ok (.putfield 261, 3) := eX8_findPath_14.2.2.2.1
theorem dX8_findPath_22 : decode cX8_findPath 22 = .ok (.iload_n 2, 1) := eX8_findPath_14.2.2.2.2.1
theorem dX8_findPath_23 : decode cX8_findPath 23 = .ok (.ifCond .lt 163, 3) := eX8_findPath_14.2.2.2.2.2.1
theorem dX8_findPath_26 : decode cX8_findPath 26 = .ok (.iload_n 2, 1) := eX8_findPath_14.2.2.2.2.2.2.1
theorem dX8_findPath_27 : decode cX8_findPath 27 = .ok (.aload_n 0, 1) := eX8_findPath_14.2.2.2.2.2.2.2
theorem eX8_findPath_28 : (decode cX8_findPath 28 = .ok (.getfield 63, 3)) ∧ (decode cX8_findPath 31 = .ok (.if_icmp .ge 155, 3)) ∧ (decode cX8_findPath 34 = .ok (.aload_n 0, 1)) ∧ (decode cX8_findPath 35 = .ok (.getfield 31, 3)) ∧ (decode cX8_findPath 38 = .ok (.getfield 162, 3)) ∧ (decode cX8_findPath 41 = .ok (.bipush 8, 2)) ∧ (decode cX8_findPath 43 = .ok (.if_icmp .ge 143, 3)) ∧ (decode cX8_findPath 46 = .ok (.aload_n 0, 1)) := by decide +kernel
theorem dX8_findPath_28 : decode cX8_findPath 28 = .ok (.getfield 63, 3) := eX8_findPath_28.1
theorem dX8_findPath_31 : decode cX8_findPath 31 = .ok (.if_icmp .ge 155, 3) := eX8_findPath_28.2.1
theorem dX8_findPath_34 : decode cX8_findPath 34 = .ok (.aload_n 0, 1) := eX8_findPath_28.2.2.1
theorem dX8_findPath_35 : decode cX8_findPath 35 = .ok (.getfield 31, 3) := eX8_findPath_28.2.2.2.1
theorem dX8_findPath_38 : decode cX8_findPath 38 = .ok (.getfield 162, 3) := eX8_findPath_28.2.2.2.2.1
theorem dX8_findPath_41 : decode cX8_findPath 41 = .ok (.bipush 8, 2) := eX8_findPath_28.2.2.2.2.2.1
theorem dX8_findPath_43 : decode cX8_findPath 43 = .ok (.if_icmp .ge 143, 3) := eX8_findPath_28.2.2.2.2.2.2.1
theorem dX8_findPath_46 : decode cX8_findPath 46 = .ok (.aload_n 0, 1) := eX8_findPath_28.2.2.2.2.2.2.2
theorem eX8_findPath_47 : (decode cX8_findPath 47 = .ok (.getfield 17, 3)) ∧ (decode cX8_findPath 50 = .ok (.iload_n 2, 1)) ∧ (decode cX8_findPath 51 = .ok (.aaload, 1)) ∧ (decode cX8_findPath 52 = .ok (.astore_n 3, 1)) ∧ (decode cX8_findPath 53 = .ok (.aload_n 3, 1)) ∧ (decode cX8_findPath 54 = .ok (.invokevirtual 129, 3)) ∧ (decode cX8_findPath 57 = .ok (.istore 4, 2)) ∧ (decode cX8_findPath 59 = .ok (.iload 4, 2)) := by decide +kernel
theorem dX8_findPath_47 : decode cX8_findPath 47 = .ok (.getfield 17, 3) := eX8_findPath_47.1
theorem dX8_findPath_50 : decode cX8_findPath 50 = .ok (.iload_n 2, 1) := eX8_findPath_47.2.1
theorem dX8_findPath_51 : decode cX8_findPath 51 = .ok (.aaload, 1) := eX8_findPath_47.2.2.1
theorem dX8_findPath_52 : decode cX8_findPath 52 = .ok (.astore_n 3, 1) := eX8_findPath_47.2.2.2.1
theorem dX8_findPath_53 : decode cX8_findPath 53 = .ok (.aload_n 3, 1) := eX8_findPath_47.2.2.2.2.1
theorem dX8_findPath_54 : decode cX8_findPath 54 = .ok (.invokevirtual 129, 3) := eX8_findPath_47.2.2.2.2.2.1
theorem dX8_findPath_57 : decode cX8_findPath 57 = .ok (.istore 4, 2) := eX8_findPath_47.2.2.2.2.2.2.1
theorem dX8_findPath_59 : decode cX8_findPath 59 = .ok (.iload 4, 2) := eX8_findPath_47.2.2.2.2.2.2.2
theorem eX8_findPath_61 : (decode cX8_findPath 61 = .ok (.ifCond .gt 5, 3)) ∧ (decode cX8_findPath 64 = .ok (.iconst 0, 1)) ∧ (decode cX8_findPath 65 = .ok (.ireturn, 1)) ∧ (decode cX8_findPath 66 = .ok (.aload_n 0, 1)) ∧ (decode cX8_findPath 67 = .ok (.getfield 31, 3)) ∧ (decode cX8_findPath 70 = .ok (.aload_n 0, 1)) ∧ (decode cX8_findPath 71 = .ok (.getfield 31, 3)) ∧ (decode cX8_findPath 74 = .ok (.getfield 261, 3)) := by decide +kernel
theorem dX8_findPath_61 : decode cX8_findPath 61 = .ok (.ifCond .gt 5, 3) := eX8_findPath_61.1
theorem dX8_findPath_64 : decode cX8_findPath 64 = .ok (.iconst 0, 1) := eX8_findPath_61.2.1
theorem dX8_findPath_65 : decode cX8_findPath 65 = .ok (.ireturn, 1) := eX8_findPath_61.2.2.1
theorem dX8_findPath_66 : decode cX8_findPath 66 = .ok (.aload_n 0, 1) := eX8_findPath_61.2.2.2.1
theorem dX8_findPath_67 : decode cX8_findPath 67 = .ok (.getfield 31, 3) := eX8_findPath_61.2.2.2.2.1
theorem dX8_findPath_70 : decode cX8_findPath 70 = .ok (.aload_n 0, 1) := eX8_findPath_61.2.2.2.2.2.1
theorem dX8_findPath_71 : decode cX8_findPath 71 = .ok (.getfield 31, 3) := eX8_findPath_61.2.2.2.2.2.2.1
theorem dX8_findPath_74 : decode cX8_findPath 74 = .ok (.getfield 261, 3) := eX8_findPath_61.2.2.2.2.2.2.2
theorem eX8_findPath_77 : (decode cX8_findPath 77 = .ok (.ldc2_w 263, 3)) ∧ (decode cX8_findPath 80 = .ok (.lmul, 1)) ∧ (decode cX8_findPath 81 = .ok (.ldc2_w 265, 3)) ∧ (decode cX8_findPath 84 = .ok (.ladd, 1)) ∧ (decode cX8_findPath 85 = .ok (.ldc2_w 267, 3)) ∧ (decode cX8_findPath 88 = .ok (.lrem, 1)) ∧ (decode cX8_findPath 89 = .ok (.putfield 261, 3)) ∧ (decode cX8_findPath 92 = .ok (.aload_n 3, 1)) := by decide +kernel
theorem dX8_findPath_77 : decode cX8_findPath 77 = .ok (.ldc2_w 263, 3) := eX8_findPath_77.1
theorem dX8_findPath_80 : decode cX8_findPath 80 = .ok (.lmul, 1) := eX8_findPath_77.2.1
theorem dX8_findPath_81 : decode cX8_findPath 81 = .ok (.ldc2_w 265, 3) := eX8_findPath_77.2.2.1
theorem dX8_findPath_84 : decode cX8_findPath 84 = .ok (.ladd, 1) := eX8_findPath_77.2.2.2.1
theorem dX8_findPath_85 : decode cX8_findPath 85 = .ok (.ldc2_w 267, 3) := eX8_findPath_77.2.2.2.2.1
theorem dX8_findPath_88 : decode cX8_findPath 88 = .ok (.lrem, 1) := eX8_findPath_77.2.2.2.2.2.1
theorem dX8_findPath_89 : decode cX8_findPath 89 = .ok (.putfield 261, 3) := eX8_findPath_77.2.2.2.2.2.2.1
theorem dX8_findPath_92 : decode cX8_findPath 92 = .ok (.aload_n 3, 1) := eX8_findPath_77.2.2.2.2.2.2.2
theorem eX8_findPath_93 : (decode cX8_findPath 93 = .ok (.aload_n 0, 1)) ∧ (decode cX8_findPath 94 = .ok (.getfield 31, 3)) ∧ (decode cX8_findPath 97 = .ok (.getfield 261, 3)) ∧ (decode cX8_findPath 100 = .ok (.ldc2_w 269, 3)) ∧ (decode cX8_findPath 103 = .ok (.ldiv, 1)) ∧ (decode cX8_findPath 104 = .ok (.iload 4, 2)) ∧ (decode cX8_findPath 106 = .ok (.i2l, 1)) ∧ (decode cX8_findPath 107 = .ok (.lrem, 1)) := by decide +kernel
theorem dX8_findPath_93 : decode cX8_findPath 93 = .ok (.aload_n 0, 1) := eX8_findPath_93.1
theorem dX8_findPath_94 : decode cX8_findPath 94 = .ok (.getfield 31, 3) := eX8_findPath_93.2.1
theorem dX8_findPath_97 : decode cX8_findPath 97 = .ok (.getfield 261, 3) := eX8_findPath_93.2.2.1
theorem dX8_findPath_100 : decode cX8_findPath 100 = .ok (.ldc2_w 269, 3) := eX8_findPath_93.2.2.2.1
theorem dX8_findPath_103 : decode cX8_findPath 103 = .ok (.ldiv, 1) := eX8_findPath_93.2.2.2.2.1
theorem dX8_findPath_104 : decode cX8_findPath 104 = .ok (.iload 4, 2) := eX8_findPath_93.2.2.2.2.2.1
theorem dX8_findPath_106 : decode cX8_findPath 106 = .ok (.i2l, 1) := eX8_findPath_93.2.2.2.2.2.2.1
theorem dX8_findPath_107 : decode cX8_findPath 107 = .ok (.lrem, 1) := eX8_findPath_93.2.2.2.2.2.2.2
theorem eX8_findPath_108 : (decode cX8_findPath 108 = .ok (.l2i, 1)) ∧ (decode cX8_findPath 109 = .ok (.invokevirtual 271, 3)) ∧ (decode cX8_findPath 112 = .ok (.istore 5, 2)) ∧ (decode cX8_findPath 114 = .ok (.aload_n 3, 1)) ∧ (decode cX8_findPath 115 = .ok (.aload_n 3, 1)) ∧ (decode cX8_findPath 116 = .ok (.getfield 119, 3)) ∧ (decode cX8_findPath 119 = .ok (.iload 5, 2)) ∧ (decode cX8_findPath 121 = .ok (.invokevirtual 147, 3)) := by decide +kernel
theorem dX8_findPath_108 : decode cX8_findPath 108 = .ok (.l2i, 1) := eX8_findPath_108.1
theorem dX8_findPath_109 : decode cX8_findPath 109 = .ok (.invokevirtual 271, 3) := eX8_findPath_108.2.1
theorem dX8_findPath_112 : decode cX8_findPath 112 = .ok (.istore 5, 2) := eX8_findPath_108.2.2.1
theorem dX8_findPath_114 : decode cX8_findPath 114 = .ok (.aload_n 3, 1) := eX8_findPath_108.2.2.2.1
theorem dX8_findPath_115 : decode cX8_findPath 115 = .ok (.aload_n 3, 1) := eX8_findPath_108.2.2.2.2.1
theorem dX8_findPath_116 : decode cX8_findPath 116 = .ok (.getfield 119, 3) := eX8_findPath_108.2.2.2.2.2.1
theorem dX8_findPath_119 : decode cX8_findPath 119 = .ok (.iload 5, 2) := eX8_findPath_108.2.2.2.2.2.2.1
theorem dX8_findPath_121 : decode cX8_findPath 121 = .ok (.invokevirtual 147, 3) := eX8_findPath_108.2.2.2.2.2.2.2
theorem eX8_findPath_124 : (decode cX8_findPath 124 = .ok (.ifCond .ne 5, 3)) ∧ (decode cX8_findPath 127 = .ok (.iconst 0, 1)) ∧ (decode cX8_findPath 128 = .ok (.ireturn, 1)) ∧ (decode cX8_findPath 129 = .ok (.aload_n 0, 1)) ∧ (decode cX8_findPath 130 = .ok (.getfield 31, 3)) ∧ (decode cX8_findPath 133 = .ok (.getfield 274, 3)) ∧ (decode cX8_findPath 136 = .ok (.aload_n 0, 1)) ∧ (decode cX8_findPath 137 = .ok (.getfield 31, 3)) := by decide +kernel
theorem dX8_findPath_124 : decode cX8_findPath 124 = .ok (.ifCond .ne 5, 3) := eX8_findPath_124.1
theorem dX8_findPath_127 : decode cX8_findPath 127 = .ok (.iconst 0, 1) := eX8_findPath_124.2.1
theorem dX8_findPath_128 : decode cX8_findPath 128 = .ok (.ireturn, 1) := eX8_findPath_124.2.2.1
theorem dX8_findPath_129 : decode cX8_findPath 129 = .ok (.aload_n 0, 1) := eX8_findPath_124.2.2.2.1
theorem dX8_findPath_130 : decode cX8_findPath 130 = .ok (.getfield 31, 3) := eX8_findPath_124.2.2.2.2.1
theorem dX8_findPath_133 : decode cX8_findPath 133 = .ok (.getfield 274, 3) := eX8_findPath_124.2.2.2.2.2.1
theorem dX8_findPath_136 : decode cX8_findPath 136 = .ok (.aload_n 0, 1) := eX8_findPath_124.2.2.2.2.2.2.1
theorem dX8_findPath_137 : decode cX8_findPath 137 = .ok (.getfield 31, 3) := eX8_findPath_124.2.2.2.2.2.2.2
theorem eX8_findPath_140 : (decode cX8_findPath 140 = .ok (.getfield 162, 3)) ∧ (decode cX8_findPath 143 = .ok (.iload_n 2, 1)) ∧ (decode cX8_findPath 144 = .ok (.iastore, 1)) ∧ (decode cX8_findPath 145 = .ok (.aload_n 0, 1)) ∧ (decode cX8_findPath 146 = .ok (.getfield 31, 3)) ∧ (decode cX8_findPath 149 = .ok (.getfield 165, 3)) ∧ (decode cX8_findPath 152 = .ok (.aload_n 0, 1)) ∧ (decode cX8_findPath 153 = .ok (.getfield 31, 3)) := by decide +kernel
theorem dX8_findPath_140 : decode cX8_findPath 140 = .ok (.getfield 162, 3) := eX8_findPath_140.1
theorem dX8_findPath_143 : decode cX8_findPath 143 = .ok (.iload_n 2, 1) := eX8_findPath_140.2.1
theorem dX8_findPath_144 : decode cX8_findPath 144 = .ok (.iastore, 1) := eX8_findPath_140.2.2.1
theorem dX8_findPath_145 : decode cX8_findPath 145 = .ok (.aload_n 0, 1) := eX8_findPath_140.2.2.2.1
theorem dX8_findPath_146 : decode cX8_findPath 146 = .ok (.getfield 31, 3) := eX8_findPath_140.2.2.2.2.1
theorem dX8_findPath_149 : decode cX8_findPath 149 = .ok (.getfield 165, 3) := eX8_findPath_140.2.2.2.2.2.1
theorem dX8_findPath_152 : decode cX8_findPath 152 = .ok (.aload_n 0, 1) := eX8_findPath_140.2.2.2.2.2.2.1
theorem dX8_findPath_153 : decode cX8_findPath 153 = .ok (.getfield 31, 3) := eX8_findPath_140.2.2.2.2.2.2.2
theorem eX8_findPath_156 : (decode cX8_findPath 156 = .ok (.getfield 162, 3)) ∧ (decode cX8_findPath 159 = .ok (.iload 5, 2)) ∧ (decode cX8_findPath 161 = .ok (.iastore, 1)) ∧ (decode cX8_findPath 162 = .ok (.aload_n 0, 1)) ∧ (decode cX8_findPath 163 = .ok (.getfield 31, 3)) ∧ (decode cX8_findPath 166 = .ok (.dup, 1)) ∧ (decode cX8_findPath 167 = .ok (.getfield 162, 3)) ∧ (decode cX8_findPath 170 = .ok (.iconst 1, 1)) := by decide +kernel
theorem dX8_findPath_156 : decode cX8_findPath 156 = .ok (.getfield 162, 3) := eX8_findPath_156.1
theorem dX8_findPath_159 : decode cX8_findPath 159 = .ok (.iload 5, 2) := eX8_findPath_156.2.1
theorem dX8_findPath_161 : decode cX8_findPath 161 = .ok (.iastore, 1) := eX8_findPath_156.2.2.1
theorem dX8_findPath_162 : decode cX8_findPath 162 = .ok (.aload_n 0, 1) := eX8_findPath_156.2.2.2.1
theorem dX8_findPath_163 : decode cX8_findPath 163 = .ok (.getfield 31, 3) := eX8_findPath_156.2.2.2.2.1
theorem dX8_findPath_166 : decode cX8_findPath 166 = .ok (.dup, 1) := eX8_findPath_156.2.2.2.2.2.1
theorem dX8_findPath_167 : decode cX8_findPath 167 = .ok (.getfield 162, 3) := eX8_findPath_156.2.2.2.2.2.2.1
theorem dX8_findPath_170 : decode cX8_findPath 170 = .ok (.iconst 1, 1) := eX8_findPath_156.2.2.2.2.2.2.2
theorem eX8_findPath_171 : (decode cX8_findPath 171 = .ok (.iadd, 1)) ∧ (decode cX8_findPath 172 = .ok (.putfield 162, 3)) ∧ (decode cX8_findPath 175 = .ok (.aload_n 3, 1)) ∧ (decode cX8_findPath 176 = .ok (.getfield 126, 3)) ∧ (decode cX8_findPath 179 = .ok (.iload 5, 2)) ∧ (decode cX8_findPath 181 = .ok (.iaload, 1)) ∧ (decode cX8_findPath 182 = .ok (.istore_n 2, 1)) ∧ (decode cX8_findPath 183 = .ok (.goto (-161), 3)) := by decide +kernel
theorem dX8_findPath_171 : decode cX8_findPath 171 = .ok (.iadd, 1) := eX8_findPath_171.1
theorem dX8_findPath_172 : decode cX8_findPath 172 = .ok (.putfield 162, 3) := eX8_findPath_171.2.1
theorem dX8_findPath_175 : decode cX8_findPath 175 = .ok (.aload_n 3, 1) := eX8_findPath_171.2.2.1
theorem dX8_findPath_176 : decode cX8_findPath 176 = .ok (.getfield 126, 3) := eX8_findPath_171.2.2.2.1
theorem dX8_findPath_179 : decode cX8_findPath 179 = .ok (.iload 5, 2) := eX8_findPath_171.2.2.2.2.1
theorem dX8_findPath_181 : decode cX8_findPath 181 = .ok (.iaload, 1) := eX8_findPath_171.2.2.2.2.2.1
theorem dX8_findPath_182 : decode cX8_findPath 182 = .ok (.istore_n 2, 1) := eX8_findPath_171.2.2.2.2.2.2.1
theorem dX8_findPath_183 : decode cX8_findPath 183 = .ok (.goto (-161), 3) := eX8_findPath_171.2.2.2.2.2.2.2
theorem eX8_findPath_186 : (decode cX8_findPath 186 = .ok (.iconst 1, 1)) ∧ (decode cX8_findPath 187 = .ok (.ireturn, 1)) := by decide +kernel
theorem dX8_findPath_186 : decode cX8_findPath 186 = .ok (.iconst 1, 1) := eX8_findPath_186.1
theorem dX8_findPath_187 : decode cX8_findPath 187 = .ok (.ireturn, 1) := eX8_findPath_186.2
theorem eX8_goPath_0 : (decode cX8_goPath 0 = .ok (.iconst 0, 1)) ∧ (decode cX8_goPath 1 = .ok (.istore_n 1, 1)) ∧ (decode cX8_goPath 2 = .ok (.iload_n 1, 1)) ∧ (decode cX8_goPath 3 = .ok (.aload_n 0, 1)) ∧ (decode cX8_goPath 4 = .ok (.getfield 31, 3)) ∧ (decode cX8_goPath 7 = .ok (.getfield 162, 3)) ∧ (decode cX8_goPath 10 = .ok (.if_icmp .ge 35, 3)) ∧ (decode cX8_goPath 13 = .ok (.aload_n 0, 1)) := by decide +kernel
theorem dX8_goPath_0 : decode cX8_goPath 0 = .ok (.iconst 0, 1) := eX8_goPath_0.1
theorem dX8_goPath_1 : decode cX8_goPath 1 = .ok (.istore_n 1, 1) := eX8_goPath_0.2.1
theorem dX8_goPath_2 : decode cX8_goPath 2 = .ok (.iload_n 1, 1) := eX8_goPath_0.2.2.1
theorem dX8_goPath_3 : decode cX8_goPath 3 = .ok (.aload_n 0, 1) := eX8_goPath_0.2.2.2.1
theorem dX8_goPath_4 : decode cX8_goPath 4 = .ok (.getfield 31, 3) := eX8_goPath_0.2.2.2.2.1
theorem dX8_goPath_7 : decode cX8_goPath 7 = .ok (.getfield 162, 3) := eX8_goPath_0.2.2.2.2.2.1
theorem dX8_goPath_10 : decode cX8_goPath 10 = .ok (.if_icmp .ge 35, 3) := eX8_goPath_0.2.2.2.2.2.2.1
theorem dX8_goPath_13 : decode cX8_goPath 13 = .ok (.aload_n 0, 1) := eX8_goPath_0.2.2.2.2.2.2.2
theorem eX8_goPath_14 : (decode cX8_goPath 14 = .ok (.getfield 17, 3)) ∧ (decode cX8_goPath 17 = .ok (.aload_n 0, 1)) ∧ (decode cX8_goPath 18 = .ok (.getfield 31, 3)) ∧ (decode cX8_goPath 21 = .ok (.getfield 274, 3)) ∧ (decode cX8_goPath 24 = .ok (.iload_n 1, 1)) ∧ (decode cX8_goPath 25 = .ok (.iaload, 1)) ∧ (decode cX8_goPath 26 = .ok (.aaload, 1)) ∧ (decode cX8_goPath 27 = .ok (.aload_n 0, 1)) := by decide +kernel
theorem dX8_goPath_14 : decode cX8_goPath 14 = .ok (.getfield 17, 3) := eX8_goPath_14.1
theorem dX8_goPath_17 : decode cX8_goPath 17 = .ok (.aload_n 0, 1) := eX8_goPath_14.2.1
theorem dX8_goPath_18 : decode cX8_goPath 18 = .ok (.getfield 31, 3) := eX8_goPath_14.2.2.1
theorem dX8_goPath_21 : decode cX8_goPath 21 = .ok (.getfield 274, 3) := eX8_goPath_14.2.2.2.1
theorem dX8_goPath_24 : decode cX8_goPath 24 = .ok (.iload_n 1, 1) := eX8_goPath_14.2.2.2.2.1
theorem dX8_goPath_25 : decode cX8_goPath 25 = .ok (.iaload, 1) := eX8_goPath_14.2.2.2.2.2.1
theorem dX8_goPath_26 : decode cX8_goPath 26 = .ok (.aaload, 1) := eX8_goPath_14.2.2.2.2.2.2.1
theorem dX8_goPath_27 : decode cX8_goPath 27 = .ok (.aload_n 0, 1) := eX8_goPath_14.2.2.2.2.2.2.2
theorem eX8_goPath_28 : (decode cX8_goPath 28 = .ok (.getfield 31, 3)) ∧ (decode cX8_goPath 31 = .ok (.getfield 165, 3)) ∧ (decode cX8_goPath 34 = .ok (.iload_n 1, 1)) ∧ (decode cX8_goPath 35 = .ok (.iaload, 1)) ∧ (decode cX8_goPath 36 = .ok (.invokevirtual 151, 3)) ∧ (decode cX8_goPath 39 = .ok (.iinc 1 1, 3)) ∧ (decode cX8_goPath 42 = .ok (.goto (-40), 3)) ∧ (decode cX8_goPath 45 = .ok (.aload_n 0, 1)) := by decide +kernel
theorem dX8_goPath_28 : decode cX8_goPath 28 = .ok (.getfield 31, 3) := eX8_goPath_28.1
theorem dX8_goPath_31 : decode cX8_goPath 31 = .ok (.getfield 165, 3) := eX8_goPath_28.2.1
theorem dX8_goPath_34 : decode cX8_goPath 34 = .ok (.iload_n 1, 1) := eX8_goPath_28.2.2.1
theorem dX8_goPath_35 : decode cX8_goPath 35 = .ok (.iaload, 1) := eX8_goPath_28.2.2.2.1
theorem dX8_goPath_36 : decode cX8_goPath 36 = .ok (.invokevirtual 151, 3) := eX8_goPath_28.2.2.2.2.1
theorem dX8_goPath_39 : decode cX8_goPath 39 = .ok (.iinc 1 1, 3) := eX8_goPath_28.2.2.2.2.2.1
theorem dX8_goPath_42 : decode cX8_goPath 42 = .ok (.goto (-40), 3) := eX8_goPath_28.2.2.2.2.2.2.1
theorem dX8_goPath_45 : decode cX8_goPath 45 = .ok (.aload_n 0, 1) := eX8_goPath_28.2.2.2.2.2.2.2
theorem eX8_goPath_46 : (decode cX8_goPath 46 = .ok (.aload_n 0, 1)) ∧ (decode cX8_goPath 47 = .ok (.getfield 31, 3)) ∧ (decode cX8_goPath 50 = .ok (.getfield 261, 3)) ∧ (decode cX8_goPath 53 = .ok (.l2i, 1)) ∧ (decode cX8_goPath 54 = .ok (.putfield 67, 3)) ∧ (decode cX8_goPath 57 = .ok (.return_, 1)) := by decide +kernel
theorem dX8_goPath_46 : decode cX8_goPath 46 = .ok (.aload_n 0, 1) := eX8_goPath_46.1
theorem dX8_goPath_47 : decode cX8_goPath 47 = .ok (.getfield 31, 3) := eX8_goPath_46.2.1
theorem dX8_goPath_50 : decode cX8_goPath 50 = .ok (.getfield 261, 3) := eX8_goPath_46.2.2.1
theorem dX8_goPath_53 : decode cX8_goPath 53 = .ok (.l2i, 1) := eX8_goPath_46.2.2.2.1
theorem dX8_goPath_54 : decode cX8_goPath 54 = .ok (.putfield 67, 3) := eX8_goPath_46.2.2.2.2.1
theorem dX8_goPath_57 : decode cX8_goPath 57 = .ok (.return_, 1) := eX8_goPath_46.2.2.2.2.2
theorem eX8_weighRows_0 : (decode cX8_weighRows 0 = .ok (.aload_n 1, 1)) ∧ (decode cX8_weighRows 1 = .ok (.invokevirtual 136, 3)) ∧ (decode cX8_weighRows 4 = .ok (.ifCond .eq 10, 3)) ∧ (decode cX8_weighRows 7 = .ok (.aload_n 1, 1)) ∧ (decode cX8_weighRows 8 = .ok (.invokevirtual 129, 3)) ∧ (decode cX8_weighRows 11 = .ok (.ifCond .ne 6, 3)) ∧ (decode cX8_weighRows 14 = .ok (.bipush (-2), 2)) ∧ (decode cX8_weighRows 16 = .ok (.ireturn, 1)) := by decide +kernel
theorem dX8_weighRows_0 : decode cX8_weighRows 0 = .ok (.aload_n 1, 1) := eX8_weighRows_0.1
theorem dX8_weighRows_1 : decode cX8_weighRows 1 = .ok (.invokevirtual 136, 3) := eX8_weighRows_0.2.1
theorem dX8_weighRows_4 : decode cX8_weighRows 4 = .ok (.ifCond .eq 10, 3) := eX8_weighRows_0.2.2.1
theorem dX8_weighRows_7 : decode cX8_weighRows 7 = .ok (.aload_n 1, 1) := eX8_weighRows_0.2.2.2.1
theorem dX8_weighRows_8 : decode cX8_weighRows 8 = .ok (.invokevirtual 129, 3) := eX8_weighRows_0.2.2.2.2.1
theorem dX8_weighRows_11 : decode cX8_weighRows 11 = .ok (.ifCond .ne 6, 3) := eX8_weighRows_0.2.2.2.2.2.1
theorem dX8_weighRows_14 : decode cX8_weighRows 14 = .ok (.bipush (-2), 2) := eX8_weighRows_0.2.2.2.2.2.2.1
theorem dX8_weighRows_16 : decode cX8_weighRows 16 = .ok (.ireturn, 1) := eX8_weighRows_0.2.2.2.2.2.2.2
theorem eX8_weighRows_17 : (decode cX8_weighRows 17 = .ok (.aload_n 0, 1)) ∧ (decode cX8_weighRows 18 = .ok (.getfield 52, 3)) ∧ (decode cX8_weighRows 21 = .ok (.aload_n 1, 1)) ∧ (decode cX8_weighRows 22 = .ok (.iload_n 2, 1)) ∧ (decode cX8_weighRows 23 = .ok (.invokevirtual 228, 3)) ∧ (decode cX8_weighRows 26 = .ok (.ifCond .ne 6, 3)) ∧ (decode cX8_weighRows 29 = .ok (.bipush (-6), 2)) ∧ (decode cX8_weighRows 31 = .ok (.ireturn, 1)) := by decide +kernel
theorem dX8_weighRows_17 : decode cX8_weighRows 17 = .ok (.aload_n 0, 1) := eX8_weighRows_17.1
theorem dX8_weighRows_18 : decode cX8_weighRows 18 = .ok (.getfield 52, 3) := eX8_weighRows_17.2.1
theorem dX8_weighRows_21 : decode cX8_weighRows 21 = .ok (.aload_n 1, 1) := eX8_weighRows_17.2.2.1
theorem dX8_weighRows_22 : decode cX8_weighRows 22 = .ok (.iload_n 2, 1) := eX8_weighRows_17.2.2.2.1
theorem dX8_weighRows_23 : decode cX8_weighRows 23 = .ok (.invokevirtual 228, 3) := eX8_weighRows_17.2.2.2.2.1
theorem dX8_weighRows_26 : decode cX8_weighRows 26 = .ok (.ifCond .ne 6, 3) := eX8_weighRows_17.2.2.2.2.2.1
theorem dX8_weighRows_29 : decode cX8_weighRows 29 = .ok (.bipush (-6), 2) := eX8_weighRows_17.2.2.2.2.2.2.1
theorem dX8_weighRows_31 : decode cX8_weighRows 31 = .ok (.ireturn, 1) := eX8_weighRows_17.2.2.2.2.2.2.2
theorem eX8_weighRows_32 : (decode cX8_weighRows 32 = .ok (.aload_n 0, 1)) ∧ (decode cX8_weighRows 33 = .ok (.getfield 52, 3)) ∧ (decode cX8_weighRows 36 = .ok (.invokevirtual 218, 3)) ∧ (decode cX8_weighRows 39 = .ok (.aload_n 0, 1)) ∧ (decode cX8_weighRows 40 = .ok (.getfield 52, 3)) ∧ (decode cX8_weighRows 43 = .ok (.aload_n 1, 1)) ∧ (decode cX8_weighRows 44 = .ok (.iload_n 2, 1)) ∧ (decode cX8_weighRows 45 = .ok (.iload_n 3, 1)) := by decide +kernel
theorem dX8_weighRows_32 : decode cX8_weighRows 32 = .ok (.aload_n 0, 1) := eX8_weighRows_32.1
theorem dX8_weighRows_33 : decode cX8_weighRows 33 = .ok (.getfield 52, 3) := eX8_weighRows_32.2.1
theorem dX8_weighRows_36 : decode cX8_weighRows 36 = .ok (.invokevirtual 218, 3) := eX8_weighRows_32.2.2.1
theorem dX8_weighRows_39 : decode cX8_weighRows 39 = .ok (.aload_n 0, 1) := eX8_weighRows_32.2.2.2.1
theorem dX8_weighRows_40 : decode cX8_weighRows 40 = .ok (.getfield 52, 3) := eX8_weighRows_32.2.2.2.2.1
theorem dX8_weighRows_43 : decode cX8_weighRows 43 = .ok (.aload_n 1, 1) := eX8_weighRows_32.2.2.2.2.2.1
theorem dX8_weighRows_44 : decode cX8_weighRows 44 = .ok (.iload_n 2, 1) := eX8_weighRows_32.2.2.2.2.2.2.1
theorem dX8_weighRows_45 : decode cX8_weighRows 45 = .ok (.iload_n 3, 1) := eX8_weighRows_32.2.2.2.2.2.2.2
theorem eX8_weighRows_46 : (decode cX8_weighRows 46 = .ok (.invokevirtual 232, 3)) ∧ (decode cX8_weighRows 49 = .ok (.iconst 0, 1)) ∧ (decode cX8_weighRows 50 = .ok (.ireturn, 1)) := by decide +kernel
theorem dX8_weighRows_46 : decode cX8_weighRows 46 = .ok (.invokevirtual 232, 3) := eX8_weighRows_46.1
theorem dX8_weighRows_49 : decode cX8_weighRows 49 = .ok (.iconst 0, 1) := eX8_weighRows_46.2.1
theorem dX8_weighRows_50 : decode cX8_weighRows 50 = .ok (.ireturn, 1) := eX8_weighRows_46.2.2
theorem eX8_common_0 : (decode cX8_common 0 = .ok (.lload_n 0, 1)) ∧ (decode cX8_common 1 = .ok (.lstore 4, 2)) ∧ (decode cX8_common 3 = .ok (.lload_n 2, 1)) ∧ (decode cX8_common 4 = .ok (.lstore 6, 2)) ∧ (decode cX8_common 6 = .ok (.iconst 0, 1)) ∧ (decode cX8_common 7 = .ok (.istore 8, 2)) ∧ (decode cX8_common 9 = .ok (.iload 8, 2)) ∧ (decode cX8_common 11 = .ok (.sipush 200, 3)) := by decide +kernel
theorem dX8_common_0 : decode cX8_common 0 = .ok (.lload_n 0, 1) := eX8_common_0.1
theorem dX8_common_1 : decode cX8_common 1 = .ok (.lstore 4, 2) := eX8_common_0.2.1
theorem dX8_common_3 : decode cX8_common 3 = .ok (.lload_n 2, 1) := eX8_common_0.2.2.1
theorem dX8_common_4 : decode cX8_common 4 = .ok (.lstore 6, 2) := eX8_common_0.2.2.2.1
theorem dX8_common_6 : decode cX8_common 6 = .ok (.iconst 0, 1) := eX8_common_0.2.2.2.2.1
theorem dX8_common_7 : decode cX8_common 7 = .ok (.istore 8, 2) := eX8_common_0.2.2.2.2.2.1
theorem dX8_common_9 : decode cX8_common 9 = .ok (.iload 8, 2) := eX8_common_0.2.2.2.2.2.2.1
theorem dX8_common_11 : decode cX8_common 11 = .ok (.sipush 200, 3) := eX8_common_0.2.2.2.2.2.2.2
theorem eX8_common_14 : (decode cX8_common 14 = .ok (.if_icmp .ge 31, 3)) ∧ (decode cX8_common 17 = .ok (.lload 6, 2)) ∧ (decode cX8_common 19 = .ok (.lconst 0, 1)) ∧ (decode cX8_common 20 = .ok (.lcmp, 1)) ∧ (decode cX8_common 21 = .ok (.ifCond .eq 24, 3)) ∧ (decode cX8_common 24 = .ok (.lload 4, 2)) ∧ (decode cX8_common 26 = .ok (.lload 6, 2)) ∧ (decode cX8_common 28 = .ok (.lrem, 1)) := by decide +kernel
theorem dX8_common_14 : decode cX8_common 14 = .ok (.if_icmp .ge 31, 3) := eX8_common_14.1
theorem dX8_common_17 : decode cX8_common 17 = .ok (.lload 6, 2) := eX8_common_14.2.1
theorem dX8_common_19 : decode cX8_common 19 = .ok (.lconst 0, 1) := eX8_common_14.2.2.1
theorem dX8_common_20 : decode cX8_common 20 = .ok (.lcmp, 1) := eX8_common_14.2.2.2.1
theorem dX8_common_21 : decode cX8_common 21 = .ok (.ifCond .eq 24, 3) := eX8_common_14.2.2.2.2.1
theorem dX8_common_24 : decode cX8_common 24 = .ok (.lload 4, 2) := eX8_common_14.2.2.2.2.2.1
theorem dX8_common_26 : decode cX8_common 26 = .ok (.lload 6, 2) := eX8_common_14.2.2.2.2.2.2.1
theorem dX8_common_28 : decode cX8_common 28 = .ok (.lrem, 1) := eX8_common_14.2.2.2.2.2.2.2
theorem eX8_common_29 : (decode cX8_common 29 = .ok (.lstore 9, 2)) ∧ (decode cX8_common 31 = .ok (.lload 6, 2)) ∧ (decode cX8_common 33 = .ok (.lstore 4, 2)) ∧ (decode cX8_common 35 = .ok (.lload 9, 2)) ∧ (decode cX8_common 37 = .ok (.lstore 6, 2)) ∧ (decode cX8_common 39 = .ok (.iinc 8 1, 3)) ∧ (decode cX8_common 42 = .ok (.goto (-33), 3)) ∧ (decode cX8_common 45 = .ok (.lload 4, 2)) := by decide +kernel
theorem dX8_common_29 : decode cX8_common 29 = .ok (.lstore 9, 2) := eX8_common_29.1
theorem dX8_common_31 : decode cX8_common 31 = .ok (.lload 6, 2) := eX8_common_29.2.1
theorem dX8_common_33 : decode cX8_common 33 = .ok (.lstore 4, 2) := eX8_common_29.2.2.1
theorem dX8_common_35 : decode cX8_common 35 = .ok (.lload 9, 2) := eX8_common_29.2.2.2.1
theorem dX8_common_37 : decode cX8_common 37 = .ok (.lstore 6, 2) := eX8_common_29.2.2.2.2.1
theorem dX8_common_39 : decode cX8_common 39 = .ok (.iinc 8 1, 3) := eX8_common_29.2.2.2.2.2.1
theorem dX8_common_42 : decode cX8_common 42 = .ok (.goto (-33), 3) := eX8_common_29.2.2.2.2.2.2.1
theorem dX8_common_45 : decode cX8_common 45 = .ok (.lload 4, 2) := eX8_common_29.2.2.2.2.2.2.2
theorem eX8_common_47 : (decode cX8_common 47 = .ok (.lconst 1, 1)) ∧ (decode cX8_common 48 = .ok (.lcmp, 1)) ∧ (decode cX8_common 49 = .ok (.ifCond .ge 7, 3)) ∧ (decode cX8_common 52 = .ok (.lconst 1, 1)) ∧ (decode cX8_common 53 = .ok (.goto 5, 3)) ∧ (decode cX8_common 56 = .ok (.lload 4, 2)) ∧ (decode cX8_common 58 = .ok (.lreturn, 1)) := by decide +kernel
theorem dX8_common_47 : decode cX8_common 47 = .ok (.lconst 1, 1) := eX8_common_47.1
theorem dX8_common_48 : decode cX8_common 48 = .ok (.lcmp, 1) := eX8_common_47.2.1
theorem dX8_common_49 : decode cX8_common 49 = .ok (.ifCond .ge 7, 3) := eX8_common_47.2.2.1
theorem dX8_common_52 : decode cX8_common 52 = .ok (.lconst 1, 1) := eX8_common_47.2.2.2.1
theorem dX8_common_53 : decode cX8_common 53 = .ok (.goto 5, 3) := eX8_common_47.2.2.2.2.1
theorem dX8_common_56 : decode cX8_common 56 = .ok (.lload 4, 2) := eX8_common_47.2.2.2.2.2.1
theorem dX8_common_58 : decode cX8_common 58 = .ok (.lreturn, 1) := eX8_common_47.2.2.2.2.2.2
theorem eX9_init_0 : (decode cX9_init 0 = .ok (.aload_n 0, 1)) ∧ (decode cX9_init 1 = .ok (.invokespecial 1, 3)) ∧ (decode cX9_init 4 = .ok (.aload_n 0, 1)) ∧ (decode cX9_init 5 = .ok (.bipush 6, 2)) ∧ (decode cX9_init 7 = .ok (.newarray .int, 2)) ∧ (decode cX9_init 9 = .ok (.putfield 7, 3)) ∧ (decode cX9_init 12 = .ok (.aload_n 0, 1)) ∧ (decode cX9_init 13 = .ok (.bipush 6, 2)) := by decide +kernel
theorem dX9_init_0 : decode cX9_init 0 = .ok (.aload_n 0, 1) := eX9_init_0.1
theorem dX9_init_1 : decode cX9_init 1 = .ok (.invokespecial 1, 3) := eX9_init_0.2.1
theorem dX9_init_4 : decode cX9_init 4 = .ok (.aload_n 0, 1) := eX9_init_0.2.2.1
theorem dX9_init_5 : decode cX9_init 5 = .ok (.bipush 6, 2) := eX9_init_0.2.2.2.1
theorem dX9_init_7 : decode cX9_init 7 = .ok (.newarray .int, 2) := eX9_init_0.2.2.2.2.1
theorem dX9_init_9 : decode cX9_init 9 = .ok (.putfield 7, 3) := eX9_init_0.2.2.2.2.2.1
theorem dX9_init_12 : decode cX9_init 12 = .ok (.aload_n 0, 1) := eX9_init_0.2.2.2.2.2.2.1
theorem dX9_init_13 : decode cX9_init 13 = .ok (.bipush 6, 2) := eX9_init_0.2.2.2.2.2.2.2
theorem eX9_init_15 : (decode cX9_init 15 = .ok (.newarray .int, 2)) ∧ (decode cX9_init 17 = .ok (.putfield 13, 3)) ∧ (decode cX9_init 20 = .ok (.aload_n 0, 1)) ∧ (decode cX9_init 21 = .ok (.bipush 96, 2)) ∧ (decode cX9_init 23 = .ok (.newarray .long, 2)) ∧ (decode cX9_init 25 = .ok (.putfield 16, 3)) ∧ (decode cX9_init 28 = .ok (.aload_n 0, 1)) ∧ (decode cX9_init 29 = .ok (.bipush 16, 2)) := by decide +kernel
theorem dX9_init_15 : decode cX9_init 15 = .ok (.newarray .int, 2) := eX9_init_15.1
theorem dX9_init_17 : decode cX9_init 17 = .ok (.putfield 13, 3) := eX9_init_15.2.1
theorem dX9_init_20 : decode cX9_init 20 = .ok (.aload_n 0, 1) := eX9_init_15.2.2.1
theorem dX9_init_21 : decode cX9_init 21 = .ok (.bipush 96, 2) := eX9_init_15.2.2.2.1
theorem dX9_init_23 : decode cX9_init 23 = .ok (.newarray .long, 2) := eX9_init_15.2.2.2.2.1
theorem dX9_init_25 : decode cX9_init 25 = .ok (.putfield 16, 3) := eX9_init_15.2.2.2.2.2.1
theorem dX9_init_28 : decode cX9_init 28 = .ok (.aload_n 0, 1) := eX9_init_15.2.2.2.2.2.2.1
theorem dX9_init_29 : decode cX9_init 29 = .ok (.bipush 16, 2) := eX9_init_15.2.2.2.2.2.2.2
theorem eX9_init_31 : (decode cX9_init 31 = .ok (.newarray .long, 2)) ∧ (decode cX9_init 33 = .ok (.putfield 20, 3)) ∧ (decode cX9_init 36 = .ok (.aload_n 0, 1)) ∧ (decode cX9_init 37 = .ok (.bipush 8, 2)) ∧ (decode cX9_init 39 = .ok (.newarray .int, 2)) ∧ (decode cX9_init 41 = .ok (.putfield 23, 3)) ∧ (decode cX9_init 44 = .ok (.aload_n 0, 1)) ∧ (decode cX9_init 45 = .ok (.sipush 202, 3)) := by decide +kernel
theorem dX9_init_31 : decode cX9_init 31 = .ok (.newarray .long, 2) := eX9_init_31.1
theorem dX9_init_33 : decode cX9_init 33 = .ok (.putfield 20, 3) := eX9_init_31.2.1
theorem dX9_init_36 : decode cX9_init 36 = .ok (.aload_n 0, 1) := eX9_init_31.2.2.1
theorem dX9_init_37 : decode cX9_init 37 = .ok (.bipush 8, 2) := eX9_init_31.2.2.2.1
theorem dX9_init_39 : decode cX9_init 39 = .ok (.newarray .int, 2) := eX9_init_31.2.2.2.2.1
theorem dX9_init_41 : decode cX9_init 41 = .ok (.putfield 23, 3) := eX9_init_31.2.2.2.2.2.1
theorem dX9_init_44 : decode cX9_init 44 = .ok (.aload_n 0, 1) := eX9_init_31.2.2.2.2.2.2.1
theorem dX9_init_45 : decode cX9_init 45 = .ok (.sipush 202, 3) := eX9_init_31.2.2.2.2.2.2.2
theorem eX9_init_48 : (decode cX9_init 48 = .ok (.newarray .int, 2)) ∧ (decode cX9_init 50 = .ok (.putfield 26, 3)) ∧ (decode cX9_init 53 = .ok (.aload_n 0, 1)) ∧ (decode cX9_init 54 = .ok (.sipush 4040, 3)) ∧ (decode cX9_init 57 = .ok (.newarray .int, 2)) ∧ (decode cX9_init 59 = .ok (.putfield 29, 3)) ∧ (decode cX9_init 62 = .ok (.aload_n 0, 1)) ∧ (decode cX9_init 63 = .ok (.lconst 1, 1)) := by decide +kernel
theorem dX9_init_48 : decode cX9_init 48 = .ok (.newarray .int, 2) := eX9_init_48.1
theorem dX9_init_50 : decode cX9_init 50 = .ok (.putfield 26, 3) := eX9_init_48.2.1
theorem dX9_init_53 : decode cX9_init 53 = .ok (.aload_n 0, 1) := eX9_init_48.2.2.1
theorem dX9_init_54 : decode cX9_init 54 = .ok (.sipush 4040, 3) := eX9_init_48.2.2.2.1
theorem dX9_init_57 : decode cX9_init 57 = .ok (.newarray .int, 2) := eX9_init_48.2.2.2.2.1
theorem dX9_init_59 : decode cX9_init 59 = .ok (.putfield 29, 3) := eX9_init_48.2.2.2.2.2.1
theorem dX9_init_62 : decode cX9_init 62 = .ok (.aload_n 0, 1) := eX9_init_48.2.2.2.2.2.2.1
theorem dX9_init_63 : decode cX9_init 63 = .ok (.lconst 1, 1) := eX9_init_48.2.2.2.2.2.2.2
theorem eX9_init_64 : (decode cX9_init 64 = .ok (.putfield 32, 3)) ∧ (decode cX9_init 67 = .ok (.aload_n 0, 1)) ∧ (decode cX9_init 68 = .ok (.bipush 8, 2)) ∧ (decode cX9_init 70 = .ok (.newarray .int, 2)) ∧ (decode cX9_init 72 = .ok (.putfield 36, 3)) ∧ (decode cX9_init 75 = .ok (.aload_n 0, 1)) ∧ (decode cX9_init 76 = .ok (.bipush 8, 2)) ∧ (decode cX9_init 78 = .ok (.newarray .int, 2)) := by decide +kernel
theorem dX9_init_64 : decode cX9_init 64 = .ok (.putfield 32, 3) := eX9_init_64.1
theorem dX9_init_67 : decode cX9_init 67 = .ok (.aload_n 0, 1) := eX9_init_64.2.1
theorem dX9_init_68 : decode cX9_init 68 = .ok (.bipush 8, 2) := eX9_init_64.2.2.1
theorem dX9_init_70 : decode cX9_init 70 = .ok (.newarray .int, 2) := eX9_init_64.2.2.2.1
theorem dX9_init_72 : decode cX9_init 72 = .ok (.putfield 36, 3) := eX9_init_64.2.2.2.2.1
theorem dX9_init_75 : decode cX9_init 75 = .ok (.aload_n 0, 1) := eX9_init_64.2.2.2.2.2.1
theorem dX9_init_76 : decode cX9_init 76 = .ok (.bipush 8, 2) := eX9_init_64.2.2.2.2.2.2.1
theorem dX9_init_78 : decode cX9_init 78 = .ok (.newarray .int, 2) := eX9_init_64.2.2.2.2.2.2.2
theorem eX9_init_80 : (decode cX9_init 80 = .ok (.putfield 39, 3)) ∧ (decode cX9_init 83 = .ok (.aload_n 0, 1)) ∧ (decode cX9_init 84 = .ok (.iconst 4, 1)) ∧ (decode cX9_init 85 = .ok (.newarray .int, 2)) ∧ (decode cX9_init 87 = .ok (.putfield 42, 3)) ∧ (decode cX9_init 90 = .ok (.aload_n 0, 1)) ∧ (decode cX9_init 91 = .ok (.sipush 4394, 3)) ∧ (decode cX9_init 94 = .ok (.newarray .long, 2)) := by decide +kernel
theorem dX9_init_80 : decode cX9_init 80 = .ok (.putfield 39, 3) := eX9_init_80.1
theorem dX9_init_83 : decode cX9_init 83 = .ok (.aload_n 0, 1) := eX9_init_80.2.1
theorem dX9_init_84 : decode cX9_init 84 = .ok (.iconst 4, 1) := eX9_init_80.2.2.1
theorem dX9_init_85 : decode cX9_init 85 = .ok (.newarray .int, 2) := eX9_init_80.2.2.2.1
theorem dX9_init_87 : decode cX9_init 87 = .ok (.putfield 42, 3) := eX9_init_80.2.2.2.2.1
theorem dX9_init_90 : decode cX9_init 90 = .ok (.aload_n 0, 1) := eX9_init_80.2.2.2.2.2.1
theorem dX9_init_91 : decode cX9_init 91 = .ok (.sipush 4394, 3) := eX9_init_80.2.2.2.2.2.2.1
theorem dX9_init_94 : decode cX9_init 94 = .ok (.newarray .long, 2) := eX9_init_80.2.2.2.2.2.2.2
theorem eX9_init_96 : (decode cX9_init 96 = .ok (.putfield 45, 3)) ∧ (decode cX9_init 99 = .ok (.aload_n 0, 1)) ∧ (decode cX9_init 100 = .ok (.iconst 4, 1)) ∧ (decode cX9_init 101 = .ok (.newarray .int, 2)) ∧ (decode cX9_init 103 = .ok (.putfield 48, 3)) ∧ (decode cX9_init 106 = .ok (.aload_n 0, 1)) ∧ (decode cX9_init 107 = .ok (.iconst 4, 1)) ∧ (decode cX9_init 108 = .ok (.newarray .int, 2)) := by decide +kernel
theorem dX9_init_96 : decode cX9_init 96 = .ok (.putfield 45, 3) := eX9_init_96.1
theorem dX9_init_99 : decode cX9_init 99 = .ok (.aload_n 0, 1) := eX9_init_96.2.1
theorem dX9_init_100 : decode cX9_init 100 = .ok (.iconst 4, 1) := eX9_init_96.2.2.1
theorem dX9_init_101 : decode cX9_init 101 = .ok (.newarray .int, 2) := eX9_init_96.2.2.2.1
theorem dX9_init_103 : decode cX9_init 103 = .ok (.putfield 48, 3) := eX9_init_96.2.2.2.2.1
theorem dX9_init_106 : decode cX9_init 106 = .ok (.aload_n 0, 1) := eX9_init_96.2.2.2.2.2.1
theorem dX9_init_107 : decode cX9_init 107 = .ok (.iconst 4, 1) := eX9_init_96.2.2.2.2.2.2.1
theorem dX9_init_108 : decode cX9_init 108 = .ok (.newarray .int, 2) := eX9_init_96.2.2.2.2.2.2.2
theorem eX9_init_110 : (decode cX9_init 110 = .ok (.putfield 51, 3)) ∧ (decode cX9_init 113 = .ok (.aload_n 0, 1)) ∧ (decode cX9_init 114 = .ok (.sipush 216, 3)) ∧ (decode cX9_init 117 = .ok (.newarray .long, 2)) ∧ (decode cX9_init 119 = .ok (.putfield 54, 3)) ∧ (decode cX9_init 122 = .ok (.aload_n 0, 1)) ∧ (decode cX9_init 123 = .ok (.sipush 216, 3)) ∧ (decode cX9_init 126 = .ok (.newarray .long, 2)) := by decide +kernel
theorem dX9_init_110 : decode cX9_init 110 = .ok (.putfield 51, 3) := eX9_init_110.1
theorem dX9_init_113 : decode cX9_init 113 = .ok (.aload_n 0, 1) := eX9_init_110.2.1
theorem dX9_init_114 : decode cX9_init 114 = .ok (.sipush 216, 3) := eX9_init_110.2.2.1
theorem dX9_init_117 : decode cX9_init 117 = .ok (.newarray .long, 2) := eX9_init_110.2.2.2.1
theorem dX9_init_119 : decode cX9_init 119 = .ok (.putfield 54, 3) := eX9_init_110.2.2.2.2.1
theorem dX9_init_122 : decode cX9_init 122 = .ok (.aload_n 0, 1) := eX9_init_110.2.2.2.2.2.1
theorem dX9_init_123 : decode cX9_init 123 = .ok (.sipush 216, 3) := eX9_init_110.2.2.2.2.2.2.1
theorem dX9_init_126 : decode cX9_init 126 = .ok (.newarray .long, 2) := eX9_init_110.2.2.2.2.2.2.2
theorem eX9_init_128 : (decode cX9_init 128 = .ok (.putfield 57, 3)) ∧ (decode cX9_init 131 = .ok (.iconst 0, 1)) ∧ (decode cX9_init 132 = .ok (.istore_n 1, 1)) ∧ (decode cX9_init 133 = .ok (.iload_n 1, 1)) ∧ (decode cX9_init 134 = .ok (.bipush 6, 2)) ∧ (decode cX9_init 136 = .ok (.if_icmp .ge 16, 3)) ∧ (decode cX9_init 139 = .ok (.aload_n 0, 1)) ∧ (decode cX9_init 140 = .ok (.getfield 7, 3)) := by decide +kernel
theorem dX9_init_128 : decode cX9_init 128 = .ok (.putfield 57, 3) := eX9_init_128.1
theorem dX9_init_131 : decode cX9_init 131 = .ok (.iconst 0, 1) := eX9_init_128.2.1
theorem dX9_init_132 : decode cX9_init 132 = .ok (.istore_n 1, 1) := eX9_init_128.2.2.1
theorem dX9_init_133 : decode cX9_init 133 = .ok (.iload_n 1, 1) := eX9_init_128.2.2.2.1
theorem dX9_init_134 : decode cX9_init 134 = .ok (.bipush 6, 2) := eX9_init_128.2.2.2.2.1
theorem dX9_init_136 : decode cX9_init 136 = .ok (.if_icmp .ge 16, 3) := eX9_init_128.2.2.2.2.2.1
theorem dX9_init_139 : decode cX9_init 139 = .ok (.aload_n 0, 1) := eX9_init_128.2.2.2.2.2.2.1
theorem dX9_init_140 : decode cX9_init 140 = .ok (.getfield 7, 3) := eX9_init_128.2.2.2.2.2.2.2
theorem eX9_init_143 : (decode cX9_init 143 = .ok (.iload_n 1, 1)) ∧ (decode cX9_init 144 = .ok (.iconst (-1), 1)) ∧ (decode cX9_init 145 = .ok (.iastore, 1)) ∧ (decode cX9_init 146 = .ok (.iinc 1 1, 3)) ∧ (decode cX9_init 149 = .ok (.goto (-16), 3)) ∧ (decode cX9_init 152 = .ok (.iconst 0, 1)) ∧ (decode cX9_init 153 = .ok (.istore_n 1, 1)) ∧ (decode cX9_init 154 = .ok (.iload_n 1, 1)) := by decide +kernel
theorem dX9_init_143 : decode cX9_init 143 = .ok (.iload_n 1, 1) := eX9_init_143.1
theorem dX9_init_144 : decode cX9_init 144 = .ok (.iconst (-1), 1) := eX9_init_143.2.1
theorem dX9_init_145 : decode cX9_init 145 = .ok (.iastore, 1) := eX9_init_143.2.2.1
theorem dX9_init_146 : decode cX9_init 146 = .ok (.iinc 1 1, 3) := eX9_init_143.2.2.2.1
theorem dX9_init_149 : decode cX9_init 149 = .ok (.goto (-16), 3) := eX9_init_143.2.2.2.2.1
theorem dX9_init_152 : decode cX9_init 152 = .ok (.iconst 0, 1) := eX9_init_143.2.2.2.2.2.1
theorem dX9_init_153 : decode cX9_init 153 = .ok (.istore_n 1, 1) := eX9_init_143.2.2.2.2.2.2.1
theorem dX9_init_154 : decode cX9_init 154 = .ok (.iload_n 1, 1) := eX9_init_143.2.2.2.2.2.2.2
theorem eX9_init_155 : (decode cX9_init 155 = .ok (.bipush 8, 2)) ∧ (decode cX9_init 157 = .ok (.if_icmp .ge 37, 3)) ∧ (decode cX9_init 160 = .ok (.iconst 0, 1)) ∧ (decode cX9_init 161 = .ok (.istore_n 2, 1)) ∧ (decode cX9_init 162 = .ok (.iload_n 2, 1)) ∧ (decode cX9_init 163 = .ok (.iconst 4, 1)) ∧ (decode cX9_init 164 = .ok (.if_icmp .ge 24, 3)) ∧ (decode cX9_init 167 = .ok (.aload_n 0, 1)) := by decide +kernel
theorem dX9_init_155 : decode cX9_init 155 = .ok (.bipush 8, 2) := eX9_init_155.1
theorem dX9_init_157 : decode cX9_init 157 = .ok (.if_icmp .ge 37, 3) := eX9_init_155.2.1
theorem dX9_init_160 : decode cX9_init 160 = .ok (.iconst 0, 1) := eX9_init_155.2.2.1
theorem dX9_init_161 : decode cX9_init 161 = .ok (.istore_n 2, 1) := eX9_init_155.2.2.2.1
theorem dX9_init_162 : decode cX9_init 162 = .ok (.iload_n 2, 1) := eX9_init_155.2.2.2.2.1
theorem dX9_init_163 : decode cX9_init 163 = .ok (.iconst 4, 1) := eX9_init_155.2.2.2.2.2.1
theorem dX9_init_164 : decode cX9_init 164 = .ok (.if_icmp .ge 24, 3) := eX9_init_155.2.2.2.2.2.2.1
theorem dX9_init_167 : decode cX9_init 167 = .ok (.aload_n 0, 1) := eX9_init_155.2.2.2.2.2.2.2
theorem eX9_init_168 : (decode cX9_init 168 = .ok (.getfield 26, 3)) ∧ (decode cX9_init 171 = .ok (.bipush 25, 2)) ∧ (decode cX9_init 173 = .ok (.iload_n 1, 1)) ∧ (decode cX9_init 174 = .ok (.imul, 1)) ∧ (decode cX9_init 175 = .ok (.bipush 20, 2)) ∧ (decode cX9_init 177 = .ok (.iadd, 1)) ∧ (decode cX9_init 178 = .ok (.iload_n 2, 1)) ∧ (decode cX9_init 179 = .ok (.iadd, 1)) := by decide +kernel
theorem dX9_init_168 : decode cX9_init 168 = .ok (.getfield 26, 3) := eX9_init_168.1
theorem dX9_init_171 : decode cX9_init 171 = .ok (.bipush 25, 2) := eX9_init_168.2.1
theorem dX9_init_173 : decode cX9_init 173 = .ok (.iload_n 1, 1) := eX9_init_168.2.2.1
theorem dX9_init_174 : decode cX9_init 174 = .ok (.imul, 1) := eX9_init_168.2.2.2.1
theorem dX9_init_175 : decode cX9_init 175 = .ok (.bipush 20, 2) := eX9_init_168.2.2.2.2.1
theorem dX9_init_177 : decode cX9_init 177 = .ok (.iadd, 1) := eX9_init_168.2.2.2.2.2.1
theorem dX9_init_178 : decode cX9_init 178 = .ok (.iload_n 2, 1) := eX9_init_168.2.2.2.2.2.2.1
theorem dX9_init_179 : decode cX9_init 179 = .ok (.iadd, 1) := eX9_init_168.2.2.2.2.2.2.2
theorem eX9_init_180 : (decode cX9_init 180 = .ok (.iconst (-1), 1)) ∧ (decode cX9_init 181 = .ok (.iastore, 1)) ∧ (decode cX9_init 182 = .ok (.iinc 2 1, 3)) ∧ (decode cX9_init 185 = .ok (.goto (-23), 3)) ∧ (decode cX9_init 188 = .ok (.iinc 1 1, 3)) ∧ (decode cX9_init 191 = .ok (.goto (-37), 3)) ∧ (decode cX9_init 194 = .ok (.aload_n 0, 1)) ∧ (decode cX9_init 195 = .ok (.getfield 26, 3)) := by decide +kernel
theorem dX9_init_180 : decode cX9_init 180 = .ok (.iconst (-1), 1) := eX9_init_180.1
theorem dX9_init_181 : decode cX9_init 181 = .ok (.iastore, 1) := eX9_init_180.2.1
theorem dX9_init_182 : decode cX9_init 182 = .ok (.iinc 2 1, 3) := eX9_init_180.2.2.1
theorem dX9_init_185 : decode cX9_init 185 = .ok (.goto (-23), 3) := eX9_init_180.2.2.2.1
theorem dX9_init_188 : decode cX9_init 188 = .ok (.iinc 1 1, 3) := eX9_init_180.2.2.2.2.1
theorem dX9_init_191 : decode cX9_init 191 = .ok (.goto (-37), 3) := eX9_init_180.2.2.2.2.2.1
theorem dX9_init_194 : decode cX9_init 194 = .ok (.aload_n 0, 1) := eX9_init_180.2.2.2.2.2.2.1
theorem dX9_init_195 : decode cX9_init 195 = .ok (.getfield 26, 3) := eX9_init_180.2.2.2.2.2.2.2
theorem eX9_init_198 : (decode cX9_init 198 = .ok (.sipush 200, 3)) ∧ (decode cX9_init 201 = .ok (.iconst 1, 1)) ∧ (decode cX9_init 202 = .ok (.iastore, 1)) ∧ (decode cX9_init 203 = .ok (.return_, 1)) := by decide +kernel
theorem dX9_init_198 : decode cX9_init 198 = .ok (.sipush 200, 3) := eX9_init_198.1
theorem dX9_init_201 : decode cX9_init 201 = .ok (.iconst 1, 1) := eX9_init_198.2.1
theorem dX9_init_202 : decode cX9_init 202 = .ok (.iastore, 1) := eX9_init_198.2.2.1
theorem dX9_init_203 : decode cX9_init 203 = .ok (.return_, 1) := eX9_init_198.2.2.2
theorem eX9_in_0 : (decode cX9_in 0 = .ok (.lload_n 0, 1)) ∧ (decode cX9_in 1 = .ok (.lload_n 2, 1)) ∧ (decode cX9_in 2 = .ok (.lcmp, 1)) ∧ (decode cX9_in 3 = .ok (.ifCond .lt 14, 3)) ∧ (decode cX9_in 6 = .ok (.lload_n 0, 1)) ∧ (decode cX9_in 7 = .ok (.lload 4, 2)) ∧ (decode cX9_in 9 = .ok (.lcmp, 1)) ∧ (decode cX9_in 10 = .ok (.ifCond .gt 7, 3)) := by decide +kernel
theorem dX9_in_0 : decode cX9_in 0 = .ok (.lload_n 0, 1) := eX9_in_0.1
theorem dX9_in_1 : decode cX9_in 1 = .ok (.lload_n 2, 1) := eX9_in_0.2.1
theorem dX9_in_2 : decode cX9_in 2 = .ok (.lcmp, 1) := eX9_in_0.2.2.1
theorem dX9_in_3 : decode cX9_in 3 = .ok (.ifCond .lt 14, 3) := eX9_in_0.2.2.2.1
theorem dX9_in_6 : decode cX9_in 6 = .ok (.lload_n 0, 1) := eX9_in_0.2.2.2.2.1
theorem dX9_in_7 : decode cX9_in 7 = .ok (.lload 4, 2) := eX9_in_0.2.2.2.2.2.1
theorem dX9_in_9 : decode cX9_in 9 = .ok (.lcmp, 1) := eX9_in_0.2.2.2.2.2.2.1
theorem dX9_in_10 : decode cX9_in 10 = .ok (.ifCond .gt 7, 3) := eX9_in_0.2.2.2.2.2.2.2
theorem eX9_in_13 : (decode cX9_in 13 = .ok (.iconst 1, 1)) ∧ (decode cX9_in 14 = .ok (.goto 4, 3)) ∧ (decode cX9_in 17 = .ok (.iconst 0, 1)) ∧ (decode cX9_in 18 = .ok (.ireturn, 1)) := by decide +kernel
theorem dX9_in_13 : decode cX9_in 13 = .ok (.iconst 1, 1) := eX9_in_13.1
theorem dX9_in_14 : decode cX9_in 14 = .ok (.goto 4, 3) := eX9_in_13.2.1
theorem dX9_in_17 : decode cX9_in 17 = .ok (.iconst 0, 1) := eX9_in_13.2.2.1
theorem dX9_in_18 : decode cX9_in 18 = .ok (.ireturn, 1) := eX9_in_13.2.2.2
theorem eX9_isSheet_0 : (decode cX9_isSheet 0 = .ok (.iload_n 0, 1)) ∧ (decode cX9_isSheet 1 = .ok (.i2l, 1)) ∧ (decode cX9_isSheet 2 = .ok (.lconst 0, 1)) ∧ (decode cX9_isSheet 3 = .ok (.ldc2_w 60, 3)) ∧ (decode cX9_isSheet 6 = .ok (.invokestatic 62, 3)) ∧ (decode cX9_isSheet 9 = .ok (.ireturn, 1)) := by decide +kernel
theorem dX9_isSheet_0 : decode cX9_isSheet 0 = .ok (.iload_n 0, 1) := eX9_isSheet_0.1
theorem dX9_isSheet_1 : decode cX9_isSheet 1 = .ok (.i2l, 1) := eX9_isSheet_0.2.1
theorem dX9_isSheet_2 : decode cX9_isSheet 2 = .ok (.lconst 0, 1) := eX9_isSheet_0.2.2.1
theorem dX9_isSheet_3 : decode cX9_isSheet 3 = .ok (.ldc2_w 60, 3) := eX9_isSheet_0.2.2.2.1
theorem dX9_isSheet_6 : decode cX9_isSheet 6 = .ok (.invokestatic 62, 3) := eX9_isSheet_0.2.2.2.2.1
theorem dX9_isSheet_9 : decode cX9_isSheet 9 = .ok (.ireturn, 1) := eX9_isSheet_0.2.2.2.2.2
theorem eX9_cut_0 : (decode cX9_cut 0 = .ok (.iload_n 0, 1)) ∧ (decode cX9_cut 1 = .ok (.ifCond .ne 10, 3)) ∧ (decode cX9_cut 4 = .ok (.lload_n 1, 1)) ∧ (decode cX9_cut 5 = .ok (.l2i, 1)) ∧ (decode cX9_cut 6 = .ok (.i2b, 1)) ∧ (decode cX9_cut 7 = .ok (.i2l, 1)) ∧ (decode cX9_cut 8 = .ok (.goto 15, 3)) ∧ (decode cX9_cut 11 = .ok (.iload_n 0, 1)) := by decide +kernel
theorem dX9_cut_0 : decode cX9_cut 0 = .ok (.iload_n 0, 1) := eX9_cut_0.1
theorem dX9_cut_1 : decode cX9_cut 1 = .ok (.ifCond .ne 10, 3) := eX9_cut_0.2.1
theorem dX9_cut_4 : decode cX9_cut 4 = .ok (.lload_n 1, 1) := eX9_cut_0.2.2.1
theorem dX9_cut_5 : decode cX9_cut 5 = .ok (.l2i, 1) := eX9_cut_0.2.2.2.1
theorem dX9_cut_6 : decode cX9_cut 6 = .ok (.i2b, 1) := eX9_cut_0.2.2.2.2.1
theorem dX9_cut_7 : decode cX9_cut 7 = .ok (.i2l, 1) := eX9_cut_0.2.2.2.2.2.1
theorem dX9_cut_8 : decode cX9_cut 8 = .ok (.goto 15, 3) := eX9_cut_0.2.2.2.2.2.2.1
theorem dX9_cut_11 : decode cX9_cut 11 = .ok (.iload_n 0, 1) := eX9_cut_0.2.2.2.2.2.2.2
theorem eX9_cut_12 : (decode cX9_cut 12 = .ok (.iconst 1, 1)) ∧ (decode cX9_cut 13 = .ok (.if_icmp .ne 9, 3)) ∧ (decode cX9_cut 16 = .ok (.lload_n 1, 1)) ∧ (decode cX9_cut 17 = .ok (.l2i, 1)) ∧ (decode cX9_cut 18 = .ok (.i2l, 1)) ∧ (decode cX9_cut 19 = .ok (.goto 4, 3)) ∧ (decode cX9_cut 22 = .ok (.lload_n 1, 1)) ∧ (decode cX9_cut 23 = .ok (.lreturn, 1)) := by decide +kernel
theorem dX9_cut_12 : decode cX9_cut 12 = .ok (.iconst 1, 1) := eX9_cut_12.1
theorem dX9_cut_13 : decode cX9_cut 13 = .ok (.if_icmp .ne 9, 3) := eX9_cut_12.2.1
theorem dX9_cut_16 : decode cX9_cut 16 = .ok (.lload_n 1, 1) := eX9_cut_12.2.2.1
theorem dX9_cut_17 : decode cX9_cut 17 = .ok (.l2i, 1) := eX9_cut_12.2.2.2.1
theorem dX9_cut_18 : decode cX9_cut 18 = .ok (.i2l, 1) := eX9_cut_12.2.2.2.2.1
theorem dX9_cut_19 : decode cX9_cut 19 = .ok (.goto 4, 3) := eX9_cut_12.2.2.2.2.2.1
theorem dX9_cut_22 : decode cX9_cut 22 = .ok (.lload_n 1, 1) := eX9_cut_12.2.2.2.2.2.2.1
theorem dX9_cut_23 : decode cX9_cut 23 = .ok (.lreturn, 1) := eX9_cut_12.2.2.2.2.2.2.2
theorem eX9_sheet_0 : (decode cX9_sheet 0 = .ok (.iload_n 1, 1)) ∧ (decode cX9_sheet 1 = .ok (.invokestatic 66, 3)) ∧ (decode cX9_sheet 4 = .ok (.ifCond .eq 27, 3)) ∧ (decode cX9_sheet 7 = .ok (.iload_n 2, 1)) ∧ (decode cX9_sheet 8 = .ok (.i2l, 1)) ∧ (decode cX9_sheet 9 = .ok (.ldc2_w 70, 3)) ∧ (decode cX9_sheet 12 = .ok (.ldc2_w 72, 3)) ∧ (decode cX9_sheet 15 = .ok (.invokestatic 62, 3)) := by decide +kernel
theorem dX9_sheet_0 : decode cX9_sheet 0 = .ok (.iload_n 1, 1) := eX9_sheet_0.1
theorem dX9_sheet_1 : decode cX9_sheet 1 = .ok (.invokestatic 66, 3) := eX9_sheet_0.2.1
theorem dX9_sheet_4 : decode cX9_sheet 4 = .ok (.ifCond .eq 27, 3) := eX9_sheet_0.2.2.1
theorem dX9_sheet_7 : decode cX9_sheet 7 = .ok (.iload_n 2, 1) := eX9_sheet_0.2.2.2.1
theorem dX9_sheet_8 : decode cX9_sheet 8 = .ok (.i2l, 1) := eX9_sheet_0.2.2.2.2.1
theorem dX9_sheet_9 : decode cX9_sheet 9 = .ok (.ldc2_w 70, 3) := eX9_sheet_0.2.2.2.2.2.1
theorem dX9_sheet_12 : decode cX9_sheet 12 = .ok (.ldc2_w 72, 3) := eX9_sheet_0.2.2.2.2.2.2.1
theorem dX9_sheet_15 : decode cX9_sheet 15 = .ok (.invokestatic 62, 3) := eX9_sheet_0.2.2.2.2.2.2.2
theorem eX9_sheet_18 : (decode cX9_sheet 18 = .ok (.ifCond .eq 13, 3)) ∧ (decode cX9_sheet 21 = .ok (.iload_n 2, 1)) ∧ (decode cX9_sheet 22 = .ok (.ifCond .lt 11, 3)) ∧ (decode cX9_sheet 25 = .ok (.iload_n 3, 1)) ∧ (decode cX9_sheet 26 = .ok (.bipush 16, 2)) ∧ (decode cX9_sheet 28 = .ok (.if_icmp .le 5, 3)) ∧ (decode cX9_sheet 31 = .ok (.iconst (-1), 1)) ∧ (decode cX9_sheet 32 = .ok (.ireturn, 1)) := by decide +kernel
theorem dX9_sheet_18 : decode cX9_sheet 18 = .ok (.ifCond .eq 13, 3) := eX9_sheet_18.1
theorem dX9_sheet_21 : decode cX9_sheet 21 = .ok (.iload_n 2, 1) := eX9_sheet_18.2.1
theorem dX9_sheet_22 : decode cX9_sheet 22 = .ok (.ifCond .lt 11, 3) := eX9_sheet_18.2.2.1
theorem dX9_sheet_25 : decode cX9_sheet 25 = .ok (.iload_n 3, 1) := eX9_sheet_18.2.2.2.1
theorem dX9_sheet_26 : decode cX9_sheet 26 = .ok (.bipush 16, 2) := eX9_sheet_18.2.2.2.2.1
theorem dX9_sheet_28 : decode cX9_sheet 28 = .ok (.if_icmp .le 5, 3) := eX9_sheet_18.2.2.2.2.2.1
theorem dX9_sheet_31 : decode cX9_sheet 31 = .ok (.iconst (-1), 1) := eX9_sheet_18.2.2.2.2.2.2.1
theorem dX9_sheet_32 : decode cX9_sheet 32 = .ok (.ireturn, 1) := eX9_sheet_18.2.2.2.2.2.2.2
theorem eX9_sheet_33 : (decode cX9_sheet 33 = .ok (.iload_n 2, 1)) ∧ (decode cX9_sheet 34 = .ok (.ifCond .lt 10, 3)) ∧ (decode cX9_sheet 37 = .ok (.iload_n 3, 1)) ∧ (decode cX9_sheet 38 = .ok (.ifCond .ge 6, 3)) ∧ (decode cX9_sheet 41 = .ok (.bipush (-13), 2)) ∧ (decode cX9_sheet 43 = .ok (.ireturn, 1)) ∧ (decode cX9_sheet 44 = .ok (.aload_n 0, 1)) ∧ (decode cX9_sheet 45 = .ok (.getfield 7, 3)) := by decide +kernel
theorem dX9_sheet_33 : decode cX9_sheet 33 = .ok (.iload_n 2, 1) := eX9_sheet_33.1
theorem dX9_sheet_34 : decode cX9_sheet 34 = .ok (.ifCond .lt 10, 3) := eX9_sheet_33.2.1
theorem dX9_sheet_37 : decode cX9_sheet 37 = .ok (.iload_n 3, 1) := eX9_sheet_33.2.2.1
theorem dX9_sheet_38 : decode cX9_sheet 38 = .ok (.ifCond .ge 6, 3) := eX9_sheet_33.2.2.2.1
theorem dX9_sheet_41 : decode cX9_sheet 41 = .ok (.bipush (-13), 2) := eX9_sheet_33.2.2.2.2.1
theorem dX9_sheet_43 : decode cX9_sheet 43 = .ok (.ireturn, 1) := eX9_sheet_33.2.2.2.2.2.1
theorem dX9_sheet_44 : decode cX9_sheet 44 = .ok (.aload_n 0, 1) := eX9_sheet_33.2.2.2.2.2.2.1
theorem dX9_sheet_45 : decode cX9_sheet 45 = .ok (.getfield 7, 3) := eX9_sheet_33.2.2.2.2.2.2.2
theorem eX9_sheet_48 : (decode cX9_sheet 48 = .ok (.iload_n 1, 1)) ∧ (decode cX9_sheet 49 = .ok (.iload_n 2, 1)) ∧ (decode cX9_sheet 50 = .ok (.iastore, 1)) ∧ (decode cX9_sheet 51 = .ok (.aload_n 0, 1)) ∧ (decode cX9_sheet 52 = .ok (.getfield 13, 3)) ∧ (decode cX9_sheet 55 = .ok (.iload_n 1, 1)) ∧ (decode cX9_sheet 56 = .ok (.iload_n 2, 1)) ∧ (decode cX9_sheet 57 = .ok (.ifCond .ge 7, 3)) := by decide +kernel
theorem dX9_sheet_48 : decode cX9_sheet 48 = .ok (.iload_n 1, 1) := eX9_sheet_48.1
theorem dX9_sheet_49 : decode cX9_sheet 49 = .ok (.iload_n 2, 1) := eX9_sheet_48.2.1
theorem dX9_sheet_50 : decode cX9_sheet 50 = .ok (.iastore, 1) := eX9_sheet_48.2.2.1
theorem dX9_sheet_51 : decode cX9_sheet 51 = .ok (.aload_n 0, 1) := eX9_sheet_48.2.2.2.1
theorem dX9_sheet_52 : decode cX9_sheet 52 = .ok (.getfield 13, 3) := eX9_sheet_48.2.2.2.2.1
theorem dX9_sheet_55 : decode cX9_sheet 55 = .ok (.iload_n 1, 1) := eX9_sheet_48.2.2.2.2.2.1
theorem dX9_sheet_56 : decode cX9_sheet 56 = .ok (.iload_n 2, 1) := eX9_sheet_48.2.2.2.2.2.2.1
theorem dX9_sheet_57 : decode cX9_sheet 57 = .ok (.ifCond .ge 7, 3) := eX9_sheet_48.2.2.2.2.2.2.2
theorem eX9_sheet_60 : (decode cX9_sheet 60 = .ok (.iconst 0, 1)) ∧ (decode cX9_sheet 61 = .ok (.goto 4, 3)) ∧ (decode cX9_sheet 64 = .ok (.iload_n 3, 1)) ∧ (decode cX9_sheet 65 = .ok (.iastore, 1)) ∧ (decode cX9_sheet 66 = .ok (.iconst 0, 1)) ∧ (decode cX9_sheet 67 = .ok (.istore 4, 2)) ∧ (decode cX9_sheet 69 = .ok (.iload 4, 2)) ∧ (decode cX9_sheet 71 = .ok (.bipush 16, 2)) := by decide +kernel
theorem dX9_sheet_60 : decode cX9_sheet 60 = .ok (.iconst 0, 1) := eX9_sheet_60.1
theorem dX9_sheet_61 : decode cX9_sheet 61 = .ok (.goto 4, 3) := eX9_sheet_60.2.1
theorem dX9_sheet_64 : decode cX9_sheet 64 = .ok (.iload_n 3, 1) := eX9_sheet_60.2.2.1
theorem dX9_sheet_65 : decode cX9_sheet 65 = .ok (.iastore, 1) := eX9_sheet_60.2.2.2.1
theorem dX9_sheet_66 : decode cX9_sheet 66 = .ok (.iconst 0, 1) := eX9_sheet_60.2.2.2.2.1
theorem dX9_sheet_67 : decode cX9_sheet 67 = .ok (.istore 4, 2) := eX9_sheet_60.2.2.2.2.2.1
theorem dX9_sheet_69 : decode cX9_sheet 69 = .ok (.iload 4, 2) := eX9_sheet_60.2.2.2.2.2.2.1
theorem dX9_sheet_71 : decode cX9_sheet 71 = .ok (.bipush 16, 2) := eX9_sheet_60.2.2.2.2.2.2.2
theorem eX9_sheet_73 : (decode cX9_sheet 73 = .ok (.if_icmp .ge 22, 3)) ∧ (decode cX9_sheet 76 = .ok (.aload_n 0, 1)) ∧ (decode cX9_sheet 77 = .ok (.getfield 16, 3)) ∧ (decode cX9_sheet 80 = .ok (.bipush 16, 2)) ∧ (decode cX9_sheet 82 = .ok (.iload_n 1, 1)) ∧ (decode cX9_sheet 83 = .ok (.imul, 1)) ∧ (decode cX9_sheet 84 = .ok (.iload 4, 2)) ∧ (decode cX9_sheet 86 = .ok (.iadd, 1)) := by decide +kernel
theorem dX9_sheet_73 : decode cX9_sheet 73 = .ok (.if_icmp .ge 22, 3) := eX9_sheet_73.1
theorem dX9_sheet_76 : decode cX9_sheet 76 = .ok (.aload_n 0, 1) := eX9_sheet_73.2.1
theorem dX9_sheet_77 : decode cX9_sheet 77 = .ok (.getfield 16, 3) := eX9_sheet_73.2.2.1
theorem dX9_sheet_80 : decode cX9_sheet 80 = .ok (.bipush 16, 2) := eX9_sheet_73.2.2.2.1
theorem dX9_sheet_82 : decode cX9_sheet 82 = .ok (.iload_n 1, 1) := eX9_sheet_73.2.2.2.2.1
theorem dX9_sheet_83 : decode cX9_sheet 83 = .ok (.imul, 1) := eX9_sheet_73.2.2.2.2.2.1
theorem dX9_sheet_84 : decode cX9_sheet 84 = .ok (.iload 4, 2) := eX9_sheet_73.2.2.2.2.2.2.1
theorem dX9_sheet_86 : decode cX9_sheet 86 = .ok (.iadd, 1) := eX9_sheet_73.2.2.2.2.2.2.2
theorem eX9_sheet_87 : (decode cX9_sheet 87 = .ok (.lconst 0, 1)) ∧ (decode cX9_sheet 88 = .ok (.lastore, 1)) ∧ (decode cX9_sheet 89 = .ok (.iinc 4 1, 3)) ∧ (decode cX9_sheet 92 = .ok (.goto (-23), 3)) ∧ (decode cX9_sheet 95 = .ok (.iconst 0, 1)) ∧ (decode cX9_sheet 96 = .ok (.ireturn, 1)) := by decide +kernel
theorem dX9_sheet_87 : decode cX9_sheet 87 = .ok (.lconst 0, 1) := eX9_sheet_87.1
theorem dX9_sheet_88 : decode cX9_sheet 88 = .ok (.lastore, 1) := eX9_sheet_87.2.1
theorem dX9_sheet_89 : decode cX9_sheet 89 = .ok (.iinc 4 1, 3) := eX9_sheet_87.2.2.1
theorem dX9_sheet_92 : decode cX9_sheet 92 = .ok (.goto (-23), 3) := eX9_sheet_87.2.2.2.1
theorem dX9_sheet_95 : decode cX9_sheet 95 = .ok (.iconst 0, 1) := eX9_sheet_87.2.2.2.2.1
theorem dX9_sheet_96 : decode cX9_sheet 96 = .ok (.ireturn, 1) := eX9_sheet_87.2.2.2.2.2
theorem eX9_placed_0 : (decode cX9_placed 0 = .ok (.aload_n 0, 1)) ∧ (decode cX9_placed 1 = .ok (.getfield 7, 3)) ∧ (decode cX9_placed 4 = .ok (.iload_n 1, 1)) ∧ (decode cX9_placed 5 = .ok (.iaload, 1)) ∧ (decode cX9_placed 6 = .ok (.ifCond .ge 8, 3)) ∧ (decode cX9_placed 9 = .ok (.bipush (-11), 2)) ∧ (decode cX9_placed 11 = .ok (.goto 27, 3)) ∧ (decode cX9_placed 14 = .ok (.iload_n 2, 1)) := by decide +kernel
theorem dX9_placed_0 : decode cX9_placed 0 = .ok (.aload_n 0, 1) := eX9_placed_0.1
theorem dX9_placed_1 : decode cX9_placed 1 = .ok (.getfield 7, 3) := eX9_placed_0.2.1
theorem dX9_placed_4 : decode cX9_placed 4 = .ok (.iload_n 1, 1) := eX9_placed_0.2.2.1
theorem dX9_placed_5 : decode cX9_placed 5 = .ok (.iaload, 1) := eX9_placed_0.2.2.2.1
theorem dX9_placed_6 : decode cX9_placed 6 = .ok (.ifCond .ge 8, 3) := eX9_placed_0.2.2.2.2.1
theorem dX9_placed_9 : decode cX9_placed 9 = .ok (.bipush (-11), 2) := eX9_placed_0.2.2.2.2.2.1
theorem dX9_placed_11 : decode cX9_placed 11 = .ok (.goto 27, 3) := eX9_placed_0.2.2.2.2.2.2.1
theorem dX9_placed_14 : decode cX9_placed 14 = .ok (.iload_n 2, 1) := eX9_placed_0.2.2.2.2.2.2.2
theorem eX9_placed_15 : (decode cX9_placed 15 = .ok (.i2l, 1)) ∧ (decode cX9_placed 16 = .ok (.lconst 0, 1)) ∧ (decode cX9_placed 17 = .ok (.aload_n 0, 1)) ∧ (decode cX9_placed 18 = .ok (.getfield 13, 3)) ∧ (decode cX9_placed 21 = .ok (.iload_n 1, 1)) ∧ (decode cX9_placed 22 = .ok (.iaload, 1)) ∧ (decode cX9_placed 23 = .ok (.iconst 1, 1)) ∧ (decode cX9_placed 24 = .ok (.isub, 1)) := by decide +kernel
theorem dX9_placed_15 : decode cX9_placed 15 = .ok (.i2l, 1) := eX9_placed_15.1
theorem dX9_placed_16 : decode cX9_placed 16 = .ok (.lconst 0, 1) := eX9_placed_15.2.1
theorem dX9_placed_17 : decode cX9_placed 17 = .ok (.aload_n 0, 1) := eX9_placed_15.2.2.1
theorem dX9_placed_18 : decode cX9_placed 18 = .ok (.getfield 13, 3) := eX9_placed_15.2.2.2.1
theorem dX9_placed_21 : decode cX9_placed 21 = .ok (.iload_n 1, 1) := eX9_placed_15.2.2.2.2.1
theorem dX9_placed_22 : decode cX9_placed 22 = .ok (.iaload, 1) := eX9_placed_15.2.2.2.2.2.1
theorem dX9_placed_23 : decode cX9_placed 23 = .ok (.iconst 1, 1) := eX9_placed_15.2.2.2.2.2.2.1
theorem dX9_placed_24 : decode cX9_placed 24 = .ok (.isub, 1) := eX9_placed_15.2.2.2.2.2.2.2
theorem eX9_placed_25 : (decode cX9_placed 25 = .ok (.i2l, 1)) ∧ (decode cX9_placed 26 = .ok (.invokestatic 62, 3)) ∧ (decode cX9_placed 29 = .ok (.ifCond .eq 7, 3)) ∧ (decode cX9_placed 32 = .ok (.iconst 0, 1)) ∧ (decode cX9_placed 33 = .ok (.goto 5, 3)) ∧ (decode cX9_placed 36 = .ok (.bipush (-12), 2)) ∧ (decode cX9_placed 38 = .ok (.ireturn, 1)) := by decide +kernel
theorem dX9_placed_25 : decode cX9_placed 25 = .ok (.i2l, 1) := eX9_placed_25.1
theorem dX9_placed_26 : decode cX9_placed 26 = .ok (.invokestatic 62, 3) := eX9_placed_25.2.1
theorem dX9_placed_29 : decode cX9_placed 29 = .ok (.ifCond .eq 7, 3) := eX9_placed_25.2.2.1
theorem dX9_placed_32 : decode cX9_placed 32 = .ok (.iconst 0, 1) := eX9_placed_25.2.2.2.1
theorem dX9_placed_33 : decode cX9_placed 33 = .ok (.goto 5, 3) := eX9_placed_25.2.2.2.2.1
theorem dX9_placed_36 : decode cX9_placed 36 = .ok (.bipush (-12), 2) := eX9_placed_25.2.2.2.2.2.1
theorem dX9_placed_38 : decode cX9_placed 38 = .ok (.ireturn, 1) := eX9_placed_25.2.2.2.2.2.2
theorem eX9_lay_0 : (decode cX9_lay 0 = .ok (.iload_n 1, 1)) ∧ (decode cX9_lay 1 = .ok (.invokestatic 66, 3)) ∧ (decode cX9_lay 4 = .ok (.ifCond .ne 5, 3)) ∧ (decode cX9_lay 7 = .ok (.iconst (-1), 1)) ∧ (decode cX9_lay 8 = .ok (.ireturn, 1)) ∧ (decode cX9_lay 9 = .ok (.aload_n 0, 1)) ∧ (decode cX9_lay 10 = .ok (.iload_n 1, 1)) ∧ (decode cX9_lay 11 = .ok (.iload_n 2, 1)) := by decide +kernel
theorem dX9_lay_0 : decode cX9_lay 0 = .ok (.iload_n 1, 1) := eX9_lay_0.1
theorem dX9_lay_1 : decode cX9_lay 1 = .ok (.invokestatic 66, 3) := eX9_lay_0.2.1
theorem dX9_lay_4 : decode cX9_lay 4 = .ok (.ifCond .ne 5, 3) := eX9_lay_0.2.2.1
theorem dX9_lay_7 : decode cX9_lay 7 = .ok (.iconst (-1), 1) := eX9_lay_0.2.2.2.1
theorem dX9_lay_8 : decode cX9_lay 8 = .ok (.ireturn, 1) := eX9_lay_0.2.2.2.2.1
theorem dX9_lay_9 : decode cX9_lay 9 = .ok (.aload_n 0, 1) := eX9_lay_0.2.2.2.2.2.1
theorem dX9_lay_10 : decode cX9_lay 10 = .ok (.iload_n 1, 1) := eX9_lay_0.2.2.2.2.2.2.1
theorem dX9_lay_11 : decode cX9_lay 11 = .ok (.iload_n 2, 1) := eX9_lay_0.2.2.2.2.2.2.2
theorem eX9_lay_12 : (decode cX9_lay 12 = .ok (.invokevirtual 74, 3)) ∧ (decode cX9_lay 15 = .ok (.istore 5, 2)) ∧ (decode cX9_lay 17 = .ok (.iload 5, 2)) ∧ (decode cX9_lay 19 = .ok (.ifCond .ne 24, 3)) ∧ (decode cX9_lay 22 = .ok (.aload_n 0, 1)) ∧ (decode cX9_lay 23 = .ok (.getfield 16, 3)) ∧ (decode cX9_lay 26 = .ok (.bipush 16, 2)) ∧ (decode cX9_lay 28 = .ok (.iload_n 1, 1)) := by decide +kernel
theorem dX9_lay_12 : decode cX9_lay 12 = .ok (.invokevirtual 74, 3) := eX9_lay_12.1
theorem dX9_lay_15 : decode cX9_lay 15 = .ok (.istore 5, 2) := eX9_lay_12.2.1
theorem dX9_lay_17 : decode cX9_lay 17 = .ok (.iload 5, 2) := eX9_lay_12.2.2.1
theorem dX9_lay_19 : decode cX9_lay 19 = .ok (.ifCond .ne 24, 3) := eX9_lay_12.2.2.2.1
theorem dX9_lay_22 : decode cX9_lay 22 = .ok (.aload_n 0, 1) := eX9_lay_12.2.2.2.2.1
theorem dX9_lay_23 : decode cX9_lay 23 = .ok (.getfield 16, 3) := eX9_lay_12.2.2.2.2.2.1
theorem dX9_lay_26 : decode cX9_lay 26 = .ok (.bipush 16, 2) := eX9_lay_12.2.2.2.2.2.2.1
theorem dX9_lay_28 : decode cX9_lay 28 = .ok (.iload_n 1, 1) := eX9_lay_12.2.2.2.2.2.2.2
theorem eX9_lay_29 : (decode cX9_lay 29 = .ok (.imul, 1)) ∧ (decode cX9_lay 30 = .ok (.iload_n 2, 1)) ∧ (decode cX9_lay 31 = .ok (.iadd, 1)) ∧ (decode cX9_lay 32 = .ok (.aload_n 0, 1)) ∧ (decode cX9_lay 33 = .ok (.getfield 7, 3)) ∧ (decode cX9_lay 36 = .ok (.iload_n 1, 1)) ∧ (decode cX9_lay 37 = .ok (.iaload, 1)) ∧ (decode cX9_lay 38 = .ok (.lload_n 3, 1)) := by decide +kernel
theorem dX9_lay_29 : decode cX9_lay 29 = .ok (.imul, 1) := eX9_lay_29.1
theorem dX9_lay_30 : decode cX9_lay 30 = .ok (.iload_n 2, 1) := eX9_lay_29.2.1
theorem dX9_lay_31 : decode cX9_lay 31 = .ok (.iadd, 1) := eX9_lay_29.2.2.1
theorem dX9_lay_32 : decode cX9_lay 32 = .ok (.aload_n 0, 1) := eX9_lay_29.2.2.2.1
theorem dX9_lay_33 : decode cX9_lay 33 = .ok (.getfield 7, 3) := eX9_lay_29.2.2.2.2.1
theorem dX9_lay_36 : decode cX9_lay 36 = .ok (.iload_n 1, 1) := eX9_lay_29.2.2.2.2.2.1
theorem dX9_lay_37 : decode cX9_lay 37 = .ok (.iaload, 1) := eX9_lay_29.2.2.2.2.2.2.1
theorem dX9_lay_38 : decode cX9_lay 38 = .ok (.lload_n 3, 1) := eX9_lay_29.2.2.2.2.2.2.2
theorem eX9_lay_39 : (decode cX9_lay 39 = .ok (.invokestatic 78, 3)) ∧ (decode cX9_lay 42 = .ok (.lastore, 1)) ∧ (decode cX9_lay 43 = .ok (.iload 5, 2)) ∧ (decode cX9_lay 45 = .ok (.ireturn, 1)) := by decide +kernel
theorem dX9_lay_39 : decode cX9_lay 39 = .ok (.invokestatic 78, 3) := eX9_lay_39.1
theorem dX9_lay_42 : decode cX9_lay 42 = .ok (.lastore, 1) := eX9_lay_39.2.1
theorem dX9_lay_43 : decode cX9_lay 43 = .ok (.iload 5, 2) := eX9_lay_39.2.2.1
theorem dX9_lay_45 : decode cX9_lay 45 = .ok (.ireturn, 1) := eX9_lay_39.2.2.2
theorem eX9_copy_0 : (decode cX9_copy 0 = .ok (.iload_n 1, 1)) ∧ (decode cX9_copy 1 = .ok (.invokestatic 66, 3)) ∧ (decode cX9_copy 4 = .ok (.ifCond .eq 10, 3)) ∧ (decode cX9_copy 7 = .ok (.iload_n 3, 1)) ∧ (decode cX9_copy 8 = .ok (.invokestatic 66, 3)) ∧ (decode cX9_copy 11 = .ok (.ifCond .ne 5, 3)) ∧ (decode cX9_copy 14 = .ok (.iconst (-1), 1)) ∧ (decode cX9_copy 15 = .ok (.ireturn, 1)) := by decide +kernel
theorem dX9_copy_0 : decode cX9_copy 0 = .ok (.iload_n 1, 1) := eX9_copy_0.1
theorem dX9_copy_1 : decode cX9_copy 1 = .ok (.invokestatic 66, 3) := eX9_copy_0.2.1
theorem dX9_copy_4 : decode cX9_copy 4 = .ok (.ifCond .eq 10, 3) := eX9_copy_0.2.2.1
theorem dX9_copy_7 : decode cX9_copy 7 = .ok (.iload_n 3, 1) := eX9_copy_0.2.2.2.1
theorem dX9_copy_8 : decode cX9_copy 8 = .ok (.invokestatic 66, 3) := eX9_copy_0.2.2.2.2.1
theorem dX9_copy_11 : decode cX9_copy 11 = .ok (.ifCond .ne 5, 3) := eX9_copy_0.2.2.2.2.2.1
theorem dX9_copy_14 : decode cX9_copy 14 = .ok (.iconst (-1), 1) := eX9_copy_0.2.2.2.2.2.2.1
theorem dX9_copy_15 : decode cX9_copy 15 = .ok (.ireturn, 1) := eX9_copy_0.2.2.2.2.2.2.2
theorem eX9_copy_16 : (decode cX9_copy 16 = .ok (.aload_n 0, 1)) ∧ (decode cX9_copy 17 = .ok (.getfield 7, 3)) ∧ (decode cX9_copy 20 = .ok (.iload_n 1, 1)) ∧ (decode cX9_copy 21 = .ok (.iaload, 1)) ∧ (decode cX9_copy 22 = .ok (.ifCond .lt 12, 3)) ∧ (decode cX9_copy 25 = .ok (.aload_n 0, 1)) ∧ (decode cX9_copy 26 = .ok (.getfield 7, 3)) ∧ (decode cX9_copy 29 = .ok (.iload_n 3, 1)) := by decide +kernel
theorem dX9_copy_16 : decode cX9_copy 16 = .ok (.aload_n 0, 1) := eX9_copy_16.1
theorem dX9_copy_17 : decode cX9_copy 17 = .ok (.getfield 7, 3) := eX9_copy_16.2.1
theorem dX9_copy_20 : decode cX9_copy 20 = .ok (.iload_n 1, 1) := eX9_copy_16.2.2.1
theorem dX9_copy_21 : decode cX9_copy 21 = .ok (.iaload, 1) := eX9_copy_16.2.2.2.1
theorem dX9_copy_22 : decode cX9_copy 22 = .ok (.ifCond .lt 12, 3) := eX9_copy_16.2.2.2.2.1
theorem dX9_copy_25 : decode cX9_copy 25 = .ok (.aload_n 0, 1) := eX9_copy_16.2.2.2.2.2.1
theorem dX9_copy_26 : decode cX9_copy 26 = .ok (.getfield 7, 3) := eX9_copy_16.2.2.2.2.2.2.1
theorem dX9_copy_29 : decode cX9_copy 29 = .ok (.iload_n 3, 1) := eX9_copy_16.2.2.2.2.2.2.2
theorem eX9_copy_30 : (decode cX9_copy 30 = .ok (.iaload, 1)) ∧ (decode cX9_copy 31 = .ok (.ifCond .ge 6, 3)) ∧ (decode cX9_copy 34 = .ok (.bipush (-11), 2)) ∧ (decode cX9_copy 36 = .ok (.ireturn, 1)) ∧ (decode cX9_copy 37 = .ok (.aload_n 0, 1)) ∧ (decode cX9_copy 38 = .ok (.getfield 7, 3)) ∧ (decode cX9_copy 41 = .ok (.iload_n 1, 1)) ∧ (decode cX9_copy 42 = .ok (.iaload, 1)) := by decide +kernel
theorem dX9_copy_30 : decode cX9_copy 30 = .ok (.iaload, 1) := eX9_copy_30.1
theorem dX9_copy_31 : decode cX9_copy 31 = .ok (.ifCond .ge 6, 3) := eX9_copy_30.2.1
theorem dX9_copy_34 : decode cX9_copy 34 = .ok (.bipush (-11), 2) := eX9_copy_30.2.2.1
theorem dX9_copy_36 : decode cX9_copy 36 = .ok (.ireturn, 1) := eX9_copy_30.2.2.2.1
theorem dX9_copy_37 : decode cX9_copy 37 = .ok (.aload_n 0, 1) := eX9_copy_30.2.2.2.2.1
theorem dX9_copy_38 : decode cX9_copy 38 = .ok (.getfield 7, 3) := eX9_copy_30.2.2.2.2.2.1
theorem dX9_copy_41 : decode cX9_copy 41 = .ok (.iload_n 1, 1) := eX9_copy_30.2.2.2.2.2.2.1
theorem dX9_copy_42 : decode cX9_copy 42 = .ok (.iaload, 1) := eX9_copy_30.2.2.2.2.2.2.2
theorem eX9_copy_43 : (decode cX9_copy 43 = .ok (.aload_n 0, 1)) ∧ (decode cX9_copy 44 = .ok (.getfield 7, 3)) ∧ (decode cX9_copy 47 = .ok (.iload_n 3, 1)) ∧ (decode cX9_copy 48 = .ok (.iaload, 1)) ∧ (decode cX9_copy 49 = .ok (.if_icmp .eq 6, 3)) ∧ (decode cX9_copy 52 = .ok (.bipush (-14), 2)) ∧ (decode cX9_copy 54 = .ok (.ireturn, 1)) ∧ (decode cX9_copy 55 = .ok (.iload 5, 2)) := by decide +kernel
theorem dX9_copy_43 : decode cX9_copy 43 = .ok (.aload_n 0, 1) := eX9_copy_43.1
theorem dX9_copy_44 : decode cX9_copy 44 = .ok (.getfield 7, 3) := eX9_copy_43.2.1
theorem dX9_copy_47 : decode cX9_copy 47 = .ok (.iload_n 3, 1) := eX9_copy_43.2.2.1
theorem dX9_copy_48 : decode cX9_copy 48 = .ok (.iaload, 1) := eX9_copy_43.2.2.2.1
theorem dX9_copy_49 : decode cX9_copy 49 = .ok (.if_icmp .eq 6, 3) := eX9_copy_43.2.2.2.2.1
theorem dX9_copy_52 : decode cX9_copy 52 = .ok (.bipush (-14), 2) := eX9_copy_43.2.2.2.2.2.1
theorem dX9_copy_54 : decode cX9_copy 54 = .ok (.ireturn, 1) := eX9_copy_43.2.2.2.2.2.2.1
theorem dX9_copy_55 : decode cX9_copy 55 = .ok (.iload 5, 2) := eX9_copy_43.2.2.2.2.2.2.2
theorem eX9_copy_57 : (decode cX9_copy 57 = .ok (.ifCond .lt 39, 3)) ∧ (decode cX9_copy 60 = .ok (.iload_n 2, 1)) ∧ (decode cX9_copy 61 = .ok (.ifCond .lt 35, 3)) ∧ (decode cX9_copy 64 = .ok (.iload 4, 2)) ∧ (decode cX9_copy 66 = .ok (.ifCond .lt 30, 3)) ∧ (decode cX9_copy 69 = .ok (.iload 5, 2)) ∧ (decode cX9_copy 71 = .ok (.aload_n 0, 1)) ∧ (decode cX9_copy 72 = .ok (.getfield 13, 3)) := by decide +kernel
theorem dX9_copy_57 : decode cX9_copy 57 = .ok (.ifCond .lt 39, 3) := eX9_copy_57.1
theorem dX9_copy_60 : decode cX9_copy 60 = .ok (.iload_n 2, 1) := eX9_copy_57.2.1
theorem dX9_copy_61 : decode cX9_copy 61 = .ok (.ifCond .lt 35, 3) := eX9_copy_57.2.2.1
theorem dX9_copy_64 : decode cX9_copy 64 = .ok (.iload 4, 2) := eX9_copy_57.2.2.2.1
theorem dX9_copy_66 : decode cX9_copy 66 = .ok (.ifCond .lt 30, 3) := eX9_copy_57.2.2.2.2.1
theorem dX9_copy_69 : decode cX9_copy 69 = .ok (.iload 5, 2) := eX9_copy_57.2.2.2.2.2.1
theorem dX9_copy_71 : decode cX9_copy 71 = .ok (.aload_n 0, 1) := eX9_copy_57.2.2.2.2.2.2.1
theorem dX9_copy_72 : decode cX9_copy 72 = .ok (.getfield 13, 3) := eX9_copy_57.2.2.2.2.2.2.2
theorem eX9_copy_75 : (decode cX9_copy 75 = .ok (.iload_n 1, 1)) ∧ (decode cX9_copy 76 = .ok (.iaload, 1)) ∧ (decode cX9_copy 77 = .ok (.iload_n 2, 1)) ∧ (decode cX9_copy 78 = .ok (.isub, 1)) ∧ (decode cX9_copy 79 = .ok (.if_icmp .gt 17, 3)) ∧ (decode cX9_copy 82 = .ok (.iload 5, 2)) ∧ (decode cX9_copy 84 = .ok (.aload_n 0, 1)) ∧ (decode cX9_copy 85 = .ok (.getfield 13, 3)) := by decide +kernel
theorem dX9_copy_75 : decode cX9_copy 75 = .ok (.iload_n 1, 1) := eX9_copy_75.1
theorem dX9_copy_76 : decode cX9_copy 76 = .ok (.iaload, 1) := eX9_copy_75.2.1
theorem dX9_copy_77 : decode cX9_copy 77 = .ok (.iload_n 2, 1) := eX9_copy_75.2.2.1
theorem dX9_copy_78 : decode cX9_copy 78 = .ok (.isub, 1) := eX9_copy_75.2.2.2.1
theorem dX9_copy_79 : decode cX9_copy 79 = .ok (.if_icmp .gt 17, 3) := eX9_copy_75.2.2.2.2.1
theorem dX9_copy_82 : decode cX9_copy 82 = .ok (.iload 5, 2) := eX9_copy_75.2.2.2.2.2.1
theorem dX9_copy_84 : decode cX9_copy 84 = .ok (.aload_n 0, 1) := eX9_copy_75.2.2.2.2.2.2.1
theorem dX9_copy_85 : decode cX9_copy 85 = .ok (.getfield 13, 3) := eX9_copy_75.2.2.2.2.2.2.2
theorem eX9_copy_88 : (decode cX9_copy 88 = .ok (.iload_n 3, 1)) ∧ (decode cX9_copy 89 = .ok (.iaload, 1)) ∧ (decode cX9_copy 90 = .ok (.iload 4, 2)) ∧ (decode cX9_copy 92 = .ok (.isub, 1)) ∧ (decode cX9_copy 93 = .ok (.if_icmp .le 6, 3)) ∧ (decode cX9_copy 96 = .ok (.bipush (-12), 2)) ∧ (decode cX9_copy 98 = .ok (.ireturn, 1)) ∧ (decode cX9_copy 99 = .ok (.iconst 0, 1)) := by decide +kernel
theorem dX9_copy_88 : decode cX9_copy 88 = .ok (.iload_n 3, 1) := eX9_copy_88.1
theorem dX9_copy_89 : decode cX9_copy 89 = .ok (.iaload, 1) := eX9_copy_88.2.1
theorem dX9_copy_90 : decode cX9_copy 90 = .ok (.iload 4, 2) := eX9_copy_88.2.2.1
theorem dX9_copy_92 : decode cX9_copy 92 = .ok (.isub, 1) := eX9_copy_88.2.2.2.1
theorem dX9_copy_93 : decode cX9_copy 93 = .ok (.if_icmp .le 6, 3) := eX9_copy_88.2.2.2.2.1
theorem dX9_copy_96 : decode cX9_copy 96 = .ok (.bipush (-12), 2) := eX9_copy_88.2.2.2.2.2.1
theorem dX9_copy_98 : decode cX9_copy 98 = .ok (.ireturn, 1) := eX9_copy_88.2.2.2.2.2.2.1
theorem dX9_copy_99 : decode cX9_copy 99 = .ok (.iconst 0, 1) := eX9_copy_88.2.2.2.2.2.2.2
theorem eX9_copy_100 : (decode cX9_copy 100 = .ok (.istore 6, 2)) ∧ (decode cX9_copy 102 = .ok (.iload 6, 2)) ∧ (decode cX9_copy 104 = .ok (.iload 5, 2)) ∧ (decode cX9_copy 106 = .ok (.if_icmp .ge 30, 3)) ∧ (decode cX9_copy 109 = .ok (.aload_n 0, 1)) ∧ (decode cX9_copy 110 = .ok (.getfield 20, 3)) ∧ (decode cX9_copy 113 = .ok (.iload 6, 2)) ∧ (decode cX9_copy 115 = .ok (.aload_n 0, 1)) := by decide +kernel
theorem dX9_copy_100 : decode cX9_copy 100 = .ok (.istore 6, 2) := eX9_copy_100.1
theorem dX9_copy_102 : decode cX9_copy 102 = .ok (.iload 6, 2) := eX9_copy_100.2.1
theorem dX9_copy_104 : decode cX9_copy 104 = .ok (.iload 5, 2) := eX9_copy_100.2.2.1
theorem dX9_copy_106 : decode cX9_copy 106 = .ok (.if_icmp .ge 30, 3) := eX9_copy_100.2.2.2.1
theorem dX9_copy_109 : decode cX9_copy 109 = .ok (.aload_n 0, 1) := eX9_copy_100.2.2.2.2.1
theorem dX9_copy_110 : decode cX9_copy 110 = .ok (.getfield 20, 3) := eX9_copy_100.2.2.2.2.2.1
theorem dX9_copy_113 : decode cX9_copy 113 = .ok (.iload 6, 2) := eX9_copy_100.2.2.2.2.2.2.1
theorem dX9_copy_115 : decode cX9_copy 115 = .ok (.aload_n 0, 1) := eX9_copy_100.2.2.2.2.2.2.2
theorem eX9_copy_116 : (decode cX9_copy 116 = .ok (.getfield 16, 3)) ∧ (decode cX9_copy 119 = .ok (.bipush 16, 2)) ∧ (decode cX9_copy 121 = .ok (.iload_n 1, 1)) ∧ (decode cX9_copy 122 = .ok (.imul, 1)) ∧ (decode cX9_copy 123 = .ok (.iload_n 2, 1)) ∧ (decode cX9_copy 124 = .ok (.iadd, 1)) ∧ (decode cX9_copy 125 = .ok (.iload 6, 2)) ∧ (decode cX9_copy 127 = .ok (.iadd, 1)) := by decide +kernel
theorem dX9_copy_116 : decode cX9_copy 116 = .ok (.getfield 16, 3) := eX9_copy_116.1
theorem dX9_copy_119 : decode cX9_copy 119 = .ok (.bipush 16, 2) := eX9_copy_116.2.1
theorem dX9_copy_121 : decode cX9_copy 121 = .ok (.iload_n 1, 1) := eX9_copy_116.2.2.1
theorem dX9_copy_122 : decode cX9_copy 122 = .ok (.imul, 1) := eX9_copy_116.2.2.2.1
theorem dX9_copy_123 : decode cX9_copy 123 = .ok (.iload_n 2, 1) := eX9_copy_116.2.2.2.2.1
theorem dX9_copy_124 : decode cX9_copy 124 = .ok (.iadd, 1) := eX9_copy_116.2.2.2.2.2.1
theorem dX9_copy_125 : decode cX9_copy 125 = .ok (.iload 6, 2) := eX9_copy_116.2.2.2.2.2.2.1
theorem dX9_copy_127 : decode cX9_copy 127 = .ok (.iadd, 1) := eX9_copy_116.2.2.2.2.2.2.2
theorem eX9_copy_128 : (decode cX9_copy 128 = .ok (.laload, 1)) ∧ (decode cX9_copy 129 = .ok (.lastore, 1)) ∧ (decode cX9_copy 130 = .ok (.iinc 6 1, 3)) ∧ (decode cX9_copy 133 = .ok (.goto (-31), 3)) ∧ (decode cX9_copy 136 = .ok (.iconst 0, 1)) ∧ (decode cX9_copy 137 = .ok (.istore 6, 2)) ∧ (decode cX9_copy 139 = .ok (.iload 6, 2)) ∧ (decode cX9_copy 141 = .ok (.iload 5, 2)) := by decide +kernel
theorem dX9_copy_128 : decode cX9_copy 128 = .ok (.laload, 1) := eX9_copy_128.1
theorem dX9_copy_129 : decode cX9_copy 129 = .ok (.lastore, 1) := eX9_copy_128.2.1
theorem dX9_copy_130 : decode cX9_copy 130 = .ok (.iinc 6 1, 3) := eX9_copy_128.2.2.1
theorem dX9_copy_133 : decode cX9_copy 133 = .ok (.goto (-31), 3) := eX9_copy_128.2.2.2.1
theorem dX9_copy_136 : decode cX9_copy 136 = .ok (.iconst 0, 1) := eX9_copy_128.2.2.2.2.1
theorem dX9_copy_137 : decode cX9_copy 137 = .ok (.istore 6, 2) := eX9_copy_128.2.2.2.2.2.1
theorem dX9_copy_139 : decode cX9_copy 139 = .ok (.iload 6, 2) := eX9_copy_128.2.2.2.2.2.2.1
theorem dX9_copy_141 : decode cX9_copy 141 = .ok (.iload 5, 2) := eX9_copy_128.2.2.2.2.2.2.2
theorem eX9_copy_143 : (decode cX9_copy 143 = .ok (.if_icmp .ge 31, 3)) ∧ (decode cX9_copy 146 = .ok (.aload_n 0, 1)) ∧ (decode cX9_copy 147 = .ok (.getfield 16, 3)) ∧ (decode cX9_copy 150 = .ok (.bipush 16, 2)) ∧ (decode cX9_copy 152 = .ok (.iload_n 3, 1)) ∧ (decode cX9_copy 153 = .ok (.imul, 1)) ∧ (decode cX9_copy 154 = .ok (.iload 4, 2)) ∧ (decode cX9_copy 156 = .ok (.iadd, 1)) := by decide +kernel
theorem dX9_copy_143 : decode cX9_copy 143 = .ok (.if_icmp .ge 31, 3) := eX9_copy_143.1
theorem dX9_copy_146 : decode cX9_copy 146 = .ok (.aload_n 0, 1) := eX9_copy_143.2.1
theorem dX9_copy_147 : decode cX9_copy 147 = .ok (.getfield 16, 3) := eX9_copy_143.2.2.1
theorem dX9_copy_150 : decode cX9_copy 150 = .ok (.bipush 16, 2) := eX9_copy_143.2.2.2.1
theorem dX9_copy_152 : decode cX9_copy 152 = .ok (.iload_n 3, 1) := eX9_copy_143.2.2.2.2.1
theorem dX9_copy_153 : decode cX9_copy 153 = .ok (.imul, 1) := eX9_copy_143.2.2.2.2.2.1
theorem dX9_copy_154 : decode cX9_copy 154 = .ok (.iload 4, 2) := eX9_copy_143.2.2.2.2.2.2.1
theorem dX9_copy_156 : decode cX9_copy 156 = .ok (.iadd, 1) := eX9_copy_143.2.2.2.2.2.2.2
theorem eX9_copy_157 : (decode cX9_copy 157 = .ok (.iload 6, 2)) ∧ (decode cX9_copy 159 = .ok (.iadd, 1)) ∧ (decode cX9_copy 160 = .ok (.aload_n 0, 1)) ∧ (decode cX9_copy 161 = .ok (.getfield 20, 3)) ∧ (decode cX9_copy 164 = .ok (.iload 6, 2)) ∧ (decode cX9_copy 166 = .ok (.laload, 1)) ∧ (decode cX9_copy 167 = .ok (.lastore, 1)) ∧ (decode cX9_copy 168 = .ok (.iinc 6 1, 3)) := by decide +kernel
theorem dX9_copy_157 : decode cX9_copy 157 = .ok (.iload 6, 2) := eX9_copy_157.1
theorem dX9_copy_159 : decode cX9_copy 159 = .ok (.iadd, 1) := eX9_copy_157.2.1
theorem dX9_copy_160 : decode cX9_copy 160 = .ok (.aload_n 0, 1) := eX9_copy_157.2.2.1
theorem dX9_copy_161 : decode cX9_copy 161 = .ok (.getfield 20, 3) := eX9_copy_157.2.2.2.1
theorem dX9_copy_164 : decode cX9_copy 164 = .ok (.iload 6, 2) := eX9_copy_157.2.2.2.2.1
theorem dX9_copy_166 : decode cX9_copy 166 = .ok (.laload, 1) := eX9_copy_157.2.2.2.2.2.1
theorem dX9_copy_167 : decode cX9_copy 167 = .ok (.lastore, 1) := eX9_copy_157.2.2.2.2.2.2.1
theorem dX9_copy_168 : decode cX9_copy 168 = .ok (.iinc 6 1, 3) := eX9_copy_157.2.2.2.2.2.2.2
theorem eX9_copy_171 : (decode cX9_copy 171 = .ok (.goto (-32), 3)) ∧ (decode cX9_copy 174 = .ok (.iconst 0, 1)) ∧ (decode cX9_copy 175 = .ok (.ireturn, 1)) := by decide +kernel
theorem dX9_copy_171 : decode cX9_copy 171 = .ok (.goto (-32), 3) := eX9_copy_171.1
theorem dX9_copy_174 : decode cX9_copy 174 = .ok (.iconst 0, 1) := eX9_copy_171.2.1
theorem dX9_copy_175 : decode cX9_copy 175 = .ok (.ireturn, 1) := eX9_copy_171.2.2
theorem eX9_holds_0 : (decode cX9_holds 0 = .ok (.iload_n 1, 1)) ∧ (decode cX9_holds 1 = .ok (.invokestatic 66, 3)) ∧ (decode cX9_holds 4 = .ok (.ifCond .ne 5, 3)) ∧ (decode cX9_holds 7 = .ok (.iconst (-1), 1)) ∧ (decode cX9_holds 8 = .ok (.ireturn, 1)) ∧ (decode cX9_holds 9 = .ok (.aload_n 0, 1)) ∧ (decode cX9_holds 10 = .ok (.iload_n 1, 1)) ∧ (decode cX9_holds 11 = .ok (.iload_n 2, 1)) := by decide +kernel
theorem dX9_holds_0 : decode cX9_holds 0 = .ok (.iload_n 1, 1) := eX9_holds_0.1
theorem dX9_holds_1 : decode cX9_holds 1 = .ok (.invokestatic 66, 3) := eX9_holds_0.2.1
theorem dX9_holds_4 : decode cX9_holds 4 = .ok (.ifCond .ne 5, 3) := eX9_holds_0.2.2.1
theorem dX9_holds_7 : decode cX9_holds 7 = .ok (.iconst (-1), 1) := eX9_holds_0.2.2.2.1
theorem dX9_holds_8 : decode cX9_holds 8 = .ok (.ireturn, 1) := eX9_holds_0.2.2.2.2.1
theorem dX9_holds_9 : decode cX9_holds 9 = .ok (.aload_n 0, 1) := eX9_holds_0.2.2.2.2.2.1
theorem dX9_holds_10 : decode cX9_holds 10 = .ok (.iload_n 1, 1) := eX9_holds_0.2.2.2.2.2.2.1
theorem dX9_holds_11 : decode cX9_holds 11 = .ok (.iload_n 2, 1) := eX9_holds_0.2.2.2.2.2.2.2
theorem eX9_holds_12 : (decode cX9_holds 12 = .ok (.invokevirtual 74, 3)) ∧ (decode cX9_holds 15 = .ok (.istore 5, 2)) ∧ (decode cX9_holds 17 = .ok (.iload 5, 2)) ∧ (decode cX9_holds 19 = .ok (.ifCond .ge 8, 3)) ∧ (decode cX9_holds 22 = .ok (.iload 5, 2)) ∧ (decode cX9_holds 24 = .ok (.goto 24, 3)) ∧ (decode cX9_holds 27 = .ok (.aload_n 0, 1)) ∧ (decode cX9_holds 28 = .ok (.getfield 16, 3)) := by decide +kernel
theorem dX9_holds_12 : decode cX9_holds 12 = .ok (.invokevirtual 74, 3) := eX9_holds_12.1
theorem dX9_holds_15 : decode cX9_holds 15 = .ok (.istore 5, 2) := eX9_holds_12.2.1
theorem dX9_holds_17 : decode cX9_holds 17 = .ok (.iload 5, 2) := eX9_holds_12.2.2.1
theorem dX9_holds_19 : decode cX9_holds 19 = .ok (.ifCond .ge 8, 3) := eX9_holds_12.2.2.2.1
theorem dX9_holds_22 : decode cX9_holds 22 = .ok (.iload 5, 2) := eX9_holds_12.2.2.2.2.1
theorem dX9_holds_24 : decode cX9_holds 24 = .ok (.goto 24, 3) := eX9_holds_12.2.2.2.2.2.1
theorem dX9_holds_27 : decode cX9_holds 27 = .ok (.aload_n 0, 1) := eX9_holds_12.2.2.2.2.2.2.1
theorem dX9_holds_28 : decode cX9_holds 28 = .ok (.getfield 16, 3) := eX9_holds_12.2.2.2.2.2.2.2
theorem eX9_holds_31 : (decode cX9_holds 31 = .ok (.bipush 16, 2)) ∧ (decode cX9_holds 33 = .ok (.iload_n 1, 1)) ∧ (decode cX9_holds 34 = .ok (.imul, 1)) ∧ (decode cX9_holds 35 = .ok (.iload_n 2, 1)) ∧ (decode cX9_holds 36 = .ok (.iadd, 1)) ∧ (decode cX9_holds 37 = .ok (.laload, 1)) ∧ (decode cX9_holds 38 = .ok (.lload_n 3, 1)) ∧ (decode cX9_holds 39 = .ok (.lcmp, 1)) := by decide +kernel
theorem dX9_holds_31 : decode cX9_holds 31 = .ok (.bipush 16, 2) := eX9_holds_31.1
theorem dX9_holds_33 : decode cX9_holds 33 = .ok (.iload_n 1, 1) := eX9_holds_31.2.1
theorem dX9_holds_34 : decode cX9_holds 34 = .ok (.imul, 1) := eX9_holds_31.2.2.1
theorem dX9_holds_35 : decode cX9_holds 35 = .ok (.iload_n 2, 1) := eX9_holds_31.2.2.2.1
theorem dX9_holds_36 : decode cX9_holds 36 = .ok (.iadd, 1) := eX9_holds_31.2.2.2.2.1
theorem dX9_holds_37 : decode cX9_holds 37 = .ok (.laload, 1) := eX9_holds_31.2.2.2.2.2.1
theorem dX9_holds_38 : decode cX9_holds 38 = .ok (.lload_n 3, 1) := eX9_holds_31.2.2.2.2.2.2.1
theorem dX9_holds_39 : decode cX9_holds 39 = .ok (.lcmp, 1) := eX9_holds_31.2.2.2.2.2.2.2
theorem eX9_holds_40 : (decode cX9_holds 40 = .ok (.ifCond .ne 7, 3)) ∧ (decode cX9_holds 43 = .ok (.iconst 1, 1)) ∧ (decode cX9_holds 44 = .ok (.goto 4, 3)) ∧ (decode cX9_holds 47 = .ok (.iconst 0, 1)) ∧ (decode cX9_holds 48 = .ok (.ireturn, 1)) := by decide +kernel
theorem dX9_holds_40 : decode cX9_holds 40 = .ok (.ifCond .ne 7, 3) := eX9_holds_40.1
theorem dX9_holds_43 : decode cX9_holds 43 = .ok (.iconst 1, 1) := eX9_holds_40.2.1
theorem dX9_holds_44 : decode cX9_holds 44 = .ok (.goto 4, 3) := eX9_holds_40.2.2.1
theorem dX9_holds_47 : decode cX9_holds 47 = .ok (.iconst 0, 1) := eX9_holds_40.2.2.2.1
theorem dX9_holds_48 : decode cX9_holds 48 = .ok (.ireturn, 1) := eX9_holds_40.2.2.2.2
theorem eX9_isUrn_0 : (decode cX9_isUrn 0 = .ok (.iload_n 1, 1)) ∧ (decode cX9_isUrn 1 = .ok (.i2l, 1)) ∧ (decode cX9_isUrn 2 = .ok (.lconst 0, 1)) ∧ (decode cX9_isUrn 3 = .ok (.aload_n 0, 1)) ∧ (decode cX9_isUrn 4 = .ok (.getfield 82, 3)) ∧ (decode cX9_isUrn 7 = .ok (.iconst 1, 1)) ∧ (decode cX9_isUrn 8 = .ok (.isub, 1)) ∧ (decode cX9_isUrn 9 = .ok (.i2l, 1)) := by decide +kernel
theorem dX9_isUrn_0 : decode cX9_isUrn 0 = .ok (.iload_n 1, 1) := eX9_isUrn_0.1
theorem dX9_isUrn_1 : decode cX9_isUrn 1 = .ok (.i2l, 1) := eX9_isUrn_0.2.1
theorem dX9_isUrn_2 : decode cX9_isUrn 2 = .ok (.lconst 0, 1) := eX9_isUrn_0.2.2.1
theorem dX9_isUrn_3 : decode cX9_isUrn 3 = .ok (.aload_n 0, 1) := eX9_isUrn_0.2.2.2.1
theorem dX9_isUrn_4 : decode cX9_isUrn 4 = .ok (.getfield 82, 3) := eX9_isUrn_0.2.2.2.2.1
theorem dX9_isUrn_7 : decode cX9_isUrn 7 = .ok (.iconst 1, 1) := eX9_isUrn_0.2.2.2.2.2.1
theorem dX9_isUrn_8 : decode cX9_isUrn 8 = .ok (.isub, 1) := eX9_isUrn_0.2.2.2.2.2.2.1
theorem dX9_isUrn_9 : decode cX9_isUrn 9 = .ok (.i2l, 1) := eX9_isUrn_0.2.2.2.2.2.2.2
theorem eX9_isUrn_10 : (decode cX9_isUrn 10 = .ok (.invokestatic 62, 3)) ∧ (decode cX9_isUrn 13 = .ok (.ireturn, 1)) := by decide +kernel
theorem dX9_isUrn_10 : decode cX9_isUrn 10 = .ok (.invokestatic 62, 3) := eX9_isUrn_10.1
theorem dX9_isUrn_13 : decode cX9_isUrn 13 = .ok (.ireturn, 1) := eX9_isUrn_10.2
theorem eX9_isColour_0 : (decode cX9_isColour 0 = .ok (.iload_n 2, 1)) ∧ (decode cX9_isColour 1 = .ok (.i2l, 1)) ∧ (decode cX9_isColour 2 = .ok (.lconst 0, 1)) ∧ (decode cX9_isColour 3 = .ok (.aload_n 0, 1)) ∧ (decode cX9_isColour 4 = .ok (.getfield 23, 3)) ∧ (decode cX9_isColour 7 = .ok (.iload_n 1, 1)) ∧ (decode cX9_isColour 8 = .ok (.iaload, 1)) ∧ (decode cX9_isColour 9 = .ok (.iconst 1, 1)) := by decide +kernel
theorem dX9_isColour_0 : decode cX9_isColour 0 = .ok (.iload_n 2, 1) := eX9_isColour_0.1
theorem dX9_isColour_1 : decode cX9_isColour 1 = .ok (.i2l, 1) := eX9_isColour_0.2.1
theorem dX9_isColour_2 : decode cX9_isColour 2 = .ok (.lconst 0, 1) := eX9_isColour_0.2.2.1
theorem dX9_isColour_3 : decode cX9_isColour 3 = .ok (.aload_n 0, 1) := eX9_isColour_0.2.2.2.1
theorem dX9_isColour_4 : decode cX9_isColour 4 = .ok (.getfield 23, 3) := eX9_isColour_0.2.2.2.2.1
theorem dX9_isColour_7 : decode cX9_isColour 7 = .ok (.iload_n 1, 1) := eX9_isColour_0.2.2.2.2.2.1
theorem dX9_isColour_8 : decode cX9_isColour 8 = .ok (.iaload, 1) := eX9_isColour_0.2.2.2.2.2.2.1
theorem dX9_isColour_9 : decode cX9_isColour 9 = .ok (.iconst 1, 1) := eX9_isColour_0.2.2.2.2.2.2.2
theorem eX9_isColour_10 : (decode cX9_isColour 10 = .ok (.isub, 1)) ∧ (decode cX9_isColour 11 = .ok (.i2l, 1)) ∧ (decode cX9_isColour 12 = .ok (.invokestatic 62, 3)) ∧ (decode cX9_isColour 15 = .ok (.ireturn, 1)) := by decide +kernel
theorem dX9_isColour_10 : decode cX9_isColour 10 = .ok (.isub, 1) := eX9_isColour_10.1
theorem dX9_isColour_11 : decode cX9_isColour 11 = .ok (.i2l, 1) := eX9_isColour_10.2.1
theorem dX9_isColour_12 : decode cX9_isColour 12 = .ok (.invokestatic 62, 3) := eX9_isColour_10.2.2.1
theorem dX9_isColour_15 : decode cX9_isColour 15 = .ok (.ireturn, 1) := eX9_isColour_10.2.2.2
theorem eX9_keep_0 : (decode cX9_keep 0 = .ok (.aload_n 0, 1)) ∧ (decode cX9_keep 1 = .ok (.getfield 86, 3)) ∧ (decode cX9_keep 4 = .ok (.bipush 20, 2)) ∧ (decode cX9_keep 6 = .ok (.if_icmp .ne 40, 3)) ∧ (decode cX9_keep 9 = .ok (.iconst 0, 1)) ∧ (decode cX9_keep 10 = .ok (.istore_n 1, 1)) ∧ (decode cX9_keep 11 = .ok (.iload_n 1, 1)) ∧ (decode cX9_keep 12 = .ok (.sipush 3838, 3)) := by decide +kernel
theorem dX9_keep_0 : decode cX9_keep 0 = .ok (.aload_n 0, 1) := eX9_keep_0.1
theorem dX9_keep_1 : decode cX9_keep 1 = .ok (.getfield 86, 3) := eX9_keep_0.2.1
theorem dX9_keep_4 : decode cX9_keep 4 = .ok (.bipush 20, 2) := eX9_keep_0.2.2.1
theorem dX9_keep_6 : decode cX9_keep 6 = .ok (.if_icmp .ne 40, 3) := eX9_keep_0.2.2.2.1
theorem dX9_keep_9 : decode cX9_keep 9 = .ok (.iconst 0, 1) := eX9_keep_0.2.2.2.2.1
theorem dX9_keep_10 : decode cX9_keep 10 = .ok (.istore_n 1, 1) := eX9_keep_0.2.2.2.2.2.1
theorem dX9_keep_11 : decode cX9_keep 11 = .ok (.iload_n 1, 1) := eX9_keep_0.2.2.2.2.2.2.1
theorem dX9_keep_12 : decode cX9_keep 12 = .ok (.sipush 3838, 3) := eX9_keep_0.2.2.2.2.2.2.2
theorem eX9_keep_15 : (decode cX9_keep 15 = .ok (.if_icmp .ge 25, 3)) ∧ (decode cX9_keep 18 = .ok (.aload_n 0, 1)) ∧ (decode cX9_keep 19 = .ok (.getfield 29, 3)) ∧ (decode cX9_keep 22 = .ok (.iload_n 1, 1)) ∧ (decode cX9_keep 23 = .ok (.aload_n 0, 1)) ∧ (decode cX9_keep 24 = .ok (.getfield 29, 3)) ∧ (decode cX9_keep 27 = .ok (.iload_n 1, 1)) ∧ (decode cX9_keep 28 = .ok (.sipush 202, 3)) := by decide +kernel
theorem dX9_keep_15 : decode cX9_keep 15 = .ok (.if_icmp .ge 25, 3) := eX9_keep_15.1
theorem dX9_keep_18 : decode cX9_keep 18 = .ok (.aload_n 0, 1) := eX9_keep_15.2.1
theorem dX9_keep_19 : decode cX9_keep 19 = .ok (.getfield 29, 3) := eX9_keep_15.2.2.1
theorem dX9_keep_22 : decode cX9_keep 22 = .ok (.iload_n 1, 1) := eX9_keep_15.2.2.2.1
theorem dX9_keep_23 : decode cX9_keep 23 = .ok (.aload_n 0, 1) := eX9_keep_15.2.2.2.2.1
theorem dX9_keep_24 : decode cX9_keep 24 = .ok (.getfield 29, 3) := eX9_keep_15.2.2.2.2.2.1
theorem dX9_keep_27 : decode cX9_keep 27 = .ok (.iload_n 1, 1) := eX9_keep_15.2.2.2.2.2.2.1
theorem dX9_keep_28 : decode cX9_keep 28 = .ok (.sipush 202, 3) := eX9_keep_15.2.2.2.2.2.2.2
theorem eX9_keep_31 : (decode cX9_keep 31 = .ok (.iadd, 1)) ∧ (decode cX9_keep 32 = .ok (.iaload, 1)) ∧ (decode cX9_keep 33 = .ok (.iastore, 1)) ∧ (decode cX9_keep 34 = .ok (.iinc 1 1, 3)) ∧ (decode cX9_keep 37 = .ok (.goto (-26), 3)) ∧ (decode cX9_keep 40 = .ok (.aload_n 0, 1)) ∧ (decode cX9_keep 41 = .ok (.bipush 19, 2)) ∧ (decode cX9_keep 43 = .ok (.putfield 86, 3)) := by decide +kernel
theorem dX9_keep_31 : decode cX9_keep 31 = .ok (.iadd, 1) := eX9_keep_31.1
theorem dX9_keep_32 : decode cX9_keep 32 = .ok (.iaload, 1) := eX9_keep_31.2.1
theorem dX9_keep_33 : decode cX9_keep 33 = .ok (.iastore, 1) := eX9_keep_31.2.2.1
theorem dX9_keep_34 : decode cX9_keep 34 = .ok (.iinc 1 1, 3) := eX9_keep_31.2.2.2.1
theorem dX9_keep_37 : decode cX9_keep 37 = .ok (.goto (-26), 3) := eX9_keep_31.2.2.2.2.1
theorem dX9_keep_40 : decode cX9_keep 40 = .ok (.aload_n 0, 1) := eX9_keep_31.2.2.2.2.2.1
theorem dX9_keep_41 : decode cX9_keep 41 = .ok (.bipush 19, 2) := eX9_keep_31.2.2.2.2.2.2.1
theorem dX9_keep_43 : decode cX9_keep 43 = .ok (.putfield 86, 3) := eX9_keep_31.2.2.2.2.2.2.2
theorem eX9_keep_46 : (decode cX9_keep 46 = .ok (.iconst 0, 1)) ∧ (decode cX9_keep 47 = .ok (.istore_n 1, 1)) ∧ (decode cX9_keep 48 = .ok (.iload_n 1, 1)) ∧ (decode cX9_keep 49 = .ok (.sipush 202, 3)) ∧ (decode cX9_keep 52 = .ok (.if_icmp .ge 30, 3)) ∧ (decode cX9_keep 55 = .ok (.aload_n 0, 1)) ∧ (decode cX9_keep 56 = .ok (.getfield 29, 3)) ∧ (decode cX9_keep 59 = .ok (.sipush 202, 3)) := by decide +kernel
theorem dX9_keep_46 : decode cX9_keep 46 = .ok (.iconst 0, 1) := eX9_keep_46.1
theorem dX9_keep_47 : decode cX9_keep 47 = .ok (.istore_n 1, 1) := eX9_keep_46.2.1
theorem dX9_keep_48 : decode cX9_keep 48 = .ok (.iload_n 1, 1) := eX9_keep_46.2.2.1
theorem dX9_keep_49 : decode cX9_keep 49 = .ok (.sipush 202, 3) := eX9_keep_46.2.2.2.1
theorem dX9_keep_52 : decode cX9_keep 52 = .ok (.if_icmp .ge 30, 3) := eX9_keep_46.2.2.2.2.1
theorem dX9_keep_55 : decode cX9_keep 55 = .ok (.aload_n 0, 1) := eX9_keep_46.2.2.2.2.2.1
theorem dX9_keep_56 : decode cX9_keep 56 = .ok (.getfield 29, 3) := eX9_keep_46.2.2.2.2.2.2.1
theorem dX9_keep_59 : decode cX9_keep 59 = .ok (.sipush 202, 3) := eX9_keep_46.2.2.2.2.2.2.2
theorem eX9_keep_62 : (decode cX9_keep 62 = .ok (.aload_n 0, 1)) ∧ (decode cX9_keep 63 = .ok (.getfield 86, 3)) ∧ (decode cX9_keep 66 = .ok (.imul, 1)) ∧ (decode cX9_keep 67 = .ok (.iload_n 1, 1)) ∧ (decode cX9_keep 68 = .ok (.iadd, 1)) ∧ (decode cX9_keep 69 = .ok (.aload_n 0, 1)) ∧ (decode cX9_keep 70 = .ok (.getfield 26, 3)) ∧ (decode cX9_keep 73 = .ok (.iload_n 1, 1)) := by decide +kernel
theorem dX9_keep_62 : decode cX9_keep 62 = .ok (.aload_n 0, 1) := eX9_keep_62.1
theorem dX9_keep_63 : decode cX9_keep 63 = .ok (.getfield 86, 3) := eX9_keep_62.2.1
theorem dX9_keep_66 : decode cX9_keep 66 = .ok (.imul, 1) := eX9_keep_62.2.2.1
theorem dX9_keep_67 : decode cX9_keep 67 = .ok (.iload_n 1, 1) := eX9_keep_62.2.2.2.1
theorem dX9_keep_68 : decode cX9_keep 68 = .ok (.iadd, 1) := eX9_keep_62.2.2.2.2.1
theorem dX9_keep_69 : decode cX9_keep 69 = .ok (.aload_n 0, 1) := eX9_keep_62.2.2.2.2.2.1
theorem dX9_keep_70 : decode cX9_keep 70 = .ok (.getfield 26, 3) := eX9_keep_62.2.2.2.2.2.2.1
theorem dX9_keep_73 : decode cX9_keep 73 = .ok (.iload_n 1, 1) := eX9_keep_62.2.2.2.2.2.2.2
theorem eX9_keep_74 : (decode cX9_keep 74 = .ok (.iaload, 1)) ∧ (decode cX9_keep 75 = .ok (.iastore, 1)) ∧ (decode cX9_keep 76 = .ok (.iinc 1 1, 3)) ∧ (decode cX9_keep 79 = .ok (.goto (-31), 3)) ∧ (decode cX9_keep 82 = .ok (.aload_n 0, 1)) ∧ (decode cX9_keep 83 = .ok (.dup, 1)) ∧ (decode cX9_keep 84 = .ok (.getfield 86, 3)) ∧ (decode cX9_keep 87 = .ok (.iconst 1, 1)) := by decide +kernel
theorem dX9_keep_74 : decode cX9_keep 74 = .ok (.iaload, 1) := eX9_keep_74.1
theorem dX9_keep_75 : decode cX9_keep 75 = .ok (.iastore, 1) := eX9_keep_74.2.1
theorem dX9_keep_76 : decode cX9_keep 76 = .ok (.iinc 1 1, 3) := eX9_keep_74.2.2.1
theorem dX9_keep_79 : decode cX9_keep 79 = .ok (.goto (-31), 3) := eX9_keep_74.2.2.2.1
theorem dX9_keep_82 : decode cX9_keep 82 = .ok (.aload_n 0, 1) := eX9_keep_74.2.2.2.2.1
theorem dX9_keep_83 : decode cX9_keep 83 = .ok (.dup, 1) := eX9_keep_74.2.2.2.2.2.1
theorem dX9_keep_84 : decode cX9_keep 84 = .ok (.getfield 86, 3) := eX9_keep_74.2.2.2.2.2.2.1
theorem dX9_keep_87 : decode cX9_keep 87 = .ok (.iconst 1, 1) := eX9_keep_74.2.2.2.2.2.2.2
theorem eX9_keep_88 : (decode cX9_keep 88 = .ok (.iadd, 1)) ∧ (decode cX9_keep 89 = .ok (.putfield 86, 3)) ∧ (decode cX9_keep 92 = .ok (.return_, 1)) := by decide +kernel
theorem dX9_keep_88 : decode cX9_keep 88 = .ok (.iadd, 1) := eX9_keep_88.1
theorem dX9_keep_89 : decode cX9_keep 89 = .ok (.putfield 86, 3) := eX9_keep_88.2.1
theorem dX9_keep_92 : decode cX9_keep 92 = .ok (.return_, 1) := eX9_keep_88.2.2
theorem eX9_read_0 : (decode cX9_read 0 = .ok (.aload_n 0, 1)) ∧ (decode cX9_read 1 = .ok (.iload_n 1, 1)) ∧ (decode cX9_read 2 = .ok (.invokevirtual 89, 3)) ∧ (decode cX9_read 5 = .ok (.ifCond .eq 35, 3)) ∧ (decode cX9_read 8 = .ok (.iload_n 2, 1)) ∧ (decode cX9_read 9 = .ok (.i2l, 1)) ∧ (decode cX9_read 10 = .ok (.lconst 0, 1)) ∧ (decode cX9_read 11 = .ok (.lconst 1, 1)) := by decide +kernel
theorem dX9_read_0 : decode cX9_read 0 = .ok (.aload_n 0, 1) := eX9_read_0.1
theorem dX9_read_1 : decode cX9_read 1 = .ok (.iload_n 1, 1) := eX9_read_0.2.1
theorem dX9_read_2 : decode cX9_read 2 = .ok (.invokevirtual 89, 3) := eX9_read_0.2.2.1
theorem dX9_read_5 : decode cX9_read 5 = .ok (.ifCond .eq 35, 3) := eX9_read_0.2.2.2.1
theorem dX9_read_8 : decode cX9_read 8 = .ok (.iload_n 2, 1) := eX9_read_0.2.2.2.2.1
theorem dX9_read_9 : decode cX9_read 9 = .ok (.i2l, 1) := eX9_read_0.2.2.2.2.2.1
theorem dX9_read_10 : decode cX9_read 10 = .ok (.lconst 0, 1) := eX9_read_0.2.2.2.2.2.2.1
theorem dX9_read_11 : decode cX9_read 11 = .ok (.lconst 1, 1) := eX9_read_0.2.2.2.2.2.2.2
theorem eX9_read_12 : (decode cX9_read 12 = .ok (.invokestatic 62, 3)) ∧ (decode cX9_read 15 = .ok (.ifCond .eq 25, 3)) ∧ (decode cX9_read 18 = .ok (.iload_n 2, 1)) ∧ (decode cX9_read 19 = .ok (.iconst 1, 1)) ∧ (decode cX9_read 20 = .ok (.if_icmp .ne 12, 3)) ∧ (decode cX9_read 23 = .ok (.aload_n 0, 1)) ∧ (decode cX9_read 24 = .ok (.iload_n 1, 1)) ∧ (decode cX9_read 25 = .ok (.iload_n 3, 1)) := by decide +kernel
theorem dX9_read_12 : decode cX9_read 12 = .ok (.invokestatic 62, 3) := eX9_read_12.1
theorem dX9_read_15 : decode cX9_read 15 = .ok (.ifCond .eq 25, 3) := eX9_read_12.2.1
theorem dX9_read_18 : decode cX9_read 18 = .ok (.iload_n 2, 1) := eX9_read_12.2.2.1
theorem dX9_read_19 : decode cX9_read 19 = .ok (.iconst 1, 1) := eX9_read_12.2.2.2.1
theorem dX9_read_20 : decode cX9_read 20 = .ok (.if_icmp .ne 12, 3) := eX9_read_12.2.2.2.2.1
theorem dX9_read_23 : decode cX9_read 23 = .ok (.aload_n 0, 1) := eX9_read_12.2.2.2.2.2.1
theorem dX9_read_24 : decode cX9_read 24 = .ok (.iload_n 1, 1) := eX9_read_12.2.2.2.2.2.2.1
theorem dX9_read_25 : decode cX9_read 25 = .ok (.iload_n 3, 1) := eX9_read_12.2.2.2.2.2.2.2
theorem eX9_read_26 : (decode cX9_read 26 = .ok (.invokevirtual 92, 3)) ∧ (decode cX9_read 29 = .ok (.ifCond .eq 11, 3)) ∧ (decode cX9_read 32 = .ok (.iload 4, 2)) ∧ (decode cX9_read 34 = .ok (.invokestatic 66, 3)) ∧ (decode cX9_read 37 = .ok (.ifCond .ne 5, 3)) ∧ (decode cX9_read 40 = .ok (.iconst (-1), 1)) ∧ (decode cX9_read 41 = .ok (.ireturn, 1)) ∧ (decode cX9_read 42 = .ok (.aload_n 0, 1)) := by decide +kernel
theorem dX9_read_26 : decode cX9_read 26 = .ok (.invokevirtual 92, 3) := eX9_read_26.1
theorem dX9_read_29 : decode cX9_read 29 = .ok (.ifCond .eq 11, 3) := eX9_read_26.2.1
theorem dX9_read_32 : decode cX9_read 32 = .ok (.iload 4, 2) := eX9_read_26.2.2.1
theorem dX9_read_34 : decode cX9_read 34 = .ok (.invokestatic 66, 3) := eX9_read_26.2.2.2.1
theorem dX9_read_37 : decode cX9_read 37 = .ok (.ifCond .ne 5, 3) := eX9_read_26.2.2.2.2.1
theorem dX9_read_40 : decode cX9_read 40 = .ok (.iconst (-1), 1) := eX9_read_26.2.2.2.2.2.1
theorem dX9_read_41 : decode cX9_read 41 = .ok (.ireturn, 1) := eX9_read_26.2.2.2.2.2.2.1
theorem dX9_read_42 : decode cX9_read 42 = .ok (.aload_n 0, 1) := eX9_read_26.2.2.2.2.2.2.2
theorem eX9_read_43 : (decode cX9_read 43 = .ok (.getfield 7, 3)) ∧ (decode cX9_read 46 = .ok (.iload 4, 2)) ∧ (decode cX9_read 48 = .ok (.iaload, 1)) ∧ (decode cX9_read 49 = .ok (.ifCond .ge 6, 3)) ∧ (decode cX9_read 52 = .ok (.bipush (-11), 2)) ∧ (decode cX9_read 54 = .ok (.ireturn, 1)) ∧ (decode cX9_read 55 = .ok (.iload 5, 2)) ∧ (decode cX9_read 57 = .ok (.ifCond .lt 22, 3)) := by decide +kernel
theorem dX9_read_43 : decode cX9_read 43 = .ok (.getfield 7, 3) := eX9_read_43.1
theorem dX9_read_46 : decode cX9_read 46 = .ok (.iload 4, 2) := eX9_read_43.2.1
theorem dX9_read_48 : decode cX9_read 48 = .ok (.iaload, 1) := eX9_read_43.2.2.1
theorem dX9_read_49 : decode cX9_read 49 = .ok (.ifCond .ge 6, 3) := eX9_read_43.2.2.2.1
theorem dX9_read_52 : decode cX9_read 52 = .ok (.bipush (-11), 2) := eX9_read_43.2.2.2.2.1
theorem dX9_read_54 : decode cX9_read 54 = .ok (.ireturn, 1) := eX9_read_43.2.2.2.2.2.1
theorem dX9_read_55 : decode cX9_read 55 = .ok (.iload 5, 2) := eX9_read_43.2.2.2.2.2.2.1
theorem dX9_read_57 : decode cX9_read 57 = .ok (.ifCond .lt 22, 3) := eX9_read_43.2.2.2.2.2.2.2
theorem eX9_read_60 : (decode cX9_read 60 = .ok (.iload 5, 2)) ∧ (decode cX9_read 62 = .ok (.aload_n 0, 1)) ∧ (decode cX9_read 63 = .ok (.getfield 13, 3)) ∧ (decode cX9_read 66 = .ok (.iload 4, 2)) ∧ (decode cX9_read 68 = .ok (.iaload, 1)) ∧ (decode cX9_read 69 = .ok (.aload_n 0, 1)) ∧ (decode cX9_read 70 = .ok (.getfield 23, 3)) ∧ (decode cX9_read 73 = .ok (.iload_n 1, 1)) := by decide +kernel
theorem dX9_read_60 : decode cX9_read 60 = .ok (.iload 5, 2) := eX9_read_60.1
theorem dX9_read_62 : decode cX9_read 62 = .ok (.aload_n 0, 1) := eX9_read_60.2.1
theorem dX9_read_63 : decode cX9_read 63 = .ok (.getfield 13, 3) := eX9_read_60.2.2.1
theorem dX9_read_66 : decode cX9_read 66 = .ok (.iload 4, 2) := eX9_read_60.2.2.2.1
theorem dX9_read_68 : decode cX9_read 68 = .ok (.iaload, 1) := eX9_read_60.2.2.2.2.1
theorem dX9_read_69 : decode cX9_read 69 = .ok (.aload_n 0, 1) := eX9_read_60.2.2.2.2.2.1
theorem dX9_read_70 : decode cX9_read 70 = .ok (.getfield 23, 3) := eX9_read_60.2.2.2.2.2.2.1
theorem dX9_read_73 : decode cX9_read 73 = .ok (.iload_n 1, 1) := eX9_read_60.2.2.2.2.2.2.2
theorem eX9_read_74 : (decode cX9_read 74 = .ok (.iaload, 1)) ∧ (decode cX9_read 75 = .ok (.isub, 1)) ∧ (decode cX9_read 76 = .ok (.if_icmp .le 6, 3)) ∧ (decode cX9_read 79 = .ok (.bipush (-12), 2)) ∧ (decode cX9_read 81 = .ok (.ireturn, 1)) ∧ (decode cX9_read 82 = .ok (.iconst 0, 1)) ∧ (decode cX9_read 83 = .ok (.istore 6, 2)) ∧ (decode cX9_read 85 = .ok (.iload 6, 2)) := by decide +kernel
theorem dX9_read_74 : decode cX9_read 74 = .ok (.iaload, 1) := eX9_read_74.1
theorem dX9_read_75 : decode cX9_read 75 = .ok (.isub, 1) := eX9_read_74.2.1
theorem dX9_read_76 : decode cX9_read 76 = .ok (.if_icmp .le 6, 3) := eX9_read_74.2.2.1
theorem dX9_read_79 : decode cX9_read 79 = .ok (.bipush (-12), 2) := eX9_read_74.2.2.2.1
theorem dX9_read_81 : decode cX9_read 81 = .ok (.ireturn, 1) := eX9_read_74.2.2.2.2.1
theorem dX9_read_82 : decode cX9_read 82 = .ok (.iconst 0, 1) := eX9_read_74.2.2.2.2.2.1
theorem dX9_read_83 : decode cX9_read 83 = .ok (.istore 6, 2) := eX9_read_74.2.2.2.2.2.2.1
theorem dX9_read_85 : decode cX9_read 85 = .ok (.iload 6, 2) := eX9_read_74.2.2.2.2.2.2.2
theorem eX9_read_87 : (decode cX9_read 87 = .ok (.aload_n 0, 1)) ∧ (decode cX9_read 88 = .ok (.getfield 23, 3)) ∧ (decode cX9_read 91 = .ok (.iload_n 1, 1)) ∧ (decode cX9_read 92 = .ok (.iaload, 1)) ∧ (decode cX9_read 93 = .ok (.if_icmp .ge 58, 3)) ∧ (decode cX9_read 96 = .ok (.aload_n 0, 1)) ∧ (decode cX9_read 97 = .ok (.getfield 16, 3)) ∧ (decode cX9_read 100 = .ok (.bipush 16, 2)) := by decide +kernel
theorem dX9_read_87 : decode cX9_read 87 = .ok (.aload_n 0, 1) := eX9_read_87.1
theorem dX9_read_88 : decode cX9_read 88 = .ok (.getfield 23, 3) := eX9_read_87.2.1
theorem dX9_read_91 : decode cX9_read 91 = .ok (.iload_n 1, 1) := eX9_read_87.2.2.1
theorem dX9_read_92 : decode cX9_read 92 = .ok (.iaload, 1) := eX9_read_87.2.2.2.1
theorem dX9_read_93 : decode cX9_read 93 = .ok (.if_icmp .ge 58, 3) := eX9_read_87.2.2.2.2.1
theorem dX9_read_96 : decode cX9_read 96 = .ok (.aload_n 0, 1) := eX9_read_87.2.2.2.2.2.1
theorem dX9_read_97 : decode cX9_read 97 = .ok (.getfield 16, 3) := eX9_read_87.2.2.2.2.2.2.1
theorem dX9_read_100 : decode cX9_read 100 = .ok (.bipush 16, 2) := eX9_read_87.2.2.2.2.2.2.2
theorem eX9_read_102 : (decode cX9_read 102 = .ok (.iload 4, 2)) ∧ (decode cX9_read 104 = .ok (.imul, 1)) ∧ (decode cX9_read 105 = .ok (.iload 5, 2)) ∧ (decode cX9_read 107 = .ok (.iadd, 1)) ∧ (decode cX9_read 108 = .ok (.iload 6, 2)) ∧ (decode cX9_read 110 = .ok (.iadd, 1)) ∧ (decode cX9_read 111 = .ok (.laload, 1)) ∧ (decode cX9_read 112 = .ok (.iload_n 2, 1)) := by decide +kernel
theorem dX9_read_102 : decode cX9_read 102 = .ok (.iload 4, 2) := eX9_read_102.1
theorem dX9_read_104 : decode cX9_read 104 = .ok (.imul, 1) := eX9_read_102.2.1
theorem dX9_read_105 : decode cX9_read 105 = .ok (.iload 5, 2) := eX9_read_102.2.2.1
theorem dX9_read_107 : decode cX9_read 107 = .ok (.iadd, 1) := eX9_read_102.2.2.2.1
theorem dX9_read_108 : decode cX9_read 108 = .ok (.iload 6, 2) := eX9_read_102.2.2.2.2.1
theorem dX9_read_110 : decode cX9_read 110 = .ok (.iadd, 1) := eX9_read_102.2.2.2.2.2.1
theorem dX9_read_111 : decode cX9_read 111 = .ok (.laload, 1) := eX9_read_102.2.2.2.2.2.2.1
theorem dX9_read_112 : decode cX9_read 112 = .ok (.iload_n 2, 1) := eX9_read_102.2.2.2.2.2.2.2
theorem eX9_read_113 : (decode cX9_read 113 = .ok (.ifCond .ne 7, 3)) ∧ (decode cX9_read 116 = .ok (.lconst 0, 1)) ∧ (decode cX9_read 117 = .ok (.goto 6, 3)) ∧ (decode cX9_read 120 = .ok (.ldc2_w 96, 3)) ∧ (decode cX9_read 123 = .ok (.iload_n 2, 1)) ∧ (decode cX9_read 124 = .ok (.ifCond .ne 9, 3)) ∧ (decode cX9_read 127 = .ok (.ldc2_w 98, 3)) ∧ (decode cX9_read 130 = .ok (.goto 6, 3)) := by decide +kernel
theorem dX9_read_113 : decode cX9_read 113 = .ok (.ifCond .ne 7, 3) := eX9_read_113.1
theorem dX9_read_116 : decode cX9_read 116 = .ok (.lconst 0, 1) := eX9_read_113.2.1
theorem dX9_read_117 : decode cX9_read 117 = .ok (.goto 6, 3) := eX9_read_113.2.2.1
theorem dX9_read_120 : decode cX9_read 120 = .ok (.ldc2_w 96, 3) := eX9_read_113.2.2.2.1
theorem dX9_read_123 : decode cX9_read 123 = .ok (.iload_n 2, 1) := eX9_read_113.2.2.2.2.1
theorem dX9_read_124 : decode cX9_read 124 = .ok (.ifCond .ne 9, 3) := eX9_read_113.2.2.2.2.2.1
theorem dX9_read_127 : decode cX9_read 127 = .ok (.ldc2_w 98, 3) := eX9_read_113.2.2.2.2.2.2.1
theorem dX9_read_130 : decode cX9_read 130 = .ok (.goto 6, 3) := eX9_read_113.2.2.2.2.2.2.2
theorem eX9_read_133 : (decode cX9_read 133 = .ok (.ldc2_w 100, 3)) ∧ (decode cX9_read 136 = .ok (.invokestatic 62, 3)) ∧ (decode cX9_read 139 = .ok (.ifCond .ne 6, 3)) ∧ (decode cX9_read 142 = .ok (.bipush (-15), 2)) ∧ (decode cX9_read 144 = .ok (.ireturn, 1)) ∧ (decode cX9_read 145 = .ok (.iinc 6 1, 3)) ∧ (decode cX9_read 148 = .ok (.goto (-63), 3)) ∧ (decode cX9_read 151 = .ok (.aload_n 0, 1)) := by decide +kernel
theorem dX9_read_133 : decode cX9_read 133 = .ok (.ldc2_w 100, 3) := eX9_read_133.1
theorem dX9_read_136 : decode cX9_read 136 = .ok (.invokestatic 62, 3) := eX9_read_133.2.1
theorem dX9_read_139 : decode cX9_read 139 = .ok (.ifCond .ne 6, 3) := eX9_read_133.2.2.1
theorem dX9_read_142 : decode cX9_read 142 = .ok (.bipush (-15), 2) := eX9_read_133.2.2.2.1
theorem dX9_read_144 : decode cX9_read 144 = .ok (.ireturn, 1) := eX9_read_133.2.2.2.2.1
theorem dX9_read_145 : decode cX9_read 145 = .ok (.iinc 6 1, 3) := eX9_read_133.2.2.2.2.2.1
theorem dX9_read_148 : decode cX9_read 148 = .ok (.goto (-63), 3) := eX9_read_133.2.2.2.2.2.2.1
theorem dX9_read_151 : decode cX9_read 151 = .ok (.aload_n 0, 1) := eX9_read_133.2.2.2.2.2.2.2
theorem eX9_read_152 : (decode cX9_read 152 = .ok (.invokevirtual 102, 3)) ∧ (decode cX9_read 155 = .ok (.iconst 0, 1)) ∧ (decode cX9_read 156 = .ok (.istore 6, 2)) ∧ (decode cX9_read 158 = .ok (.iload 6, 2)) ∧ (decode cX9_read 160 = .ok (.aload_n 0, 1)) ∧ (decode cX9_read 161 = .ok (.getfield 23, 3)) ∧ (decode cX9_read 164 = .ok (.iload_n 1, 1)) ∧ (decode cX9_read 165 = .ok (.iaload, 1)) := by decide +kernel
theorem dX9_read_152 : decode cX9_read 152 = .ok (.invokevirtual 102, 3) := eX9_read_152.1
theorem dX9_read_155 : decode cX9_read 155 = .ok (.iconst 0, 1) := eX9_read_152.2.1
theorem dX9_read_156 : decode cX9_read 156 = .ok (.istore 6, 2) := eX9_read_152.2.2.1
theorem dX9_read_158 : decode cX9_read 158 = .ok (.iload 6, 2) := eX9_read_152.2.2.2.1
theorem dX9_read_160 : decode cX9_read 160 = .ok (.aload_n 0, 1) := eX9_read_152.2.2.2.2.1
theorem dX9_read_161 : decode cX9_read 161 = .ok (.getfield 23, 3) := eX9_read_152.2.2.2.2.2.1
theorem dX9_read_164 : decode cX9_read 164 = .ok (.iload_n 1, 1) := eX9_read_152.2.2.2.2.2.2.1
theorem dX9_read_165 : decode cX9_read 165 = .ok (.iaload, 1) := eX9_read_152.2.2.2.2.2.2.2
theorem eX9_read_166 : (decode cX9_read 166 = .ok (.if_icmp .ge 53, 3)) ∧ (decode cX9_read 169 = .ok (.aload_n 0, 1)) ∧ (decode cX9_read 170 = .ok (.getfield 26, 3)) ∧ (decode cX9_read 173 = .ok (.bipush 25, 2)) ∧ (decode cX9_read 175 = .ok (.iload_n 1, 1)) ∧ (decode cX9_read 176 = .ok (.imul, 1)) ∧ (decode cX9_read 177 = .ok (.iload_n 2, 1)) ∧ (decode cX9_read 178 = .ok (.ifCond .ne 8, 3)) := by decide +kernel
theorem dX9_read_166 : decode cX9_read 166 = .ok (.if_icmp .ge 53, 3) := eX9_read_166.1
theorem dX9_read_169 : decode cX9_read 169 = .ok (.aload_n 0, 1) := eX9_read_166.2.1
theorem dX9_read_170 : decode cX9_read 170 = .ok (.getfield 26, 3) := eX9_read_166.2.2.1
theorem dX9_read_173 : decode cX9_read 173 = .ok (.bipush 25, 2) := eX9_read_166.2.2.2.1
theorem dX9_read_175 : decode cX9_read 175 = .ok (.iload_n 1, 1) := eX9_read_166.2.2.2.2.1
theorem dX9_read_176 : decode cX9_read 176 = .ok (.imul, 1) := eX9_read_166.2.2.2.2.2.1
theorem dX9_read_177 : decode cX9_read 177 = .ok (.iload_n 2, 1) := eX9_read_166.2.2.2.2.2.2.1
theorem dX9_read_178 : decode cX9_read 178 = .ok (.ifCond .ne 8, 3) := eX9_read_166.2.2.2.2.2.2.2
theorem eX9_read_181 : (decode cX9_read 181 = .ok (.iload 6, 2)) ∧ (decode cX9_read 183 = .ok (.goto 11, 3)) ∧ (decode cX9_read 186 = .ok (.iconst 4, 1)) ∧ (decode cX9_read 187 = .ok (.iconst 4, 1)) ∧ (decode cX9_read 188 = .ok (.iload_n 3, 1)) ∧ (decode cX9_read 189 = .ok (.imul, 1)) ∧ (decode cX9_read 190 = .ok (.iadd, 1)) ∧ (decode cX9_read 191 = .ok (.iload 6, 2)) := by decide +kernel
theorem dX9_read_181 : decode cX9_read 181 = .ok (.iload 6, 2) := eX9_read_181.1
theorem dX9_read_183 : decode cX9_read 183 = .ok (.goto 11, 3) := eX9_read_181.2.1
theorem dX9_read_186 : decode cX9_read 186 = .ok (.iconst 4, 1) := eX9_read_181.2.2.1
theorem dX9_read_187 : decode cX9_read 187 = .ok (.iconst 4, 1) := eX9_read_181.2.2.2.1
theorem dX9_read_188 : decode cX9_read 188 = .ok (.iload_n 3, 1) := eX9_read_181.2.2.2.2.1
theorem dX9_read_189 : decode cX9_read 189 = .ok (.imul, 1) := eX9_read_181.2.2.2.2.2.1
theorem dX9_read_190 : decode cX9_read 190 = .ok (.iadd, 1) := eX9_read_181.2.2.2.2.2.2.1
theorem dX9_read_191 : decode cX9_read 191 = .ok (.iload 6, 2) := eX9_read_181.2.2.2.2.2.2.2
theorem eX9_read_193 : (decode cX9_read 193 = .ok (.iadd, 1)) ∧ (decode cX9_read 194 = .ok (.iadd, 1)) ∧ (decode cX9_read 195 = .ok (.aload_n 0, 1)) ∧ (decode cX9_read 196 = .ok (.getfield 16, 3)) ∧ (decode cX9_read 199 = .ok (.bipush 16, 2)) ∧ (decode cX9_read 201 = .ok (.iload 4, 2)) ∧ (decode cX9_read 203 = .ok (.imul, 1)) ∧ (decode cX9_read 204 = .ok (.iload 5, 2)) := by decide +kernel
theorem dX9_read_193 : decode cX9_read 193 = .ok (.iadd, 1) := eX9_read_193.1
theorem dX9_read_194 : decode cX9_read 194 = .ok (.iadd, 1) := eX9_read_193.2.1
theorem dX9_read_195 : decode cX9_read 195 = .ok (.aload_n 0, 1) := eX9_read_193.2.2.1
theorem dX9_read_196 : decode cX9_read 196 = .ok (.getfield 16, 3) := eX9_read_193.2.2.2.1
theorem dX9_read_199 : decode cX9_read 199 = .ok (.bipush 16, 2) := eX9_read_193.2.2.2.2.1
theorem dX9_read_201 : decode cX9_read 201 = .ok (.iload 4, 2) := eX9_read_193.2.2.2.2.2.1
theorem dX9_read_203 : decode cX9_read 203 = .ok (.imul, 1) := eX9_read_193.2.2.2.2.2.2.1
theorem dX9_read_204 : decode cX9_read 204 = .ok (.iload 5, 2) := eX9_read_193.2.2.2.2.2.2.2
theorem eX9_read_206 : (decode cX9_read 206 = .ok (.iadd, 1)) ∧ (decode cX9_read 207 = .ok (.iload 6, 2)) ∧ (decode cX9_read 209 = .ok (.iadd, 1)) ∧ (decode cX9_read 210 = .ok (.laload, 1)) ∧ (decode cX9_read 211 = .ok (.l2i, 1)) ∧ (decode cX9_read 212 = .ok (.iastore, 1)) ∧ (decode cX9_read 213 = .ok (.iinc 6 1, 3)) ∧ (decode cX9_read 216 = .ok (.goto (-58), 3)) := by decide +kernel
theorem dX9_read_206 : decode cX9_read 206 = .ok (.iadd, 1) := eX9_read_206.1
theorem dX9_read_207 : decode cX9_read 207 = .ok (.iload 6, 2) := eX9_read_206.2.1
theorem dX9_read_209 : decode cX9_read 209 = .ok (.iadd, 1) := eX9_read_206.2.2.1
theorem dX9_read_210 : decode cX9_read 210 = .ok (.laload, 1) := eX9_read_206.2.2.2.1
theorem dX9_read_211 : decode cX9_read 211 = .ok (.l2i, 1) := eX9_read_206.2.2.2.2.1
theorem dX9_read_212 : decode cX9_read 212 = .ok (.iastore, 1) := eX9_read_206.2.2.2.2.2.1
theorem dX9_read_213 : decode cX9_read 213 = .ok (.iinc 6 1, 3) := eX9_read_206.2.2.2.2.2.2.1
theorem dX9_read_216 : decode cX9_read 216 = .ok (.goto (-58), 3) := eX9_read_206.2.2.2.2.2.2.2
theorem eX9_read_219 : (decode cX9_read 219 = .ok (.iconst 0, 1)) ∧ (decode cX9_read 220 = .ok (.ireturn, 1)) := by decide +kernel
theorem dX9_read_219 : decode cX9_read 219 = .ok (.iconst 0, 1) := eX9_read_219.1
theorem dX9_read_220 : decode cX9_read 220 = .ok (.ireturn, 1) := eX9_read_219.2
theorem eX9_urn_0 : (decode cX9_urn 0 = .ok (.iload_n 1, 1)) ∧ (decode cX9_urn 1 = .ok (.i2l, 1)) ∧ (decode cX9_urn 2 = .ok (.ldc2_w 72, 3)) ∧ (decode cX9_urn 5 = .ok (.ldc2_w 105, 3)) ∧ (decode cX9_urn 8 = .ok (.invokestatic 62, 3)) ∧ (decode cX9_urn 11 = .ok (.ifCond .ne 5, 3)) ∧ (decode cX9_urn 14 = .ok (.iconst (-1), 1)) ∧ (decode cX9_urn 15 = .ok (.ireturn, 1)) := by decide +kernel
theorem dX9_urn_0 : decode cX9_urn 0 = .ok (.iload_n 1, 1) := eX9_urn_0.1
theorem dX9_urn_1 : decode cX9_urn 1 = .ok (.i2l, 1) := eX9_urn_0.2.1
theorem dX9_urn_2 : decode cX9_urn 2 = .ok (.ldc2_w 72, 3) := eX9_urn_0.2.2.1
theorem dX9_urn_5 : decode cX9_urn 5 = .ok (.ldc2_w 105, 3) := eX9_urn_0.2.2.2.1
theorem dX9_urn_8 : decode cX9_urn 8 = .ok (.invokestatic 62, 3) := eX9_urn_0.2.2.2.2.1
theorem dX9_urn_11 : decode cX9_urn 11 = .ok (.ifCond .ne 5, 3) := eX9_urn_0.2.2.2.2.2.1
theorem dX9_urn_14 : decode cX9_urn 14 = .ok (.iconst (-1), 1) := eX9_urn_0.2.2.2.2.2.2.1
theorem dX9_urn_15 : decode cX9_urn 15 = .ok (.ireturn, 1) := eX9_urn_0.2.2.2.2.2.2.2
theorem eX9_urn_16 : (decode cX9_urn 16 = .ok (.aload_n 0, 1)) ∧ (decode cX9_urn 17 = .ok (.getfield 82, 3)) ∧ (decode cX9_urn 20 = .ok (.bipush 8, 2)) ∧ (decode cX9_urn 22 = .ok (.if_icmp .ne 6, 3)) ∧ (decode cX9_urn 25 = .ok (.bipush (-3), 2)) ∧ (decode cX9_urn 27 = .ok (.ireturn, 1)) ∧ (decode cX9_urn 28 = .ok (.aload_n 0, 1)) ∧ (decode cX9_urn 29 = .ok (.getfield 23, 3)) := by decide +kernel
theorem dX9_urn_16 : decode cX9_urn 16 = .ok (.aload_n 0, 1) := eX9_urn_16.1
theorem dX9_urn_17 : decode cX9_urn 17 = .ok (.getfield 82, 3) := eX9_urn_16.2.1
theorem dX9_urn_20 : decode cX9_urn 20 = .ok (.bipush 8, 2) := eX9_urn_16.2.2.1
theorem dX9_urn_22 : decode cX9_urn 22 = .ok (.if_icmp .ne 6, 3) := eX9_urn_16.2.2.2.1
theorem dX9_urn_25 : decode cX9_urn 25 = .ok (.bipush (-3), 2) := eX9_urn_16.2.2.2.2.1
theorem dX9_urn_27 : decode cX9_urn 27 = .ok (.ireturn, 1) := eX9_urn_16.2.2.2.2.2.1
theorem dX9_urn_28 : decode cX9_urn 28 = .ok (.aload_n 0, 1) := eX9_urn_16.2.2.2.2.2.2.1
theorem dX9_urn_29 : decode cX9_urn 29 = .ok (.getfield 23, 3) := eX9_urn_16.2.2.2.2.2.2.2
theorem eX9_urn_32 : (decode cX9_urn 32 = .ok (.aload_n 0, 1)) ∧ (decode cX9_urn 33 = .ok (.getfield 82, 3)) ∧ (decode cX9_urn 36 = .ok (.iload_n 1, 1)) ∧ (decode cX9_urn 37 = .ok (.iastore, 1)) ∧ (decode cX9_urn 38 = .ok (.aload_n 0, 1)) ∧ (decode cX9_urn 39 = .ok (.dup, 1)) ∧ (decode cX9_urn 40 = .ok (.getfield 82, 3)) ∧ (decode cX9_urn 43 = .ok (.iconst 1, 1)) := by decide +kernel
theorem dX9_urn_32 : decode cX9_urn 32 = .ok (.aload_n 0, 1) := eX9_urn_32.1
theorem dX9_urn_33 : decode cX9_urn 33 = .ok (.getfield 82, 3) := eX9_urn_32.2.1
theorem dX9_urn_36 : decode cX9_urn 36 = .ok (.iload_n 1, 1) := eX9_urn_32.2.2.1
theorem dX9_urn_37 : decode cX9_urn 37 = .ok (.iastore, 1) := eX9_urn_32.2.2.2.1
theorem dX9_urn_38 : decode cX9_urn 38 = .ok (.aload_n 0, 1) := eX9_urn_32.2.2.2.2.1
theorem dX9_urn_39 : decode cX9_urn 39 = .ok (.dup, 1) := eX9_urn_32.2.2.2.2.2.1
theorem dX9_urn_40 : decode cX9_urn 40 = .ok (.getfield 82, 3) := eX9_urn_32.2.2.2.2.2.2.1
theorem dX9_urn_43 : decode cX9_urn 43 = .ok (.iconst 1, 1) := eX9_urn_32.2.2.2.2.2.2.2
theorem eX9_urn_44 : (decode cX9_urn 44 = .ok (.iadd, 1)) ∧ (decode cX9_urn 45 = .ok (.putfield 82, 3)) ∧ (decode cX9_urn 48 = .ok (.aload_n 0, 1)) ∧ (decode cX9_urn 49 = .ok (.getfield 82, 3)) ∧ (decode cX9_urn 52 = .ok (.iconst 1, 1)) ∧ (decode cX9_urn 53 = .ok (.isub, 1)) ∧ (decode cX9_urn 54 = .ok (.ireturn, 1)) := by decide +kernel
theorem dX9_urn_44 : decode cX9_urn 44 = .ok (.iadd, 1) := eX9_urn_44.1
theorem dX9_urn_45 : decode cX9_urn 45 = .ok (.putfield 82, 3) := eX9_urn_44.2.1
theorem dX9_urn_48 : decode cX9_urn 48 = .ok (.aload_n 0, 1) := eX9_urn_44.2.2.1
theorem dX9_urn_49 : decode cX9_urn 49 = .ok (.getfield 82, 3) := eX9_urn_44.2.2.2.1
theorem dX9_urn_52 : decode cX9_urn 52 = .ok (.iconst 1, 1) := eX9_urn_44.2.2.2.2.1
theorem dX9_urn_53 : decode cX9_urn 53 = .ok (.isub, 1) := eX9_urn_44.2.2.2.2.2.1
theorem dX9_urn_54 : decode cX9_urn 54 = .ok (.ireturn, 1) := eX9_urn_44.2.2.2.2.2.2
theorem eX9_put_0 : (decode cX9_put 0 = .ok (.aload_n 0, 1)) ∧ (decode cX9_put 1 = .ok (.iload_n 1, 1)) ∧ (decode cX9_put 2 = .ok (.invokevirtual 89, 3)) ∧ (decode cX9_put 5 = .ok (.ifCond .eq 24, 3)) ∧ (decode cX9_put 8 = .ok (.aload_n 0, 1)) ∧ (decode cX9_put 9 = .ok (.iload_n 1, 1)) ∧ (decode cX9_put 10 = .ok (.iload_n 2, 1)) ∧ (decode cX9_put 11 = .ok (.invokevirtual 92, 3)) := by decide +kernel
theorem dX9_put_0 : decode cX9_put 0 = .ok (.aload_n 0, 1) := eX9_put_0.1
theorem dX9_put_1 : decode cX9_put 1 = .ok (.iload_n 1, 1) := eX9_put_0.2.1
theorem dX9_put_2 : decode cX9_put 2 = .ok (.invokevirtual 89, 3) := eX9_put_0.2.2.1
theorem dX9_put_5 : decode cX9_put 5 = .ok (.ifCond .eq 24, 3) := eX9_put_0.2.2.2.1
theorem dX9_put_8 : decode cX9_put 8 = .ok (.aload_n 0, 1) := eX9_put_0.2.2.2.2.1
theorem dX9_put_9 : decode cX9_put 9 = .ok (.iload_n 1, 1) := eX9_put_0.2.2.2.2.2.1
theorem dX9_put_10 : decode cX9_put 10 = .ok (.iload_n 2, 1) := eX9_put_0.2.2.2.2.2.2.1
theorem dX9_put_11 : decode cX9_put 11 = .ok (.invokevirtual 92, 3) := eX9_put_0.2.2.2.2.2.2.2
theorem eX9_put_14 : (decode cX9_put 14 = .ok (.ifCond .eq 15, 3)) ∧ (decode cX9_put 17 = .ok (.iload_n 3, 1)) ∧ (decode cX9_put 18 = .ok (.i2l, 1)) ∧ (decode cX9_put 19 = .ok (.lconst 0, 1)) ∧ (decode cX9_put 20 = .ok (.ldc2_w 98, 3)) ∧ (decode cX9_put 23 = .ok (.invokestatic 62, 3)) ∧ (decode cX9_put 26 = .ok (.ifCond .ne 5, 3)) ∧ (decode cX9_put 29 = .ok (.iconst (-1), 1)) := by decide +kernel
theorem dX9_put_14 : decode cX9_put 14 = .ok (.ifCond .eq 15, 3) := eX9_put_14.1
theorem dX9_put_17 : decode cX9_put 17 = .ok (.iload_n 3, 1) := eX9_put_14.2.1
theorem dX9_put_18 : decode cX9_put 18 = .ok (.i2l, 1) := eX9_put_14.2.2.1
theorem dX9_put_19 : decode cX9_put 19 = .ok (.lconst 0, 1) := eX9_put_14.2.2.2.1
theorem dX9_put_20 : decode cX9_put 20 = .ok (.ldc2_w 98, 3) := eX9_put_14.2.2.2.2.1
theorem dX9_put_23 : decode cX9_put 23 = .ok (.invokestatic 62, 3) := eX9_put_14.2.2.2.2.2.1
theorem dX9_put_26 : decode cX9_put 26 = .ok (.ifCond .ne 5, 3) := eX9_put_14.2.2.2.2.2.2.1
theorem dX9_put_29 : decode cX9_put 29 = .ok (.iconst (-1), 1) := eX9_put_14.2.2.2.2.2.2.2
theorem eX9_put_30 : (decode cX9_put 30 = .ok (.ireturn, 1)) ∧ (decode cX9_put 31 = .ok (.aload_n 0, 1)) ∧ (decode cX9_put 32 = .ok (.invokevirtual 102, 3)) ∧ (decode cX9_put 35 = .ok (.aload_n 0, 1)) ∧ (decode cX9_put 36 = .ok (.getfield 26, 3)) ∧ (decode cX9_put 39 = .ok (.bipush 25, 2)) ∧ (decode cX9_put 41 = .ok (.iload_n 1, 1)) ∧ (decode cX9_put 42 = .ok (.imul, 1)) := by decide +kernel
theorem dX9_put_30 : decode cX9_put 30 = .ok (.ireturn, 1) := eX9_put_30.1
theorem dX9_put_31 : decode cX9_put 31 = .ok (.aload_n 0, 1) := eX9_put_30.2.1
theorem dX9_put_32 : decode cX9_put 32 = .ok (.invokevirtual 102, 3) := eX9_put_30.2.2.1
theorem dX9_put_35 : decode cX9_put 35 = .ok (.aload_n 0, 1) := eX9_put_30.2.2.2.1
theorem dX9_put_36 : decode cX9_put 36 = .ok (.getfield 26, 3) := eX9_put_30.2.2.2.2.1
theorem dX9_put_39 : decode cX9_put 39 = .ok (.bipush 25, 2) := eX9_put_30.2.2.2.2.2.1
theorem dX9_put_41 : decode cX9_put 41 = .ok (.iload_n 1, 1) := eX9_put_30.2.2.2.2.2.2.1
theorem dX9_put_42 : decode cX9_put 42 = .ok (.imul, 1) := eX9_put_30.2.2.2.2.2.2.2
theorem eX9_put_43 : (decode cX9_put 43 = .ok (.iload_n 2, 1)) ∧ (decode cX9_put 44 = .ok (.iadd, 1)) ∧ (decode cX9_put 45 = .ok (.iaload, 1)) ∧ (decode cX9_put 46 = .ok (.istore 4, 2)) ∧ (decode cX9_put 48 = .ok (.aload_n 0, 1)) ∧ (decode cX9_put 49 = .ok (.getfield 26, 3)) ∧ (decode cX9_put 52 = .ok (.bipush 25, 2)) ∧ (decode cX9_put 54 = .ok (.iload_n 1, 1)) := by decide +kernel
theorem dX9_put_43 : decode cX9_put 43 = .ok (.iload_n 2, 1) := eX9_put_43.1
theorem dX9_put_44 : decode cX9_put 44 = .ok (.iadd, 1) := eX9_put_43.2.1
theorem dX9_put_45 : decode cX9_put 45 = .ok (.iaload, 1) := eX9_put_43.2.2.1
theorem dX9_put_46 : decode cX9_put 46 = .ok (.istore 4, 2) := eX9_put_43.2.2.2.1
theorem dX9_put_48 : decode cX9_put 48 = .ok (.aload_n 0, 1) := eX9_put_43.2.2.2.2.1
theorem dX9_put_49 : decode cX9_put 49 = .ok (.getfield 26, 3) := eX9_put_43.2.2.2.2.2.1
theorem dX9_put_52 : decode cX9_put 52 = .ok (.bipush 25, 2) := eX9_put_43.2.2.2.2.2.2.1
theorem dX9_put_54 : decode cX9_put 54 = .ok (.iload_n 1, 1) := eX9_put_43.2.2.2.2.2.2.2
theorem eX9_put_55 : (decode cX9_put 55 = .ok (.imul, 1)) ∧ (decode cX9_put 56 = .ok (.iload_n 2, 1)) ∧ (decode cX9_put 57 = .ok (.iadd, 1)) ∧ (decode cX9_put 58 = .ok (.iload_n 3, 1)) ∧ (decode cX9_put 59 = .ok (.iastore, 1)) ∧ (decode cX9_put 60 = .ok (.iload 4, 2)) ∧ (decode cX9_put 62 = .ok (.ireturn, 1)) := by decide +kernel
theorem dX9_put_55 : decode cX9_put 55 = .ok (.imul, 1) := eX9_put_55.1
theorem dX9_put_56 : decode cX9_put 56 = .ok (.iload_n 2, 1) := eX9_put_55.2.1
theorem dX9_put_57 : decode cX9_put 57 = .ok (.iadd, 1) := eX9_put_55.2.2.1
theorem dX9_put_58 : decode cX9_put 58 = .ok (.iload_n 3, 1) := eX9_put_55.2.2.2.1
theorem dX9_put_59 : decode cX9_put 59 = .ok (.iastore, 1) := eX9_put_55.2.2.2.2.1
theorem dX9_put_60 : decode cX9_put 60 = .ok (.iload 4, 2) := eX9_put_55.2.2.2.2.2.1
theorem dX9_put_62 : decode cX9_put 62 = .ok (.ireturn, 1) := eX9_put_55.2.2.2.2.2.2
theorem eX9_add_0 : (decode cX9_add 0 = .ok (.aload_n 0, 1)) ∧ (decode cX9_add 1 = .ok (.iload_n 1, 1)) ∧ (decode cX9_add 2 = .ok (.invokevirtual 89, 3)) ∧ (decode cX9_add 5 = .ok (.ifCond .eq 36, 3)) ∧ (decode cX9_add 8 = .ok (.aload_n 0, 1)) ∧ (decode cX9_add 9 = .ok (.iload_n 1, 1)) ∧ (decode cX9_add 10 = .ok (.iload_n 2, 1)) ∧ (decode cX9_add 11 = .ok (.invokevirtual 92, 3)) := by decide +kernel
theorem dX9_add_0 : decode cX9_add 0 = .ok (.aload_n 0, 1) := eX9_add_0.1
theorem dX9_add_1 : decode cX9_add 1 = .ok (.iload_n 1, 1) := eX9_add_0.2.1
theorem dX9_add_2 : decode cX9_add 2 = .ok (.invokevirtual 89, 3) := eX9_add_0.2.2.1
theorem dX9_add_5 : decode cX9_add 5 = .ok (.ifCond .eq 36, 3) := eX9_add_0.2.2.2.1
theorem dX9_add_8 : decode cX9_add 8 = .ok (.aload_n 0, 1) := eX9_add_0.2.2.2.2.1
theorem dX9_add_9 : decode cX9_add 9 = .ok (.iload_n 1, 1) := eX9_add_0.2.2.2.2.2.1
theorem dX9_add_10 : decode cX9_add 10 = .ok (.iload_n 2, 1) := eX9_add_0.2.2.2.2.2.2.1
theorem dX9_add_11 : decode cX9_add 11 = .ok (.invokevirtual 92, 3) := eX9_add_0.2.2.2.2.2.2.2
theorem eX9_add_14 : (decode cX9_add 14 = .ok (.ifCond .eq 27, 3)) ∧ (decode cX9_add 17 = .ok (.aload_n 0, 1)) ∧ (decode cX9_add 18 = .ok (.iload_n 1, 1)) ∧ (decode cX9_add 19 = .ok (.iload_n 3, 1)) ∧ (decode cX9_add 20 = .ok (.invokevirtual 92, 3)) ∧ (decode cX9_add 23 = .ok (.ifCond .eq 18, 3)) ∧ (decode cX9_add 26 = .ok (.iload 4, 2)) ∧ (decode cX9_add 28 = .ok (.i2l, 1)) := by decide +kernel
theorem dX9_add_14 : decode cX9_add 14 = .ok (.ifCond .eq 27, 3) := eX9_add_14.1
theorem dX9_add_17 : decode cX9_add 17 = .ok (.aload_n 0, 1) := eX9_add_14.2.1
theorem dX9_add_18 : decode cX9_add 18 = .ok (.iload_n 1, 1) := eX9_add_14.2.2.1
theorem dX9_add_19 : decode cX9_add 19 = .ok (.iload_n 3, 1) := eX9_add_14.2.2.2.1
theorem dX9_add_20 : decode cX9_add 20 = .ok (.invokevirtual 92, 3) := eX9_add_14.2.2.2.2.1
theorem dX9_add_23 : decode cX9_add 23 = .ok (.ifCond .eq 18, 3) := eX9_add_14.2.2.2.2.2.1
theorem dX9_add_26 : decode cX9_add 26 = .ok (.iload 4, 2) := eX9_add_14.2.2.2.2.2.2.1
theorem dX9_add_28 : decode cX9_add 28 = .ok (.i2l, 1) := eX9_add_14.2.2.2.2.2.2.2
theorem eX9_add_29 : (decode cX9_add 29 = .ok (.ldc2_w 96, 3)) ∧ (decode cX9_add 32 = .ok (.ldc2_w 100, 3)) ∧ (decode cX9_add 35 = .ok (.invokestatic 62, 3)) ∧ (decode cX9_add 38 = .ok (.ifCond .ne 6, 3)) ∧ (decode cX9_add 41 = .ok (.bipush (-100), 2)) ∧ (decode cX9_add 43 = .ok (.ireturn, 1)) ∧ (decode cX9_add 44 = .ok (.aload_n 0, 1)) ∧ (decode cX9_add 45 = .ok (.invokevirtual 102, 3)) := by decide +kernel
theorem dX9_add_29 : decode cX9_add 29 = .ok (.ldc2_w 96, 3) := eX9_add_29.1
theorem dX9_add_32 : decode cX9_add 32 = .ok (.ldc2_w 100, 3) := eX9_add_29.2.1
theorem dX9_add_35 : decode cX9_add 35 = .ok (.invokestatic 62, 3) := eX9_add_29.2.2.1
theorem dX9_add_38 : decode cX9_add 38 = .ok (.ifCond .ne 6, 3) := eX9_add_29.2.2.2.1
theorem dX9_add_41 : decode cX9_add 41 = .ok (.bipush (-100), 2) := eX9_add_29.2.2.2.2.1
theorem dX9_add_43 : decode cX9_add 43 = .ok (.ireturn, 1) := eX9_add_29.2.2.2.2.2.1
theorem dX9_add_44 : decode cX9_add 44 = .ok (.aload_n 0, 1) := eX9_add_29.2.2.2.2.2.2.1
theorem dX9_add_45 : decode cX9_add 45 = .ok (.invokevirtual 102, 3) := eX9_add_29.2.2.2.2.2.2.2
theorem eX9_add_48 : (decode cX9_add 48 = .ok (.bipush 25, 2)) ∧ (decode cX9_add 50 = .ok (.iload_n 1, 1)) ∧ (decode cX9_add 51 = .ok (.imul, 1)) ∧ (decode cX9_add 52 = .ok (.iconst 4, 1)) ∧ (decode cX9_add 53 = .ok (.iadd, 1)) ∧ (decode cX9_add 54 = .ok (.iconst 4, 1)) ∧ (decode cX9_add 55 = .ok (.iload_n 2, 1)) ∧ (decode cX9_add 56 = .ok (.imul, 1)) := by decide +kernel
theorem dX9_add_48 : decode cX9_add 48 = .ok (.bipush 25, 2) := eX9_add_48.1
theorem dX9_add_50 : decode cX9_add 50 = .ok (.iload_n 1, 1) := eX9_add_48.2.1
theorem dX9_add_51 : decode cX9_add 51 = .ok (.imul, 1) := eX9_add_48.2.2.1
theorem dX9_add_52 : decode cX9_add 52 = .ok (.iconst 4, 1) := eX9_add_48.2.2.2.1
theorem dX9_add_53 : decode cX9_add 53 = .ok (.iadd, 1) := eX9_add_48.2.2.2.2.1
theorem dX9_add_54 : decode cX9_add 54 = .ok (.iconst 4, 1) := eX9_add_48.2.2.2.2.2.1
theorem dX9_add_55 : decode cX9_add 55 = .ok (.iload_n 2, 1) := eX9_add_48.2.2.2.2.2.2.1
theorem dX9_add_56 : decode cX9_add 56 = .ok (.imul, 1) := eX9_add_48.2.2.2.2.2.2.2
theorem eX9_add_57 : (decode cX9_add 57 = .ok (.iadd, 1)) ∧ (decode cX9_add 58 = .ok (.iload_n 3, 1)) ∧ (decode cX9_add 59 = .ok (.iadd, 1)) ∧ (decode cX9_add 60 = .ok (.istore 5, 2)) ∧ (decode cX9_add 62 = .ok (.aload_n 0, 1)) ∧ (decode cX9_add 63 = .ok (.getfield 26, 3)) ∧ (decode cX9_add 66 = .ok (.iload 5, 2)) ∧ (decode cX9_add 68 = .ok (.iaload, 1)) := by decide +kernel
theorem dX9_add_57 : decode cX9_add 57 = .ok (.iadd, 1) := eX9_add_57.1
theorem dX9_add_58 : decode cX9_add 58 = .ok (.iload_n 3, 1) := eX9_add_57.2.1
theorem dX9_add_59 : decode cX9_add 59 = .ok (.iadd, 1) := eX9_add_57.2.2.1
theorem dX9_add_60 : decode cX9_add 60 = .ok (.istore 5, 2) := eX9_add_57.2.2.2.1
theorem dX9_add_62 : decode cX9_add 62 = .ok (.aload_n 0, 1) := eX9_add_57.2.2.2.2.1
theorem dX9_add_63 : decode cX9_add 63 = .ok (.getfield 26, 3) := eX9_add_57.2.2.2.2.2.1
theorem dX9_add_66 : decode cX9_add 66 = .ok (.iload 5, 2) := eX9_add_57.2.2.2.2.2.2.1
theorem dX9_add_68 : decode cX9_add 68 = .ok (.iaload, 1) := eX9_add_57.2.2.2.2.2.2.2
theorem eX9_add_69 : (decode cX9_add 69 = .ok (.istore 6, 2)) ∧ (decode cX9_add 71 = .ok (.aload_n 0, 1)) ∧ (decode cX9_add 72 = .ok (.getfield 26, 3)) ∧ (decode cX9_add 75 = .ok (.iload 5, 2)) ∧ (decode cX9_add 77 = .ok (.iload 4, 2)) ∧ (decode cX9_add 79 = .ok (.iastore, 1)) ∧ (decode cX9_add 80 = .ok (.iload 6, 2)) ∧ (decode cX9_add 82 = .ok (.ireturn, 1)) := by decide +kernel
theorem dX9_add_69 : decode cX9_add 69 = .ok (.istore 6, 2) := eX9_add_69.1
theorem dX9_add_71 : decode cX9_add 71 = .ok (.aload_n 0, 1) := eX9_add_69.2.1
theorem dX9_add_72 : decode cX9_add 72 = .ok (.getfield 26, 3) := eX9_add_69.2.2.1
theorem dX9_add_75 : decode cX9_add 75 = .ok (.iload 5, 2) := eX9_add_69.2.2.2.1
theorem dX9_add_77 : decode cX9_add 77 = .ok (.iload 4, 2) := eX9_add_69.2.2.2.2.1
theorem dX9_add_79 : decode cX9_add 79 = .ok (.iastore, 1) := eX9_add_69.2.2.2.2.2.1
theorem dX9_add_80 : decode cX9_add 80 = .ok (.iload 6, 2) := eX9_add_69.2.2.2.2.2.2.1
theorem dX9_add_82 : decode cX9_add 82 = .ok (.ireturn, 1) := eX9_add_69.2.2.2.2.2.2.2
theorem eX9_is_0 : (decode cX9_is 0 = .ok (.aload_n 0, 1)) ∧ (decode cX9_is 1 = .ok (.iload_n 1, 1)) ∧ (decode cX9_is 2 = .ok (.invokevirtual 89, 3)) ∧ (decode cX9_is 5 = .ok (.ifCond .eq 27, 3)) ∧ (decode cX9_is 8 = .ok (.aload_n 0, 1)) ∧ (decode cX9_is 9 = .ok (.iload_n 1, 1)) ∧ (decode cX9_is 10 = .ok (.iload_n 2, 1)) ∧ (decode cX9_is 11 = .ok (.invokevirtual 92, 3)) := by decide +kernel
theorem dX9_is_0 : decode cX9_is 0 = .ok (.aload_n 0, 1) := eX9_is_0.1
theorem dX9_is_1 : decode cX9_is 1 = .ok (.iload_n 1, 1) := eX9_is_0.2.1
theorem dX9_is_2 : decode cX9_is 2 = .ok (.invokevirtual 89, 3) := eX9_is_0.2.2.1
theorem dX9_is_5 : decode cX9_is 5 = .ok (.ifCond .eq 27, 3) := eX9_is_0.2.2.2.1
theorem dX9_is_8 : decode cX9_is 8 = .ok (.aload_n 0, 1) := eX9_is_0.2.2.2.2.1
theorem dX9_is_9 : decode cX9_is 9 = .ok (.iload_n 1, 1) := eX9_is_0.2.2.2.2.2.1
theorem dX9_is_10 : decode cX9_is 10 = .ok (.iload_n 2, 1) := eX9_is_0.2.2.2.2.2.2.1
theorem dX9_is_11 : decode cX9_is 11 = .ok (.invokevirtual 92, 3) := eX9_is_0.2.2.2.2.2.2.2
theorem eX9_is_14 : (decode cX9_is 14 = .ok (.ifCond .eq 18, 3)) ∧ (decode cX9_is 17 = .ok (.iload_n 3, 1)) ∧ (decode cX9_is 18 = .ok (.i2l, 1)) ∧ (decode cX9_is 19 = .ok (.ldc2_w 70, 3)) ∧ (decode cX9_is 22 = .ok (.iload_n 1, 1)) ∧ (decode cX9_is 23 = .ok (.iconst 1, 1)) ∧ (decode cX9_is 24 = .ok (.isub, 1)) ∧ (decode cX9_is 25 = .ok (.i2l, 1)) := by decide +kernel
theorem dX9_is_14 : decode cX9_is 14 = .ok (.ifCond .eq 18, 3) := eX9_is_14.1
theorem dX9_is_17 : decode cX9_is 17 = .ok (.iload_n 3, 1) := eX9_is_14.2.1
theorem dX9_is_18 : decode cX9_is 18 = .ok (.i2l, 1) := eX9_is_14.2.2.1
theorem dX9_is_19 : decode cX9_is 19 = .ok (.ldc2_w 70, 3) := eX9_is_14.2.2.2.1
theorem dX9_is_22 : decode cX9_is 22 = .ok (.iload_n 1, 1) := eX9_is_14.2.2.2.2.1
theorem dX9_is_23 : decode cX9_is 23 = .ok (.iconst 1, 1) := eX9_is_14.2.2.2.2.2.1
theorem dX9_is_24 : decode cX9_is 24 = .ok (.isub, 1) := eX9_is_14.2.2.2.2.2.2.1
theorem dX9_is_25 : decode cX9_is 25 = .ok (.i2l, 1) := eX9_is_14.2.2.2.2.2.2.2
theorem eX9_is_26 : (decode cX9_is 26 = .ok (.invokestatic 62, 3)) ∧ (decode cX9_is 29 = .ok (.ifCond .ne 5, 3)) ∧ (decode cX9_is 32 = .ok (.iconst (-1), 1)) ∧ (decode cX9_is 33 = .ok (.ireturn, 1)) ∧ (decode cX9_is 34 = .ok (.aload_n 0, 1)) ∧ (decode cX9_is 35 = .ok (.invokevirtual 102, 3)) ∧ (decode cX9_is 38 = .ok (.bipush 25, 2)) ∧ (decode cX9_is 40 = .ok (.iload_n 1, 1)) := by decide +kernel
theorem dX9_is_26 : decode cX9_is 26 = .ok (.invokestatic 62, 3) := eX9_is_26.1
theorem dX9_is_29 : decode cX9_is 29 = .ok (.ifCond .ne 5, 3) := eX9_is_26.2.1
theorem dX9_is_32 : decode cX9_is 32 = .ok (.iconst (-1), 1) := eX9_is_26.2.2.1
theorem dX9_is_33 : decode cX9_is 33 = .ok (.ireturn, 1) := eX9_is_26.2.2.2.1
theorem dX9_is_34 : decode cX9_is 34 = .ok (.aload_n 0, 1) := eX9_is_26.2.2.2.2.1
theorem dX9_is_35 : decode cX9_is 35 = .ok (.invokevirtual 102, 3) := eX9_is_26.2.2.2.2.2.1
theorem dX9_is_38 : decode cX9_is 38 = .ok (.bipush 25, 2) := eX9_is_26.2.2.2.2.2.2.1
theorem dX9_is_40 : decode cX9_is 40 = .ok (.iload_n 1, 1) := eX9_is_26.2.2.2.2.2.2.2
theorem eX9_is_41 : (decode cX9_is 41 = .ok (.imul, 1)) ∧ (decode cX9_is 42 = .ok (.bipush 20, 2)) ∧ (decode cX9_is 44 = .ok (.iadd, 1)) ∧ (decode cX9_is 45 = .ok (.iload_n 2, 1)) ∧ (decode cX9_is 46 = .ok (.iadd, 1)) ∧ (decode cX9_is 47 = .ok (.istore 4, 2)) ∧ (decode cX9_is 49 = .ok (.aload_n 0, 1)) ∧ (decode cX9_is 50 = .ok (.getfield 26, 3)) := by decide +kernel
theorem dX9_is_41 : decode cX9_is 41 = .ok (.imul, 1) := eX9_is_41.1
theorem dX9_is_42 : decode cX9_is 42 = .ok (.bipush 20, 2) := eX9_is_41.2.1
theorem dX9_is_44 : decode cX9_is 44 = .ok (.iadd, 1) := eX9_is_41.2.2.1
theorem dX9_is_45 : decode cX9_is 45 = .ok (.iload_n 2, 1) := eX9_is_41.2.2.2.1
theorem dX9_is_46 : decode cX9_is 46 = .ok (.iadd, 1) := eX9_is_41.2.2.2.2.1
theorem dX9_is_47 : decode cX9_is 47 = .ok (.istore 4, 2) := eX9_is_41.2.2.2.2.2.1
theorem dX9_is_49 : decode cX9_is 49 = .ok (.aload_n 0, 1) := eX9_is_41.2.2.2.2.2.2.1
theorem dX9_is_50 : decode cX9_is 50 = .ok (.getfield 26, 3) := eX9_is_41.2.2.2.2.2.2.2
theorem eX9_is_53 : (decode cX9_is 53 = .ok (.iload 4, 2)) ∧ (decode cX9_is 55 = .ok (.iaload, 1)) ∧ (decode cX9_is 56 = .ok (.istore 5, 2)) ∧ (decode cX9_is 58 = .ok (.aload_n 0, 1)) ∧ (decode cX9_is 59 = .ok (.getfield 26, 3)) ∧ (decode cX9_is 62 = .ok (.iload 4, 2)) ∧ (decode cX9_is 64 = .ok (.iload_n 3, 1)) ∧ (decode cX9_is 65 = .ok (.iastore, 1)) := by decide +kernel
theorem dX9_is_53 : decode cX9_is 53 = .ok (.iload 4, 2) := eX9_is_53.1
theorem dX9_is_55 : decode cX9_is 55 = .ok (.iaload, 1) := eX9_is_53.2.1
theorem dX9_is_56 : decode cX9_is 56 = .ok (.istore 5, 2) := eX9_is_53.2.2.1
theorem dX9_is_58 : decode cX9_is 58 = .ok (.aload_n 0, 1) := eX9_is_53.2.2.2.1
theorem dX9_is_59 : decode cX9_is 59 = .ok (.getfield 26, 3) := eX9_is_53.2.2.2.2.1
theorem dX9_is_62 : decode cX9_is 62 = .ok (.iload 4, 2) := eX9_is_53.2.2.2.2.2.1
theorem dX9_is_64 : decode cX9_is 64 = .ok (.iload_n 3, 1) := eX9_is_53.2.2.2.2.2.2.1
theorem dX9_is_65 : decode cX9_is 65 = .ok (.iastore, 1) := eX9_is_53.2.2.2.2.2.2.2
theorem eX9_is_66 : (decode cX9_is 66 = .ok (.iload 5, 2)) ∧ (decode cX9_is 68 = .ok (.ifCond .ge 8, 3)) ∧ (decode cX9_is 71 = .ok (.bipush (-4), 2)) ∧ (decode cX9_is 73 = .ok (.goto 5, 3)) ∧ (decode cX9_is 76 = .ok (.iload 5, 2)) ∧ (decode cX9_is 78 = .ok (.ireturn, 1)) := by decide +kernel
theorem dX9_is_66 : decode cX9_is 66 = .ok (.iload 5, 2) := eX9_is_66.1
theorem dX9_is_68 : decode cX9_is 68 = .ok (.ifCond .ge 8, 3) := eX9_is_66.2.1
theorem dX9_is_71 : decode cX9_is 71 = .ok (.bipush (-4), 2) := eX9_is_66.2.2.1
theorem dX9_is_73 : decode cX9_is 73 = .ok (.goto 5, 3) := eX9_is_66.2.2.2.1
theorem dX9_is_76 : decode cX9_is 76 = .ok (.iload 5, 2) := eX9_is_66.2.2.2.2.1
theorem dX9_is_78 : decode cX9_is 78 = .ok (.ireturn, 1) := eX9_is_66.2.2.2.2.2
theorem eX9_balls_0 : (decode cX9_balls 0 = .ok (.aload_n 0, 1)) ∧ (decode cX9_balls 1 = .ok (.getfield 26, 3)) ∧ (decode cX9_balls 4 = .ok (.bipush 25, 2)) ∧ (decode cX9_balls 6 = .ok (.iload_n 1, 1)) ∧ (decode cX9_balls 7 = .ok (.imul, 1)) ∧ (decode cX9_balls 8 = .ok (.iaload, 1)) ∧ (decode cX9_balls 9 = .ok (.aload_n 0, 1)) ∧ (decode cX9_balls 10 = .ok (.getfield 26, 3)) := by decide +kernel
theorem dX9_balls_0 : decode cX9_balls 0 = .ok (.aload_n 0, 1) := eX9_balls_0.1
theorem dX9_balls_1 : decode cX9_balls 1 = .ok (.getfield 26, 3) := eX9_balls_0.2.1
theorem dX9_balls_4 : decode cX9_balls 4 = .ok (.bipush 25, 2) := eX9_balls_0.2.2.1
theorem dX9_balls_6 : decode cX9_balls 6 = .ok (.iload_n 1, 1) := eX9_balls_0.2.2.2.1
theorem dX9_balls_7 : decode cX9_balls 7 = .ok (.imul, 1) := eX9_balls_0.2.2.2.2.1
theorem dX9_balls_8 : decode cX9_balls 8 = .ok (.iaload, 1) := eX9_balls_0.2.2.2.2.2.1
theorem dX9_balls_9 : decode cX9_balls 9 = .ok (.aload_n 0, 1) := eX9_balls_0.2.2.2.2.2.2.1
theorem dX9_balls_10 : decode cX9_balls 10 = .ok (.getfield 26, 3) := eX9_balls_0.2.2.2.2.2.2.2
theorem eX9_balls_13 : (decode cX9_balls 13 = .ok (.bipush 25, 2)) ∧ (decode cX9_balls 15 = .ok (.iload_n 1, 1)) ∧ (decode cX9_balls 16 = .ok (.imul, 1)) ∧ (decode cX9_balls 17 = .ok (.iconst 1, 1)) ∧ (decode cX9_balls 18 = .ok (.iadd, 1)) ∧ (decode cX9_balls 19 = .ok (.iaload, 1)) ∧ (decode cX9_balls 20 = .ok (.iadd, 1)) ∧ (decode cX9_balls 21 = .ok (.aload_n 0, 1)) := by decide +kernel
theorem dX9_balls_13 : decode cX9_balls 13 = .ok (.bipush 25, 2) := eX9_balls_13.1
theorem dX9_balls_15 : decode cX9_balls 15 = .ok (.iload_n 1, 1) := eX9_balls_13.2.1
theorem dX9_balls_16 : decode cX9_balls 16 = .ok (.imul, 1) := eX9_balls_13.2.2.1
theorem dX9_balls_17 : decode cX9_balls 17 = .ok (.iconst 1, 1) := eX9_balls_13.2.2.2.1
theorem dX9_balls_18 : decode cX9_balls 18 = .ok (.iadd, 1) := eX9_balls_13.2.2.2.2.1
theorem dX9_balls_19 : decode cX9_balls 19 = .ok (.iaload, 1) := eX9_balls_13.2.2.2.2.2.1
theorem dX9_balls_20 : decode cX9_balls 20 = .ok (.iadd, 1) := eX9_balls_13.2.2.2.2.2.2.1
theorem dX9_balls_21 : decode cX9_balls 21 = .ok (.aload_n 0, 1) := eX9_balls_13.2.2.2.2.2.2.2
theorem eX9_balls_22 : (decode cX9_balls 22 = .ok (.getfield 26, 3)) ∧ (decode cX9_balls 25 = .ok (.bipush 25, 2)) ∧ (decode cX9_balls 27 = .ok (.iload_n 1, 1)) ∧ (decode cX9_balls 28 = .ok (.imul, 1)) ∧ (decode cX9_balls 29 = .ok (.iconst 2, 1)) ∧ (decode cX9_balls 30 = .ok (.iadd, 1)) ∧ (decode cX9_balls 31 = .ok (.iaload, 1)) ∧ (decode cX9_balls 32 = .ok (.iadd, 1)) := by decide +kernel
theorem dX9_balls_22 : decode cX9_balls 22 = .ok (.getfield 26, 3) := eX9_balls_22.1
theorem dX9_balls_25 : decode cX9_balls 25 = .ok (.bipush 25, 2) := eX9_balls_22.2.1
theorem dX9_balls_27 : decode cX9_balls 27 = .ok (.iload_n 1, 1) := eX9_balls_22.2.2.1
theorem dX9_balls_28 : decode cX9_balls 28 = .ok (.imul, 1) := eX9_balls_22.2.2.2.1
theorem dX9_balls_29 : decode cX9_balls 29 = .ok (.iconst 2, 1) := eX9_balls_22.2.2.2.2.1
theorem dX9_balls_30 : decode cX9_balls 30 = .ok (.iadd, 1) := eX9_balls_22.2.2.2.2.2.1
theorem dX9_balls_31 : decode cX9_balls 31 = .ok (.iaload, 1) := eX9_balls_22.2.2.2.2.2.2.1
theorem dX9_balls_32 : decode cX9_balls 32 = .ok (.iadd, 1) := eX9_balls_22.2.2.2.2.2.2.2
theorem eX9_balls_33 : (decode cX9_balls 33 = .ok (.aload_n 0, 1)) ∧ (decode cX9_balls 34 = .ok (.getfield 26, 3)) ∧ (decode cX9_balls 37 = .ok (.bipush 25, 2)) ∧ (decode cX9_balls 39 = .ok (.iload_n 1, 1)) ∧ (decode cX9_balls 40 = .ok (.imul, 1)) ∧ (decode cX9_balls 41 = .ok (.iconst 3, 1)) ∧ (decode cX9_balls 42 = .ok (.iadd, 1)) ∧ (decode cX9_balls 43 = .ok (.iaload, 1)) := by decide +kernel
theorem dX9_balls_33 : decode cX9_balls 33 = .ok (.aload_n 0, 1) := eX9_balls_33.1
theorem dX9_balls_34 : decode cX9_balls 34 = .ok (.getfield 26, 3) := eX9_balls_33.2.1
theorem dX9_balls_37 : decode cX9_balls 37 = .ok (.bipush 25, 2) := eX9_balls_33.2.2.1
theorem dX9_balls_39 : decode cX9_balls 39 = .ok (.iload_n 1, 1) := eX9_balls_33.2.2.2.1
theorem dX9_balls_40 : decode cX9_balls 40 = .ok (.imul, 1) := eX9_balls_33.2.2.2.2.1
theorem dX9_balls_41 : decode cX9_balls 41 = .ok (.iconst 3, 1) := eX9_balls_33.2.2.2.2.2.1
theorem dX9_balls_42 : decode cX9_balls 42 = .ok (.iadd, 1) := eX9_balls_33.2.2.2.2.2.2.1
theorem dX9_balls_43 : decode cX9_balls 43 = .ok (.iaload, 1) := eX9_balls_33.2.2.2.2.2.2.2
theorem eX9_balls_44 : (decode cX9_balls 44 = .ok (.iadd, 1)) ∧ (decode cX9_balls 45 = .ok (.ireturn, 1)) := by decide +kernel
theorem dX9_balls_44 : decode cX9_balls 44 = .ok (.iadd, 1) := eX9_balls_44.1
theorem dX9_balls_45 : decode cX9_balls 45 = .ok (.ireturn, 1) := eX9_balls_44.2
theorem eX9_addedSum_0 : (decode cX9_addedSum 0 = .ok (.iconst 0, 1)) ∧ (decode cX9_addedSum 1 = .ok (.istore_n 3, 1)) ∧ (decode cX9_addedSum 2 = .ok (.iconst 0, 1)) ∧ (decode cX9_addedSum 3 = .ok (.istore 4, 2)) ∧ (decode cX9_addedSum 5 = .ok (.iload 4, 2)) ∧ (decode cX9_addedSum 7 = .ok (.iconst 4, 1)) ∧ (decode cX9_addedSum 8 = .ok (.if_icmp .ge 30, 3)) ∧ (decode cX9_addedSum 11 = .ok (.iload_n 3, 1)) := by decide +kernel
theorem dX9_addedSum_0 : decode cX9_addedSum 0 = .ok (.iconst 0, 1) := eX9_addedSum_0.1
theorem dX9_addedSum_1 : decode cX9_addedSum 1 = .ok (.istore_n 3, 1) := eX9_addedSum_0.2.1
theorem dX9_addedSum_2 : decode cX9_addedSum 2 = .ok (.iconst 0, 1) := eX9_addedSum_0.2.2.1
theorem dX9_addedSum_3 : decode cX9_addedSum 3 = .ok (.istore 4, 2) := eX9_addedSum_0.2.2.2.1
theorem dX9_addedSum_5 : decode cX9_addedSum 5 = .ok (.iload 4, 2) := eX9_addedSum_0.2.2.2.2.1
theorem dX9_addedSum_7 : decode cX9_addedSum 7 = .ok (.iconst 4, 1) := eX9_addedSum_0.2.2.2.2.2.1
theorem dX9_addedSum_8 : decode cX9_addedSum 8 = .ok (.if_icmp .ge 30, 3) := eX9_addedSum_0.2.2.2.2.2.2.1
theorem dX9_addedSum_11 : decode cX9_addedSum 11 = .ok (.iload_n 3, 1) := eX9_addedSum_0.2.2.2.2.2.2.2
theorem eX9_addedSum_12 : (decode cX9_addedSum 12 = .ok (.aload_n 0, 1)) ∧ (decode cX9_addedSum 13 = .ok (.getfield 26, 3)) ∧ (decode cX9_addedSum 16 = .ok (.bipush 25, 2)) ∧ (decode cX9_addedSum 18 = .ok (.iload_n 1, 1)) ∧ (decode cX9_addedSum 19 = .ok (.imul, 1)) ∧ (decode cX9_addedSum 20 = .ok (.iconst 4, 1)) ∧ (decode cX9_addedSum 21 = .ok (.iadd, 1)) ∧ (decode cX9_addedSum 22 = .ok (.iconst 4, 1)) := by decide +kernel
theorem dX9_addedSum_12 : decode cX9_addedSum 12 = .ok (.aload_n 0, 1) := eX9_addedSum_12.1
theorem dX9_addedSum_13 : decode cX9_addedSum 13 = .ok (.getfield 26, 3) := eX9_addedSum_12.2.1
theorem dX9_addedSum_16 : decode cX9_addedSum 16 = .ok (.bipush 25, 2) := eX9_addedSum_12.2.2.1
theorem dX9_addedSum_18 : decode cX9_addedSum 18 = .ok (.iload_n 1, 1) := eX9_addedSum_12.2.2.2.1
theorem dX9_addedSum_19 : decode cX9_addedSum 19 = .ok (.imul, 1) := eX9_addedSum_12.2.2.2.2.1
theorem dX9_addedSum_20 : decode cX9_addedSum 20 = .ok (.iconst 4, 1) := eX9_addedSum_12.2.2.2.2.2.1
theorem dX9_addedSum_21 : decode cX9_addedSum 21 = .ok (.iadd, 1) := eX9_addedSum_12.2.2.2.2.2.2.1
theorem dX9_addedSum_22 : decode cX9_addedSum 22 = .ok (.iconst 4, 1) := eX9_addedSum_12.2.2.2.2.2.2.2
theorem eX9_addedSum_23 : (decode cX9_addedSum 23 = .ok (.iload_n 2, 1)) ∧ (decode cX9_addedSum 24 = .ok (.imul, 1)) ∧ (decode cX9_addedSum 25 = .ok (.iadd, 1)) ∧ (decode cX9_addedSum 26 = .ok (.iload 4, 2)) ∧ (decode cX9_addedSum 28 = .ok (.iadd, 1)) ∧ (decode cX9_addedSum 29 = .ok (.iaload, 1)) ∧ (decode cX9_addedSum 30 = .ok (.iadd, 1)) ∧ (decode cX9_addedSum 31 = .ok (.istore_n 3, 1)) := by decide +kernel
theorem dX9_addedSum_23 : decode cX9_addedSum 23 = .ok (.iload_n 2, 1) := eX9_addedSum_23.1
theorem dX9_addedSum_24 : decode cX9_addedSum 24 = .ok (.imul, 1) := eX9_addedSum_23.2.1
theorem dX9_addedSum_25 : decode cX9_addedSum 25 = .ok (.iadd, 1) := eX9_addedSum_23.2.2.1
theorem dX9_addedSum_26 : decode cX9_addedSum 26 = .ok (.iload 4, 2) := eX9_addedSum_23.2.2.2.1
theorem dX9_addedSum_28 : decode cX9_addedSum 28 = .ok (.iadd, 1) := eX9_addedSum_23.2.2.2.2.1
theorem dX9_addedSum_29 : decode cX9_addedSum 29 = .ok (.iaload, 1) := eX9_addedSum_23.2.2.2.2.2.1
theorem dX9_addedSum_30 : decode cX9_addedSum 30 = .ok (.iadd, 1) := eX9_addedSum_23.2.2.2.2.2.2.1
theorem dX9_addedSum_31 : decode cX9_addedSum 31 = .ok (.istore_n 3, 1) := eX9_addedSum_23.2.2.2.2.2.2.2
theorem eX9_addedSum_32 : (decode cX9_addedSum 32 = .ok (.iinc 4 1, 3)) ∧ (decode cX9_addedSum 35 = .ok (.goto (-30), 3)) ∧ (decode cX9_addedSum 38 = .ok (.iload_n 3, 1)) ∧ (decode cX9_addedSum 39 = .ok (.ireturn, 1)) := by decide +kernel
theorem dX9_addedSum_32 : decode cX9_addedSum 32 = .ok (.iinc 4 1, 3) := eX9_addedSum_32.1
theorem dX9_addedSum_35 : decode cX9_addedSum 35 = .ok (.goto (-30), 3) := eX9_addedSum_32.2.1
theorem dX9_addedSum_38 : decode cX9_addedSum 38 = .ok (.iload_n 3, 1) := eX9_addedSum_32.2.2.1
theorem dX9_addedSum_39 : decode cX9_addedSum 39 = .ok (.ireturn, 1) := eX9_addedSum_32.2.2.2
theorem eX9_isEven_0 : (decode cX9_isEven 0 = .ok (.iconst 1, 1)) ∧ (decode cX9_isEven 1 = .ok (.istore_n 2, 1)) ∧ (decode cX9_isEven 2 = .ok (.iconst 1, 1)) ∧ (decode cX9_isEven 3 = .ok (.istore_n 3, 1)) ∧ (decode cX9_isEven 4 = .ok (.iload_n 3, 1)) ∧ (decode cX9_isEven 5 = .ok (.aload_n 0, 1)) ∧ (decode cX9_isEven 6 = .ok (.getfield 23, 3)) ∧ (decode cX9_isEven 9 = .ok (.iload_n 1, 1)) := by decide +kernel
theorem dX9_isEven_0 : decode cX9_isEven 0 = .ok (.iconst 1, 1) := eX9_isEven_0.1
theorem dX9_isEven_1 : decode cX9_isEven 1 = .ok (.istore_n 2, 1) := eX9_isEven_0.2.1
theorem dX9_isEven_2 : decode cX9_isEven 2 = .ok (.iconst 1, 1) := eX9_isEven_0.2.2.1
theorem dX9_isEven_3 : decode cX9_isEven 3 = .ok (.istore_n 3, 1) := eX9_isEven_0.2.2.2.1
theorem dX9_isEven_4 : decode cX9_isEven 4 = .ok (.iload_n 3, 1) := eX9_isEven_0.2.2.2.2.1
theorem dX9_isEven_5 : decode cX9_isEven 5 = .ok (.aload_n 0, 1) := eX9_isEven_0.2.2.2.2.2.1
theorem dX9_isEven_6 : decode cX9_isEven 6 = .ok (.getfield 23, 3) := eX9_isEven_0.2.2.2.2.2.2.1
theorem dX9_isEven_9 : decode cX9_isEven 9 = .ok (.iload_n 1, 1) := eX9_isEven_0.2.2.2.2.2.2.2
theorem eX9_isEven_10 : (decode cX9_isEven 10 = .ok (.iaload, 1)) ∧ (decode cX9_isEven 11 = .ok (.if_icmp .ge 34, 3)) ∧ (decode cX9_isEven 14 = .ok (.iload_n 2, 1)) ∧ (decode cX9_isEven 15 = .ok (.ifCond .eq 22, 3)) ∧ (decode cX9_isEven 18 = .ok (.aload_n 0, 1)) ∧ (decode cX9_isEven 19 = .ok (.iload_n 1, 1)) ∧ (decode cX9_isEven 20 = .ok (.iload_n 3, 1)) ∧ (decode cX9_isEven 21 = .ok (.invokevirtual 107, 3)) := by decide +kernel
theorem dX9_isEven_10 : decode cX9_isEven 10 = .ok (.iaload, 1) := eX9_isEven_10.1
theorem dX9_isEven_11 : decode cX9_isEven 11 = .ok (.if_icmp .ge 34, 3) := eX9_isEven_10.2.1
theorem dX9_isEven_14 : decode cX9_isEven 14 = .ok (.iload_n 2, 1) := eX9_isEven_10.2.2.1
theorem dX9_isEven_15 : decode cX9_isEven 15 = .ok (.ifCond .eq 22, 3) := eX9_isEven_10.2.2.2.1
theorem dX9_isEven_18 : decode cX9_isEven 18 = .ok (.aload_n 0, 1) := eX9_isEven_10.2.2.2.2.1
theorem dX9_isEven_19 : decode cX9_isEven 19 = .ok (.iload_n 1, 1) := eX9_isEven_10.2.2.2.2.2.1
theorem dX9_isEven_20 : decode cX9_isEven 20 = .ok (.iload_n 3, 1) := eX9_isEven_10.2.2.2.2.2.2.1
theorem dX9_isEven_21 : decode cX9_isEven 21 = .ok (.invokevirtual 107, 3) := eX9_isEven_10.2.2.2.2.2.2.2
theorem eX9_isEven_24 : (decode cX9_isEven 24 = .ok (.aload_n 0, 1)) ∧ (decode cX9_isEven 25 = .ok (.iload_n 1, 1)) ∧ (decode cX9_isEven 26 = .ok (.iconst 0, 1)) ∧ (decode cX9_isEven 27 = .ok (.invokevirtual 107, 3)) ∧ (decode cX9_isEven 30 = .ok (.if_icmp .ne 7, 3)) ∧ (decode cX9_isEven 33 = .ok (.iconst 1, 1)) ∧ (decode cX9_isEven 34 = .ok (.goto 4, 3)) ∧ (decode cX9_isEven 37 = .ok (.iconst 0, 1)) := by decide +kernel
theorem dX9_isEven_24 : decode cX9_isEven 24 = .ok (.aload_n 0, 1) := eX9_isEven_24.1
theorem dX9_isEven_25 : decode cX9_isEven 25 = .ok (.iload_n 1, 1) := eX9_isEven_24.2.1
theorem dX9_isEven_26 : decode cX9_isEven 26 = .ok (.iconst 0, 1) := eX9_isEven_24.2.2.1
theorem dX9_isEven_27 : decode cX9_isEven 27 = .ok (.invokevirtual 107, 3) := eX9_isEven_24.2.2.2.1
theorem dX9_isEven_30 : decode cX9_isEven 30 = .ok (.if_icmp .ne 7, 3) := eX9_isEven_24.2.2.2.2.1
theorem dX9_isEven_33 : decode cX9_isEven 33 = .ok (.iconst 1, 1) := eX9_isEven_24.2.2.2.2.2.1
theorem dX9_isEven_34 : decode cX9_isEven 34 = .ok (.goto 4, 3) := eX9_isEven_24.2.2.2.2.2.2.1
theorem dX9_isEven_37 : decode cX9_isEven 37 = .ok (.iconst 0, 1) := eX9_isEven_24.2.2.2.2.2.2.2
theorem eX9_isEven_38 : (decode cX9_isEven 38 = .ok (.istore_n 2, 1)) ∧ (decode cX9_isEven 39 = .ok (.iinc 3 1, 3)) ∧ (decode cX9_isEven 42 = .ok (.goto (-38), 3)) ∧ (decode cX9_isEven 45 = .ok (.iload_n 2, 1)) ∧ (decode cX9_isEven 46 = .ok (.ireturn, 1)) := by decide +kernel
theorem dX9_isEven_38 : decode cX9_isEven 38 = .ok (.istore_n 2, 1) := eX9_isEven_38.1
theorem dX9_isEven_39 : decode cX9_isEven 39 = .ok (.iinc 3 1, 3) := eX9_isEven_38.2.1
theorem dX9_isEven_42 : decode cX9_isEven 42 = .ok (.goto (-38), 3) := eX9_isEven_38.2.2.1
theorem dX9_isEven_45 : decode cX9_isEven 45 = .ok (.iload_n 2, 1) := eX9_isEven_38.2.2.2.1
theorem dX9_isEven_46 : decode cX9_isEven 46 = .ok (.ireturn, 1) := eX9_isEven_38.2.2.2.2
theorem eX9_isLike_0 : (decode cX9_isLike 0 = .ok (.aload_n 0, 1)) ∧ (decode cX9_isLike 1 = .ok (.iload_n 1, 1)) ∧ (decode cX9_isLike 2 = .ok (.invokevirtual 110, 3)) ∧ (decode cX9_isLike 5 = .ok (.ifCond .eq 16, 3)) ∧ (decode cX9_isLike 8 = .ok (.aload_n 0, 1)) ∧ (decode cX9_isLike 9 = .ok (.iload_n 1, 1)) ∧ (decode cX9_isLike 10 = .ok (.iconst 0, 1)) ∧ (decode cX9_isLike 11 = .ok (.invokevirtual 107, 3)) := by decide +kernel
theorem dX9_isLike_0 : decode cX9_isLike 0 = .ok (.aload_n 0, 1) := eX9_isLike_0.1
theorem dX9_isLike_1 : decode cX9_isLike 1 = .ok (.iload_n 1, 1) := eX9_isLike_0.2.1
theorem dX9_isLike_2 : decode cX9_isLike 2 = .ok (.invokevirtual 110, 3) := eX9_isLike_0.2.2.1
theorem dX9_isLike_5 : decode cX9_isLike 5 = .ok (.ifCond .eq 16, 3) := eX9_isLike_0.2.2.2.1
theorem dX9_isLike_8 : decode cX9_isLike 8 = .ok (.aload_n 0, 1) := eX9_isLike_0.2.2.2.2.1
theorem dX9_isLike_9 : decode cX9_isLike 9 = .ok (.iload_n 1, 1) := eX9_isLike_0.2.2.2.2.2.1
theorem dX9_isLike_10 : decode cX9_isLike 10 = .ok (.iconst 0, 1) := eX9_isLike_0.2.2.2.2.2.2.1
theorem dX9_isLike_11 : decode cX9_isLike 11 = .ok (.invokevirtual 107, 3) := eX9_isLike_0.2.2.2.2.2.2.2
theorem eX9_isLike_14 : (decode cX9_isLike 14 = .ok (.ifCond .lt 7, 3)) ∧ (decode cX9_isLike 17 = .ok (.iconst 1, 1)) ∧ (decode cX9_isLike 18 = .ok (.goto 4, 3)) ∧ (decode cX9_isLike 21 = .ok (.iconst 0, 1)) ∧ (decode cX9_isLike 22 = .ok (.istore_n 2, 1)) ∧ (decode cX9_isLike 23 = .ok (.iconst 0, 1)) ∧ (decode cX9_isLike 24 = .ok (.istore_n 3, 1)) ∧ (decode cX9_isLike 25 = .ok (.iload_n 3, 1)) := by decide +kernel
theorem dX9_isLike_14 : decode cX9_isLike 14 = .ok (.ifCond .lt 7, 3) := eX9_isLike_14.1
theorem dX9_isLike_17 : decode cX9_isLike 17 = .ok (.iconst 1, 1) := eX9_isLike_14.2.1
theorem dX9_isLike_18 : decode cX9_isLike 18 = .ok (.goto 4, 3) := eX9_isLike_14.2.2.1
theorem dX9_isLike_21 : decode cX9_isLike 21 = .ok (.iconst 0, 1) := eX9_isLike_14.2.2.2.1
theorem dX9_isLike_22 : decode cX9_isLike 22 = .ok (.istore_n 2, 1) := eX9_isLike_14.2.2.2.2.1
theorem dX9_isLike_23 : decode cX9_isLike 23 = .ok (.iconst 0, 1) := eX9_isLike_14.2.2.2.2.2.1
theorem dX9_isLike_24 : decode cX9_isLike 24 = .ok (.istore_n 3, 1) := eX9_isLike_14.2.2.2.2.2.2.1
theorem dX9_isLike_25 : decode cX9_isLike 25 = .ok (.iload_n 3, 1) := eX9_isLike_14.2.2.2.2.2.2.2
theorem eX9_isLike_26 : (decode cX9_isLike 26 = .ok (.iconst 4, 1)) ∧ (decode cX9_isLike 27 = .ok (.if_icmp .ge 61, 3)) ∧ (decode cX9_isLike 30 = .ok (.iconst 0, 1)) ∧ (decode cX9_isLike 31 = .ok (.istore 4, 2)) ∧ (decode cX9_isLike 33 = .ok (.iload 4, 2)) ∧ (decode cX9_isLike 35 = .ok (.iconst 4, 1)) ∧ (decode cX9_isLike 36 = .ok (.if_icmp .ge 46, 3)) ∧ (decode cX9_isLike 39 = .ok (.iload_n 2, 1)) := by decide +kernel
theorem dX9_isLike_26 : decode cX9_isLike 26 = .ok (.iconst 4, 1) := eX9_isLike_26.1
theorem dX9_isLike_27 : decode cX9_isLike 27 = .ok (.if_icmp .ge 61, 3) := eX9_isLike_26.2.1
theorem dX9_isLike_30 : decode cX9_isLike 30 = .ok (.iconst 0, 1) := eX9_isLike_26.2.2.1
theorem dX9_isLike_31 : decode cX9_isLike 31 = .ok (.istore 4, 2) := eX9_isLike_26.2.2.2.1
theorem dX9_isLike_33 : decode cX9_isLike 33 = .ok (.iload 4, 2) := eX9_isLike_26.2.2.2.2.1
theorem dX9_isLike_35 : decode cX9_isLike 35 = .ok (.iconst 4, 1) := eX9_isLike_26.2.2.2.2.2.1
theorem dX9_isLike_36 : decode cX9_isLike 36 = .ok (.if_icmp .ge 46, 3) := eX9_isLike_26.2.2.2.2.2.2.1
theorem dX9_isLike_39 : decode cX9_isLike 39 = .ok (.iload_n 2, 1) := eX9_isLike_26.2.2.2.2.2.2.2
theorem eX9_isLike_40 : (decode cX9_isLike 40 = .ok (.ifCond .eq 34, 3)) ∧ (decode cX9_isLike 43 = .ok (.iload_n 3, 1)) ∧ (decode cX9_isLike 44 = .ok (.iload 4, 2)) ∧ (decode cX9_isLike 46 = .ok (.if_icmp .eq 24, 3)) ∧ (decode cX9_isLike 49 = .ok (.aload_n 0, 1)) ∧ (decode cX9_isLike 50 = .ok (.getfield 26, 3)) ∧ (decode cX9_isLike 53 = .ok (.bipush 25, 2)) ∧ (decode cX9_isLike 55 = .ok (.iload_n 1, 1)) := by decide +kernel
theorem dX9_isLike_40 : decode cX9_isLike 40 = .ok (.ifCond .eq 34, 3) := eX9_isLike_40.1
theorem dX9_isLike_43 : decode cX9_isLike 43 = .ok (.iload_n 3, 1) := eX9_isLike_40.2.1
theorem dX9_isLike_44 : decode cX9_isLike 44 = .ok (.iload 4, 2) := eX9_isLike_40.2.2.1
theorem dX9_isLike_46 : decode cX9_isLike 46 = .ok (.if_icmp .eq 24, 3) := eX9_isLike_40.2.2.2.1
theorem dX9_isLike_49 : decode cX9_isLike 49 = .ok (.aload_n 0, 1) := eX9_isLike_40.2.2.2.2.1
theorem dX9_isLike_50 : decode cX9_isLike 50 = .ok (.getfield 26, 3) := eX9_isLike_40.2.2.2.2.2.1
theorem dX9_isLike_53 : decode cX9_isLike 53 = .ok (.bipush 25, 2) := eX9_isLike_40.2.2.2.2.2.2.1
theorem dX9_isLike_55 : decode cX9_isLike 55 = .ok (.iload_n 1, 1) := eX9_isLike_40.2.2.2.2.2.2.2
theorem eX9_isLike_56 : (decode cX9_isLike 56 = .ok (.imul, 1)) ∧ (decode cX9_isLike 57 = .ok (.iconst 4, 1)) ∧ (decode cX9_isLike 58 = .ok (.iadd, 1)) ∧ (decode cX9_isLike 59 = .ok (.iconst 4, 1)) ∧ (decode cX9_isLike 60 = .ok (.iload_n 3, 1)) ∧ (decode cX9_isLike 61 = .ok (.imul, 1)) ∧ (decode cX9_isLike 62 = .ok (.iadd, 1)) ∧ (decode cX9_isLike 63 = .ok (.iload 4, 2)) := by decide +kernel
theorem dX9_isLike_56 : decode cX9_isLike 56 = .ok (.imul, 1) := eX9_isLike_56.1
theorem dX9_isLike_57 : decode cX9_isLike 57 = .ok (.iconst 4, 1) := eX9_isLike_56.2.1
theorem dX9_isLike_58 : decode cX9_isLike 58 = .ok (.iadd, 1) := eX9_isLike_56.2.2.1
theorem dX9_isLike_59 : decode cX9_isLike 59 = .ok (.iconst 4, 1) := eX9_isLike_56.2.2.2.1
theorem dX9_isLike_60 : decode cX9_isLike 60 = .ok (.iload_n 3, 1) := eX9_isLike_56.2.2.2.2.1
theorem dX9_isLike_61 : decode cX9_isLike 61 = .ok (.imul, 1) := eX9_isLike_56.2.2.2.2.2.1
theorem dX9_isLike_62 : decode cX9_isLike 62 = .ok (.iadd, 1) := eX9_isLike_56.2.2.2.2.2.2.1
theorem dX9_isLike_63 : decode cX9_isLike 63 = .ok (.iload 4, 2) := eX9_isLike_56.2.2.2.2.2.2.2
theorem eX9_isLike_65 : (decode cX9_isLike 65 = .ok (.iadd, 1)) ∧ (decode cX9_isLike 66 = .ok (.iaload, 1)) ∧ (decode cX9_isLike 67 = .ok (.ifCond .ne 7, 3)) ∧ (decode cX9_isLike 70 = .ok (.iconst 1, 1)) ∧ (decode cX9_isLike 71 = .ok (.goto 4, 3)) ∧ (decode cX9_isLike 74 = .ok (.iconst 0, 1)) ∧ (decode cX9_isLike 75 = .ok (.istore_n 2, 1)) ∧ (decode cX9_isLike 76 = .ok (.iinc 4 1, 3)) := by decide +kernel
theorem dX9_isLike_65 : decode cX9_isLike 65 = .ok (.iadd, 1) := eX9_isLike_65.1
theorem dX9_isLike_66 : decode cX9_isLike 66 = .ok (.iaload, 1) := eX9_isLike_65.2.1
theorem dX9_isLike_67 : decode cX9_isLike 67 = .ok (.ifCond .ne 7, 3) := eX9_isLike_65.2.2.1
theorem dX9_isLike_70 : decode cX9_isLike 70 = .ok (.iconst 1, 1) := eX9_isLike_65.2.2.2.1
theorem dX9_isLike_71 : decode cX9_isLike 71 = .ok (.goto 4, 3) := eX9_isLike_65.2.2.2.2.1
theorem dX9_isLike_74 : decode cX9_isLike 74 = .ok (.iconst 0, 1) := eX9_isLike_65.2.2.2.2.2.1
theorem dX9_isLike_75 : decode cX9_isLike 75 = .ok (.istore_n 2, 1) := eX9_isLike_65.2.2.2.2.2.2.1
theorem dX9_isLike_76 : decode cX9_isLike 76 = .ok (.iinc 4 1, 3) := eX9_isLike_65.2.2.2.2.2.2.2
theorem eX9_isLike_79 : (decode cX9_isLike 79 = .ok (.goto (-46), 3)) ∧ (decode cX9_isLike 82 = .ok (.iinc 3 1, 3)) ∧ (decode cX9_isLike 85 = .ok (.goto (-60), 3)) ∧ (decode cX9_isLike 88 = .ok (.iload_n 2, 1)) ∧ (decode cX9_isLike 89 = .ok (.ireturn, 1)) := by decide +kernel
theorem dX9_isLike_79 : decode cX9_isLike 79 = .ok (.goto (-46), 3) := eX9_isLike_79.1
theorem dX9_isLike_82 : decode cX9_isLike 82 = .ok (.iinc 3 1, 3) := eX9_isLike_79.2.1
theorem dX9_isLike_85 : decode cX9_isLike 85 = .ok (.goto (-60), 3) := eX9_isLike_79.2.2.1
theorem dX9_isLike_88 : decode cX9_isLike 88 = .ok (.iload_n 2, 1) := eX9_isLike_79.2.2.2.1
theorem dX9_isLike_89 : decode cX9_isLike 89 = .ok (.ireturn, 1) := eX9_isLike_79.2.2.2.2
theorem eX9_about_0 : (decode cX9_about 0 = .ok (.aload_n 0, 1)) ∧ (decode cX9_about 1 = .ok (.iload_n 1, 1)) ∧ (decode cX9_about 2 = .ok (.invokevirtual 89, 3)) ∧ (decode cX9_about 5 = .ok (.ifCond .eq 21, 3)) ∧ (decode cX9_about 8 = .ok (.iload_n 2, 1)) ∧ (decode cX9_about 9 = .ok (.i2l, 1)) ∧ (decode cX9_about 10 = .ok (.lconst 0, 1)) ∧ (decode cX9_about 11 = .ok (.iconst 5, 1)) := by decide +kernel
theorem dX9_about_0 : decode cX9_about 0 = .ok (.aload_n 0, 1) := eX9_about_0.1
theorem dX9_about_1 : decode cX9_about 1 = .ok (.iload_n 1, 1) := eX9_about_0.2.1
theorem dX9_about_2 : decode cX9_about 2 = .ok (.invokevirtual 89, 3) := eX9_about_0.2.2.1
theorem dX9_about_5 : decode cX9_about 5 = .ok (.ifCond .eq 21, 3) := eX9_about_0.2.2.2.1
theorem dX9_about_8 : decode cX9_about 8 = .ok (.iload_n 2, 1) := eX9_about_0.2.2.2.2.1
theorem dX9_about_9 : decode cX9_about 9 = .ok (.i2l, 1) := eX9_about_0.2.2.2.2.2.1
theorem dX9_about_10 : decode cX9_about 10 = .ok (.lconst 0, 1) := eX9_about_0.2.2.2.2.2.2.1
theorem dX9_about_11 : decode cX9_about 11 = .ok (.iconst 5, 1) := eX9_about_0.2.2.2.2.2.2.2
theorem eX9_about_12 : (decode cX9_about 12 = .ok (.aload_n 0, 1)) ∧ (decode cX9_about 13 = .ok (.getfield 23, 3)) ∧ (decode cX9_about 16 = .ok (.iload_n 1, 1)) ∧ (decode cX9_about 17 = .ok (.iaload, 1)) ∧ (decode cX9_about 18 = .ok (.iadd, 1)) ∧ (decode cX9_about 19 = .ok (.i2l, 1)) ∧ (decode cX9_about 20 = .ok (.invokestatic 62, 3)) ∧ (decode cX9_about 23 = .ok (.ifCond .ne 7, 3)) := by decide +kernel
theorem dX9_about_12 : decode cX9_about 12 = .ok (.aload_n 0, 1) := eX9_about_12.1
theorem dX9_about_13 : decode cX9_about 13 = .ok (.getfield 23, 3) := eX9_about_12.2.1
theorem dX9_about_16 : decode cX9_about 16 = .ok (.iload_n 1, 1) := eX9_about_12.2.2.1
theorem dX9_about_17 : decode cX9_about 17 = .ok (.iaload, 1) := eX9_about_12.2.2.2.1
theorem dX9_about_18 : decode cX9_about 18 = .ok (.iadd, 1) := eX9_about_12.2.2.2.2.1
theorem dX9_about_19 : decode cX9_about 19 = .ok (.i2l, 1) := eX9_about_12.2.2.2.2.2.1
theorem dX9_about_20 : decode cX9_about 20 = .ok (.invokestatic 62, 3) := eX9_about_12.2.2.2.2.2.2.1
theorem dX9_about_23 : decode cX9_about 23 = .ok (.ifCond .ne 7, 3) := eX9_about_12.2.2.2.2.2.2.2
theorem eX9_about_26 : (decode cX9_about 26 = .ok (.sipush (-1000), 3)) ∧ (decode cX9_about 29 = .ok (.ireturn, 1)) ∧ (decode cX9_about 30 = .ok (.iload_n 2, 1)) ∧ (decode cX9_about 31 = .ok (.tableswitch 110 0 5 #[37, 44, 50, 63, 77, 96], 37)) ∧ (decode cX9_about 68 = .ok (.aload_n 0, 1)) ∧ (decode cX9_about 69 = .ok (.getfield 23, 3)) ∧ (decode cX9_about 72 = .ok (.iload_n 1, 1)) ∧ (decode cX9_about 73 = .ok (.iaload, 1)) := by decide +kernel
theorem dX9_about_26 : decode cX9_about 26 = .ok (.sipush (-1000), 3) := eX9_about_26.1
theorem dX9_about_29 : decode cX9_about 29 = .ok (.ireturn, 1) := eX9_about_26.2.1
theorem dX9_about_30 : decode cX9_about 30 = .ok (.iload_n 2, 1) := eX9_about_26.2.2.1
theorem dX9_about_31 : decode cX9_about 31 = .ok (.tableswitch 110 0 5 #[37, 44, 50, 63, 77, 96], 37) := eX9_about_26.2.2.2.1
theorem dX9_about_68 : decode cX9_about 68 = .ok (.aload_n 0, 1) := eX9_about_26.2.2.2.2.1
theorem dX9_about_69 : decode cX9_about 69 = .ok (.getfield 23, 3) := eX9_about_26.2.2.2.2.2.1
theorem dX9_about_72 : decode cX9_about 72 = .ok (.iload_n 1, 1) := eX9_about_26.2.2.2.2.2.2.1
theorem dX9_about_73 : decode cX9_about 73 = .ok (.iaload, 1) := eX9_about_26.2.2.2.2.2.2.2
theorem eX9_about_74 : (decode cX9_about 74 = .ok (.ireturn, 1)) ∧ (decode cX9_about 75 = .ok (.aload_n 0, 1)) ∧ (decode cX9_about 76 = .ok (.iload_n 1, 1)) ∧ (decode cX9_about 77 = .ok (.invokevirtual 113, 3)) ∧ (decode cX9_about 80 = .ok (.ireturn, 1)) ∧ (decode cX9_about 81 = .ok (.aload_n 0, 1)) ∧ (decode cX9_about 82 = .ok (.getfield 26, 3)) ∧ (decode cX9_about 85 = .ok (.bipush 25, 2)) := by decide +kernel
theorem dX9_about_74 : decode cX9_about 74 = .ok (.ireturn, 1) := eX9_about_74.1
theorem dX9_about_75 : decode cX9_about 75 = .ok (.aload_n 0, 1) := eX9_about_74.2.1
theorem dX9_about_76 : decode cX9_about 76 = .ok (.iload_n 1, 1) := eX9_about_74.2.2.1
theorem dX9_about_77 : decode cX9_about 77 = .ok (.invokevirtual 113, 3) := eX9_about_74.2.2.2.1
theorem dX9_about_80 : decode cX9_about 80 = .ok (.ireturn, 1) := eX9_about_74.2.2.2.2.1
theorem dX9_about_81 : decode cX9_about 81 = .ok (.aload_n 0, 1) := eX9_about_74.2.2.2.2.2.1
theorem dX9_about_82 : decode cX9_about 82 = .ok (.getfield 26, 3) := eX9_about_74.2.2.2.2.2.2.1
theorem dX9_about_85 : decode cX9_about 85 = .ok (.bipush 25, 2) := eX9_about_74.2.2.2.2.2.2.2
theorem eX9_about_87 : (decode cX9_about 87 = .ok (.iload_n 1, 1)) ∧ (decode cX9_about 88 = .ok (.imul, 1)) ∧ (decode cX9_about 89 = .ok (.bipush 24, 2)) ∧ (decode cX9_about 91 = .ok (.iadd, 1)) ∧ (decode cX9_about 92 = .ok (.iaload, 1)) ∧ (decode cX9_about 93 = .ok (.ireturn, 1)) ∧ (decode cX9_about 94 = .ok (.aload_n 0, 1)) ∧ (decode cX9_about 95 = .ok (.iload_n 1, 1)) := by decide +kernel
theorem dX9_about_87 : decode cX9_about 87 = .ok (.iload_n 1, 1) := eX9_about_87.1
theorem dX9_about_88 : decode cX9_about 88 = .ok (.imul, 1) := eX9_about_87.2.1
theorem dX9_about_89 : decode cX9_about 89 = .ok (.bipush 24, 2) := eX9_about_87.2.2.1
theorem dX9_about_91 : decode cX9_about 91 = .ok (.iadd, 1) := eX9_about_87.2.2.2.1
theorem dX9_about_92 : decode cX9_about 92 = .ok (.iaload, 1) := eX9_about_87.2.2.2.2.1
theorem dX9_about_93 : decode cX9_about 93 = .ok (.ireturn, 1) := eX9_about_87.2.2.2.2.2.1
theorem dX9_about_94 : decode cX9_about 94 = .ok (.aload_n 0, 1) := eX9_about_87.2.2.2.2.2.2.1
theorem dX9_about_95 : decode cX9_about 95 = .ok (.iload_n 1, 1) := eX9_about_87.2.2.2.2.2.2.2
theorem eX9_about_96 : (decode cX9_about 96 = .ok (.invokevirtual 110, 3)) ∧ (decode cX9_about 99 = .ok (.ifCond .eq 7, 3)) ∧ (decode cX9_about 102 = .ok (.iconst 1, 1)) ∧ (decode cX9_about 103 = .ok (.goto 4, 3)) ∧ (decode cX9_about 106 = .ok (.iconst 0, 1)) ∧ (decode cX9_about 107 = .ok (.ireturn, 1)) ∧ (decode cX9_about 108 = .ok (.aload_n 0, 1)) ∧ (decode cX9_about 109 = .ok (.iload_n 1, 1)) := by decide +kernel
theorem dX9_about_96 : decode cX9_about 96 = .ok (.invokevirtual 110, 3) := eX9_about_96.1
theorem dX9_about_99 : decode cX9_about 99 = .ok (.ifCond .eq 7, 3) := eX9_about_96.2.1
theorem dX9_about_102 : decode cX9_about 102 = .ok (.iconst 1, 1) := eX9_about_96.2.2.1
theorem dX9_about_103 : decode cX9_about 103 = .ok (.goto 4, 3) := eX9_about_96.2.2.2.1
theorem dX9_about_106 : decode cX9_about 106 = .ok (.iconst 0, 1) := eX9_about_96.2.2.2.2.1
theorem dX9_about_107 : decode cX9_about 107 = .ok (.ireturn, 1) := eX9_about_96.2.2.2.2.2.1
theorem dX9_about_108 : decode cX9_about 108 = .ok (.aload_n 0, 1) := eX9_about_96.2.2.2.2.2.2.1
theorem dX9_about_109 : decode cX9_about 109 = .ok (.iload_n 1, 1) := eX9_about_96.2.2.2.2.2.2.2
theorem eX9_about_110 : (decode cX9_about 110 = .ok (.invokevirtual 110, 3)) ∧ (decode cX9_about 113 = .ok (.ifCond .eq 12, 3)) ∧ (decode cX9_about 116 = .ok (.aload_n 0, 1)) ∧ (decode cX9_about 117 = .ok (.iload_n 1, 1)) ∧ (decode cX9_about 118 = .ok (.iconst 0, 1)) ∧ (decode cX9_about 119 = .ok (.invokevirtual 107, 3)) ∧ (decode cX9_about 122 = .ok (.goto 4, 3)) ∧ (decode cX9_about 125 = .ok (.iconst 0, 1)) := by decide +kernel
theorem dX9_about_110 : decode cX9_about 110 = .ok (.invokevirtual 110, 3) := eX9_about_110.1
theorem dX9_about_113 : decode cX9_about 113 = .ok (.ifCond .eq 12, 3) := eX9_about_110.2.1
theorem dX9_about_116 : decode cX9_about 116 = .ok (.aload_n 0, 1) := eX9_about_110.2.2.1
theorem dX9_about_117 : decode cX9_about 117 = .ok (.iload_n 1, 1) := eX9_about_110.2.2.2.1
theorem dX9_about_118 : decode cX9_about 118 = .ok (.iconst 0, 1) := eX9_about_110.2.2.2.2.1
theorem dX9_about_119 : decode cX9_about 119 = .ok (.invokevirtual 107, 3) := eX9_about_110.2.2.2.2.2.1
theorem dX9_about_122 : decode cX9_about 122 = .ok (.goto 4, 3) := eX9_about_110.2.2.2.2.2.2.1
theorem dX9_about_125 : decode cX9_about 125 = .ok (.iconst 0, 1) := eX9_about_110.2.2.2.2.2.2.2
theorem eX9_about_126 : (decode cX9_about 126 = .ok (.ireturn, 1)) ∧ (decode cX9_about 127 = .ok (.aload_n 0, 1)) ∧ (decode cX9_about 128 = .ok (.iload_n 1, 1)) ∧ (decode cX9_about 129 = .ok (.invokevirtual 117, 3)) ∧ (decode cX9_about 132 = .ok (.ifCond .eq 7, 3)) ∧ (decode cX9_about 135 = .ok (.iconst 1, 1)) ∧ (decode cX9_about 136 = .ok (.goto 4, 3)) ∧ (decode cX9_about 139 = .ok (.iconst 0, 1)) := by decide +kernel
theorem dX9_about_126 : decode cX9_about 126 = .ok (.ireturn, 1) := eX9_about_126.1
theorem dX9_about_127 : decode cX9_about 127 = .ok (.aload_n 0, 1) := eX9_about_126.2.1
theorem dX9_about_128 : decode cX9_about 128 = .ok (.iload_n 1, 1) := eX9_about_126.2.2.1
theorem dX9_about_129 : decode cX9_about 129 = .ok (.invokevirtual 117, 3) := eX9_about_126.2.2.2.1
theorem dX9_about_132 : decode cX9_about 132 = .ok (.ifCond .eq 7, 3) := eX9_about_126.2.2.2.2.1
theorem dX9_about_135 : decode cX9_about 135 = .ok (.iconst 1, 1) := eX9_about_126.2.2.2.2.2.1
theorem dX9_about_136 : decode cX9_about 136 = .ok (.goto 4, 3) := eX9_about_126.2.2.2.2.2.2.1
theorem dX9_about_139 : decode cX9_about 139 = .ok (.iconst 0, 1) := eX9_about_126.2.2.2.2.2.2.2
theorem eX9_about_140 : (decode cX9_about 140 = .ok (.ireturn, 1)) ∧ (decode cX9_about 141 = .ok (.aload_n 0, 1)) ∧ (decode cX9_about 142 = .ok (.getfield 26, 3)) ∧ (decode cX9_about 145 = .ok (.bipush 25, 2)) ∧ (decode cX9_about 147 = .ok (.iload_n 1, 1)) ∧ (decode cX9_about 148 = .ok (.imul, 1)) ∧ (decode cX9_about 149 = .ok (.iload_n 2, 1)) ∧ (decode cX9_about 150 = .ok (.iadd, 1)) := by decide +kernel
theorem dX9_about_140 : decode cX9_about 140 = .ok (.ireturn, 1) := eX9_about_140.1
theorem dX9_about_141 : decode cX9_about 141 = .ok (.aload_n 0, 1) := eX9_about_140.2.1
theorem dX9_about_142 : decode cX9_about 142 = .ok (.getfield 26, 3) := eX9_about_140.2.2.1
theorem dX9_about_145 : decode cX9_about 145 = .ok (.bipush 25, 2) := eX9_about_140.2.2.2.1
theorem dX9_about_147 : decode cX9_about 147 = .ok (.iload_n 1, 1) := eX9_about_140.2.2.2.2.1
theorem dX9_about_148 : decode cX9_about 148 = .ok (.imul, 1) := eX9_about_140.2.2.2.2.2.1
theorem dX9_about_149 : decode cX9_about 149 = .ok (.iload_n 2, 1) := eX9_about_140.2.2.2.2.2.2.1
theorem dX9_about_150 : decode cX9_about 150 = .ok (.iadd, 1) := eX9_about_140.2.2.2.2.2.2.2
theorem eX9_about_151 : (decode cX9_about 151 = .ok (.bipush 6, 2)) ∧ (decode cX9_about 153 = .ok (.isub, 1)) ∧ (decode cX9_about 154 = .ok (.iaload, 1)) ∧ (decode cX9_about 155 = .ok (.ireturn, 1)) := by decide +kernel
theorem dX9_about_151 : decode cX9_about 151 = .ok (.bipush 6, 2) := eX9_about_151.1
theorem dX9_about_153 : decode cX9_about 153 = .ok (.isub, 1) := eX9_about_151.2.1
theorem dX9_about_154 : decode cX9_about 154 = .ok (.iaload, 1) := eX9_about_151.2.2.1
theorem dX9_about_155 : decode cX9_about 155 = .ok (.ireturn, 1) := eX9_about_151.2.2.2
theorem eX9_added_0 : (decode cX9_added 0 = .ok (.aload_n 0, 1)) ∧ (decode cX9_added 1 = .ok (.iload_n 1, 1)) ∧ (decode cX9_added 2 = .ok (.invokevirtual 89, 3)) ∧ (decode cX9_added 5 = .ok (.ifCond .eq 41, 3)) ∧ (decode cX9_added 8 = .ok (.aload_n 0, 1)) ∧ (decode cX9_added 9 = .ok (.iload_n 1, 1)) ∧ (decode cX9_added 10 = .ok (.iload_n 2, 1)) ∧ (decode cX9_added 11 = .ok (.invokevirtual 92, 3)) := by decide +kernel
theorem dX9_added_0 : decode cX9_added 0 = .ok (.aload_n 0, 1) := eX9_added_0.1
theorem dX9_added_1 : decode cX9_added 1 = .ok (.iload_n 1, 1) := eX9_added_0.2.1
theorem dX9_added_2 : decode cX9_added 2 = .ok (.invokevirtual 89, 3) := eX9_added_0.2.2.1
theorem dX9_added_5 : decode cX9_added 5 = .ok (.ifCond .eq 41, 3) := eX9_added_0.2.2.2.1
theorem dX9_added_8 : decode cX9_added 8 = .ok (.aload_n 0, 1) := eX9_added_0.2.2.2.2.1
theorem dX9_added_9 : decode cX9_added 9 = .ok (.iload_n 1, 1) := eX9_added_0.2.2.2.2.2.1
theorem dX9_added_10 : decode cX9_added 10 = .ok (.iload_n 2, 1) := eX9_added_0.2.2.2.2.2.2.1
theorem dX9_added_11 : decode cX9_added 11 = .ok (.invokevirtual 92, 3) := eX9_added_0.2.2.2.2.2.2.2
theorem eX9_added_14 : (decode cX9_added 14 = .ok (.ifCond .eq 32, 3)) ∧ (decode cX9_added 17 = .ok (.aload_n 0, 1)) ∧ (decode cX9_added 18 = .ok (.iload_n 1, 1)) ∧ (decode cX9_added 19 = .ok (.iload_n 3, 1)) ∧ (decode cX9_added 20 = .ok (.invokevirtual 92, 3)) ∧ (decode cX9_added 23 = .ok (.ifCond .eq 23, 3)) ∧ (decode cX9_added 26 = .ok (.aload_n 0, 1)) ∧ (decode cX9_added 27 = .ok (.getfield 26, 3)) := by decide +kernel
theorem dX9_added_14 : decode cX9_added 14 = .ok (.ifCond .eq 32, 3) := eX9_added_14.1
theorem dX9_added_17 : decode cX9_added 17 = .ok (.aload_n 0, 1) := eX9_added_14.2.1
theorem dX9_added_18 : decode cX9_added 18 = .ok (.iload_n 1, 1) := eX9_added_14.2.2.1
theorem dX9_added_19 : decode cX9_added 19 = .ok (.iload_n 3, 1) := eX9_added_14.2.2.2.1
theorem dX9_added_20 : decode cX9_added 20 = .ok (.invokevirtual 92, 3) := eX9_added_14.2.2.2.2.1
theorem dX9_added_23 : decode cX9_added 23 = .ok (.ifCond .eq 23, 3) := eX9_added_14.2.2.2.2.2.1
theorem dX9_added_26 : decode cX9_added 26 = .ok (.aload_n 0, 1) := eX9_added_14.2.2.2.2.2.2.1
theorem dX9_added_27 : decode cX9_added 27 = .ok (.getfield 26, 3) := eX9_added_14.2.2.2.2.2.2.2
theorem eX9_added_30 : (decode cX9_added 30 = .ok (.bipush 25, 2)) ∧ (decode cX9_added 32 = .ok (.iload_n 1, 1)) ∧ (decode cX9_added 33 = .ok (.imul, 1)) ∧ (decode cX9_added 34 = .ok (.iconst 4, 1)) ∧ (decode cX9_added 35 = .ok (.iadd, 1)) ∧ (decode cX9_added 36 = .ok (.iconst 4, 1)) ∧ (decode cX9_added 37 = .ok (.iload_n 2, 1)) ∧ (decode cX9_added 38 = .ok (.imul, 1)) := by decide +kernel
theorem dX9_added_30 : decode cX9_added 30 = .ok (.bipush 25, 2) := eX9_added_30.1
theorem dX9_added_32 : decode cX9_added 32 = .ok (.iload_n 1, 1) := eX9_added_30.2.1
theorem dX9_added_33 : decode cX9_added 33 = .ok (.imul, 1) := eX9_added_30.2.2.1
theorem dX9_added_34 : decode cX9_added 34 = .ok (.iconst 4, 1) := eX9_added_30.2.2.2.1
theorem dX9_added_35 : decode cX9_added 35 = .ok (.iadd, 1) := eX9_added_30.2.2.2.2.1
theorem dX9_added_36 : decode cX9_added 36 = .ok (.iconst 4, 1) := eX9_added_30.2.2.2.2.2.1
theorem dX9_added_37 : decode cX9_added 37 = .ok (.iload_n 2, 1) := eX9_added_30.2.2.2.2.2.2.1
theorem dX9_added_38 : decode cX9_added 38 = .ok (.imul, 1) := eX9_added_30.2.2.2.2.2.2.2
theorem eX9_added_39 : (decode cX9_added 39 = .ok (.iadd, 1)) ∧ (decode cX9_added 40 = .ok (.iload_n 3, 1)) ∧ (decode cX9_added 41 = .ok (.iadd, 1)) ∧ (decode cX9_added 42 = .ok (.iaload, 1)) ∧ (decode cX9_added 43 = .ok (.goto 5, 3)) ∧ (decode cX9_added 46 = .ok (.bipush (-100), 2)) ∧ (decode cX9_added 48 = .ok (.ireturn, 1)) := by decide +kernel
theorem dX9_added_39 : decode cX9_added 39 = .ok (.iadd, 1) := eX9_added_39.1
theorem dX9_added_40 : decode cX9_added 40 = .ok (.iload_n 3, 1) := eX9_added_39.2.1
theorem dX9_added_41 : decode cX9_added 41 = .ok (.iadd, 1) := eX9_added_39.2.2.1
theorem dX9_added_42 : decode cX9_added 42 = .ok (.iaload, 1) := eX9_added_39.2.2.2.1
theorem dX9_added_43 : decode cX9_added 43 = .ok (.goto 5, 3) := eX9_added_39.2.2.2.2.1
theorem dX9_added_46 : decode cX9_added 46 = .ok (.bipush (-100), 2) := eX9_added_39.2.2.2.2.2.1
theorem dX9_added_48 : decode cX9_added 48 = .ok (.ireturn, 1) := eX9_added_39.2.2.2.2.2.2
theorem eX9_canDraw_0 : (decode cX9_canDraw 0 = .ok (.aload_n 0, 1)) ∧ (decode cX9_canDraw 1 = .ok (.getfield 26, 3)) ∧ (decode cX9_canDraw 4 = .ok (.bipush 25, 2)) ∧ (decode cX9_canDraw 6 = .ok (.iload_n 1, 1)) ∧ (decode cX9_canDraw 7 = .ok (.imul, 1)) ∧ (decode cX9_canDraw 8 = .ok (.iload_n 2, 1)) ∧ (decode cX9_canDraw 9 = .ok (.iadd, 1)) ∧ (decode cX9_canDraw 10 = .ok (.iaload, 1)) := by decide +kernel
theorem dX9_canDraw_0 : decode cX9_canDraw 0 = .ok (.aload_n 0, 1) := eX9_canDraw_0.1
theorem dX9_canDraw_1 : decode cX9_canDraw 1 = .ok (.getfield 26, 3) := eX9_canDraw_0.2.1
theorem dX9_canDraw_4 : decode cX9_canDraw 4 = .ok (.bipush 25, 2) := eX9_canDraw_0.2.2.1
theorem dX9_canDraw_6 : decode cX9_canDraw 6 = .ok (.iload_n 1, 1) := eX9_canDraw_0.2.2.2.1
theorem dX9_canDraw_7 : decode cX9_canDraw 7 = .ok (.imul, 1) := eX9_canDraw_0.2.2.2.2.1
theorem dX9_canDraw_8 : decode cX9_canDraw 8 = .ok (.iload_n 2, 1) := eX9_canDraw_0.2.2.2.2.2.1
theorem dX9_canDraw_9 : decode cX9_canDraw 9 = .ok (.iadd, 1) := eX9_canDraw_0.2.2.2.2.2.2.1
theorem dX9_canDraw_10 : decode cX9_canDraw 10 = .ok (.iaload, 1) := eX9_canDraw_0.2.2.2.2.2.2.2
theorem eX9_canDraw_11 : (decode cX9_canDraw 11 = .ok (.ifCond .le 7, 3)) ∧ (decode cX9_canDraw 14 = .ok (.iconst 1, 1)) ∧ (decode cX9_canDraw 15 = .ok (.goto 4, 3)) ∧ (decode cX9_canDraw 18 = .ok (.iconst 0, 1)) ∧ (decode cX9_canDraw 19 = .ok (.istore_n 3, 1)) ∧ (decode cX9_canDraw 20 = .ok (.iconst 0, 1)) ∧ (decode cX9_canDraw 21 = .ok (.istore 4, 2)) ∧ (decode cX9_canDraw 23 = .ok (.iload 4, 2)) := by decide +kernel
theorem dX9_canDraw_11 : decode cX9_canDraw 11 = .ok (.ifCond .le 7, 3) := eX9_canDraw_11.1
theorem dX9_canDraw_14 : decode cX9_canDraw 14 = .ok (.iconst 1, 1) := eX9_canDraw_11.2.1
theorem dX9_canDraw_15 : decode cX9_canDraw 15 = .ok (.goto 4, 3) := eX9_canDraw_11.2.2.1
theorem dX9_canDraw_18 : decode cX9_canDraw 18 = .ok (.iconst 0, 1) := eX9_canDraw_11.2.2.2.1
theorem dX9_canDraw_19 : decode cX9_canDraw 19 = .ok (.istore_n 3, 1) := eX9_canDraw_11.2.2.2.2.1
theorem dX9_canDraw_20 : decode cX9_canDraw 20 = .ok (.iconst 0, 1) := eX9_canDraw_11.2.2.2.2.2.1
theorem dX9_canDraw_21 : decode cX9_canDraw 21 = .ok (.istore 4, 2) := eX9_canDraw_11.2.2.2.2.2.2.1
theorem dX9_canDraw_23 : decode cX9_canDraw 23 = .ok (.iload 4, 2) := eX9_canDraw_11.2.2.2.2.2.2.2
theorem eX9_canDraw_25 : (decode cX9_canDraw 25 = .ok (.iconst 4, 1)) ∧ (decode cX9_canDraw 26 = .ok (.if_icmp .ge 61, 3)) ∧ (decode cX9_canDraw 29 = .ok (.iload_n 3, 1)) ∧ (decode cX9_canDraw 30 = .ok (.ifCond .eq 49, 3)) ∧ (decode cX9_canDraw 33 = .ok (.aload_n 0, 1)) ∧ (decode cX9_canDraw 34 = .ok (.getfield 26, 3)) ∧ (decode cX9_canDraw 37 = .ok (.bipush 25, 2)) ∧ (decode cX9_canDraw 39 = .ok (.iload_n 1, 1)) := by decide +kernel
theorem dX9_canDraw_25 : decode cX9_canDraw 25 = .ok (.iconst 4, 1) := eX9_canDraw_25.1
theorem dX9_canDraw_26 : decode cX9_canDraw 26 = .ok (.if_icmp .ge 61, 3) := eX9_canDraw_25.2.1
theorem dX9_canDraw_29 : decode cX9_canDraw 29 = .ok (.iload_n 3, 1) := eX9_canDraw_25.2.2.1
theorem dX9_canDraw_30 : decode cX9_canDraw 30 = .ok (.ifCond .eq 49, 3) := eX9_canDraw_25.2.2.2.1
theorem dX9_canDraw_33 : decode cX9_canDraw 33 = .ok (.aload_n 0, 1) := eX9_canDraw_25.2.2.2.2.1
theorem dX9_canDraw_34 : decode cX9_canDraw 34 = .ok (.getfield 26, 3) := eX9_canDraw_25.2.2.2.2.2.1
theorem dX9_canDraw_37 : decode cX9_canDraw 37 = .ok (.bipush 25, 2) := eX9_canDraw_25.2.2.2.2.2.2.1
theorem dX9_canDraw_39 : decode cX9_canDraw 39 = .ok (.iload_n 1, 1) := eX9_canDraw_25.2.2.2.2.2.2.2
theorem eX9_canDraw_40 : (decode cX9_canDraw 40 = .ok (.imul, 1)) ∧ (decode cX9_canDraw 41 = .ok (.iload 4, 2)) ∧ (decode cX9_canDraw 43 = .ok (.iadd, 1)) ∧ (decode cX9_canDraw 44 = .ok (.iaload, 1)) ∧ (decode cX9_canDraw 45 = .ok (.aload_n 0, 1)) ∧ (decode cX9_canDraw 46 = .ok (.getfield 26, 3)) ∧ (decode cX9_canDraw 49 = .ok (.bipush 25, 2)) ∧ (decode cX9_canDraw 51 = .ok (.iload_n 1, 1)) := by decide +kernel
theorem dX9_canDraw_40 : decode cX9_canDraw 40 = .ok (.imul, 1) := eX9_canDraw_40.1
theorem dX9_canDraw_41 : decode cX9_canDraw 41 = .ok (.iload 4, 2) := eX9_canDraw_40.2.1
theorem dX9_canDraw_43 : decode cX9_canDraw 43 = .ok (.iadd, 1) := eX9_canDraw_40.2.2.1
theorem dX9_canDraw_44 : decode cX9_canDraw 44 = .ok (.iaload, 1) := eX9_canDraw_40.2.2.2.1
theorem dX9_canDraw_45 : decode cX9_canDraw 45 = .ok (.aload_n 0, 1) := eX9_canDraw_40.2.2.2.2.1
theorem dX9_canDraw_46 : decode cX9_canDraw 46 = .ok (.getfield 26, 3) := eX9_canDraw_40.2.2.2.2.2.1
theorem dX9_canDraw_49 : decode cX9_canDraw 49 = .ok (.bipush 25, 2) := eX9_canDraw_40.2.2.2.2.2.2.1
theorem dX9_canDraw_51 : decode cX9_canDraw 51 = .ok (.iload_n 1, 1) := eX9_canDraw_40.2.2.2.2.2.2.2
theorem eX9_canDraw_52 : (decode cX9_canDraw 52 = .ok (.imul, 1)) ∧ (decode cX9_canDraw 53 = .ok (.iconst 4, 1)) ∧ (decode cX9_canDraw 54 = .ok (.iadd, 1)) ∧ (decode cX9_canDraw 55 = .ok (.iconst 4, 1)) ∧ (decode cX9_canDraw 56 = .ok (.iload_n 2, 1)) ∧ (decode cX9_canDraw 57 = .ok (.imul, 1)) ∧ (decode cX9_canDraw 58 = .ok (.iadd, 1)) ∧ (decode cX9_canDraw 59 = .ok (.iload 4, 2)) := by decide +kernel
theorem dX9_canDraw_52 : decode cX9_canDraw 52 = .ok (.imul, 1) := eX9_canDraw_52.1
theorem dX9_canDraw_53 : decode cX9_canDraw 53 = .ok (.iconst 4, 1) := eX9_canDraw_52.2.1
theorem dX9_canDraw_54 : decode cX9_canDraw 54 = .ok (.iadd, 1) := eX9_canDraw_52.2.2.1
theorem dX9_canDraw_55 : decode cX9_canDraw 55 = .ok (.iconst 4, 1) := eX9_canDraw_52.2.2.2.1
theorem dX9_canDraw_56 : decode cX9_canDraw 56 = .ok (.iload_n 2, 1) := eX9_canDraw_52.2.2.2.2.1
theorem dX9_canDraw_57 : decode cX9_canDraw 57 = .ok (.imul, 1) := eX9_canDraw_52.2.2.2.2.2.1
theorem dX9_canDraw_58 : decode cX9_canDraw 58 = .ok (.iadd, 1) := eX9_canDraw_52.2.2.2.2.2.2.1
theorem dX9_canDraw_59 : decode cX9_canDraw 59 = .ok (.iload 4, 2) := eX9_canDraw_52.2.2.2.2.2.2.2
theorem eX9_canDraw_61 : (decode cX9_canDraw 61 = .ok (.iadd, 1)) ∧ (decode cX9_canDraw 62 = .ok (.iaload, 1)) ∧ (decode cX9_canDraw 63 = .ok (.iadd, 1)) ∧ (decode cX9_canDraw 64 = .ok (.i2l, 1)) ∧ (decode cX9_canDraw 65 = .ok (.lconst 0, 1)) ∧ (decode cX9_canDraw 66 = .ok (.ldc2_w 98, 3)) ∧ (decode cX9_canDraw 69 = .ok (.invokestatic 62, 3)) ∧ (decode cX9_canDraw 72 = .ok (.ifCond .eq 7, 3)) := by decide +kernel
theorem dX9_canDraw_61 : decode cX9_canDraw 61 = .ok (.iadd, 1) := eX9_canDraw_61.1
theorem dX9_canDraw_62 : decode cX9_canDraw 62 = .ok (.iaload, 1) := eX9_canDraw_61.2.1
theorem dX9_canDraw_63 : decode cX9_canDraw 63 = .ok (.iadd, 1) := eX9_canDraw_61.2.2.1
theorem dX9_canDraw_64 : decode cX9_canDraw 64 = .ok (.i2l, 1) := eX9_canDraw_61.2.2.2.1
theorem dX9_canDraw_65 : decode cX9_canDraw 65 = .ok (.lconst 0, 1) := eX9_canDraw_61.2.2.2.2.1
theorem dX9_canDraw_66 : decode cX9_canDraw 66 = .ok (.ldc2_w 98, 3) := eX9_canDraw_61.2.2.2.2.2.1
theorem dX9_canDraw_69 : decode cX9_canDraw 69 = .ok (.invokestatic 62, 3) := eX9_canDraw_61.2.2.2.2.2.2.1
theorem dX9_canDraw_72 : decode cX9_canDraw 72 = .ok (.ifCond .eq 7, 3) := eX9_canDraw_61.2.2.2.2.2.2.2
theorem eX9_canDraw_75 : (decode cX9_canDraw 75 = .ok (.iconst 1, 1)) ∧ (decode cX9_canDraw 76 = .ok (.goto 4, 3)) ∧ (decode cX9_canDraw 79 = .ok (.iconst 0, 1)) ∧ (decode cX9_canDraw 80 = .ok (.istore_n 3, 1)) ∧ (decode cX9_canDraw 81 = .ok (.iinc 4 1, 3)) ∧ (decode cX9_canDraw 84 = .ok (.goto (-61), 3)) ∧ (decode cX9_canDraw 87 = .ok (.iload_n 3, 1)) ∧ (decode cX9_canDraw 88 = .ok (.ireturn, 1)) := by decide +kernel
theorem dX9_canDraw_75 : decode cX9_canDraw 75 = .ok (.iconst 1, 1) := eX9_canDraw_75.1
theorem dX9_canDraw_76 : decode cX9_canDraw 76 = .ok (.goto 4, 3) := eX9_canDraw_75.2.1
theorem dX9_canDraw_79 : decode cX9_canDraw 79 = .ok (.iconst 0, 1) := eX9_canDraw_75.2.2.1
theorem dX9_canDraw_80 : decode cX9_canDraw 80 = .ok (.istore_n 3, 1) := eX9_canDraw_75.2.2.2.1
theorem dX9_canDraw_81 : decode cX9_canDraw 81 = .ok (.iinc 4 1, 3) := eX9_canDraw_75.2.2.2.2.1
theorem dX9_canDraw_84 : decode cX9_canDraw 84 = .ok (.goto (-61), 3) := eX9_canDraw_75.2.2.2.2.2.1
theorem dX9_canDraw_87 : decode cX9_canDraw 87 = .ok (.iload_n 3, 1) := eX9_canDraw_75.2.2.2.2.2.2.1
theorem dX9_canDraw_88 : decode cX9_canDraw 88 = .ok (.ireturn, 1) := eX9_canDraw_75.2.2.2.2.2.2.2
theorem eX9_draws_0 : (decode cX9_draws 0 = .ok (.iconst 0, 1)) ∧ (decode cX9_draws 1 = .ok (.istore_n 3, 1)) ∧ (decode cX9_draws 2 = .ok (.iload_n 3, 1)) ∧ (decode cX9_draws 3 = .ok (.iconst 4, 1)) ∧ (decode cX9_draws 4 = .ok (.if_icmp .ge 40, 3)) ∧ (decode cX9_draws 7 = .ok (.aload_n 0, 1)) ∧ (decode cX9_draws 8 = .ok (.getfield 26, 3)) ∧ (decode cX9_draws 11 = .ok (.bipush 25, 2)) := by decide +kernel
theorem dX9_draws_0 : decode cX9_draws 0 = .ok (.iconst 0, 1) := eX9_draws_0.1
theorem dX9_draws_1 : decode cX9_draws 1 = .ok (.istore_n 3, 1) := eX9_draws_0.2.1
theorem dX9_draws_2 : decode cX9_draws 2 = .ok (.iload_n 3, 1) := eX9_draws_0.2.2.1
theorem dX9_draws_3 : decode cX9_draws 3 = .ok (.iconst 4, 1) := eX9_draws_0.2.2.2.1
theorem dX9_draws_4 : decode cX9_draws 4 = .ok (.if_icmp .ge 40, 3) := eX9_draws_0.2.2.2.2.1
theorem dX9_draws_7 : decode cX9_draws 7 = .ok (.aload_n 0, 1) := eX9_draws_0.2.2.2.2.2.1
theorem dX9_draws_8 : decode cX9_draws 8 = .ok (.getfield 26, 3) := eX9_draws_0.2.2.2.2.2.2.1
theorem dX9_draws_11 : decode cX9_draws 11 = .ok (.bipush 25, 2) := eX9_draws_0.2.2.2.2.2.2.2
theorem eX9_draws_13 : (decode cX9_draws 13 = .ok (.iload_n 1, 1)) ∧ (decode cX9_draws 14 = .ok (.imul, 1)) ∧ (decode cX9_draws 15 = .ok (.iload_n 3, 1)) ∧ (decode cX9_draws 16 = .ok (.iadd, 1)) ∧ (decode cX9_draws 17 = .ok (.dup2, 1)) ∧ (decode cX9_draws 18 = .ok (.iaload, 1)) ∧ (decode cX9_draws 19 = .ok (.aload_n 0, 1)) ∧ (decode cX9_draws 20 = .ok (.getfield 26, 3)) := by decide +kernel
theorem dX9_draws_13 : decode cX9_draws 13 = .ok (.iload_n 1, 1) := eX9_draws_13.1
theorem dX9_draws_14 : decode cX9_draws 14 = .ok (.imul, 1) := eX9_draws_13.2.1
theorem dX9_draws_15 : decode cX9_draws 15 = .ok (.iload_n 3, 1) := eX9_draws_13.2.2.1
theorem dX9_draws_16 : decode cX9_draws 16 = .ok (.iadd, 1) := eX9_draws_13.2.2.2.1
theorem dX9_draws_17 : decode cX9_draws 17 = .ok (.dup2, 1) := eX9_draws_13.2.2.2.2.1
theorem dX9_draws_18 : decode cX9_draws 18 = .ok (.iaload, 1) := eX9_draws_13.2.2.2.2.2.1
theorem dX9_draws_19 : decode cX9_draws 19 = .ok (.aload_n 0, 1) := eX9_draws_13.2.2.2.2.2.2.1
theorem dX9_draws_20 : decode cX9_draws 20 = .ok (.getfield 26, 3) := eX9_draws_13.2.2.2.2.2.2.2
theorem eX9_draws_23 : (decode cX9_draws 23 = .ok (.bipush 25, 2)) ∧ (decode cX9_draws 25 = .ok (.iload_n 1, 1)) ∧ (decode cX9_draws 26 = .ok (.imul, 1)) ∧ (decode cX9_draws 27 = .ok (.iconst 4, 1)) ∧ (decode cX9_draws 28 = .ok (.iadd, 1)) ∧ (decode cX9_draws 29 = .ok (.iconst 4, 1)) ∧ (decode cX9_draws 30 = .ok (.iload_n 2, 1)) ∧ (decode cX9_draws 31 = .ok (.imul, 1)) := by decide +kernel
theorem dX9_draws_23 : decode cX9_draws 23 = .ok (.bipush 25, 2) := eX9_draws_23.1
theorem dX9_draws_25 : decode cX9_draws 25 = .ok (.iload_n 1, 1) := eX9_draws_23.2.1
theorem dX9_draws_26 : decode cX9_draws 26 = .ok (.imul, 1) := eX9_draws_23.2.2.1
theorem dX9_draws_27 : decode cX9_draws 27 = .ok (.iconst 4, 1) := eX9_draws_23.2.2.2.1
theorem dX9_draws_28 : decode cX9_draws 28 = .ok (.iadd, 1) := eX9_draws_23.2.2.2.2.1
theorem dX9_draws_29 : decode cX9_draws 29 = .ok (.iconst 4, 1) := eX9_draws_23.2.2.2.2.2.1
theorem dX9_draws_30 : decode cX9_draws 30 = .ok (.iload_n 2, 1) := eX9_draws_23.2.2.2.2.2.2.1
theorem dX9_draws_31 : decode cX9_draws 31 = .ok (.imul, 1) := eX9_draws_23.2.2.2.2.2.2.2
theorem eX9_draws_32 : (decode cX9_draws 32 = .ok (.iadd, 1)) ∧ (decode cX9_draws 33 = .ok (.iload_n 3, 1)) ∧ (decode cX9_draws 34 = .ok (.iadd, 1)) ∧ (decode cX9_draws 35 = .ok (.iaload, 1)) ∧ (decode cX9_draws 36 = .ok (.iadd, 1)) ∧ (decode cX9_draws 37 = .ok (.iastore, 1)) ∧ (decode cX9_draws 38 = .ok (.iinc 3 1, 3)) ∧ (decode cX9_draws 41 = .ok (.goto (-39), 3)) := by decide +kernel
theorem dX9_draws_32 : decode cX9_draws 32 = .ok (.iadd, 1) := eX9_draws_32.1
theorem dX9_draws_33 : decode cX9_draws 33 = .ok (.iload_n 3, 1) := eX9_draws_32.2.1
theorem dX9_draws_34 : decode cX9_draws 34 = .ok (.iadd, 1) := eX9_draws_32.2.2.1
theorem dX9_draws_35 : decode cX9_draws 35 = .ok (.iaload, 1) := eX9_draws_32.2.2.2.1
theorem dX9_draws_36 : decode cX9_draws 36 = .ok (.iadd, 1) := eX9_draws_32.2.2.2.2.1
theorem dX9_draws_37 : decode cX9_draws 37 = .ok (.iastore, 1) := eX9_draws_32.2.2.2.2.2.1
theorem dX9_draws_38 : decode cX9_draws 38 = .ok (.iinc 3 1, 3) := eX9_draws_32.2.2.2.2.2.2.1
theorem dX9_draws_41 : decode cX9_draws 41 = .ok (.goto (-39), 3) := eX9_draws_32.2.2.2.2.2.2.2
theorem eX9_draws_44 : (decode cX9_draws 44 = .ok (.aload_n 0, 1)) ∧ (decode cX9_draws 45 = .ok (.getfield 26, 3)) ∧ (decode cX9_draws 48 = .ok (.bipush 25, 2)) ∧ (decode cX9_draws 50 = .ok (.iload_n 1, 1)) ∧ (decode cX9_draws 51 = .ok (.imul, 1)) ∧ (decode cX9_draws 52 = .ok (.bipush 24, 2)) ∧ (decode cX9_draws 54 = .ok (.iadd, 1)) ∧ (decode cX9_draws 55 = .ok (.dup2, 1)) := by decide +kernel
theorem dX9_draws_44 : decode cX9_draws 44 = .ok (.aload_n 0, 1) := eX9_draws_44.1
theorem dX9_draws_45 : decode cX9_draws 45 = .ok (.getfield 26, 3) := eX9_draws_44.2.1
theorem dX9_draws_48 : decode cX9_draws 48 = .ok (.bipush 25, 2) := eX9_draws_44.2.2.1
theorem dX9_draws_50 : decode cX9_draws 50 = .ok (.iload_n 1, 1) := eX9_draws_44.2.2.2.1
theorem dX9_draws_51 : decode cX9_draws 51 = .ok (.imul, 1) := eX9_draws_44.2.2.2.2.1
theorem dX9_draws_52 : decode cX9_draws 52 = .ok (.bipush 24, 2) := eX9_draws_44.2.2.2.2.2.1
theorem dX9_draws_54 : decode cX9_draws 54 = .ok (.iadd, 1) := eX9_draws_44.2.2.2.2.2.2.1
theorem dX9_draws_55 : decode cX9_draws 55 = .ok (.dup2, 1) := eX9_draws_44.2.2.2.2.2.2.2
theorem eX9_draws_56 : (decode cX9_draws 56 = .ok (.iaload, 1)) ∧ (decode cX9_draws 57 = .ok (.iconst 1, 1)) ∧ (decode cX9_draws 58 = .ok (.iadd, 1)) ∧ (decode cX9_draws 59 = .ok (.iastore, 1)) ∧ (decode cX9_draws 60 = .ok (.aload_n 0, 1)) ∧ (decode cX9_draws 61 = .ok (.getfield 26, 3)) ∧ (decode cX9_draws 64 = .ok (.sipush 201, 3)) ∧ (decode cX9_draws 67 = .ok (.dup2, 1)) := by decide +kernel
theorem dX9_draws_56 : decode cX9_draws 56 = .ok (.iaload, 1) := eX9_draws_56.1
theorem dX9_draws_57 : decode cX9_draws 57 = .ok (.iconst 1, 1) := eX9_draws_56.2.1
theorem dX9_draws_58 : decode cX9_draws 58 = .ok (.iadd, 1) := eX9_draws_56.2.2.1
theorem dX9_draws_59 : decode cX9_draws 59 = .ok (.iastore, 1) := eX9_draws_56.2.2.2.1
theorem dX9_draws_60 : decode cX9_draws 60 = .ok (.aload_n 0, 1) := eX9_draws_56.2.2.2.2.1
theorem dX9_draws_61 : decode cX9_draws 61 = .ok (.getfield 26, 3) := eX9_draws_56.2.2.2.2.2.1
theorem dX9_draws_64 : decode cX9_draws 64 = .ok (.sipush 201, 3) := eX9_draws_56.2.2.2.2.2.2.1
theorem dX9_draws_67 : decode cX9_draws 67 = .ok (.dup2, 1) := eX9_draws_56.2.2.2.2.2.2.2
theorem eX9_draws_68 : (decode cX9_draws 68 = .ok (.iaload, 1)) ∧ (decode cX9_draws 69 = .ok (.iconst 1, 1)) ∧ (decode cX9_draws 70 = .ok (.iadd, 1)) ∧ (decode cX9_draws 71 = .ok (.iastore, 1)) ∧ (decode cX9_draws 72 = .ok (.return_, 1)) := by decide +kernel
theorem dX9_draws_68 : decode cX9_draws 68 = .ok (.iaload, 1) := eX9_draws_68.1
theorem dX9_draws_69 : decode cX9_draws 69 = .ok (.iconst 1, 1) := eX9_draws_68.2.1
theorem dX9_draws_70 : decode cX9_draws 70 = .ok (.iadd, 1) := eX9_draws_68.2.2.1
theorem dX9_draws_71 : decode cX9_draws 71 = .ok (.iastore, 1) := eX9_draws_68.2.2.2.1
theorem dX9_draws_72 : decode cX9_draws 72 = .ok (.return_, 1) := eX9_draws_68.2.2.2.2
theorem eX9_draw_0 : (decode cX9_draw 0 = .ok (.aload_n 0, 1)) ∧ (decode cX9_draw 1 = .ok (.iload_n 1, 1)) ∧ (decode cX9_draw 2 = .ok (.invokevirtual 89, 3)) ∧ (decode cX9_draw 5 = .ok (.ifCond .eq 12, 3)) ∧ (decode cX9_draw 8 = .ok (.aload_n 0, 1)) ∧ (decode cX9_draw 9 = .ok (.iload_n 1, 1)) ∧ (decode cX9_draw 10 = .ok (.iload_n 2, 1)) ∧ (decode cX9_draw 11 = .ok (.invokevirtual 92, 3)) := by decide +kernel
theorem dX9_draw_0 : decode cX9_draw 0 = .ok (.aload_n 0, 1) := eX9_draw_0.1
theorem dX9_draw_1 : decode cX9_draw 1 = .ok (.iload_n 1, 1) := eX9_draw_0.2.1
theorem dX9_draw_2 : decode cX9_draw 2 = .ok (.invokevirtual 89, 3) := eX9_draw_0.2.2.1
theorem dX9_draw_5 : decode cX9_draw 5 = .ok (.ifCond .eq 12, 3) := eX9_draw_0.2.2.2.1
theorem dX9_draw_8 : decode cX9_draw 8 = .ok (.aload_n 0, 1) := eX9_draw_0.2.2.2.2.1
theorem dX9_draw_9 : decode cX9_draw 9 = .ok (.iload_n 1, 1) := eX9_draw_0.2.2.2.2.2.1
theorem dX9_draw_10 : decode cX9_draw 10 = .ok (.iload_n 2, 1) := eX9_draw_0.2.2.2.2.2.2.1
theorem dX9_draw_11 : decode cX9_draw 11 = .ok (.invokevirtual 92, 3) := eX9_draw_0.2.2.2.2.2.2.2
theorem eX9_draw_14 : (decode cX9_draw 14 = .ok (.ifCond .ne 5, 3)) ∧ (decode cX9_draw 17 = .ok (.iconst (-1), 1)) ∧ (decode cX9_draw 18 = .ok (.ireturn, 1)) ∧ (decode cX9_draw 19 = .ok (.aload_n 0, 1)) ∧ (decode cX9_draw 20 = .ok (.iload_n 1, 1)) ∧ (decode cX9_draw 21 = .ok (.iload_n 2, 1)) ∧ (decode cX9_draw 22 = .ok (.invokevirtual 120, 3)) ∧ (decode cX9_draw 25 = .ok (.ifCond .ne 6, 3)) := by decide +kernel
theorem dX9_draw_14 : decode cX9_draw 14 = .ok (.ifCond .ne 5, 3) := eX9_draw_14.1
theorem dX9_draw_17 : decode cX9_draw 17 = .ok (.iconst (-1), 1) := eX9_draw_14.2.1
theorem dX9_draw_18 : decode cX9_draw 18 = .ok (.ireturn, 1) := eX9_draw_14.2.2.1
theorem dX9_draw_19 : decode cX9_draw 19 = .ok (.aload_n 0, 1) := eX9_draw_14.2.2.2.1
theorem dX9_draw_20 : decode cX9_draw 20 = .ok (.iload_n 1, 1) := eX9_draw_14.2.2.2.2.1
theorem dX9_draw_21 : decode cX9_draw 21 = .ok (.iload_n 2, 1) := eX9_draw_14.2.2.2.2.2.1
theorem dX9_draw_22 : decode cX9_draw 22 = .ok (.invokevirtual 120, 3) := eX9_draw_14.2.2.2.2.2.2.1
theorem dX9_draw_25 : decode cX9_draw 25 = .ok (.ifCond .ne 6, 3) := eX9_draw_14.2.2.2.2.2.2.2
theorem eX9_draw_28 : (decode cX9_draw 28 = .ok (.bipush (-5), 2)) ∧ (decode cX9_draw 30 = .ok (.ireturn, 1)) ∧ (decode cX9_draw 31 = .ok (.aload_n 0, 1)) ∧ (decode cX9_draw 32 = .ok (.invokevirtual 102, 3)) ∧ (decode cX9_draw 35 = .ok (.aload_n 0, 1)) ∧ (decode cX9_draw 36 = .ok (.iload_n 1, 1)) ∧ (decode cX9_draw 37 = .ok (.iload_n 2, 1)) ∧ (decode cX9_draw 38 = .ok (.invokevirtual 123, 3)) := by decide +kernel
theorem dX9_draw_28 : decode cX9_draw 28 = .ok (.bipush (-5), 2) := eX9_draw_28.1
theorem dX9_draw_30 : decode cX9_draw 30 = .ok (.ireturn, 1) := eX9_draw_28.2.1
theorem dX9_draw_31 : decode cX9_draw 31 = .ok (.aload_n 0, 1) := eX9_draw_28.2.2.1
theorem dX9_draw_32 : decode cX9_draw 32 = .ok (.invokevirtual 102, 3) := eX9_draw_28.2.2.2.1
theorem dX9_draw_35 : decode cX9_draw 35 = .ok (.aload_n 0, 1) := eX9_draw_28.2.2.2.2.1
theorem dX9_draw_36 : decode cX9_draw 36 = .ok (.iload_n 1, 1) := eX9_draw_28.2.2.2.2.2.1
theorem dX9_draw_37 : decode cX9_draw 37 = .ok (.iload_n 2, 1) := eX9_draw_28.2.2.2.2.2.2.1
theorem dX9_draw_38 : decode cX9_draw 38 = .ok (.invokevirtual 123, 3) := eX9_draw_28.2.2.2.2.2.2.2
theorem eX9_draw_41 : (decode cX9_draw 41 = .ok (.aload_n 0, 1)) ∧ (decode cX9_draw 42 = .ok (.iload_n 1, 1)) ∧ (decode cX9_draw 43 = .ok (.invokevirtual 113, 3)) ∧ (decode cX9_draw 46 = .ok (.ireturn, 1)) := by decide +kernel
theorem dX9_draw_41 : decode cX9_draw 41 = .ok (.aload_n 0, 1) := eX9_draw_41.1
theorem dX9_draw_42 : decode cX9_draw 42 = .ok (.iload_n 1, 1) := eX9_draw_41.2.1
theorem dX9_draw_43 : decode cX9_draw 43 = .ok (.invokevirtual 113, 3) := eX9_draw_41.2.2.1
theorem dX9_draw_46 : decode cX9_draw 46 = .ok (.ireturn, 1) := eX9_draw_41.2.2.2
theorem eX9_seed_0 : (decode cX9_seed 0 = .ok (.iload_n 1, 1)) ∧ (decode cX9_seed 1 = .ok (.i2l, 1)) ∧ (decode cX9_seed 2 = .ok (.lconst 1, 1)) ∧ (decode cX9_seed 3 = .ok (.ldc2_w 127, 3)) ∧ (decode cX9_seed 6 = .ok (.invokestatic 62, 3)) ∧ (decode cX9_seed 9 = .ok (.ifCond .ne 5, 3)) ∧ (decode cX9_seed 12 = .ok (.iconst (-1), 1)) ∧ (decode cX9_seed 13 = .ok (.ireturn, 1)) := by decide +kernel
theorem dX9_seed_0 : decode cX9_seed 0 = .ok (.iload_n 1, 1) := eX9_seed_0.1
theorem dX9_seed_1 : decode cX9_seed 1 = .ok (.i2l, 1) := eX9_seed_0.2.1
theorem dX9_seed_2 : decode cX9_seed 2 = .ok (.lconst 1, 1) := eX9_seed_0.2.2.1
theorem dX9_seed_3 : decode cX9_seed 3 = .ok (.ldc2_w 127, 3) := eX9_seed_0.2.2.2.1
theorem dX9_seed_6 : decode cX9_seed 6 = .ok (.invokestatic 62, 3) := eX9_seed_0.2.2.2.2.1
theorem dX9_seed_9 : decode cX9_seed 9 = .ok (.ifCond .ne 5, 3) := eX9_seed_0.2.2.2.2.2.1
theorem dX9_seed_12 : decode cX9_seed 12 = .ok (.iconst (-1), 1) := eX9_seed_0.2.2.2.2.2.2.1
theorem dX9_seed_13 : decode cX9_seed 13 = .ok (.ireturn, 1) := eX9_seed_0.2.2.2.2.2.2.2
theorem eX9_seed_14 : (decode cX9_seed 14 = .ok (.aload_n 0, 1)) ∧ (decode cX9_seed 15 = .ok (.getfield 26, 3)) ∧ (decode cX9_seed 18 = .ok (.sipush 200, 3)) ∧ (decode cX9_seed 21 = .ok (.iload_n 1, 1)) ∧ (decode cX9_seed 22 = .ok (.iastore, 1)) ∧ (decode cX9_seed 23 = .ok (.iconst 0, 1)) ∧ (decode cX9_seed 24 = .ok (.ireturn, 1)) := by decide +kernel
theorem dX9_seed_14 : decode cX9_seed 14 = .ok (.aload_n 0, 1) := eX9_seed_14.1
theorem dX9_seed_15 : decode cX9_seed 15 = .ok (.getfield 26, 3) := eX9_seed_14.2.1
theorem dX9_seed_18 : decode cX9_seed 18 = .ok (.sipush 200, 3) := eX9_seed_14.2.2.1
theorem dX9_seed_21 : decode cX9_seed 21 = .ok (.iload_n 1, 1) := eX9_seed_14.2.2.2.1
theorem dX9_seed_22 : decode cX9_seed 22 = .ok (.iastore, 1) := eX9_seed_14.2.2.2.2.1
theorem dX9_seed_23 : decode cX9_seed 23 = .ok (.iconst 0, 1) := eX9_seed_14.2.2.2.2.2.1
theorem dX9_seed_24 : decode cX9_seed 24 = .ok (.ireturn, 1) := eX9_seed_14.2.2.2.2.2.2
theorem eX9_looks_0 : (decode cX9_looks 0 = .ok (.aload_n 0, 1)) ∧ (decode cX9_looks 1 = .ok (.iconst 0, 1)) ∧ (decode cX9_looks 2 = .ok (.putfield 129, 3)) ∧ (decode cX9_looks 5 = .ok (.aload_n 0, 1)) ∧ (decode cX9_looks 6 = .ok (.aload_n 0, 1)) ∧ (decode cX9_looks 7 = .ok (.getfield 26, 3)) ∧ (decode cX9_looks 10 = .ok (.sipush 200, 3)) ∧ (decode cX9_looks 13 = .ok (.iaload, 1)) := by decide +kernel
theorem dX9_looks_0 : decode cX9_looks 0 = .ok (.aload_n 0, 1) := eX9_looks_0.1
theorem dX9_looks_1 : decode cX9_looks 1 = .ok (.iconst 0, 1) := eX9_looks_0.2.1
theorem dX9_looks_2 : decode cX9_looks 2 = .ok (.putfield 129, 3) := eX9_looks_0.2.2.1
theorem dX9_looks_5 : decode cX9_looks 5 = .ok (.aload_n 0, 1) := eX9_looks_0.2.2.2.1
theorem dX9_looks_6 : decode cX9_looks 6 = .ok (.aload_n 0, 1) := eX9_looks_0.2.2.2.2.1
theorem dX9_looks_7 : decode cX9_looks 7 = .ok (.getfield 26, 3) := eX9_looks_0.2.2.2.2.2.1
theorem dX9_looks_10 : decode cX9_looks 10 = .ok (.sipush 200, 3) := eX9_looks_0.2.2.2.2.2.2.1
theorem dX9_looks_13 : decode cX9_looks 13 = .ok (.iaload, 1) := eX9_looks_0.2.2.2.2.2.2.2
theorem eX9_looks_14 : (decode cX9_looks 14 = .ok (.putfield 132, 3)) ∧ (decode cX9_looks 17 = .ok (.iload_n 1, 1)) ∧ (decode cX9_looks 18 = .ok (.istore_n 2, 1)) ∧ (decode cX9_looks 19 = .ok (.iload_n 2, 1)) ∧ (decode cX9_looks 20 = .ok (.ifCond .lt 154, 3)) ∧ (decode cX9_looks 23 = .ok (.aload_n 0, 1)) ∧ (decode cX9_looks 24 = .ok (.iload_n 2, 1)) ∧ (decode cX9_looks 25 = .ok (.invokevirtual 113, 3)) := by decide +kernel
theorem dX9_looks_14 : decode cX9_looks 14 = .ok (.putfield 132, 3) := eX9_looks_14.1
theorem dX9_looks_17 : decode cX9_looks 17 = .ok (.iload_n 1, 1) := eX9_looks_14.2.1
theorem dX9_looks_18 : decode cX9_looks 18 = .ok (.istore_n 2, 1) := eX9_looks_14.2.2.1
theorem dX9_looks_19 : decode cX9_looks 19 = .ok (.iload_n 2, 1) := eX9_looks_14.2.2.2.1
theorem dX9_looks_20 : decode cX9_looks 20 = .ok (.ifCond .lt 154, 3) := eX9_looks_14.2.2.2.2.1
theorem dX9_looks_23 : decode cX9_looks 23 = .ok (.aload_n 0, 1) := eX9_looks_14.2.2.2.2.2.1
theorem dX9_looks_24 : decode cX9_looks 24 = .ok (.iload_n 2, 1) := eX9_looks_14.2.2.2.2.2.2.1
theorem dX9_looks_25 : decode cX9_looks 25 = .ok (.invokevirtual 113, 3) := eX9_looks_14.2.2.2.2.2.2.2
theorem eX9_looks_28 : (decode cX9_looks 28 = .ok (.istore_n 3, 1)) ∧ (decode cX9_looks 29 = .ok (.iload_n 3, 1)) ∧ (decode cX9_looks 30 = .ok (.ifCond .ne 5, 3)) ∧ (decode cX9_looks 33 = .ok (.iconst 0, 1)) ∧ (decode cX9_looks 34 = .ok (.ireturn, 1)) ∧ (decode cX9_looks 35 = .ok (.aload_n 0, 1)) ∧ (decode cX9_looks 36 = .ok (.aload_n 0, 1)) ∧ (decode cX9_looks 37 = .ok (.getfield 132, 3)) := by decide +kernel
theorem dX9_looks_28 : decode cX9_looks 28 = .ok (.istore_n 3, 1) := eX9_looks_28.1
theorem dX9_looks_29 : decode cX9_looks 29 = .ok (.iload_n 3, 1) := eX9_looks_28.2.1
theorem dX9_looks_30 : decode cX9_looks 30 = .ok (.ifCond .ne 5, 3) := eX9_looks_28.2.2.1
theorem dX9_looks_33 : decode cX9_looks 33 = .ok (.iconst 0, 1) := eX9_looks_28.2.2.2.1
theorem dX9_looks_34 : decode cX9_looks 34 = .ok (.ireturn, 1) := eX9_looks_28.2.2.2.2.1
theorem dX9_looks_35 : decode cX9_looks 35 = .ok (.aload_n 0, 1) := eX9_looks_28.2.2.2.2.2.1
theorem dX9_looks_36 : decode cX9_looks 36 = .ok (.aload_n 0, 1) := eX9_looks_28.2.2.2.2.2.2.1
theorem dX9_looks_37 : decode cX9_looks 37 = .ok (.getfield 132, 3) := eX9_looks_28.2.2.2.2.2.2.2
theorem eX9_looks_40 : (decode cX9_looks 40 = .ok (.i2l, 1)) ∧ (decode cX9_looks 41 = .ok (.ldc2_w 135, 3)) ∧ (decode cX9_looks 44 = .ok (.lmul, 1)) ∧ (decode cX9_looks 45 = .ok (.ldc2_w 137, 3)) ∧ (decode cX9_looks 48 = .ok (.ladd, 1)) ∧ (decode cX9_looks 49 = .ok (.ldc2_w 139, 3)) ∧ (decode cX9_looks 52 = .ok (.lrem, 1)) ∧ (decode cX9_looks 53 = .ok (.l2i, 1)) := by decide +kernel
theorem dX9_looks_40 : decode cX9_looks 40 = .ok (.i2l, 1) := eX9_looks_40.1
theorem dX9_looks_41 : decode cX9_looks 41 = .ok (.ldc2_w 135, 3) := eX9_looks_40.2.1
theorem dX9_looks_44 : decode cX9_looks 44 = .ok (.lmul, 1) := eX9_looks_40.2.2.1
theorem dX9_looks_45 : decode cX9_looks 45 = .ok (.ldc2_w 137, 3) := eX9_looks_40.2.2.2.1
theorem dX9_looks_48 : decode cX9_looks 48 = .ok (.ladd, 1) := eX9_looks_40.2.2.2.2.1
theorem dX9_looks_49 : decode cX9_looks 49 = .ok (.ldc2_w 139, 3) := eX9_looks_40.2.2.2.2.2.1
theorem dX9_looks_52 : decode cX9_looks 52 = .ok (.lrem, 1) := eX9_looks_40.2.2.2.2.2.2.1
theorem dX9_looks_53 : decode cX9_looks 53 = .ok (.l2i, 1) := eX9_looks_40.2.2.2.2.2.2.2
theorem eX9_looks_54 : (decode cX9_looks 54 = .ok (.putfield 132, 3)) ∧ (decode cX9_looks 57 = .ok (.aload_n 0, 1)) ∧ (decode cX9_looks 58 = .ok (.getfield 132, 3)) ∧ (decode cX9_looks 61 = .ok (.bipush 16, 2)) ∧ (decode cX9_looks 63 = .ok (.idiv, 1)) ∧ (decode cX9_looks 64 = .ok (.iload_n 3, 1)) ∧ (decode cX9_looks 65 = .ok (.irem, 1)) ∧ (decode cX9_looks 66 = .ok (.istore 4, 2)) := by decide +kernel
theorem dX9_looks_54 : decode cX9_looks 54 = .ok (.putfield 132, 3) := eX9_looks_54.1
theorem dX9_looks_57 : decode cX9_looks 57 = .ok (.aload_n 0, 1) := eX9_looks_54.2.1
theorem dX9_looks_58 : decode cX9_looks 58 = .ok (.getfield 132, 3) := eX9_looks_54.2.2.1
theorem dX9_looks_61 : decode cX9_looks 61 = .ok (.bipush 16, 2) := eX9_looks_54.2.2.2.1
theorem dX9_looks_63 : decode cX9_looks 63 = .ok (.idiv, 1) := eX9_looks_54.2.2.2.2.1
theorem dX9_looks_64 : decode cX9_looks 64 = .ok (.iload_n 3, 1) := eX9_looks_54.2.2.2.2.2.1
theorem dX9_looks_65 : decode cX9_looks 65 = .ok (.irem, 1) := eX9_looks_54.2.2.2.2.2.2.1
theorem dX9_looks_66 : decode cX9_looks 66 = .ok (.istore 4, 2) := eX9_looks_54.2.2.2.2.2.2.2
theorem eX9_looks_68 : (decode cX9_looks 68 = .ok (.iconst 0, 1)) ∧ (decode cX9_looks 69 = .ok (.istore 5, 2)) ∧ (decode cX9_looks 71 = .ok (.aload_n 0, 1)) ∧ (decode cX9_looks 72 = .ok (.getfield 26, 3)) ∧ (decode cX9_looks 75 = .ok (.bipush 25, 2)) ∧ (decode cX9_looks 77 = .ok (.iload_n 2, 1)) ∧ (decode cX9_looks 78 = .ok (.imul, 1)) ∧ (decode cX9_looks 79 = .ok (.iaload, 1)) := by decide +kernel
theorem dX9_looks_68 : decode cX9_looks 68 = .ok (.iconst 0, 1) := eX9_looks_68.1
theorem dX9_looks_69 : decode cX9_looks 69 = .ok (.istore 5, 2) := eX9_looks_68.2.1
theorem dX9_looks_71 : decode cX9_looks 71 = .ok (.aload_n 0, 1) := eX9_looks_68.2.2.1
theorem dX9_looks_72 : decode cX9_looks 72 = .ok (.getfield 26, 3) := eX9_looks_68.2.2.2.1
theorem dX9_looks_75 : decode cX9_looks 75 = .ok (.bipush 25, 2) := eX9_looks_68.2.2.2.2.1
theorem dX9_looks_77 : decode cX9_looks 77 = .ok (.iload_n 2, 1) := eX9_looks_68.2.2.2.2.2.1
theorem dX9_looks_78 : decode cX9_looks 78 = .ok (.imul, 1) := eX9_looks_68.2.2.2.2.2.2.1
theorem dX9_looks_79 : decode cX9_looks 79 = .ok (.iaload, 1) := eX9_looks_68.2.2.2.2.2.2.2
theorem eX9_looks_80 : (decode cX9_looks 80 = .ok (.istore 6, 2)) ∧ (decode cX9_looks 82 = .ok (.iload 4, 2)) ∧ (decode cX9_looks 84 = .ok (.iload 6, 2)) ∧ (decode cX9_looks 86 = .ok (.if_icmp .lt 26, 3)) ∧ (decode cX9_looks 89 = .ok (.iinc 5 1, 3)) ∧ (decode cX9_looks 92 = .ok (.iload 6, 2)) ∧ (decode cX9_looks 94 = .ok (.aload_n 0, 1)) ∧ (decode cX9_looks 95 = .ok (.getfield 26, 3)) := by decide +kernel
theorem dX9_looks_80 : decode cX9_looks 80 = .ok (.istore 6, 2) := eX9_looks_80.1
theorem dX9_looks_82 : decode cX9_looks 82 = .ok (.iload 4, 2) := eX9_looks_80.2.1
theorem dX9_looks_84 : decode cX9_looks 84 = .ok (.iload 6, 2) := eX9_looks_80.2.2.1
theorem dX9_looks_86 : decode cX9_looks 86 = .ok (.if_icmp .lt 26, 3) := eX9_looks_80.2.2.2.1
theorem dX9_looks_89 : decode cX9_looks 89 = .ok (.iinc 5 1, 3) := eX9_looks_80.2.2.2.2.1
theorem dX9_looks_92 : decode cX9_looks 92 = .ok (.iload 6, 2) := eX9_looks_80.2.2.2.2.2.1
theorem dX9_looks_94 : decode cX9_looks 94 = .ok (.aload_n 0, 1) := eX9_looks_80.2.2.2.2.2.2.1
theorem dX9_looks_95 : decode cX9_looks 95 = .ok (.getfield 26, 3) := eX9_looks_80.2.2.2.2.2.2.2
theorem eX9_looks_98 : (decode cX9_looks 98 = .ok (.bipush 25, 2)) ∧ (decode cX9_looks 100 = .ok (.iload_n 2, 1)) ∧ (decode cX9_looks 101 = .ok (.imul, 1)) ∧ (decode cX9_looks 102 = .ok (.iload 5, 2)) ∧ (decode cX9_looks 104 = .ok (.iadd, 1)) ∧ (decode cX9_looks 105 = .ok (.iaload, 1)) ∧ (decode cX9_looks 106 = .ok (.iadd, 1)) ∧ (decode cX9_looks 107 = .ok (.istore 6, 2)) := by decide +kernel
theorem dX9_looks_98 : decode cX9_looks 98 = .ok (.bipush 25, 2) := eX9_looks_98.1
theorem dX9_looks_100 : decode cX9_looks 100 = .ok (.iload_n 2, 1) := eX9_looks_98.2.1
theorem dX9_looks_101 : decode cX9_looks 101 = .ok (.imul, 1) := eX9_looks_98.2.2.1
theorem dX9_looks_102 : decode cX9_looks 102 = .ok (.iload 5, 2) := eX9_looks_98.2.2.2.1
theorem dX9_looks_104 : decode cX9_looks 104 = .ok (.iadd, 1) := eX9_looks_98.2.2.2.2.1
theorem dX9_looks_105 : decode cX9_looks 105 = .ok (.iaload, 1) := eX9_looks_98.2.2.2.2.2.1
theorem dX9_looks_106 : decode cX9_looks 106 = .ok (.iadd, 1) := eX9_looks_98.2.2.2.2.2.2.1
theorem dX9_looks_107 : decode cX9_looks 107 = .ok (.istore 6, 2) := eX9_looks_98.2.2.2.2.2.2.2
theorem eX9_looks_109 : (decode cX9_looks 109 = .ok (.goto (-27), 3)) ∧ (decode cX9_looks 112 = .ok (.aload_n 0, 1)) ∧ (decode cX9_looks 113 = .ok (.iload_n 2, 1)) ∧ (decode cX9_looks 114 = .ok (.iload 5, 2)) ∧ (decode cX9_looks 116 = .ok (.invokevirtual 120, 3)) ∧ (decode cX9_looks 119 = .ok (.ifCond .ne 5, 3)) ∧ (decode cX9_looks 122 = .ok (.iconst 0, 1)) ∧ (decode cX9_looks 123 = .ok (.ireturn, 1)) := by decide +kernel
theorem dX9_looks_109 : decode cX9_looks 109 = .ok (.goto (-27), 3) := eX9_looks_109.1
theorem dX9_looks_112 : decode cX9_looks 112 = .ok (.aload_n 0, 1) := eX9_looks_109.2.1
theorem dX9_looks_113 : decode cX9_looks 113 = .ok (.iload_n 2, 1) := eX9_looks_109.2.2.1
theorem dX9_looks_114 : decode cX9_looks 114 = .ok (.iload 5, 2) := eX9_looks_109.2.2.2.1
theorem dX9_looks_116 : decode cX9_looks 116 = .ok (.invokevirtual 120, 3) := eX9_looks_109.2.2.2.2.1
theorem dX9_looks_119 : decode cX9_looks 119 = .ok (.ifCond .ne 5, 3) := eX9_looks_109.2.2.2.2.2.1
theorem dX9_looks_122 : decode cX9_looks 122 = .ok (.iconst 0, 1) := eX9_looks_109.2.2.2.2.2.2.1
theorem dX9_looks_123 : decode cX9_looks 123 = .ok (.ireturn, 1) := eX9_looks_109.2.2.2.2.2.2.2
theorem eX9_looks_124 : (decode cX9_looks 124 = .ok (.aload_n 0, 1)) ∧ (decode cX9_looks 125 = .ok (.getfield 36, 3)) ∧ (decode cX9_looks 128 = .ok (.aload_n 0, 1)) ∧ (decode cX9_looks 129 = .ok (.getfield 129, 3)) ∧ (decode cX9_looks 132 = .ok (.iload_n 2, 1)) ∧ (decode cX9_looks 133 = .ok (.iastore, 1)) ∧ (decode cX9_looks 134 = .ok (.aload_n 0, 1)) ∧ (decode cX9_looks 135 = .ok (.getfield 39, 3)) := by decide +kernel
theorem dX9_looks_124 : decode cX9_looks 124 = .ok (.aload_n 0, 1) := eX9_looks_124.1
theorem dX9_looks_125 : decode cX9_looks 125 = .ok (.getfield 36, 3) := eX9_looks_124.2.1
theorem dX9_looks_128 : decode cX9_looks 128 = .ok (.aload_n 0, 1) := eX9_looks_124.2.2.1
theorem dX9_looks_129 : decode cX9_looks 129 = .ok (.getfield 129, 3) := eX9_looks_124.2.2.2.1
theorem dX9_looks_132 : decode cX9_looks 132 = .ok (.iload_n 2, 1) := eX9_looks_124.2.2.2.2.1
theorem dX9_looks_133 : decode cX9_looks 133 = .ok (.iastore, 1) := eX9_looks_124.2.2.2.2.2.1
theorem dX9_looks_134 : decode cX9_looks 134 = .ok (.aload_n 0, 1) := eX9_looks_124.2.2.2.2.2.2.1
theorem dX9_looks_135 : decode cX9_looks 135 = .ok (.getfield 39, 3) := eX9_looks_124.2.2.2.2.2.2.2
theorem eX9_looks_138 : (decode cX9_looks 138 = .ok (.aload_n 0, 1)) ∧ (decode cX9_looks 139 = .ok (.getfield 129, 3)) ∧ (decode cX9_looks 142 = .ok (.iload 5, 2)) ∧ (decode cX9_looks 144 = .ok (.iastore, 1)) ∧ (decode cX9_looks 145 = .ok (.aload_n 0, 1)) ∧ (decode cX9_looks 146 = .ok (.dup, 1)) ∧ (decode cX9_looks 147 = .ok (.getfield 129, 3)) ∧ (decode cX9_looks 150 = .ok (.iconst 1, 1)) := by decide +kernel
theorem dX9_looks_138 : decode cX9_looks 138 = .ok (.aload_n 0, 1) := eX9_looks_138.1
theorem dX9_looks_139 : decode cX9_looks 139 = .ok (.getfield 129, 3) := eX9_looks_138.2.1
theorem dX9_looks_142 : decode cX9_looks 142 = .ok (.iload 5, 2) := eX9_looks_138.2.2.1
theorem dX9_looks_144 : decode cX9_looks 144 = .ok (.iastore, 1) := eX9_looks_138.2.2.2.1
theorem dX9_looks_145 : decode cX9_looks 145 = .ok (.aload_n 0, 1) := eX9_looks_138.2.2.2.2.1
theorem dX9_looks_146 : decode cX9_looks 146 = .ok (.dup, 1) := eX9_looks_138.2.2.2.2.2.1
theorem dX9_looks_147 : decode cX9_looks 147 = .ok (.getfield 129, 3) := eX9_looks_138.2.2.2.2.2.2.1
theorem dX9_looks_150 : decode cX9_looks 150 = .ok (.iconst 1, 1) := eX9_looks_138.2.2.2.2.2.2.2
theorem eX9_looks_151 : (decode cX9_looks 151 = .ok (.iadd, 1)) ∧ (decode cX9_looks 152 = .ok (.putfield 129, 3)) ∧ (decode cX9_looks 155 = .ok (.aload_n 0, 1)) ∧ (decode cX9_looks 156 = .ok (.getfield 26, 3)) ∧ (decode cX9_looks 159 = .ok (.bipush 25, 2)) ∧ (decode cX9_looks 161 = .ok (.iload_n 2, 1)) ∧ (decode cX9_looks 162 = .ok (.imul, 1)) ∧ (decode cX9_looks 163 = .ok (.bipush 20, 2)) := by decide +kernel
theorem dX9_looks_151 : decode cX9_looks 151 = .ok (.iadd, 1) := eX9_looks_151.1
theorem dX9_looks_152 : decode cX9_looks 152 = .ok (.putfield 129, 3) := eX9_looks_151.2.1
theorem dX9_looks_155 : decode cX9_looks 155 = .ok (.aload_n 0, 1) := eX9_looks_151.2.2.1
theorem dX9_looks_156 : decode cX9_looks 156 = .ok (.getfield 26, 3) := eX9_looks_151.2.2.2.1
theorem dX9_looks_159 : decode cX9_looks 159 = .ok (.bipush 25, 2) := eX9_looks_151.2.2.2.2.1
theorem dX9_looks_161 : decode cX9_looks 161 = .ok (.iload_n 2, 1) := eX9_looks_151.2.2.2.2.2.1
theorem dX9_looks_162 : decode cX9_looks 162 = .ok (.imul, 1) := eX9_looks_151.2.2.2.2.2.2.1
theorem dX9_looks_163 : decode cX9_looks 163 = .ok (.bipush 20, 2) := eX9_looks_151.2.2.2.2.2.2.2
theorem eX9_looks_165 : (decode cX9_looks 165 = .ok (.iadd, 1)) ∧ (decode cX9_looks 166 = .ok (.iload 5, 2)) ∧ (decode cX9_looks 168 = .ok (.iadd, 1)) ∧ (decode cX9_looks 169 = .ok (.iaload, 1)) ∧ (decode cX9_looks 170 = .ok (.istore_n 2, 1)) ∧ (decode cX9_looks 171 = .ok (.goto (-152), 3)) ∧ (decode cX9_looks 174 = .ok (.iconst 1, 1)) ∧ (decode cX9_looks 175 = .ok (.ireturn, 1)) := by decide +kernel
theorem dX9_looks_165 : decode cX9_looks 165 = .ok (.iadd, 1) := eX9_looks_165.1
theorem dX9_looks_166 : decode cX9_looks 166 = .ok (.iload 5, 2) := eX9_looks_165.2.1
theorem dX9_looks_168 : decode cX9_looks 168 = .ok (.iadd, 1) := eX9_looks_165.2.2.1
theorem dX9_looks_169 : decode cX9_looks 169 = .ok (.iaload, 1) := eX9_looks_165.2.2.2.1
theorem dX9_looks_170 : decode cX9_looks 170 = .ok (.istore_n 2, 1) := eX9_looks_165.2.2.2.2.1
theorem dX9_looks_171 : decode cX9_looks 171 = .ok (.goto (-152), 3) := eX9_looks_165.2.2.2.2.2.1
theorem dX9_looks_174 : decode cX9_looks 174 = .ok (.iconst 1, 1) := eX9_looks_165.2.2.2.2.2.2.1
theorem dX9_looks_175 : decode cX9_looks 175 = .ok (.ireturn, 1) := eX9_looks_165.2.2.2.2.2.2.2
theorem eX9_doesDraws_0 : (decode cX9_doesDraws 0 = .ok (.iconst 1, 1)) ∧ (decode cX9_doesDraws 1 = .ok (.istore_n 1, 1)) ∧ (decode cX9_doesDraws 2 = .ok (.iconst 0, 1)) ∧ (decode cX9_doesDraws 3 = .ok (.istore_n 2, 1)) ∧ (decode cX9_doesDraws 4 = .ok (.iload_n 2, 1)) ∧ (decode cX9_doesDraws 5 = .ok (.aload_n 0, 1)) ∧ (decode cX9_doesDraws 6 = .ok (.getfield 129, 3)) ∧ (decode cX9_doesDraws 9 = .ok (.if_icmp .ge 37, 3)) := by decide +kernel
theorem dX9_doesDraws_0 : decode cX9_doesDraws 0 = .ok (.iconst 1, 1) := eX9_doesDraws_0.1
theorem dX9_doesDraws_1 : decode cX9_doesDraws 1 = .ok (.istore_n 1, 1) := eX9_doesDraws_0.2.1
theorem dX9_doesDraws_2 : decode cX9_doesDraws 2 = .ok (.iconst 0, 1) := eX9_doesDraws_0.2.2.1
theorem dX9_doesDraws_3 : decode cX9_doesDraws 3 = .ok (.istore_n 2, 1) := eX9_doesDraws_0.2.2.2.1
theorem dX9_doesDraws_4 : decode cX9_doesDraws 4 = .ok (.iload_n 2, 1) := eX9_doesDraws_0.2.2.2.2.1
theorem dX9_doesDraws_5 : decode cX9_doesDraws 5 = .ok (.aload_n 0, 1) := eX9_doesDraws_0.2.2.2.2.2.1
theorem dX9_doesDraws_6 : decode cX9_doesDraws 6 = .ok (.getfield 129, 3) := eX9_doesDraws_0.2.2.2.2.2.2.1
theorem dX9_doesDraws_9 : decode cX9_doesDraws 9 = .ok (.if_icmp .ge 37, 3) := eX9_doesDraws_0.2.2.2.2.2.2.2
theorem eX9_doesDraws_12 : (decode cX9_doesDraws 12 = .ok (.aload_n 0, 1)) ∧ (decode cX9_doesDraws 13 = .ok (.aload_n 0, 1)) ∧ (decode cX9_doesDraws 14 = .ok (.getfield 36, 3)) ∧ (decode cX9_doesDraws 17 = .ok (.iload_n 2, 1)) ∧ (decode cX9_doesDraws 18 = .ok (.iaload, 1)) ∧ (decode cX9_doesDraws 19 = .ok (.aload_n 0, 1)) ∧ (decode cX9_doesDraws 20 = .ok (.getfield 39, 3)) ∧ (decode cX9_doesDraws 23 = .ok (.iload_n 2, 1)) := by decide +kernel
theorem dX9_doesDraws_12 : decode cX9_doesDraws 12 = .ok (.aload_n 0, 1) := eX9_doesDraws_12.1
theorem dX9_doesDraws_13 : decode cX9_doesDraws 13 = .ok (.aload_n 0, 1) := eX9_doesDraws_12.2.1
theorem dX9_doesDraws_14 : decode cX9_doesDraws 14 = .ok (.getfield 36, 3) := eX9_doesDraws_12.2.2.1
theorem dX9_doesDraws_17 : decode cX9_doesDraws 17 = .ok (.iload_n 2, 1) := eX9_doesDraws_12.2.2.2.1
theorem dX9_doesDraws_18 : decode cX9_doesDraws 18 = .ok (.iaload, 1) := eX9_doesDraws_12.2.2.2.2.1
theorem dX9_doesDraws_19 : decode cX9_doesDraws 19 = .ok (.aload_n 0, 1) := eX9_doesDraws_12.2.2.2.2.2.1
theorem dX9_doesDraws_20 : decode cX9_doesDraws 20 = .ok (.getfield 39, 3) := eX9_doesDraws_12.2.2.2.2.2.2.1
theorem dX9_doesDraws_23 : decode cX9_doesDraws 23 = .ok (.iload_n 2, 1) := eX9_doesDraws_12.2.2.2.2.2.2.2
theorem eX9_doesDraws_24 : (decode cX9_doesDraws 24 = .ok (.iaload, 1)) ∧ (decode cX9_doesDraws 25 = .ok (.invokevirtual 123, 3)) ∧ (decode cX9_doesDraws 28 = .ok (.bipush 10, 2)) ∧ (decode cX9_doesDraws 30 = .ok (.iload_n 1, 1)) ∧ (decode cX9_doesDraws 31 = .ok (.imul, 1)) ∧ (decode cX9_doesDraws 32 = .ok (.aload_n 0, 1)) ∧ (decode cX9_doesDraws 33 = .ok (.getfield 39, 3)) ∧ (decode cX9_doesDraws 36 = .ok (.iload_n 2, 1)) := by decide +kernel
theorem dX9_doesDraws_24 : decode cX9_doesDraws 24 = .ok (.iaload, 1) := eX9_doesDraws_24.1
theorem dX9_doesDraws_25 : decode cX9_doesDraws 25 = .ok (.invokevirtual 123, 3) := eX9_doesDraws_24.2.1
theorem dX9_doesDraws_28 : decode cX9_doesDraws 28 = .ok (.bipush 10, 2) := eX9_doesDraws_24.2.2.1
theorem dX9_doesDraws_30 : decode cX9_doesDraws 30 = .ok (.iload_n 1, 1) := eX9_doesDraws_24.2.2.2.1
theorem dX9_doesDraws_31 : decode cX9_doesDraws 31 = .ok (.imul, 1) := eX9_doesDraws_24.2.2.2.2.1
theorem dX9_doesDraws_32 : decode cX9_doesDraws 32 = .ok (.aload_n 0, 1) := eX9_doesDraws_24.2.2.2.2.2.1
theorem dX9_doesDraws_33 : decode cX9_doesDraws 33 = .ok (.getfield 39, 3) := eX9_doesDraws_24.2.2.2.2.2.2.1
theorem dX9_doesDraws_36 : decode cX9_doesDraws 36 = .ok (.iload_n 2, 1) := eX9_doesDraws_24.2.2.2.2.2.2.2
theorem eX9_doesDraws_37 : (decode cX9_doesDraws 37 = .ok (.iaload, 1)) ∧ (decode cX9_doesDraws 38 = .ok (.iadd, 1)) ∧ (decode cX9_doesDraws 39 = .ok (.istore_n 1, 1)) ∧ (decode cX9_doesDraws 40 = .ok (.iinc 2 1, 3)) ∧ (decode cX9_doesDraws 43 = .ok (.goto (-39), 3)) ∧ (decode cX9_doesDraws 46 = .ok (.aload_n 0, 1)) ∧ (decode cX9_doesDraws 47 = .ok (.getfield 26, 3)) ∧ (decode cX9_doesDraws 50 = .ok (.sipush 200, 3)) := by decide +kernel
theorem dX9_doesDraws_37 : decode cX9_doesDraws 37 = .ok (.iaload, 1) := eX9_doesDraws_37.1
theorem dX9_doesDraws_38 : decode cX9_doesDraws 38 = .ok (.iadd, 1) := eX9_doesDraws_37.2.1
theorem dX9_doesDraws_39 : decode cX9_doesDraws 39 = .ok (.istore_n 1, 1) := eX9_doesDraws_37.2.2.1
theorem dX9_doesDraws_40 : decode cX9_doesDraws 40 = .ok (.iinc 2 1, 3) := eX9_doesDraws_37.2.2.2.1
theorem dX9_doesDraws_43 : decode cX9_doesDraws 43 = .ok (.goto (-39), 3) := eX9_doesDraws_37.2.2.2.2.1
theorem dX9_doesDraws_46 : decode cX9_doesDraws 46 = .ok (.aload_n 0, 1) := eX9_doesDraws_37.2.2.2.2.2.1
theorem dX9_doesDraws_47 : decode cX9_doesDraws 47 = .ok (.getfield 26, 3) := eX9_doesDraws_37.2.2.2.2.2.2.1
theorem dX9_doesDraws_50 : decode cX9_doesDraws 50 = .ok (.sipush 200, 3) := eX9_doesDraws_37.2.2.2.2.2.2.2
theorem eX9_doesDraws_53 : (decode cX9_doesDraws 53 = .ok (.aload_n 0, 1)) ∧ (decode cX9_doesDraws 54 = .ok (.getfield 132, 3)) ∧ (decode cX9_doesDraws 57 = .ok (.iastore, 1)) ∧ (decode cX9_doesDraws 58 = .ok (.iload_n 1, 1)) ∧ (decode cX9_doesDraws 59 = .ok (.ireturn, 1)) := by decide +kernel
theorem dX9_doesDraws_53 : decode cX9_doesDraws 53 = .ok (.aload_n 0, 1) := eX9_doesDraws_53.1
theorem dX9_doesDraws_54 : decode cX9_doesDraws 54 = .ok (.getfield 132, 3) := eX9_doesDraws_53.2.1
theorem dX9_doesDraws_57 : decode cX9_doesDraws 57 = .ok (.iastore, 1) := eX9_doesDraws_53.2.2.1
theorem dX9_doesDraws_58 : decode cX9_doesDraws 58 = .ok (.iload_n 1, 1) := eX9_doesDraws_53.2.2.2.1
theorem dX9_doesDraws_59 : decode cX9_doesDraws 59 = .ok (.ireturn, 1) := eX9_doesDraws_53.2.2.2.2
theorem eX9_drawn_0 : (decode cX9_drawn 0 = .ok (.aload_n 0, 1)) ∧ (decode cX9_drawn 1 = .ok (.iload_n 1, 1)) ∧ (decode cX9_drawn 2 = .ok (.invokevirtual 89, 3)) ∧ (decode cX9_drawn 5 = .ok (.ifCond .ne 5, 3)) ∧ (decode cX9_drawn 8 = .ok (.iconst (-1), 1)) ∧ (decode cX9_drawn 9 = .ok (.ireturn, 1)) ∧ (decode cX9_drawn 10 = .ok (.aload_n 0, 1)) ∧ (decode cX9_drawn 11 = .ok (.iload_n 1, 1)) := by decide +kernel
theorem dX9_drawn_0 : decode cX9_drawn 0 = .ok (.aload_n 0, 1) := eX9_drawn_0.1
theorem dX9_drawn_1 : decode cX9_drawn 1 = .ok (.iload_n 1, 1) := eX9_drawn_0.2.1
theorem dX9_drawn_2 : decode cX9_drawn 2 = .ok (.invokevirtual 89, 3) := eX9_drawn_0.2.2.1
theorem dX9_drawn_5 : decode cX9_drawn 5 = .ok (.ifCond .ne 5, 3) := eX9_drawn_0.2.2.2.1
theorem dX9_drawn_8 : decode cX9_drawn 8 = .ok (.iconst (-1), 1) := eX9_drawn_0.2.2.2.2.1
theorem dX9_drawn_9 : decode cX9_drawn 9 = .ok (.ireturn, 1) := eX9_drawn_0.2.2.2.2.2.1
theorem dX9_drawn_10 : decode cX9_drawn 10 = .ok (.aload_n 0, 1) := eX9_drawn_0.2.2.2.2.2.2.1
theorem dX9_drawn_11 : decode cX9_drawn 11 = .ok (.iload_n 1, 1) := eX9_drawn_0.2.2.2.2.2.2.2
theorem eX9_drawn_12 : (decode cX9_drawn 12 = .ok (.invokevirtual 141, 3)) ∧ (decode cX9_drawn 15 = .ok (.ifCond .ne 6, 3)) ∧ (decode cX9_drawn 18 = .ok (.bipush (-5), 2)) ∧ (decode cX9_drawn 20 = .ok (.ireturn, 1)) ∧ (decode cX9_drawn 21 = .ok (.aload_n 0, 1)) ∧ (decode cX9_drawn 22 = .ok (.invokevirtual 102, 3)) ∧ (decode cX9_drawn 25 = .ok (.aload_n 0, 1)) ∧ (decode cX9_drawn 26 = .ok (.invokevirtual 144, 3)) := by decide +kernel
theorem dX9_drawn_12 : decode cX9_drawn 12 = .ok (.invokevirtual 141, 3) := eX9_drawn_12.1
theorem dX9_drawn_15 : decode cX9_drawn 15 = .ok (.ifCond .ne 6, 3) := eX9_drawn_12.2.1
theorem dX9_drawn_18 : decode cX9_drawn 18 = .ok (.bipush (-5), 2) := eX9_drawn_12.2.2.1
theorem dX9_drawn_20 : decode cX9_drawn 20 = .ok (.ireturn, 1) := eX9_drawn_12.2.2.2.1
theorem dX9_drawn_21 : decode cX9_drawn 21 = .ok (.aload_n 0, 1) := eX9_drawn_12.2.2.2.2.1
theorem dX9_drawn_22 : decode cX9_drawn 22 = .ok (.invokevirtual 102, 3) := eX9_drawn_12.2.2.2.2.2.1
theorem dX9_drawn_25 : decode cX9_drawn 25 = .ok (.aload_n 0, 1) := eX9_drawn_12.2.2.2.2.2.2.1
theorem dX9_drawn_26 : decode cX9_drawn 26 = .ok (.invokevirtual 144, 3) := eX9_drawn_12.2.2.2.2.2.2.2
theorem dX9_drawn_29 : decode cX9_drawn 29 = .ok (.ireturn, 1) := by decide +kernel
theorem eX9_shake_0 : (decode cX9_shake 0 = .ok (.aload_n 0, 1)) ∧ (decode cX9_shake 1 = .ok (.iload_n 1, 1)) ∧ (decode cX9_shake 2 = .ok (.invokevirtual 89, 3)) ∧ (decode cX9_shake 5 = .ok (.ifCond .eq 15, 3)) ∧ (decode cX9_shake 8 = .ok (.iload_n 2, 1)) ∧ (decode cX9_shake 9 = .ok (.i2l, 1)) ∧ (decode cX9_shake 10 = .ok (.lconst 1, 1)) ∧ (decode cX9_shake 11 = .ok (.ldc2_w 148, 3)) := by decide +kernel
theorem dX9_shake_0 : decode cX9_shake 0 = .ok (.aload_n 0, 1) := eX9_shake_0.1
theorem dX9_shake_1 : decode cX9_shake 1 = .ok (.iload_n 1, 1) := eX9_shake_0.2.1
theorem dX9_shake_2 : decode cX9_shake 2 = .ok (.invokevirtual 89, 3) := eX9_shake_0.2.2.1
theorem dX9_shake_5 : decode cX9_shake 5 = .ok (.ifCond .eq 15, 3) := eX9_shake_0.2.2.2.1
theorem dX9_shake_8 : decode cX9_shake 8 = .ok (.iload_n 2, 1) := eX9_shake_0.2.2.2.2.1
theorem dX9_shake_9 : decode cX9_shake 9 = .ok (.i2l, 1) := eX9_shake_0.2.2.2.2.2.1
theorem dX9_shake_10 : decode cX9_shake 10 = .ok (.lconst 1, 1) := eX9_shake_0.2.2.2.2.2.2.1
theorem dX9_shake_11 : decode cX9_shake 11 = .ok (.ldc2_w 148, 3) := eX9_shake_0.2.2.2.2.2.2.2
theorem eX9_shake_14 : (decode cX9_shake 14 = .ok (.invokestatic 62, 3)) ∧ (decode cX9_shake 17 = .ok (.ifCond .ne 5, 3)) ∧ (decode cX9_shake 20 = .ok (.iconst (-1), 1)) ∧ (decode cX9_shake 21 = .ok (.ireturn, 1)) ∧ (decode cX9_shake 22 = .ok (.iconst 0, 1)) ∧ (decode cX9_shake 23 = .ok (.istore_n 3, 1)) ∧ (decode cX9_shake 24 = .ok (.iload_n 3, 1)) ∧ (decode cX9_shake 25 = .ok (.iload_n 2, 1)) := by decide +kernel
theorem dX9_shake_14 : decode cX9_shake 14 = .ok (.invokestatic 62, 3) := eX9_shake_14.1
theorem dX9_shake_17 : decode cX9_shake 17 = .ok (.ifCond .ne 5, 3) := eX9_shake_14.2.1
theorem dX9_shake_20 : decode cX9_shake 20 = .ok (.iconst (-1), 1) := eX9_shake_14.2.2.1
theorem dX9_shake_21 : decode cX9_shake 21 = .ok (.ireturn, 1) := eX9_shake_14.2.2.2.1
theorem dX9_shake_22 : decode cX9_shake 22 = .ok (.iconst 0, 1) := eX9_shake_14.2.2.2.2.1
theorem dX9_shake_23 : decode cX9_shake 23 = .ok (.istore_n 3, 1) := eX9_shake_14.2.2.2.2.2.1
theorem dX9_shake_24 : decode cX9_shake 24 = .ok (.iload_n 3, 1) := eX9_shake_14.2.2.2.2.2.2.1
theorem dX9_shake_25 : decode cX9_shake 25 = .ok (.iload_n 2, 1) := eX9_shake_14.2.2.2.2.2.2.2
theorem eX9_shake_26 : (decode cX9_shake 26 = .ok (.if_icmp .ge 31, 3)) ∧ (decode cX9_shake 29 = .ok (.aload_n 0, 1)) ∧ (decode cX9_shake 30 = .ok (.iload_n 1, 1)) ∧ (decode cX9_shake 31 = .ok (.invokevirtual 141, 3)) ∧ (decode cX9_shake 34 = .ok (.ifCond .eq 23, 3)) ∧ (decode cX9_shake 37 = .ok (.iload_n 3, 1)) ∧ (decode cX9_shake 38 = .ok (.ifCond .ne 7, 3)) ∧ (decode cX9_shake 41 = .ok (.aload_n 0, 1)) := by decide +kernel
theorem dX9_shake_26 : decode cX9_shake 26 = .ok (.if_icmp .ge 31, 3) := eX9_shake_26.1
theorem dX9_shake_29 : decode cX9_shake 29 = .ok (.aload_n 0, 1) := eX9_shake_26.2.1
theorem dX9_shake_30 : decode cX9_shake 30 = .ok (.iload_n 1, 1) := eX9_shake_26.2.2.1
theorem dX9_shake_31 : decode cX9_shake 31 = .ok (.invokevirtual 141, 3) := eX9_shake_26.2.2.2.1
theorem dX9_shake_34 : decode cX9_shake 34 = .ok (.ifCond .eq 23, 3) := eX9_shake_26.2.2.2.2.1
theorem dX9_shake_37 : decode cX9_shake 37 = .ok (.iload_n 3, 1) := eX9_shake_26.2.2.2.2.2.1
theorem dX9_shake_38 : decode cX9_shake 38 = .ok (.ifCond .ne 7, 3) := eX9_shake_26.2.2.2.2.2.2.1
theorem dX9_shake_41 : decode cX9_shake 41 = .ok (.aload_n 0, 1) := eX9_shake_26.2.2.2.2.2.2.2
theorem eX9_shake_42 : (decode cX9_shake 42 = .ok (.invokevirtual 102, 3)) ∧ (decode cX9_shake 45 = .ok (.aload_n 0, 1)) ∧ (decode cX9_shake 46 = .ok (.invokevirtual 144, 3)) ∧ (decode cX9_shake 49 = .ok (.istore 4, 2)) ∧ (decode cX9_shake 51 = .ok (.iinc 3 1, 3)) ∧ (decode cX9_shake 54 = .ok (.goto (-30), 3)) ∧ (decode cX9_shake 57 = .ok (.iload_n 3, 1)) ∧ (decode cX9_shake 58 = .ok (.ireturn, 1)) := by decide +kernel
theorem dX9_shake_42 : decode cX9_shake 42 = .ok (.invokevirtual 102, 3) := eX9_shake_42.1
theorem dX9_shake_45 : decode cX9_shake 45 = .ok (.aload_n 0, 1) := eX9_shake_42.2.1
theorem dX9_shake_46 : decode cX9_shake 46 = .ok (.invokevirtual 144, 3) := eX9_shake_42.2.2.1
theorem dX9_shake_49 : decode cX9_shake 49 = .ok (.istore 4, 2) := eX9_shake_42.2.2.2.1
theorem dX9_shake_51 : decode cX9_shake 51 = .ok (.iinc 3 1, 3) := eX9_shake_42.2.2.2.2.1
theorem dX9_shake_54 : decode cX9_shake 54 = .ok (.goto (-30), 3) := eX9_shake_42.2.2.2.2.2.1
theorem dX9_shake_57 : decode cX9_shake 57 = .ok (.iload_n 3, 1) := eX9_shake_42.2.2.2.2.2.2.1
theorem dX9_shake_58 : decode cX9_shake 58 = .ok (.ireturn, 1) := eX9_shake_42.2.2.2.2.2.2.2
theorem eX9_undo_0 : (decode cX9_undo 0 = .ok (.aload_n 0, 1)) ∧ (decode cX9_undo 1 = .ok (.getfield 86, 3)) ∧ (decode cX9_undo 4 = .ok (.ifCond .ne 6, 3)) ∧ (decode cX9_undo 7 = .ok (.bipush (-2), 2)) ∧ (decode cX9_undo 9 = .ok (.ireturn, 1)) ∧ (decode cX9_undo 10 = .ok (.aload_n 0, 1)) ∧ (decode cX9_undo 11 = .ok (.dup, 1)) ∧ (decode cX9_undo 12 = .ok (.getfield 86, 3)) := by decide +kernel
theorem dX9_undo_0 : decode cX9_undo 0 = .ok (.aload_n 0, 1) := eX9_undo_0.1
theorem dX9_undo_1 : decode cX9_undo 1 = .ok (.getfield 86, 3) := eX9_undo_0.2.1
theorem dX9_undo_4 : decode cX9_undo 4 = .ok (.ifCond .ne 6, 3) := eX9_undo_0.2.2.1
theorem dX9_undo_7 : decode cX9_undo 7 = .ok (.bipush (-2), 2) := eX9_undo_0.2.2.2.1
theorem dX9_undo_9 : decode cX9_undo 9 = .ok (.ireturn, 1) := eX9_undo_0.2.2.2.2.1
theorem dX9_undo_10 : decode cX9_undo 10 = .ok (.aload_n 0, 1) := eX9_undo_0.2.2.2.2.2.1
theorem dX9_undo_11 : decode cX9_undo 11 = .ok (.dup, 1) := eX9_undo_0.2.2.2.2.2.2.1
theorem dX9_undo_12 : decode cX9_undo 12 = .ok (.getfield 86, 3) := eX9_undo_0.2.2.2.2.2.2.2
theorem eX9_undo_15 : (decode cX9_undo 15 = .ok (.iconst 1, 1)) ∧ (decode cX9_undo 16 = .ok (.isub, 1)) ∧ (decode cX9_undo 17 = .ok (.putfield 86, 3)) ∧ (decode cX9_undo 20 = .ok (.iconst 0, 1)) ∧ (decode cX9_undo 21 = .ok (.istore_n 1, 1)) ∧ (decode cX9_undo 22 = .ok (.iload_n 1, 1)) ∧ (decode cX9_undo 23 = .ok (.sipush 202, 3)) ∧ (decode cX9_undo 26 = .ok (.if_icmp .ge 30, 3)) := by decide +kernel
theorem dX9_undo_15 : decode cX9_undo 15 = .ok (.iconst 1, 1) := eX9_undo_15.1
theorem dX9_undo_16 : decode cX9_undo 16 = .ok (.isub, 1) := eX9_undo_15.2.1
theorem dX9_undo_17 : decode cX9_undo 17 = .ok (.putfield 86, 3) := eX9_undo_15.2.2.1
theorem dX9_undo_20 : decode cX9_undo 20 = .ok (.iconst 0, 1) := eX9_undo_15.2.2.2.1
theorem dX9_undo_21 : decode cX9_undo 21 = .ok (.istore_n 1, 1) := eX9_undo_15.2.2.2.2.1
theorem dX9_undo_22 : decode cX9_undo 22 = .ok (.iload_n 1, 1) := eX9_undo_15.2.2.2.2.2.1
theorem dX9_undo_23 : decode cX9_undo 23 = .ok (.sipush 202, 3) := eX9_undo_15.2.2.2.2.2.2.1
theorem dX9_undo_26 : decode cX9_undo 26 = .ok (.if_icmp .ge 30, 3) := eX9_undo_15.2.2.2.2.2.2.2
theorem eX9_undo_29 : (decode cX9_undo 29 = .ok (.aload_n 0, 1)) ∧ (decode cX9_undo 30 = .ok (.getfield 26, 3)) ∧ (decode cX9_undo 33 = .ok (.iload_n 1, 1)) ∧ (decode cX9_undo 34 = .ok (.aload_n 0, 1)) ∧ (decode cX9_undo 35 = .ok (.getfield 29, 3)) ∧ (decode cX9_undo 38 = .ok (.sipush 202, 3)) ∧ (decode cX9_undo 41 = .ok (.aload_n 0, 1)) ∧ (decode cX9_undo 42 = .ok (.getfield 86, 3)) := by decide +kernel
theorem dX9_undo_29 : decode cX9_undo 29 = .ok (.aload_n 0, 1) := eX9_undo_29.1
theorem dX9_undo_30 : decode cX9_undo 30 = .ok (.getfield 26, 3) := eX9_undo_29.2.1
theorem dX9_undo_33 : decode cX9_undo 33 = .ok (.iload_n 1, 1) := eX9_undo_29.2.2.1
theorem dX9_undo_34 : decode cX9_undo 34 = .ok (.aload_n 0, 1) := eX9_undo_29.2.2.2.1
theorem dX9_undo_35 : decode cX9_undo 35 = .ok (.getfield 29, 3) := eX9_undo_29.2.2.2.2.1
theorem dX9_undo_38 : decode cX9_undo 38 = .ok (.sipush 202, 3) := eX9_undo_29.2.2.2.2.2.1
theorem dX9_undo_41 : decode cX9_undo 41 = .ok (.aload_n 0, 1) := eX9_undo_29.2.2.2.2.2.2.1
theorem dX9_undo_42 : decode cX9_undo 42 = .ok (.getfield 86, 3) := eX9_undo_29.2.2.2.2.2.2.2
theorem eX9_undo_45 : (decode cX9_undo 45 = .ok (.imul, 1)) ∧ (decode cX9_undo 46 = .ok (.iload_n 1, 1)) ∧ (decode cX9_undo 47 = .ok (.iadd, 1)) ∧ (decode cX9_undo 48 = .ok (.iaload, 1)) ∧ (decode cX9_undo 49 = .ok (.iastore, 1)) ∧ (decode cX9_undo 50 = .ok (.iinc 1 1, 3)) ∧ (decode cX9_undo 53 = .ok (.goto (-31), 3)) ∧ (decode cX9_undo 56 = .ok (.iconst 1, 1)) := by decide +kernel
theorem dX9_undo_45 : decode cX9_undo 45 = .ok (.imul, 1) := eX9_undo_45.1
theorem dX9_undo_46 : decode cX9_undo 46 = .ok (.iload_n 1, 1) := eX9_undo_45.2.1
theorem dX9_undo_47 : decode cX9_undo 47 = .ok (.iadd, 1) := eX9_undo_45.2.2.1
theorem dX9_undo_48 : decode cX9_undo 48 = .ok (.iaload, 1) := eX9_undo_45.2.2.2.1
theorem dX9_undo_49 : decode cX9_undo 49 = .ok (.iastore, 1) := eX9_undo_45.2.2.2.2.1
theorem dX9_undo_50 : decode cX9_undo 50 = .ok (.iinc 1 1, 3) := eX9_undo_45.2.2.2.2.2.1
theorem dX9_undo_53 : decode cX9_undo 53 = .ok (.goto (-31), 3) := eX9_undo_45.2.2.2.2.2.2.1
theorem dX9_undo_56 : decode cX9_undo 56 = .ok (.iconst 1, 1) := eX9_undo_45.2.2.2.2.2.2.2
theorem dX9_undo_57 : decode cX9_undo 57 = .ok (.ireturn, 1) := by decide +kernel
theorem eX9_common_0 : (decode cX9_common 0 = .ok (.lload_n 0, 1)) ∧ (decode cX9_common 1 = .ok (.lstore 4, 2)) ∧ (decode cX9_common 3 = .ok (.lload_n 2, 1)) ∧ (decode cX9_common 4 = .ok (.lstore 6, 2)) ∧ (decode cX9_common 6 = .ok (.lload 6, 2)) ∧ (decode cX9_common 8 = .ok (.lconst 0, 1)) ∧ (decode cX9_common 9 = .ok (.lcmp, 1)) ∧ (decode cX9_common 10 = .ok (.ifCond .eq 21, 3)) := by decide +kernel
theorem dX9_common_0 : decode cX9_common 0 = .ok (.lload_n 0, 1) := eX9_common_0.1
theorem dX9_common_1 : decode cX9_common 1 = .ok (.lstore 4, 2) := eX9_common_0.2.1
theorem dX9_common_3 : decode cX9_common 3 = .ok (.lload_n 2, 1) := eX9_common_0.2.2.1
theorem dX9_common_4 : decode cX9_common 4 = .ok (.lstore 6, 2) := eX9_common_0.2.2.2.1
theorem dX9_common_6 : decode cX9_common 6 = .ok (.lload 6, 2) := eX9_common_0.2.2.2.2.1
theorem dX9_common_8 : decode cX9_common 8 = .ok (.lconst 0, 1) := eX9_common_0.2.2.2.2.2.1
theorem dX9_common_9 : decode cX9_common 9 = .ok (.lcmp, 1) := eX9_common_0.2.2.2.2.2.2.1
theorem dX9_common_10 : decode cX9_common 10 = .ok (.ifCond .eq 21, 3) := eX9_common_0.2.2.2.2.2.2.2
theorem eX9_common_13 : (decode cX9_common 13 = .ok (.lload 4, 2)) ∧ (decode cX9_common 15 = .ok (.lload 6, 2)) ∧ (decode cX9_common 17 = .ok (.lrem, 1)) ∧ (decode cX9_common 18 = .ok (.lstore 8, 2)) ∧ (decode cX9_common 20 = .ok (.lload 6, 2)) ∧ (decode cX9_common 22 = .ok (.lstore 4, 2)) ∧ (decode cX9_common 24 = .ok (.lload 8, 2)) ∧ (decode cX9_common 26 = .ok (.lstore 6, 2)) := by decide +kernel
theorem dX9_common_13 : decode cX9_common 13 = .ok (.lload 4, 2) := eX9_common_13.1
theorem dX9_common_15 : decode cX9_common 15 = .ok (.lload 6, 2) := eX9_common_13.2.1
theorem dX9_common_17 : decode cX9_common 17 = .ok (.lrem, 1) := eX9_common_13.2.2.1
theorem dX9_common_18 : decode cX9_common 18 = .ok (.lstore 8, 2) := eX9_common_13.2.2.2.1
theorem dX9_common_20 : decode cX9_common 20 = .ok (.lload 6, 2) := eX9_common_13.2.2.2.2.1
theorem dX9_common_22 : decode cX9_common 22 = .ok (.lstore 4, 2) := eX9_common_13.2.2.2.2.2.1
theorem dX9_common_24 : decode cX9_common 24 = .ok (.lload 8, 2) := eX9_common_13.2.2.2.2.2.2.1
theorem dX9_common_26 : decode cX9_common 26 = .ok (.lstore 6, 2) := eX9_common_13.2.2.2.2.2.2.2
theorem eX9_common_28 : (decode cX9_common 28 = .ok (.goto (-22), 3)) ∧ (decode cX9_common 31 = .ok (.lload 4, 2)) ∧ (decode cX9_common 33 = .ok (.lreturn, 1)) := by decide +kernel
theorem dX9_common_28 : decode cX9_common 28 = .ok (.goto (-22), 3) := eX9_common_28.1
theorem dX9_common_31 : decode cX9_common 31 = .ok (.lload 4, 2) := eX9_common_28.2.1
theorem dX9_common_33 : decode cX9_common 33 = .ok (.lreturn, 1) := eX9_common_28.2.2
theorem eX9_tells_0 : (decode cX9_tells 0 = .ok (.lload_n 1, 1)) ∧ (decode cX9_tells 1 = .ok (.lload_n 3, 1)) ∧ (decode cX9_tells 2 = .ok (.invokestatic 150, 3)) ∧ (decode cX9_tells 5 = .ok (.lstore 5, 2)) ∧ (decode cX9_tells 7 = .ok (.aload_n 0, 1)) ∧ (decode cX9_tells 8 = .ok (.lconst 0, 1)) ∧ (decode cX9_tells 9 = .ok (.putfield 154, 3)) ∧ (decode cX9_tells 12 = .ok (.aload_n 0, 1)) := by decide +kernel
theorem dX9_tells_0 : decode cX9_tells 0 = .ok (.lload_n 1, 1) := eX9_tells_0.1
theorem dX9_tells_1 : decode cX9_tells 1 = .ok (.lload_n 3, 1) := eX9_tells_0.2.1
theorem dX9_tells_2 : decode cX9_tells 2 = .ok (.invokestatic 150, 3) := eX9_tells_0.2.2.1
theorem dX9_tells_5 : decode cX9_tells 5 = .ok (.lstore 5, 2) := eX9_tells_0.2.2.2.1
theorem dX9_tells_7 : decode cX9_tells 7 = .ok (.aload_n 0, 1) := eX9_tells_0.2.2.2.2.1
theorem dX9_tells_8 : decode cX9_tells 8 = .ok (.lconst 0, 1) := eX9_tells_0.2.2.2.2.2.1
theorem dX9_tells_9 : decode cX9_tells 9 = .ok (.putfield 154, 3) := eX9_tells_0.2.2.2.2.2.2.1
theorem dX9_tells_12 : decode cX9_tells 12 = .ok (.aload_n 0, 1) := eX9_tells_0.2.2.2.2.2.2.2
theorem eX9_tells_13 : (decode cX9_tells 13 = .ok (.lload_n 1, 1)) ∧ (decode cX9_tells 14 = .ok (.lload 5, 2)) ∧ (decode cX9_tells 16 = .ok (.ldiv, 1)) ∧ (decode cX9_tells 17 = .ok (.putfield 157, 3)) ∧ (decode cX9_tells 20 = .ok (.aload_n 0, 1)) ∧ (decode cX9_tells 21 = .ok (.lload_n 3, 1)) ∧ (decode cX9_tells 22 = .ok (.lload 5, 2)) ∧ (decode cX9_tells 24 = .ok (.ldiv, 1)) := by decide +kernel
theorem dX9_tells_13 : decode cX9_tells 13 = .ok (.lload_n 1, 1) := eX9_tells_13.1
theorem dX9_tells_14 : decode cX9_tells 14 = .ok (.lload 5, 2) := eX9_tells_13.2.1
theorem dX9_tells_16 : decode cX9_tells 16 = .ok (.ldiv, 1) := eX9_tells_13.2.2.1
theorem dX9_tells_17 : decode cX9_tells 17 = .ok (.putfield 157, 3) := eX9_tells_13.2.2.2.1
theorem dX9_tells_20 : decode cX9_tells 20 = .ok (.aload_n 0, 1) := eX9_tells_13.2.2.2.2.1
theorem dX9_tells_21 : decode cX9_tells 21 = .ok (.lload_n 3, 1) := eX9_tells_13.2.2.2.2.2.1
theorem dX9_tells_22 : decode cX9_tells 22 = .ok (.lload 5, 2) := eX9_tells_13.2.2.2.2.2.2.1
theorem dX9_tells_24 : decode cX9_tells 24 = .ok (.ldiv, 1) := eX9_tells_13.2.2.2.2.2.2.2
theorem eX9_tells_25 : (decode cX9_tells 25 = .ok (.putfield 32, 3)) ∧ (decode cX9_tells 28 = .ok (.iconst 0, 1)) ∧ (decode cX9_tells 29 = .ok (.ireturn, 1)) := by decide +kernel
theorem dX9_tells_25 : decode cX9_tells 25 = .ok (.putfield 32, 3) := eX9_tells_25.1
theorem dX9_tells_28 : decode cX9_tells 28 = .ok (.iconst 0, 1) := eX9_tells_25.2.1
theorem dX9_tells_29 : decode cX9_tells 29 = .ok (.ireturn, 1) := eX9_tells_25.2.2
theorem eX9_part_0 : (decode cX9_part 0 = .ok (.iload_n 1, 1)) ∧ (decode cX9_part 1 = .ok (.tableswitch 75 0 2 #[27, 42, 52], 27)) ∧ (decode cX9_part 28 = .ok (.aload_n 0, 1)) ∧ (decode cX9_part 29 = .ok (.getfield 154, 3)) ∧ (decode cX9_part 32 = .ok (.aload_n 0, 1)) ∧ (decode cX9_part 33 = .ok (.getfield 157, 3)) ∧ (decode cX9_part 36 = .ok (.aload_n 0, 1)) ∧ (decode cX9_part 37 = .ok (.getfield 32, 3)) := by decide +kernel
theorem dX9_part_0 : decode cX9_part 0 = .ok (.iload_n 1, 1) := eX9_part_0.1
theorem dX9_part_1 : decode cX9_part 1 = .ok (.tableswitch 75 0 2 #[27, 42, 52], 27) := eX9_part_0.2.1
theorem dX9_part_28 : decode cX9_part 28 = .ok (.aload_n 0, 1) := eX9_part_0.2.2.1
theorem dX9_part_29 : decode cX9_part 29 = .ok (.getfield 154, 3) := eX9_part_0.2.2.2.1
theorem dX9_part_32 : decode cX9_part 32 = .ok (.aload_n 0, 1) := eX9_part_0.2.2.2.2.1
theorem dX9_part_33 : decode cX9_part 33 = .ok (.getfield 157, 3) := eX9_part_0.2.2.2.2.2.1
theorem dX9_part_36 : decode cX9_part 36 = .ok (.aload_n 0, 1) := eX9_part_0.2.2.2.2.2.2.1
theorem dX9_part_37 : decode cX9_part 37 = .ok (.getfield 32, 3) := eX9_part_0.2.2.2.2.2.2.2
theorem eX9_part_40 : (decode cX9_part 40 = .ok (.ldiv, 1)) ∧ (decode cX9_part 41 = .ok (.ladd, 1)) ∧ (decode cX9_part 42 = .ok (.lreturn, 1)) ∧ (decode cX9_part 43 = .ok (.aload_n 0, 1)) ∧ (decode cX9_part 44 = .ok (.getfield 157, 3)) ∧ (decode cX9_part 47 = .ok (.aload_n 0, 1)) ∧ (decode cX9_part 48 = .ok (.getfield 32, 3)) ∧ (decode cX9_part 51 = .ok (.lrem, 1)) := by decide +kernel
theorem dX9_part_40 : decode cX9_part 40 = .ok (.ldiv, 1) := eX9_part_40.1
theorem dX9_part_41 : decode cX9_part 41 = .ok (.ladd, 1) := eX9_part_40.2.1
theorem dX9_part_42 : decode cX9_part 42 = .ok (.lreturn, 1) := eX9_part_40.2.2.1
theorem dX9_part_43 : decode cX9_part 43 = .ok (.aload_n 0, 1) := eX9_part_40.2.2.2.1
theorem dX9_part_44 : decode cX9_part 44 = .ok (.getfield 157, 3) := eX9_part_40.2.2.2.2.1
theorem dX9_part_47 : decode cX9_part 47 = .ok (.aload_n 0, 1) := eX9_part_40.2.2.2.2.2.1
theorem dX9_part_48 : decode cX9_part 48 = .ok (.getfield 32, 3) := eX9_part_40.2.2.2.2.2.2.1
theorem dX9_part_51 : decode cX9_part 51 = .ok (.lrem, 1) := eX9_part_40.2.2.2.2.2.2.2
theorem eX9_part_52 : (decode cX9_part 52 = .ok (.lreturn, 1)) ∧ (decode cX9_part 53 = .ok (.aload_n 0, 1)) ∧ (decode cX9_part 54 = .ok (.getfield 157, 3)) ∧ (decode cX9_part 57 = .ok (.aload_n 0, 1)) ∧ (decode cX9_part 58 = .ok (.getfield 32, 3)) ∧ (decode cX9_part 61 = .ok (.lrem, 1)) ∧ (decode cX9_part 62 = .ok (.lconst 0, 1)) ∧ (decode cX9_part 63 = .ok (.lcmp, 1)) := by decide +kernel
theorem dX9_part_52 : decode cX9_part 52 = .ok (.lreturn, 1) := eX9_part_52.1
theorem dX9_part_53 : decode cX9_part 53 = .ok (.aload_n 0, 1) := eX9_part_52.2.1
theorem dX9_part_54 : decode cX9_part 54 = .ok (.getfield 157, 3) := eX9_part_52.2.2.1
theorem dX9_part_57 : decode cX9_part 57 = .ok (.aload_n 0, 1) := eX9_part_52.2.2.2.1
theorem dX9_part_58 : decode cX9_part 58 = .ok (.getfield 32, 3) := eX9_part_52.2.2.2.2.1
theorem dX9_part_61 : decode cX9_part 61 = .ok (.lrem, 1) := eX9_part_52.2.2.2.2.2.1
theorem dX9_part_62 : decode cX9_part 62 = .ok (.lconst 0, 1) := eX9_part_52.2.2.2.2.2.2.1
theorem dX9_part_63 : decode cX9_part 63 = .ok (.lcmp, 1) := eX9_part_52.2.2.2.2.2.2.2
theorem eX9_part_64 : (decode cX9_part 64 = .ok (.ifCond .ne 7, 3)) ∧ (decode cX9_part 67 = .ok (.lconst 1, 1)) ∧ (decode cX9_part 68 = .ok (.goto 7, 3)) ∧ (decode cX9_part 71 = .ok (.aload_n 0, 1)) ∧ (decode cX9_part 72 = .ok (.getfield 32, 3)) ∧ (decode cX9_part 75 = .ok (.lreturn, 1)) ∧ (decode cX9_part 76 = .ok (.ldc2_w 70, 3)) ∧ (decode cX9_part 79 = .ok (.lreturn, 1)) := by decide +kernel
theorem dX9_part_64 : decode cX9_part 64 = .ok (.ifCond .ne 7, 3) := eX9_part_64.1
theorem dX9_part_67 : decode cX9_part 67 = .ok (.lconst 1, 1) := eX9_part_64.2.1
theorem dX9_part_68 : decode cX9_part 68 = .ok (.goto 7, 3) := eX9_part_64.2.2.1
theorem dX9_part_71 : decode cX9_part 71 = .ok (.aload_n 0, 1) := eX9_part_64.2.2.2.1
theorem dX9_part_72 : decode cX9_part 72 = .ok (.getfield 32, 3) := eX9_part_64.2.2.2.2.1
theorem dX9_part_75 : decode cX9_part 75 = .ok (.lreturn, 1) := eX9_part_64.2.2.2.2.2.1
theorem dX9_part_76 : decode cX9_part 76 = .ok (.ldc2_w 70, 3) := eX9_part_64.2.2.2.2.2.2.1
theorem dX9_part_79 : decode cX9_part 79 = .ok (.lreturn, 1) := eX9_part_64.2.2.2.2.2.2.2
theorem eX9_follows_0 : (decode cX9_follows 0 = .ok (.aload_n 0, 1)) ∧ (decode cX9_follows 1 = .ok (.lconst 1, 1)) ∧ (decode cX9_follows 2 = .ok (.putfield 160, 3)) ∧ (decode cX9_follows 5 = .ok (.aload_n 0, 1)) ∧ (decode cX9_follows 6 = .ok (.lconst 1, 1)) ∧ (decode cX9_follows 7 = .ok (.putfield 163, 3)) ∧ (decode cX9_follows 10 = .ok (.iconst 0, 1)) ∧ (decode cX9_follows 11 = .ok (.istore 4, 2)) := by decide +kernel
theorem dX9_follows_0 : decode cX9_follows 0 = .ok (.aload_n 0, 1) := eX9_follows_0.1
theorem dX9_follows_1 : decode cX9_follows 1 = .ok (.lconst 1, 1) := eX9_follows_0.2.1
theorem dX9_follows_2 : decode cX9_follows 2 = .ok (.putfield 160, 3) := eX9_follows_0.2.2.1
theorem dX9_follows_5 : decode cX9_follows 5 = .ok (.aload_n 0, 1) := eX9_follows_0.2.2.2.1
theorem dX9_follows_6 : decode cX9_follows 6 = .ok (.lconst 1, 1) := eX9_follows_0.2.2.2.2.1
theorem dX9_follows_7 : decode cX9_follows 7 = .ok (.putfield 163, 3) := eX9_follows_0.2.2.2.2.2.1
theorem dX9_follows_10 : decode cX9_follows 10 = .ok (.iconst 0, 1) := eX9_follows_0.2.2.2.2.2.2.1
theorem dX9_follows_11 : decode cX9_follows 11 = .ok (.istore 4, 2) := eX9_follows_0.2.2.2.2.2.2.2
theorem eX9_follows_13 : (decode cX9_follows 13 = .ok (.iload 4, 2)) ∧ (decode cX9_follows 15 = .ok (.iconst 4, 1)) ∧ (decode cX9_follows 16 = .ok (.if_icmp .ge 28, 3)) ∧ (decode cX9_follows 19 = .ok (.aload_n 0, 1)) ∧ (decode cX9_follows 20 = .ok (.getfield 42, 3)) ∧ (decode cX9_follows 23 = .ok (.iload 4, 2)) ∧ (decode cX9_follows 25 = .ok (.aload_n 0, 1)) ∧ (decode cX9_follows 26 = .ok (.getfield 26, 3)) := by decide +kernel
theorem dX9_follows_13 : decode cX9_follows 13 = .ok (.iload 4, 2) := eX9_follows_13.1
theorem dX9_follows_15 : decode cX9_follows 15 = .ok (.iconst 4, 1) := eX9_follows_13.2.1
theorem dX9_follows_16 : decode cX9_follows 16 = .ok (.if_icmp .ge 28, 3) := eX9_follows_13.2.2.1
theorem dX9_follows_19 : decode cX9_follows 19 = .ok (.aload_n 0, 1) := eX9_follows_13.2.2.2.1
theorem dX9_follows_20 : decode cX9_follows 20 = .ok (.getfield 42, 3) := eX9_follows_13.2.2.2.2.1
theorem dX9_follows_23 : decode cX9_follows 23 = .ok (.iload 4, 2) := eX9_follows_13.2.2.2.2.2.1
theorem dX9_follows_25 : decode cX9_follows 25 = .ok (.aload_n 0, 1) := eX9_follows_13.2.2.2.2.2.2.1
theorem dX9_follows_26 : decode cX9_follows 26 = .ok (.getfield 26, 3) := eX9_follows_13.2.2.2.2.2.2.2
theorem eX9_follows_29 : (decode cX9_follows 29 = .ok (.bipush 25, 2)) ∧ (decode cX9_follows 31 = .ok (.iload_n 1, 1)) ∧ (decode cX9_follows 32 = .ok (.imul, 1)) ∧ (decode cX9_follows 33 = .ok (.iload 4, 2)) ∧ (decode cX9_follows 35 = .ok (.iadd, 1)) ∧ (decode cX9_follows 36 = .ok (.iaload, 1)) ∧ (decode cX9_follows 37 = .ok (.iastore, 1)) ∧ (decode cX9_follows 38 = .ok (.iinc 4 1, 3)) := by decide +kernel
theorem dX9_follows_29 : decode cX9_follows 29 = .ok (.bipush 25, 2) := eX9_follows_29.1
theorem dX9_follows_31 : decode cX9_follows 31 = .ok (.iload_n 1, 1) := eX9_follows_29.2.1
theorem dX9_follows_32 : decode cX9_follows 32 = .ok (.imul, 1) := eX9_follows_29.2.2.1
theorem dX9_follows_33 : decode cX9_follows 33 = .ok (.iload 4, 2) := eX9_follows_29.2.2.2.1
theorem dX9_follows_35 : decode cX9_follows 35 = .ok (.iadd, 1) := eX9_follows_29.2.2.2.2.1
theorem dX9_follows_36 : decode cX9_follows 36 = .ok (.iaload, 1) := eX9_follows_29.2.2.2.2.2.1
theorem dX9_follows_37 : decode cX9_follows 37 = .ok (.iastore, 1) := eX9_follows_29.2.2.2.2.2.2.1
theorem dX9_follows_38 : decode cX9_follows 38 = .ok (.iinc 4 1, 3) := eX9_follows_29.2.2.2.2.2.2.2
theorem eX9_follows_41 : (decode cX9_follows 41 = .ok (.goto (-28), 3)) ∧ (decode cX9_follows 44 = .ok (.iload_n 3, 1)) ∧ (decode cX9_follows 45 = .ok (.istore 4, 2)) ∧ (decode cX9_follows 47 = .ok (.iconst 0, 1)) ∧ (decode cX9_follows 48 = .ok (.istore 5, 2)) ∧ (decode cX9_follows 50 = .ok (.iload 5, 2)) ∧ (decode cX9_follows 52 = .ok (.iload_n 2, 1)) ∧ (decode cX9_follows 53 = .ok (.if_icmp .ge 299, 3)) := by decide +kernel
theorem dX9_follows_41 : decode cX9_follows 41 = .ok (.goto (-28), 3) := eX9_follows_41.1
theorem dX9_follows_44 : decode cX9_follows 44 = .ok (.iload_n 3, 1) := eX9_follows_41.2.1
theorem dX9_follows_45 : decode cX9_follows 45 = .ok (.istore 4, 2) := eX9_follows_41.2.2.1
theorem dX9_follows_47 : decode cX9_follows 47 = .ok (.iconst 0, 1) := eX9_follows_41.2.2.2.1
theorem dX9_follows_48 : decode cX9_follows 48 = .ok (.istore 5, 2) := eX9_follows_41.2.2.2.2.1
theorem dX9_follows_50 : decode cX9_follows 50 = .ok (.iload 5, 2) := eX9_follows_41.2.2.2.2.2.1
theorem dX9_follows_52 : decode cX9_follows 52 = .ok (.iload_n 2, 1) := eX9_follows_41.2.2.2.2.2.2.1
theorem dX9_follows_53 : decode cX9_follows 53 = .ok (.if_icmp .ge 299, 3) := eX9_follows_41.2.2.2.2.2.2.2
theorem eX9_follows_56 : (decode cX9_follows 56 = .ok (.iload 4, 2)) ∧ (decode cX9_follows 58 = .ok (.iconst 3, 1)) ∧ (decode cX9_follows 59 = .ok (.iand, 1)) ∧ (decode cX9_follows 60 = .ok (.istore 6, 2)) ∧ (decode cX9_follows 62 = .ok (.iload 4, 2)) ∧ (decode cX9_follows 64 = .ok (.iconst 2, 1)) ∧ (decode cX9_follows 65 = .ok (.ishr, 1)) ∧ (decode cX9_follows 66 = .ok (.istore 4, 2)) := by decide +kernel
theorem dX9_follows_56 : decode cX9_follows 56 = .ok (.iload 4, 2) := eX9_follows_56.1
theorem dX9_follows_58 : decode cX9_follows 58 = .ok (.iconst 3, 1) := eX9_follows_56.2.1
theorem dX9_follows_59 : decode cX9_follows 59 = .ok (.iand, 1) := eX9_follows_56.2.2.1
theorem dX9_follows_60 : decode cX9_follows 60 = .ok (.istore 6, 2) := eX9_follows_56.2.2.2.1
theorem dX9_follows_62 : decode cX9_follows 62 = .ok (.iload 4, 2) := eX9_follows_56.2.2.2.2.1
theorem dX9_follows_64 : decode cX9_follows 64 = .ok (.iconst 2, 1) := eX9_follows_56.2.2.2.2.2.1
theorem dX9_follows_65 : decode cX9_follows 65 = .ok (.ishr, 1) := eX9_follows_56.2.2.2.2.2.2.1
theorem dX9_follows_66 : decode cX9_follows 66 = .ok (.istore 4, 2) := eX9_follows_56.2.2.2.2.2.2.2
theorem eX9_follows_68 : (decode cX9_follows 68 = .ok (.aload_n 0, 1)) ∧ (decode cX9_follows 69 = .ok (.getfield 42, 3)) ∧ (decode cX9_follows 72 = .ok (.iload 6, 2)) ∧ (decode cX9_follows 74 = .ok (.iaload, 1)) ∧ (decode cX9_follows 75 = .ok (.i2l, 1)) ∧ (decode cX9_follows 76 = .ok (.lstore 7, 2)) ∧ (decode cX9_follows 78 = .ok (.aload_n 0, 1)) ∧ (decode cX9_follows 79 = .ok (.getfield 42, 3)) := by decide +kernel
theorem dX9_follows_68 : decode cX9_follows 68 = .ok (.aload_n 0, 1) := eX9_follows_68.1
theorem dX9_follows_69 : decode cX9_follows 69 = .ok (.getfield 42, 3) := eX9_follows_68.2.1
theorem dX9_follows_72 : decode cX9_follows 72 = .ok (.iload 6, 2) := eX9_follows_68.2.2.1
theorem dX9_follows_74 : decode cX9_follows 74 = .ok (.iaload, 1) := eX9_follows_68.2.2.2.1
theorem dX9_follows_75 : decode cX9_follows 75 = .ok (.i2l, 1) := eX9_follows_68.2.2.2.2.1
theorem dX9_follows_76 : decode cX9_follows 76 = .ok (.lstore 7, 2) := eX9_follows_68.2.2.2.2.2.1
theorem dX9_follows_78 : decode cX9_follows 78 = .ok (.aload_n 0, 1) := eX9_follows_68.2.2.2.2.2.2.1
theorem dX9_follows_79 : decode cX9_follows 79 = .ok (.getfield 42, 3) := eX9_follows_68.2.2.2.2.2.2.2
theorem eX9_follows_82 : (decode cX9_follows 82 = .ok (.iconst 0, 1)) ∧ (decode cX9_follows 83 = .ok (.iaload, 1)) ∧ (decode cX9_follows 84 = .ok (.aload_n 0, 1)) ∧ (decode cX9_follows 85 = .ok (.getfield 42, 3)) ∧ (decode cX9_follows 88 = .ok (.iconst 1, 1)) ∧ (decode cX9_follows 89 = .ok (.iaload, 1)) ∧ (decode cX9_follows 90 = .ok (.iadd, 1)) ∧ (decode cX9_follows 91 = .ok (.aload_n 0, 1)) := by decide +kernel
theorem dX9_follows_82 : decode cX9_follows 82 = .ok (.iconst 0, 1) := eX9_follows_82.1
theorem dX9_follows_83 : decode cX9_follows 83 = .ok (.iaload, 1) := eX9_follows_82.2.1
theorem dX9_follows_84 : decode cX9_follows 84 = .ok (.aload_n 0, 1) := eX9_follows_82.2.2.1
theorem dX9_follows_85 : decode cX9_follows 85 = .ok (.getfield 42, 3) := eX9_follows_82.2.2.2.1
theorem dX9_follows_88 : decode cX9_follows 88 = .ok (.iconst 1, 1) := eX9_follows_82.2.2.2.2.1
theorem dX9_follows_89 : decode cX9_follows 89 = .ok (.iaload, 1) := eX9_follows_82.2.2.2.2.2.1
theorem dX9_follows_90 : decode cX9_follows 90 = .ok (.iadd, 1) := eX9_follows_82.2.2.2.2.2.2.1
theorem dX9_follows_91 : decode cX9_follows 91 = .ok (.aload_n 0, 1) := eX9_follows_82.2.2.2.2.2.2.2
theorem eX9_follows_92 : (decode cX9_follows 92 = .ok (.getfield 42, 3)) ∧ (decode cX9_follows 95 = .ok (.iconst 2, 1)) ∧ (decode cX9_follows 96 = .ok (.iaload, 1)) ∧ (decode cX9_follows 97 = .ok (.iadd, 1)) ∧ (decode cX9_follows 98 = .ok (.aload_n 0, 1)) ∧ (decode cX9_follows 99 = .ok (.getfield 42, 3)) ∧ (decode cX9_follows 102 = .ok (.iconst 3, 1)) ∧ (decode cX9_follows 103 = .ok (.iaload, 1)) := by decide +kernel
theorem dX9_follows_92 : decode cX9_follows 92 = .ok (.getfield 42, 3) := eX9_follows_92.1
theorem dX9_follows_95 : decode cX9_follows 95 = .ok (.iconst 2, 1) := eX9_follows_92.2.1
theorem dX9_follows_96 : decode cX9_follows 96 = .ok (.iaload, 1) := eX9_follows_92.2.2.1
theorem dX9_follows_97 : decode cX9_follows 97 = .ok (.iadd, 1) := eX9_follows_92.2.2.2.1
theorem dX9_follows_98 : decode cX9_follows 98 = .ok (.aload_n 0, 1) := eX9_follows_92.2.2.2.2.1
theorem dX9_follows_99 : decode cX9_follows 99 = .ok (.getfield 42, 3) := eX9_follows_92.2.2.2.2.2.1
theorem dX9_follows_102 : decode cX9_follows 102 = .ok (.iconst 3, 1) := eX9_follows_92.2.2.2.2.2.2.1
theorem dX9_follows_103 : decode cX9_follows 103 = .ok (.iaload, 1) := eX9_follows_92.2.2.2.2.2.2.2
theorem eX9_follows_104 : (decode cX9_follows 104 = .ok (.iadd, 1)) ∧ (decode cX9_follows 105 = .ok (.i2l, 1)) ∧ (decode cX9_follows 106 = .ok (.lstore 9, 2)) ∧ (decode cX9_follows 108 = .ok (.lload 7, 2)) ∧ (decode cX9_follows 110 = .ok (.lconst 0, 1)) ∧ (decode cX9_follows 111 = .ok (.lcmp, 1)) ∧ (decode cX9_follows 112 = .ok (.ifCond .le 7, 3)) ∧ (decode cX9_follows 115 = .ok (.iconst 1, 1)) := by decide +kernel
theorem dX9_follows_104 : decode cX9_follows 104 = .ok (.iadd, 1) := eX9_follows_104.1
theorem dX9_follows_105 : decode cX9_follows 105 = .ok (.i2l, 1) := eX9_follows_104.2.1
theorem dX9_follows_106 : decode cX9_follows 106 = .ok (.lstore 9, 2) := eX9_follows_104.2.2.1
theorem dX9_follows_108 : decode cX9_follows 108 = .ok (.lload 7, 2) := eX9_follows_104.2.2.2.1
theorem dX9_follows_110 : decode cX9_follows 110 = .ok (.lconst 0, 1) := eX9_follows_104.2.2.2.2.1
theorem dX9_follows_111 : decode cX9_follows 111 = .ok (.lcmp, 1) := eX9_follows_104.2.2.2.2.2.1
theorem dX9_follows_112 : decode cX9_follows 112 = .ok (.ifCond .le 7, 3) := eX9_follows_104.2.2.2.2.2.2.1
theorem dX9_follows_115 : decode cX9_follows 115 = .ok (.iconst 1, 1) := eX9_follows_104.2.2.2.2.2.2.2
theorem eX9_follows_116 : (decode cX9_follows 116 = .ok (.goto 4, 3)) ∧ (decode cX9_follows 119 = .ok (.iconst 0, 1)) ∧ (decode cX9_follows 120 = .ok (.istore 11, 2)) ∧ (decode cX9_follows 122 = .ok (.iconst 0, 1)) ∧ (decode cX9_follows 123 = .ok (.istore 12, 2)) ∧ (decode cX9_follows 125 = .ok (.iload 12, 2)) ∧ (decode cX9_follows 127 = .ok (.iconst 4, 1)) ∧ (decode cX9_follows 128 = .ok (.if_icmp .ge 68, 3)) := by decide +kernel
theorem dX9_follows_116 : decode cX9_follows 116 = .ok (.goto 4, 3) := eX9_follows_116.1
theorem dX9_follows_119 : decode cX9_follows 119 = .ok (.iconst 0, 1) := eX9_follows_116.2.1
theorem dX9_follows_120 : decode cX9_follows 120 = .ok (.istore 11, 2) := eX9_follows_116.2.2.1
theorem dX9_follows_122 : decode cX9_follows 122 = .ok (.iconst 0, 1) := eX9_follows_116.2.2.2.1
theorem dX9_follows_123 : decode cX9_follows 123 = .ok (.istore 12, 2) := eX9_follows_116.2.2.2.2.1
theorem dX9_follows_125 : decode cX9_follows 125 = .ok (.iload 12, 2) := eX9_follows_116.2.2.2.2.2.1
theorem dX9_follows_127 : decode cX9_follows 127 = .ok (.iconst 4, 1) := eX9_follows_116.2.2.2.2.2.2.1
theorem dX9_follows_128 : decode cX9_follows 128 = .ok (.if_icmp .ge 68, 3) := eX9_follows_116.2.2.2.2.2.2.2
theorem eX9_follows_131 : (decode cX9_follows 131 = .ok (.aload_n 0, 1)) ∧ (decode cX9_follows 132 = .ok (.getfield 42, 3)) ∧ (decode cX9_follows 135 = .ok (.iload 12, 2)) ∧ (decode cX9_follows 137 = .ok (.dup2, 1)) ∧ (decode cX9_follows 138 = .ok (.iaload, 1)) ∧ (decode cX9_follows 139 = .ok (.aload_n 0, 1)) ∧ (decode cX9_follows 140 = .ok (.getfield 26, 3)) ∧ (decode cX9_follows 143 = .ok (.bipush 25, 2)) := by decide +kernel
theorem dX9_follows_131 : decode cX9_follows 131 = .ok (.aload_n 0, 1) := eX9_follows_131.1
theorem dX9_follows_132 : decode cX9_follows 132 = .ok (.getfield 42, 3) := eX9_follows_131.2.1
theorem dX9_follows_135 : decode cX9_follows 135 = .ok (.iload 12, 2) := eX9_follows_131.2.2.1
theorem dX9_follows_137 : decode cX9_follows 137 = .ok (.dup2, 1) := eX9_follows_131.2.2.2.1
theorem dX9_follows_138 : decode cX9_follows 138 = .ok (.iaload, 1) := eX9_follows_131.2.2.2.2.1
theorem dX9_follows_139 : decode cX9_follows 139 = .ok (.aload_n 0, 1) := eX9_follows_131.2.2.2.2.2.1
theorem dX9_follows_140 : decode cX9_follows 140 = .ok (.getfield 26, 3) := eX9_follows_131.2.2.2.2.2.2.1
theorem dX9_follows_143 : decode cX9_follows 143 = .ok (.bipush 25, 2) := eX9_follows_131.2.2.2.2.2.2.2
theorem eX9_follows_145 : (decode cX9_follows 145 = .ok (.iload_n 1, 1)) ∧ (decode cX9_follows 146 = .ok (.imul, 1)) ∧ (decode cX9_follows 147 = .ok (.iconst 4, 1)) ∧ (decode cX9_follows 148 = .ok (.iadd, 1)) ∧ (decode cX9_follows 149 = .ok (.iconst 4, 1)) ∧ (decode cX9_follows 150 = .ok (.iload 6, 2)) ∧ (decode cX9_follows 152 = .ok (.imul, 1)) ∧ (decode cX9_follows 153 = .ok (.iadd, 1)) := by decide +kernel
theorem dX9_follows_145 : decode cX9_follows 145 = .ok (.iload_n 1, 1) := eX9_follows_145.1
theorem dX9_follows_146 : decode cX9_follows 146 = .ok (.imul, 1) := eX9_follows_145.2.1
theorem dX9_follows_147 : decode cX9_follows 147 = .ok (.iconst 4, 1) := eX9_follows_145.2.2.1
theorem dX9_follows_148 : decode cX9_follows 148 = .ok (.iadd, 1) := eX9_follows_145.2.2.2.1
theorem dX9_follows_149 : decode cX9_follows 149 = .ok (.iconst 4, 1) := eX9_follows_145.2.2.2.2.1
theorem dX9_follows_150 : decode cX9_follows 150 = .ok (.iload 6, 2) := eX9_follows_145.2.2.2.2.2.1
theorem dX9_follows_152 : decode cX9_follows 152 = .ok (.imul, 1) := eX9_follows_145.2.2.2.2.2.2.1
theorem dX9_follows_153 : decode cX9_follows 153 = .ok (.iadd, 1) := eX9_follows_145.2.2.2.2.2.2.2
theorem eX9_follows_154 : (decode cX9_follows 154 = .ok (.iload 12, 2)) ∧ (decode cX9_follows 156 = .ok (.iadd, 1)) ∧ (decode cX9_follows 157 = .ok (.iaload, 1)) ∧ (decode cX9_follows 158 = .ok (.iadd, 1)) ∧ (decode cX9_follows 159 = .ok (.iastore, 1)) ∧ (decode cX9_follows 160 = .ok (.iload 11, 2)) ∧ (decode cX9_follows 162 = .ok (.ifCond .eq 25, 3)) ∧ (decode cX9_follows 165 = .ok (.aload_n 0, 1)) := by decide +kernel
theorem dX9_follows_154 : decode cX9_follows 154 = .ok (.iload 12, 2) := eX9_follows_154.1
theorem dX9_follows_156 : decode cX9_follows 156 = .ok (.iadd, 1) := eX9_follows_154.2.1
theorem dX9_follows_157 : decode cX9_follows 157 = .ok (.iaload, 1) := eX9_follows_154.2.2.1
theorem dX9_follows_158 : decode cX9_follows 158 = .ok (.iadd, 1) := eX9_follows_154.2.2.2.1
theorem dX9_follows_159 : decode cX9_follows 159 = .ok (.iastore, 1) := eX9_follows_154.2.2.2.2.1
theorem dX9_follows_160 : decode cX9_follows 160 = .ok (.iload 11, 2) := eX9_follows_154.2.2.2.2.2.1
theorem dX9_follows_162 : decode cX9_follows 162 = .ok (.ifCond .eq 25, 3) := eX9_follows_154.2.2.2.2.2.2.1
theorem dX9_follows_165 : decode cX9_follows 165 = .ok (.aload_n 0, 1) := eX9_follows_154.2.2.2.2.2.2.2
theorem eX9_follows_166 : (decode cX9_follows 166 = .ok (.getfield 42, 3)) ∧ (decode cX9_follows 169 = .ok (.iload 12, 2)) ∧ (decode cX9_follows 171 = .ok (.iaload, 1)) ∧ (decode cX9_follows 172 = .ok (.i2l, 1)) ∧ (decode cX9_follows 173 = .ok (.lconst 0, 1)) ∧ (decode cX9_follows 174 = .ok (.ldc2_w 98, 3)) ∧ (decode cX9_follows 177 = .ok (.invokestatic 62, 3)) ∧ (decode cX9_follows 180 = .ok (.ifCond .eq 7, 3)) := by decide +kernel
theorem dX9_follows_166 : decode cX9_follows 166 = .ok (.getfield 42, 3) := eX9_follows_166.1
theorem dX9_follows_169 : decode cX9_follows 169 = .ok (.iload 12, 2) := eX9_follows_166.2.1
theorem dX9_follows_171 : decode cX9_follows 171 = .ok (.iaload, 1) := eX9_follows_166.2.2.1
theorem dX9_follows_172 : decode cX9_follows 172 = .ok (.i2l, 1) := eX9_follows_166.2.2.2.1
theorem dX9_follows_173 : decode cX9_follows 173 = .ok (.lconst 0, 1) := eX9_follows_166.2.2.2.2.1
theorem dX9_follows_174 : decode cX9_follows 174 = .ok (.ldc2_w 98, 3) := eX9_follows_166.2.2.2.2.2.1
theorem dX9_follows_177 : decode cX9_follows 177 = .ok (.invokestatic 62, 3) := eX9_follows_166.2.2.2.2.2.2.1
theorem dX9_follows_180 : decode cX9_follows 180 = .ok (.ifCond .eq 7, 3) := eX9_follows_166.2.2.2.2.2.2.2
theorem eX9_follows_183 : (decode cX9_follows 183 = .ok (.iconst 1, 1)) ∧ (decode cX9_follows 184 = .ok (.goto 4, 3)) ∧ (decode cX9_follows 187 = .ok (.iconst 0, 1)) ∧ (decode cX9_follows 188 = .ok (.istore 11, 2)) ∧ (decode cX9_follows 190 = .ok (.iinc 12 1, 3)) ∧ (decode cX9_follows 193 = .ok (.goto (-68), 3)) ∧ (decode cX9_follows 196 = .ok (.iload 11, 2)) ∧ (decode cX9_follows 198 = .ok (.ifCond .ne 15, 3)) := by decide +kernel
theorem dX9_follows_183 : decode cX9_follows 183 = .ok (.iconst 1, 1) := eX9_follows_183.1
theorem dX9_follows_184 : decode cX9_follows 184 = .ok (.goto 4, 3) := eX9_follows_183.2.1
theorem dX9_follows_187 : decode cX9_follows 187 = .ok (.iconst 0, 1) := eX9_follows_183.2.2.1
theorem dX9_follows_188 : decode cX9_follows 188 = .ok (.istore 11, 2) := eX9_follows_183.2.2.2.1
theorem dX9_follows_190 : decode cX9_follows 190 = .ok (.iinc 12 1, 3) := eX9_follows_183.2.2.2.2.1
theorem dX9_follows_193 : decode cX9_follows 193 = .ok (.goto (-68), 3) := eX9_follows_183.2.2.2.2.2.1
theorem dX9_follows_196 : decode cX9_follows 196 = .ok (.iload 11, 2) := eX9_follows_183.2.2.2.2.2.2.1
theorem dX9_follows_198 : decode cX9_follows 198 = .ok (.ifCond .ne 15, 3) := eX9_follows_183.2.2.2.2.2.2.2
theorem eX9_follows_201 : (decode cX9_follows 201 = .ok (.aload_n 0, 1)) ∧ (decode cX9_follows 202 = .ok (.lconst 0, 1)) ∧ (decode cX9_follows 203 = .ok (.putfield 160, 3)) ∧ (decode cX9_follows 206 = .ok (.aload_n 0, 1)) ∧ (decode cX9_follows 207 = .ok (.lconst 1, 1)) ∧ (decode cX9_follows 208 = .ok (.putfield 163, 3)) ∧ (decode cX9_follows 211 = .ok (.iconst 1, 1)) ∧ (decode cX9_follows 212 = .ok (.ireturn, 1)) := by decide +kernel
theorem dX9_follows_201 : decode cX9_follows 201 = .ok (.aload_n 0, 1) := eX9_follows_201.1
theorem dX9_follows_202 : decode cX9_follows 202 = .ok (.lconst 0, 1) := eX9_follows_201.2.1
theorem dX9_follows_203 : decode cX9_follows 203 = .ok (.putfield 160, 3) := eX9_follows_201.2.2.1
theorem dX9_follows_206 : decode cX9_follows 206 = .ok (.aload_n 0, 1) := eX9_follows_201.2.2.2.1
theorem dX9_follows_207 : decode cX9_follows 207 = .ok (.lconst 1, 1) := eX9_follows_201.2.2.2.2.1
theorem dX9_follows_208 : decode cX9_follows 208 = .ok (.putfield 163, 3) := eX9_follows_201.2.2.2.2.2.1
theorem dX9_follows_211 : decode cX9_follows 211 = .ok (.iconst 1, 1) := eX9_follows_201.2.2.2.2.2.2.1
theorem dX9_follows_212 : decode cX9_follows 212 = .ok (.ireturn, 1) := eX9_follows_201.2.2.2.2.2.2.2
theorem eX9_follows_213 : (decode cX9_follows 213 = .ok (.lload 7, 2)) ∧ (decode cX9_follows 215 = .ok (.lload 9, 2)) ∧ (decode cX9_follows 217 = .ok (.invokestatic 150, 3)) ∧ (decode cX9_follows 220 = .ok (.lstore 12, 2)) ∧ (decode cX9_follows 222 = .ok (.lload 7, 2)) ∧ (decode cX9_follows 224 = .ok (.lload 12, 2)) ∧ (decode cX9_follows 226 = .ok (.ldiv, 1)) ∧ (decode cX9_follows 227 = .ok (.lstore 7, 2)) := by decide +kernel
theorem dX9_follows_213 : decode cX9_follows 213 = .ok (.lload 7, 2) := eX9_follows_213.1
theorem dX9_follows_215 : decode cX9_follows 215 = .ok (.lload 9, 2) := eX9_follows_213.2.1
theorem dX9_follows_217 : decode cX9_follows 217 = .ok (.invokestatic 150, 3) := eX9_follows_213.2.2.1
theorem dX9_follows_220 : decode cX9_follows 220 = .ok (.lstore 12, 2) := eX9_follows_213.2.2.2.1
theorem dX9_follows_222 : decode cX9_follows 222 = .ok (.lload 7, 2) := eX9_follows_213.2.2.2.2.1
theorem dX9_follows_224 : decode cX9_follows 224 = .ok (.lload 12, 2) := eX9_follows_213.2.2.2.2.2.1
theorem dX9_follows_226 : decode cX9_follows 226 = .ok (.ldiv, 1) := eX9_follows_213.2.2.2.2.2.2.1
theorem dX9_follows_227 : decode cX9_follows 227 = .ok (.lstore 7, 2) := eX9_follows_213.2.2.2.2.2.2.2
theorem eX9_follows_229 : (decode cX9_follows 229 = .ok (.lload 9, 2)) ∧ (decode cX9_follows 231 = .ok (.lload 12, 2)) ∧ (decode cX9_follows 233 = .ok (.ldiv, 1)) ∧ (decode cX9_follows 234 = .ok (.lstore 9, 2)) ∧ (decode cX9_follows 236 = .ok (.aload_n 0, 1)) ∧ (decode cX9_follows 237 = .ok (.getfield 160, 3)) ∧ (decode cX9_follows 240 = .ok (.lload 9, 2)) ∧ (decode cX9_follows 242 = .ok (.invokestatic 150, 3)) := by decide +kernel
theorem dX9_follows_229 : decode cX9_follows 229 = .ok (.lload 9, 2) := eX9_follows_229.1
theorem dX9_follows_231 : decode cX9_follows 231 = .ok (.lload 12, 2) := eX9_follows_229.2.1
theorem dX9_follows_233 : decode cX9_follows 233 = .ok (.ldiv, 1) := eX9_follows_229.2.2.1
theorem dX9_follows_234 : decode cX9_follows 234 = .ok (.lstore 9, 2) := eX9_follows_229.2.2.2.1
theorem dX9_follows_236 : decode cX9_follows 236 = .ok (.aload_n 0, 1) := eX9_follows_229.2.2.2.2.1
theorem dX9_follows_237 : decode cX9_follows 237 = .ok (.getfield 160, 3) := eX9_follows_229.2.2.2.2.2.1
theorem dX9_follows_240 : decode cX9_follows 240 = .ok (.lload 9, 2) := eX9_follows_229.2.2.2.2.2.2.1
theorem dX9_follows_242 : decode cX9_follows 242 = .ok (.invokestatic 150, 3) := eX9_follows_229.2.2.2.2.2.2.2
theorem eX9_follows_245 : (decode cX9_follows 245 = .ok (.lstore 14, 2)) ∧ (decode cX9_follows 247 = .ok (.lload 7, 2)) ∧ (decode cX9_follows 249 = .ok (.aload_n 0, 1)) ∧ (decode cX9_follows 250 = .ok (.getfield 163, 3)) ∧ (decode cX9_follows 253 = .ok (.invokestatic 150, 3)) ∧ (decode cX9_follows 256 = .ok (.lstore 16, 2)) ∧ (decode cX9_follows 258 = .ok (.aload_n 0, 1)) ∧ (decode cX9_follows 259 = .ok (.dup, 1)) := by decide +kernel
theorem dX9_follows_245 : decode cX9_follows 245 = .ok (.lstore 14, 2) := eX9_follows_245.1
theorem dX9_follows_247 : decode cX9_follows 247 = .ok (.lload 7, 2) := eX9_follows_245.2.1
theorem dX9_follows_249 : decode cX9_follows 249 = .ok (.aload_n 0, 1) := eX9_follows_245.2.2.1
theorem dX9_follows_250 : decode cX9_follows 250 = .ok (.getfield 163, 3) := eX9_follows_245.2.2.2.1
theorem dX9_follows_253 : decode cX9_follows 253 = .ok (.invokestatic 150, 3) := eX9_follows_245.2.2.2.2.1
theorem dX9_follows_256 : decode cX9_follows 256 = .ok (.lstore 16, 2) := eX9_follows_245.2.2.2.2.2.1
theorem dX9_follows_258 : decode cX9_follows 258 = .ok (.aload_n 0, 1) := eX9_follows_245.2.2.2.2.2.2.1
theorem dX9_follows_259 : decode cX9_follows 259 = .ok (.dup, 1) := eX9_follows_245.2.2.2.2.2.2.2
theorem eX9_follows_260 : (decode cX9_follows 260 = .ok (.getfield 160, 3)) ∧ (decode cX9_follows 263 = .ok (.lload 14, 2)) ∧ (decode cX9_follows 265 = .ok (.ldiv, 1)) ∧ (decode cX9_follows 266 = .ok (.putfield 160, 3)) ∧ (decode cX9_follows 269 = .ok (.lload 9, 2)) ∧ (decode cX9_follows 271 = .ok (.lload 14, 2)) ∧ (decode cX9_follows 273 = .ok (.ldiv, 1)) ∧ (decode cX9_follows 274 = .ok (.lstore 9, 2)) := by decide +kernel
theorem dX9_follows_260 : decode cX9_follows 260 = .ok (.getfield 160, 3) := eX9_follows_260.1
theorem dX9_follows_263 : decode cX9_follows 263 = .ok (.lload 14, 2) := eX9_follows_260.2.1
theorem dX9_follows_265 : decode cX9_follows 265 = .ok (.ldiv, 1) := eX9_follows_260.2.2.1
theorem dX9_follows_266 : decode cX9_follows 266 = .ok (.putfield 160, 3) := eX9_follows_260.2.2.2.1
theorem dX9_follows_269 : decode cX9_follows 269 = .ok (.lload 9, 2) := eX9_follows_260.2.2.2.2.1
theorem dX9_follows_271 : decode cX9_follows 271 = .ok (.lload 14, 2) := eX9_follows_260.2.2.2.2.2.1
theorem dX9_follows_273 : decode cX9_follows 273 = .ok (.ldiv, 1) := eX9_follows_260.2.2.2.2.2.2.1
theorem dX9_follows_274 : decode cX9_follows 274 = .ok (.lstore 9, 2) := eX9_follows_260.2.2.2.2.2.2.2
theorem eX9_follows_276 : (decode cX9_follows 276 = .ok (.lload 7, 2)) ∧ (decode cX9_follows 278 = .ok (.lload 16, 2)) ∧ (decode cX9_follows 280 = .ok (.ldiv, 1)) ∧ (decode cX9_follows 281 = .ok (.lstore 7, 2)) ∧ (decode cX9_follows 283 = .ok (.aload_n 0, 1)) ∧ (decode cX9_follows 284 = .ok (.dup, 1)) ∧ (decode cX9_follows 285 = .ok (.getfield 163, 3)) ∧ (decode cX9_follows 288 = .ok (.lload 16, 2)) := by decide +kernel
theorem dX9_follows_276 : decode cX9_follows 276 = .ok (.lload 7, 2) := eX9_follows_276.1
theorem dX9_follows_278 : decode cX9_follows 278 = .ok (.lload 16, 2) := eX9_follows_276.2.1
theorem dX9_follows_280 : decode cX9_follows 280 = .ok (.ldiv, 1) := eX9_follows_276.2.2.1
theorem dX9_follows_281 : decode cX9_follows 281 = .ok (.lstore 7, 2) := eX9_follows_276.2.2.2.1
theorem dX9_follows_283 : decode cX9_follows 283 = .ok (.aload_n 0, 1) := eX9_follows_276.2.2.2.2.1
theorem dX9_follows_284 : decode cX9_follows 284 = .ok (.dup, 1) := eX9_follows_276.2.2.2.2.2.1
theorem dX9_follows_285 : decode cX9_follows 285 = .ok (.getfield 163, 3) := eX9_follows_276.2.2.2.2.2.2.1
theorem dX9_follows_288 : decode cX9_follows 288 = .ok (.lload 16, 2) := eX9_follows_276.2.2.2.2.2.2.2
theorem eX9_follows_290 : (decode cX9_follows 290 = .ok (.ldiv, 1)) ∧ (decode cX9_follows 291 = .ok (.putfield 163, 3)) ∧ (decode cX9_follows 294 = .ok (.aload_n 0, 1)) ∧ (decode cX9_follows 295 = .ok (.getfield 160, 3)) ∧ (decode cX9_follows 298 = .ok (.ldc2_w 166, 3)) ∧ (decode cX9_follows 301 = .ok (.lload 7, 2)) ∧ (decode cX9_follows 303 = .ok (.ldiv, 1)) ∧ (decode cX9_follows 304 = .ok (.lcmp, 1)) := by decide +kernel
theorem dX9_follows_290 : decode cX9_follows 290 = .ok (.ldiv, 1) := eX9_follows_290.1
theorem dX9_follows_291 : decode cX9_follows 291 = .ok (.putfield 163, 3) := eX9_follows_290.2.1
theorem dX9_follows_294 : decode cX9_follows 294 = .ok (.aload_n 0, 1) := eX9_follows_290.2.2.1
theorem dX9_follows_295 : decode cX9_follows 295 = .ok (.getfield 160, 3) := eX9_follows_290.2.2.2.1
theorem dX9_follows_298 : decode cX9_follows 298 = .ok (.ldc2_w 166, 3) := eX9_follows_290.2.2.2.2.1
theorem dX9_follows_301 : decode cX9_follows 301 = .ok (.lload 7, 2) := eX9_follows_290.2.2.2.2.2.1
theorem dX9_follows_303 : decode cX9_follows 303 = .ok (.ldiv, 1) := eX9_follows_290.2.2.2.2.2.2.1
theorem dX9_follows_304 : decode cX9_follows 304 = .ok (.lcmp, 1) := eX9_follows_290.2.2.2.2.2.2.2
theorem eX9_follows_305 : (decode cX9_follows 305 = .ok (.ifCond .gt 17, 3)) ∧ (decode cX9_follows 308 = .ok (.aload_n 0, 1)) ∧ (decode cX9_follows 309 = .ok (.getfield 163, 3)) ∧ (decode cX9_follows 312 = .ok (.ldc2_w 166, 3)) ∧ (decode cX9_follows 315 = .ok (.lload 9, 2)) ∧ (decode cX9_follows 317 = .ok (.ldiv, 1)) ∧ (decode cX9_follows 318 = .ok (.lcmp, 1)) ∧ (decode cX9_follows 319 = .ok (.ifCond .le 5, 3)) := by decide +kernel
theorem dX9_follows_305 : decode cX9_follows 305 = .ok (.ifCond .gt 17, 3) := eX9_follows_305.1
theorem dX9_follows_308 : decode cX9_follows 308 = .ok (.aload_n 0, 1) := eX9_follows_305.2.1
theorem dX9_follows_309 : decode cX9_follows 309 = .ok (.getfield 163, 3) := eX9_follows_305.2.2.1
theorem dX9_follows_312 : decode cX9_follows 312 = .ok (.ldc2_w 166, 3) := eX9_follows_305.2.2.2.1
theorem dX9_follows_315 : decode cX9_follows 315 = .ok (.lload 9, 2) := eX9_follows_305.2.2.2.2.1
theorem dX9_follows_317 : decode cX9_follows 317 = .ok (.ldiv, 1) := eX9_follows_305.2.2.2.2.2.1
theorem dX9_follows_318 : decode cX9_follows 318 = .ok (.lcmp, 1) := eX9_follows_305.2.2.2.2.2.2.1
theorem dX9_follows_319 : decode cX9_follows 319 = .ok (.ifCond .le 5, 3) := eX9_follows_305.2.2.2.2.2.2.2
theorem eX9_follows_322 : (decode cX9_follows 322 = .ok (.iconst 0, 1)) ∧ (decode cX9_follows 323 = .ok (.ireturn, 1)) ∧ (decode cX9_follows 324 = .ok (.aload_n 0, 1)) ∧ (decode cX9_follows 325 = .ok (.dup, 1)) ∧ (decode cX9_follows 326 = .ok (.getfield 160, 3)) ∧ (decode cX9_follows 329 = .ok (.lload 7, 2)) ∧ (decode cX9_follows 331 = .ok (.lmul, 1)) ∧ (decode cX9_follows 332 = .ok (.putfield 160, 3)) := by decide +kernel
theorem dX9_follows_322 : decode cX9_follows 322 = .ok (.iconst 0, 1) := eX9_follows_322.1
theorem dX9_follows_323 : decode cX9_follows 323 = .ok (.ireturn, 1) := eX9_follows_322.2.1
theorem dX9_follows_324 : decode cX9_follows 324 = .ok (.aload_n 0, 1) := eX9_follows_322.2.2.1
theorem dX9_follows_325 : decode cX9_follows 325 = .ok (.dup, 1) := eX9_follows_322.2.2.2.1
theorem dX9_follows_326 : decode cX9_follows 326 = .ok (.getfield 160, 3) := eX9_follows_322.2.2.2.2.1
theorem dX9_follows_329 : decode cX9_follows 329 = .ok (.lload 7, 2) := eX9_follows_322.2.2.2.2.2.1
theorem dX9_follows_331 : decode cX9_follows 331 = .ok (.lmul, 1) := eX9_follows_322.2.2.2.2.2.2.1
theorem dX9_follows_332 : decode cX9_follows 332 = .ok (.putfield 160, 3) := eX9_follows_322.2.2.2.2.2.2.2
theorem eX9_follows_335 : (decode cX9_follows 335 = .ok (.aload_n 0, 1)) ∧ (decode cX9_follows 336 = .ok (.dup, 1)) ∧ (decode cX9_follows 337 = .ok (.getfield 163, 3)) ∧ (decode cX9_follows 340 = .ok (.lload 9, 2)) ∧ (decode cX9_follows 342 = .ok (.lmul, 1)) ∧ (decode cX9_follows 343 = .ok (.putfield 163, 3)) ∧ (decode cX9_follows 346 = .ok (.iinc 5 1, 3)) ∧ (decode cX9_follows 349 = .ok (.goto (-299), 3)) := by decide +kernel
theorem dX9_follows_335 : decode cX9_follows 335 = .ok (.aload_n 0, 1) := eX9_follows_335.1
theorem dX9_follows_336 : decode cX9_follows 336 = .ok (.dup, 1) := eX9_follows_335.2.1
theorem dX9_follows_337 : decode cX9_follows 337 = .ok (.getfield 163, 3) := eX9_follows_335.2.2.1
theorem dX9_follows_340 : decode cX9_follows 340 = .ok (.lload 9, 2) := eX9_follows_335.2.2.2.1
theorem dX9_follows_342 : decode cX9_follows 342 = .ok (.lmul, 1) := eX9_follows_335.2.2.2.2.1
theorem dX9_follows_343 : decode cX9_follows 343 = .ok (.putfield 163, 3) := eX9_follows_335.2.2.2.2.2.1
theorem dX9_follows_346 : decode cX9_follows 346 = .ok (.iinc 5 1, 3) := eX9_follows_335.2.2.2.2.2.2.1
theorem dX9_follows_349 : decode cX9_follows 349 = .ok (.goto (-299), 3) := eX9_follows_335.2.2.2.2.2.2.2
theorem eX9_follows_352 : (decode cX9_follows 352 = .ok (.iconst 1, 1)) ∧ (decode cX9_follows 353 = .ok (.ireturn, 1)) := by decide +kernel
theorem dX9_follows_352 : decode cX9_follows 352 = .ok (.iconst 1, 1) := eX9_follows_352.1
theorem dX9_follows_353 : decode cX9_follows 353 = .ok (.ireturn, 1) := eX9_follows_352.2
theorem eX9_chance_0 : (decode cX9_chance 0 = .ok (.aload_n 0, 1)) ∧ (decode cX9_chance 1 = .ok (.iload_n 1, 1)) ∧ (decode cX9_chance 2 = .ok (.invokevirtual 89, 3)) ∧ (decode cX9_chance 5 = .ok (.ifCond .eq 19, 3)) ∧ (decode cX9_chance 8 = .ok (.iload_n 2, 1)) ∧ (decode cX9_chance 9 = .ok (.i2l, 1)) ∧ (decode cX9_chance 10 = .ok (.lconst 0, 1)) ∧ (decode cX9_chance 11 = .ok (.ldc2_w 168, 3)) := by decide +kernel
theorem dX9_chance_0 : decode cX9_chance 0 = .ok (.aload_n 0, 1) := eX9_chance_0.1
theorem dX9_chance_1 : decode cX9_chance 1 = .ok (.iload_n 1, 1) := eX9_chance_0.2.1
theorem dX9_chance_2 : decode cX9_chance 2 = .ok (.invokevirtual 89, 3) := eX9_chance_0.2.2.1
theorem dX9_chance_5 : decode cX9_chance 5 = .ok (.ifCond .eq 19, 3) := eX9_chance_0.2.2.2.1
theorem dX9_chance_8 : decode cX9_chance 8 = .ok (.iload_n 2, 1) := eX9_chance_0.2.2.2.2.1
theorem dX9_chance_9 : decode cX9_chance 9 = .ok (.i2l, 1) := eX9_chance_0.2.2.2.2.2.1
theorem dX9_chance_10 : decode cX9_chance 10 = .ok (.lconst 0, 1) := eX9_chance_0.2.2.2.2.2.2.1
theorem dX9_chance_11 : decode cX9_chance 11 = .ok (.ldc2_w 168, 3) := eX9_chance_0.2.2.2.2.2.2.2
theorem eX9_chance_14 : (decode cX9_chance 14 = .ok (.invokestatic 62, 3)) ∧ (decode cX9_chance 17 = .ok (.ifCond .eq 7, 3)) ∧ (decode cX9_chance 20 = .ok (.iload_n 3, 1)) ∧ (decode cX9_chance 21 = .ok (.ifCond .ge 5, 3)) ∧ (decode cX9_chance 24 = .ok (.iconst (-1), 1)) ∧ (decode cX9_chance 25 = .ok (.ireturn, 1)) ∧ (decode cX9_chance 26 = .ok (.iconst 0, 1)) ∧ (decode cX9_chance 27 = .ok (.istore 4, 2)) := by decide +kernel
theorem dX9_chance_14 : decode cX9_chance 14 = .ok (.invokestatic 62, 3) := eX9_chance_14.1
theorem dX9_chance_17 : decode cX9_chance 17 = .ok (.ifCond .eq 7, 3) := eX9_chance_14.2.1
theorem dX9_chance_20 : decode cX9_chance 20 = .ok (.iload_n 3, 1) := eX9_chance_14.2.2.1
theorem dX9_chance_21 : decode cX9_chance 21 = .ok (.ifCond .ge 5, 3) := eX9_chance_14.2.2.2.1
theorem dX9_chance_24 : decode cX9_chance 24 = .ok (.iconst (-1), 1) := eX9_chance_14.2.2.2.2.1
theorem dX9_chance_25 : decode cX9_chance 25 = .ok (.ireturn, 1) := eX9_chance_14.2.2.2.2.2.1
theorem dX9_chance_26 : decode cX9_chance 26 = .ok (.iconst 0, 1) := eX9_chance_14.2.2.2.2.2.2.1
theorem dX9_chance_27 : decode cX9_chance 27 = .ok (.istore 4, 2) := eX9_chance_14.2.2.2.2.2.2.2
theorem eX9_chance_29 : (decode cX9_chance 29 = .ok (.iload 4, 2)) ∧ (decode cX9_chance 31 = .ok (.iload_n 2, 1)) ∧ (decode cX9_chance 32 = .ok (.if_icmp .ge 28, 3)) ∧ (decode cX9_chance 35 = .ok (.iload_n 3, 1)) ∧ (decode cX9_chance 36 = .ok (.iconst 2, 1)) ∧ (decode cX9_chance 37 = .ok (.iload 4, 2)) ∧ (decode cX9_chance 39 = .ok (.imul, 1)) ∧ (decode cX9_chance 40 = .ok (.ishr, 1)) := by decide +kernel
theorem dX9_chance_29 : decode cX9_chance 29 = .ok (.iload 4, 2) := eX9_chance_29.1
theorem dX9_chance_31 : decode cX9_chance 31 = .ok (.iload_n 2, 1) := eX9_chance_29.2.1
theorem dX9_chance_32 : decode cX9_chance 32 = .ok (.if_icmp .ge 28, 3) := eX9_chance_29.2.2.1
theorem dX9_chance_35 : decode cX9_chance 35 = .ok (.iload_n 3, 1) := eX9_chance_29.2.2.2.1
theorem dX9_chance_36 : decode cX9_chance 36 = .ok (.iconst 2, 1) := eX9_chance_29.2.2.2.2.1
theorem dX9_chance_37 : decode cX9_chance 37 = .ok (.iload 4, 2) := eX9_chance_29.2.2.2.2.2.1
theorem dX9_chance_39 : decode cX9_chance 39 = .ok (.imul, 1) := eX9_chance_29.2.2.2.2.2.2.1
theorem dX9_chance_40 : decode cX9_chance 40 = .ok (.ishr, 1) := eX9_chance_29.2.2.2.2.2.2.2
theorem eX9_chance_41 : (decode cX9_chance 41 = .ok (.iconst 3, 1)) ∧ (decode cX9_chance 42 = .ok (.iand, 1)) ∧ (decode cX9_chance 43 = .ok (.aload_n 0, 1)) ∧ (decode cX9_chance 44 = .ok (.getfield 23, 3)) ∧ (decode cX9_chance 47 = .ok (.iload_n 1, 1)) ∧ (decode cX9_chance 48 = .ok (.iaload, 1)) ∧ (decode cX9_chance 49 = .ok (.if_icmp .lt 5, 3)) ∧ (decode cX9_chance 52 = .ok (.iconst (-1), 1)) := by decide +kernel
theorem dX9_chance_41 : decode cX9_chance 41 = .ok (.iconst 3, 1) := eX9_chance_41.1
theorem dX9_chance_42 : decode cX9_chance 42 = .ok (.iand, 1) := eX9_chance_41.2.1
theorem dX9_chance_43 : decode cX9_chance 43 = .ok (.aload_n 0, 1) := eX9_chance_41.2.2.1
theorem dX9_chance_44 : decode cX9_chance 44 = .ok (.getfield 23, 3) := eX9_chance_41.2.2.2.1
theorem dX9_chance_47 : decode cX9_chance 47 = .ok (.iload_n 1, 1) := eX9_chance_41.2.2.2.2.1
theorem dX9_chance_48 : decode cX9_chance 48 = .ok (.iaload, 1) := eX9_chance_41.2.2.2.2.2.1
theorem dX9_chance_49 : decode cX9_chance 49 = .ok (.if_icmp .lt 5, 3) := eX9_chance_41.2.2.2.2.2.2.1
theorem dX9_chance_52 : decode cX9_chance 52 = .ok (.iconst (-1), 1) := eX9_chance_41.2.2.2.2.2.2.2
theorem eX9_chance_53 : (decode cX9_chance 53 = .ok (.ireturn, 1)) ∧ (decode cX9_chance 54 = .ok (.iinc 4 1, 3)) ∧ (decode cX9_chance 57 = .ok (.goto (-28), 3)) ∧ (decode cX9_chance 60 = .ok (.iload_n 2, 1)) ∧ (decode cX9_chance 61 = .ok (.ifCond .le 14, 3)) ∧ (decode cX9_chance 64 = .ok (.aload_n 0, 1)) ∧ (decode cX9_chance 65 = .ok (.iload_n 1, 1)) ∧ (decode cX9_chance 66 = .ok (.invokevirtual 113, 3)) := by decide +kernel
theorem dX9_chance_53 : decode cX9_chance 53 = .ok (.ireturn, 1) := eX9_chance_53.1
theorem dX9_chance_54 : decode cX9_chance 54 = .ok (.iinc 4 1, 3) := eX9_chance_53.2.1
theorem dX9_chance_57 : decode cX9_chance 57 = .ok (.goto (-28), 3) := eX9_chance_53.2.2.1
theorem dX9_chance_60 : decode cX9_chance 60 = .ok (.iload_n 2, 1) := eX9_chance_53.2.2.2.1
theorem dX9_chance_61 : decode cX9_chance 61 = .ok (.ifCond .le 14, 3) := eX9_chance_53.2.2.2.2.1
theorem dX9_chance_64 : decode cX9_chance 64 = .ok (.aload_n 0, 1) := eX9_chance_53.2.2.2.2.2.1
theorem dX9_chance_65 : decode cX9_chance 65 = .ok (.iload_n 1, 1) := eX9_chance_53.2.2.2.2.2.2.1
theorem dX9_chance_66 : decode cX9_chance 66 = .ok (.invokevirtual 113, 3) := eX9_chance_53.2.2.2.2.2.2.2
theorem eX9_chance_69 : (decode cX9_chance 69 = .ok (.ifCond .ne 6, 3)) ∧ (decode cX9_chance 72 = .ok (.bipush (-2), 2)) ∧ (decode cX9_chance 74 = .ok (.ireturn, 1)) ∧ (decode cX9_chance 75 = .ok (.aload_n 0, 1)) ∧ (decode cX9_chance 76 = .ok (.iload_n 1, 1)) ∧ (decode cX9_chance 77 = .ok (.iload_n 2, 1)) ∧ (decode cX9_chance 78 = .ok (.iload_n 3, 1)) ∧ (decode cX9_chance 79 = .ok (.invokevirtual 170, 3)) := by decide +kernel
theorem dX9_chance_69 : decode cX9_chance 69 = .ok (.ifCond .ne 6, 3) := eX9_chance_69.1
theorem dX9_chance_72 : decode cX9_chance 72 = .ok (.bipush (-2), 2) := eX9_chance_69.2.1
theorem dX9_chance_74 : decode cX9_chance 74 = .ok (.ireturn, 1) := eX9_chance_69.2.2.1
theorem dX9_chance_75 : decode cX9_chance 75 = .ok (.aload_n 0, 1) := eX9_chance_69.2.2.2.1
theorem dX9_chance_76 : decode cX9_chance 76 = .ok (.iload_n 1, 1) := eX9_chance_69.2.2.2.2.1
theorem dX9_chance_77 : decode cX9_chance 77 = .ok (.iload_n 2, 1) := eX9_chance_69.2.2.2.2.2.1
theorem dX9_chance_78 : decode cX9_chance 78 = .ok (.iload_n 3, 1) := eX9_chance_69.2.2.2.2.2.2.1
theorem dX9_chance_79 : decode cX9_chance 79 = .ok (.invokevirtual 170, 3) := eX9_chance_69.2.2.2.2.2.2.2
theorem eX9_chance_82 : (decode cX9_chance 82 = .ok (.ifCond .eq 18, 3)) ∧ (decode cX9_chance 85 = .ok (.aload_n 0, 1)) ∧ (decode cX9_chance 86 = .ok (.aload_n 0, 1)) ∧ (decode cX9_chance 87 = .ok (.getfield 160, 3)) ∧ (decode cX9_chance 90 = .ok (.aload_n 0, 1)) ∧ (decode cX9_chance 91 = .ok (.getfield 163, 3)) ∧ (decode cX9_chance 94 = .ok (.invokevirtual 174, 3)) ∧ (decode cX9_chance 97 = .ok (.goto 5, 3)) := by decide +kernel
theorem dX9_chance_82 : decode cX9_chance 82 = .ok (.ifCond .eq 18, 3) := eX9_chance_82.1
theorem dX9_chance_85 : decode cX9_chance 85 = .ok (.aload_n 0, 1) := eX9_chance_82.2.1
theorem dX9_chance_86 : decode cX9_chance 86 = .ok (.aload_n 0, 1) := eX9_chance_82.2.2.1
theorem dX9_chance_87 : decode cX9_chance 87 = .ok (.getfield 160, 3) := eX9_chance_82.2.2.2.1
theorem dX9_chance_90 : decode cX9_chance 90 = .ok (.aload_n 0, 1) := eX9_chance_82.2.2.2.2.1
theorem dX9_chance_91 : decode cX9_chance 91 = .ok (.getfield 163, 3) := eX9_chance_82.2.2.2.2.2.1
theorem dX9_chance_94 : decode cX9_chance 94 = .ok (.invokevirtual 174, 3) := eX9_chance_82.2.2.2.2.2.2.1
theorem dX9_chance_97 : decode cX9_chance 97 = .ok (.goto 5, 3) := eX9_chance_82.2.2.2.2.2.2.2
theorem eX9_chance_100 : (decode cX9_chance 100 = .ok (.bipush (-6), 2)) ∧ (decode cX9_chance 102 = .ok (.ireturn, 1)) := by decide +kernel
theorem dX9_chance_100 : decode cX9_chance 100 = .ok (.bipush (-6), 2) := eX9_chance_100.1
theorem dX9_chance_102 : decode cX9_chance 102 = .ok (.ireturn, 1) := eX9_chance_100.2
theorem eX9_evenFault_0 : (decode cX9_evenFault 0 = .ok (.aload_n 0, 1)) ∧ (decode cX9_evenFault 1 = .ok (.iload_n 1, 1)) ∧ (decode cX9_evenFault 2 = .ok (.invokevirtual 110, 3)) ∧ (decode cX9_evenFault 5 = .ok (.ifCond .eq 11, 3)) ∧ (decode cX9_evenFault 8 = .ok (.aload_n 0, 1)) ∧ (decode cX9_evenFault 9 = .ok (.iload_n 1, 1)) ∧ (decode cX9_evenFault 10 = .ok (.invokevirtual 113, 3)) ∧ (decode cX9_evenFault 13 = .ok (.ifCond .ne 6, 3)) := by decide +kernel
theorem dX9_evenFault_0 : decode cX9_evenFault 0 = .ok (.aload_n 0, 1) := eX9_evenFault_0.1
theorem dX9_evenFault_1 : decode cX9_evenFault 1 = .ok (.iload_n 1, 1) := eX9_evenFault_0.2.1
theorem dX9_evenFault_2 : decode cX9_evenFault 2 = .ok (.invokevirtual 110, 3) := eX9_evenFault_0.2.2.1
theorem dX9_evenFault_5 : decode cX9_evenFault 5 = .ok (.ifCond .eq 11, 3) := eX9_evenFault_0.2.2.2.1
theorem dX9_evenFault_8 : decode cX9_evenFault 8 = .ok (.aload_n 0, 1) := eX9_evenFault_0.2.2.2.2.1
theorem dX9_evenFault_9 : decode cX9_evenFault 9 = .ok (.iload_n 1, 1) := eX9_evenFault_0.2.2.2.2.2.1
theorem dX9_evenFault_10 : decode cX9_evenFault 10 = .ok (.invokevirtual 113, 3) := eX9_evenFault_0.2.2.2.2.2.2.1
theorem dX9_evenFault_13 : decode cX9_evenFault 13 = .ok (.ifCond .ne 6, 3) := eX9_evenFault_0.2.2.2.2.2.2.2
theorem eX9_evenFault_16 : (decode cX9_evenFault 16 = .ok (.bipush (-2), 2)) ∧ (decode cX9_evenFault 18 = .ok (.ireturn, 1)) ∧ (decode cX9_evenFault 19 = .ok (.aload_n 0, 1)) ∧ (decode cX9_evenFault 20 = .ok (.lconst 1, 1)) ∧ (decode cX9_evenFault 21 = .ok (.putfield 178, 3)) ∧ (decode cX9_evenFault 24 = .ok (.iconst 0, 1)) ∧ (decode cX9_evenFault 25 = .ok (.istore_n 3, 1)) ∧ (decode cX9_evenFault 26 = .ok (.iload_n 3, 1)) := by decide +kernel
theorem dX9_evenFault_16 : decode cX9_evenFault 16 = .ok (.bipush (-2), 2) := eX9_evenFault_16.1
theorem dX9_evenFault_18 : decode cX9_evenFault 18 = .ok (.ireturn, 1) := eX9_evenFault_16.2.1
theorem dX9_evenFault_19 : decode cX9_evenFault 19 = .ok (.aload_n 0, 1) := eX9_evenFault_16.2.2.1
theorem dX9_evenFault_20 : decode cX9_evenFault 20 = .ok (.lconst 1, 1) := eX9_evenFault_16.2.2.2.1
theorem dX9_evenFault_21 : decode cX9_evenFault 21 = .ok (.putfield 178, 3) := eX9_evenFault_16.2.2.2.2.1
theorem dX9_evenFault_24 : decode cX9_evenFault 24 = .ok (.iconst 0, 1) := eX9_evenFault_16.2.2.2.2.2.1
theorem dX9_evenFault_25 : decode cX9_evenFault 25 = .ok (.istore_n 3, 1) := eX9_evenFault_16.2.2.2.2.2.2.1
theorem dX9_evenFault_26 : decode cX9_evenFault 26 = .ok (.iload_n 3, 1) := eX9_evenFault_16.2.2.2.2.2.2.2
theorem eX9_evenFault_27 : (decode cX9_evenFault 27 = .ok (.iload_n 2, 1)) ∧ (decode cX9_evenFault 28 = .ok (.if_icmp .ge 63, 3)) ∧ (decode cX9_evenFault 31 = .ok (.aload_n 0, 1)) ∧ (decode cX9_evenFault 32 = .ok (.iload_n 1, 1)) ∧ (decode cX9_evenFault 33 = .ok (.invokevirtual 113, 3)) ∧ (decode cX9_evenFault 36 = .ok (.i2l, 1)) ∧ (decode cX9_evenFault 37 = .ok (.iload_n 3, 1)) ∧ (decode cX9_evenFault 38 = .ok (.i2l, 1)) := by decide +kernel
theorem dX9_evenFault_27 : decode cX9_evenFault 27 = .ok (.iload_n 2, 1) := eX9_evenFault_27.1
theorem dX9_evenFault_28 : decode cX9_evenFault 28 = .ok (.if_icmp .ge 63, 3) := eX9_evenFault_27.2.1
theorem dX9_evenFault_31 : decode cX9_evenFault 31 = .ok (.aload_n 0, 1) := eX9_evenFault_27.2.2.1
theorem dX9_evenFault_32 : decode cX9_evenFault 32 = .ok (.iload_n 1, 1) := eX9_evenFault_27.2.2.2.1
theorem dX9_evenFault_33 : decode cX9_evenFault 33 = .ok (.invokevirtual 113, 3) := eX9_evenFault_27.2.2.2.2.1
theorem dX9_evenFault_36 : decode cX9_evenFault 36 = .ok (.i2l, 1) := eX9_evenFault_27.2.2.2.2.2.1
theorem dX9_evenFault_37 : decode cX9_evenFault 37 = .ok (.iload_n 3, 1) := eX9_evenFault_27.2.2.2.2.2.2.1
theorem dX9_evenFault_38 : decode cX9_evenFault 38 = .ok (.i2l, 1) := eX9_evenFault_27.2.2.2.2.2.2.2
theorem eX9_evenFault_39 : (decode cX9_evenFault 39 = .ok (.aload_n 0, 1)) ∧ (decode cX9_evenFault 40 = .ok (.iload_n 1, 1)) ∧ (decode cX9_evenFault 41 = .ok (.iconst 0, 1)) ∧ (decode cX9_evenFault 42 = .ok (.invokevirtual 107, 3)) ∧ (decode cX9_evenFault 45 = .ok (.i2l, 1)) ∧ (decode cX9_evenFault 46 = .ok (.lmul, 1)) ∧ (decode cX9_evenFault 47 = .ok (.ladd, 1)) ∧ (decode cX9_evenFault 48 = .ok (.lstore 4, 2)) := by decide +kernel
theorem dX9_evenFault_39 : decode cX9_evenFault 39 = .ok (.aload_n 0, 1) := eX9_evenFault_39.1
theorem dX9_evenFault_40 : decode cX9_evenFault 40 = .ok (.iload_n 1, 1) := eX9_evenFault_39.2.1
theorem dX9_evenFault_41 : decode cX9_evenFault 41 = .ok (.iconst 0, 1) := eX9_evenFault_39.2.2.1
theorem dX9_evenFault_42 : decode cX9_evenFault 42 = .ok (.invokevirtual 107, 3) := eX9_evenFault_39.2.2.2.1
theorem dX9_evenFault_45 : decode cX9_evenFault 45 = .ok (.i2l, 1) := eX9_evenFault_39.2.2.2.2.1
theorem dX9_evenFault_46 : decode cX9_evenFault 46 = .ok (.lmul, 1) := eX9_evenFault_39.2.2.2.2.2.1
theorem dX9_evenFault_47 : decode cX9_evenFault 47 = .ok (.ladd, 1) := eX9_evenFault_39.2.2.2.2.2.2.1
theorem dX9_evenFault_48 : decode cX9_evenFault 48 = .ok (.lstore 4, 2) := eX9_evenFault_39.2.2.2.2.2.2.2
theorem eX9_evenFault_50 : (decode cX9_evenFault 50 = .ok (.lload 4, 2)) ∧ (decode cX9_evenFault 52 = .ok (.lconst 0, 1)) ∧ (decode cX9_evenFault 53 = .ok (.lcmp, 1)) ∧ (decode cX9_evenFault 54 = .ok (.ifCond .le 31, 3)) ∧ (decode cX9_evenFault 57 = .ok (.aload_n 0, 1)) ∧ (decode cX9_evenFault 58 = .ok (.getfield 178, 3)) ∧ (decode cX9_evenFault 61 = .ok (.ldc2_w 181, 3)) ∧ (decode cX9_evenFault 64 = .ok (.lload 4, 2)) := by decide +kernel
theorem dX9_evenFault_50 : decode cX9_evenFault 50 = .ok (.lload 4, 2) := eX9_evenFault_50.1
theorem dX9_evenFault_52 : decode cX9_evenFault 52 = .ok (.lconst 0, 1) := eX9_evenFault_50.2.1
theorem dX9_evenFault_53 : decode cX9_evenFault 53 = .ok (.lcmp, 1) := eX9_evenFault_50.2.2.1
theorem dX9_evenFault_54 : decode cX9_evenFault 54 = .ok (.ifCond .le 31, 3) := eX9_evenFault_50.2.2.2.1
theorem dX9_evenFault_57 : decode cX9_evenFault 57 = .ok (.aload_n 0, 1) := eX9_evenFault_50.2.2.2.2.1
theorem dX9_evenFault_58 : decode cX9_evenFault 58 = .ok (.getfield 178, 3) := eX9_evenFault_50.2.2.2.2.2.1
theorem dX9_evenFault_61 : decode cX9_evenFault 61 = .ok (.ldc2_w 181, 3) := eX9_evenFault_50.2.2.2.2.2.2.1
theorem dX9_evenFault_64 : decode cX9_evenFault 64 = .ok (.lload 4, 2) := eX9_evenFault_50.2.2.2.2.2.2.2
theorem eX9_evenFault_66 : (decode cX9_evenFault 66 = .ok (.ldiv, 1)) ∧ (decode cX9_evenFault 67 = .ok (.lcmp, 1)) ∧ (decode cX9_evenFault 68 = .ok (.ifCond .le 6, 3)) ∧ (decode cX9_evenFault 71 = .ok (.bipush (-6), 2)) ∧ (decode cX9_evenFault 73 = .ok (.ireturn, 1)) ∧ (decode cX9_evenFault 74 = .ok (.aload_n 0, 1)) ∧ (decode cX9_evenFault 75 = .ok (.dup, 1)) ∧ (decode cX9_evenFault 76 = .ok (.getfield 178, 3)) := by decide +kernel
theorem dX9_evenFault_66 : decode cX9_evenFault 66 = .ok (.ldiv, 1) := eX9_evenFault_66.1
theorem dX9_evenFault_67 : decode cX9_evenFault 67 = .ok (.lcmp, 1) := eX9_evenFault_66.2.1
theorem dX9_evenFault_68 : decode cX9_evenFault 68 = .ok (.ifCond .le 6, 3) := eX9_evenFault_66.2.2.1
theorem dX9_evenFault_71 : decode cX9_evenFault 71 = .ok (.bipush (-6), 2) := eX9_evenFault_66.2.2.2.1
theorem dX9_evenFault_73 : decode cX9_evenFault 73 = .ok (.ireturn, 1) := eX9_evenFault_66.2.2.2.2.1
theorem dX9_evenFault_74 : decode cX9_evenFault 74 = .ok (.aload_n 0, 1) := eX9_evenFault_66.2.2.2.2.2.1
theorem dX9_evenFault_75 : decode cX9_evenFault 75 = .ok (.dup, 1) := eX9_evenFault_66.2.2.2.2.2.2.1
theorem dX9_evenFault_76 : decode cX9_evenFault 76 = .ok (.getfield 178, 3) := eX9_evenFault_66.2.2.2.2.2.2.2
theorem eX9_evenFault_79 : (decode cX9_evenFault 79 = .ok (.lload 4, 2)) ∧ (decode cX9_evenFault 81 = .ok (.lmul, 1)) ∧ (decode cX9_evenFault 82 = .ok (.putfield 178, 3)) ∧ (decode cX9_evenFault 85 = .ok (.iinc 3 1, 3)) ∧ (decode cX9_evenFault 88 = .ok (.goto (-62), 3)) ∧ (decode cX9_evenFault 91 = .ok (.iconst 0, 1)) ∧ (decode cX9_evenFault 92 = .ok (.ireturn, 1)) := by decide +kernel
theorem dX9_evenFault_79 : decode cX9_evenFault 79 = .ok (.lload 4, 2) := eX9_evenFault_79.1
theorem dX9_evenFault_81 : decode cX9_evenFault 81 = .ok (.lmul, 1) := eX9_evenFault_79.2.1
theorem dX9_evenFault_82 : decode cX9_evenFault 82 = .ok (.putfield 178, 3) := eX9_evenFault_79.2.2.1
theorem dX9_evenFault_85 : decode cX9_evenFault 85 = .ok (.iinc 3 1, 3) := eX9_evenFault_79.2.2.2.1
theorem dX9_evenFault_88 : decode cX9_evenFault 88 = .ok (.goto (-62), 3) := eX9_evenFault_79.2.2.2.2.1
theorem dX9_evenFault_91 : decode cX9_evenFault 91 = .ok (.iconst 0, 1) := eX9_evenFault_79.2.2.2.2.2.1
theorem dX9_evenFault_92 : decode cX9_evenFault 92 = .ok (.ireturn, 1) := eX9_evenFault_79.2.2.2.2.2.2
theorem eX9_looksAt_0 : (decode cX9_looksAt 0 = .ok (.aload_n 0, 1)) ∧ (decode cX9_looksAt 1 = .ok (.getfield 48, 3)) ∧ (decode cX9_looksAt 4 = .ok (.iconst 0, 1)) ∧ (decode cX9_looksAt 5 = .ok (.iload_n 2, 1)) ∧ (decode cX9_looksAt 6 = .ok (.bipush 13, 2)) ∧ (decode cX9_looksAt 8 = .ok (.irem, 1)) ∧ (decode cX9_looksAt 9 = .ok (.iastore, 1)) ∧ (decode cX9_looksAt 10 = .ok (.aload_n 0, 1)) := by decide +kernel
theorem dX9_looksAt_0 : decode cX9_looksAt 0 = .ok (.aload_n 0, 1) := eX9_looksAt_0.1
theorem dX9_looksAt_1 : decode cX9_looksAt 1 = .ok (.getfield 48, 3) := eX9_looksAt_0.2.1
theorem dX9_looksAt_4 : decode cX9_looksAt 4 = .ok (.iconst 0, 1) := eX9_looksAt_0.2.2.1
theorem dX9_looksAt_5 : decode cX9_looksAt 5 = .ok (.iload_n 2, 1) := eX9_looksAt_0.2.2.2.1
theorem dX9_looksAt_6 : decode cX9_looksAt 6 = .ok (.bipush 13, 2) := eX9_looksAt_0.2.2.2.2.1
theorem dX9_looksAt_8 : decode cX9_looksAt 8 = .ok (.irem, 1) := eX9_looksAt_0.2.2.2.2.2.1
theorem dX9_looksAt_9 : decode cX9_looksAt 9 = .ok (.iastore, 1) := eX9_looksAt_0.2.2.2.2.2.2.1
theorem dX9_looksAt_10 : decode cX9_looksAt 10 = .ok (.aload_n 0, 1) := eX9_looksAt_0.2.2.2.2.2.2.2
theorem eX9_looksAt_11 : (decode cX9_looksAt 11 = .ok (.getfield 48, 3)) ∧ (decode cX9_looksAt 14 = .ok (.iconst 1, 1)) ∧ (decode cX9_looksAt 15 = .ok (.iload_n 2, 1)) ∧ (decode cX9_looksAt 16 = .ok (.bipush 13, 2)) ∧ (decode cX9_looksAt 18 = .ok (.idiv, 1)) ∧ (decode cX9_looksAt 19 = .ok (.bipush 13, 2)) ∧ (decode cX9_looksAt 21 = .ok (.irem, 1)) ∧ (decode cX9_looksAt 22 = .ok (.iastore, 1)) := by decide +kernel
theorem dX9_looksAt_11 : decode cX9_looksAt 11 = .ok (.getfield 48, 3) := eX9_looksAt_11.1
theorem dX9_looksAt_14 : decode cX9_looksAt 14 = .ok (.iconst 1, 1) := eX9_looksAt_11.2.1
theorem dX9_looksAt_15 : decode cX9_looksAt 15 = .ok (.iload_n 2, 1) := eX9_looksAt_11.2.2.1
theorem dX9_looksAt_16 : decode cX9_looksAt 16 = .ok (.bipush 13, 2) := eX9_looksAt_11.2.2.2.1
theorem dX9_looksAt_18 : decode cX9_looksAt 18 = .ok (.idiv, 1) := eX9_looksAt_11.2.2.2.2.1
theorem dX9_looksAt_19 : decode cX9_looksAt 19 = .ok (.bipush 13, 2) := eX9_looksAt_11.2.2.2.2.2.1
theorem dX9_looksAt_21 : decode cX9_looksAt 21 = .ok (.irem, 1) := eX9_looksAt_11.2.2.2.2.2.2.1
theorem dX9_looksAt_22 : decode cX9_looksAt 22 = .ok (.iastore, 1) := eX9_looksAt_11.2.2.2.2.2.2.2
theorem eX9_looksAt_23 : (decode cX9_looksAt 23 = .ok (.aload_n 0, 1)) ∧ (decode cX9_looksAt 24 = .ok (.getfield 48, 3)) ∧ (decode cX9_looksAt 27 = .ok (.iconst 2, 1)) ∧ (decode cX9_looksAt 28 = .ok (.iload_n 2, 1)) ∧ (decode cX9_looksAt 29 = .ok (.sipush 169, 3)) ∧ (decode cX9_looksAt 32 = .ok (.idiv, 1)) ∧ (decode cX9_looksAt 33 = .ok (.iastore, 1)) ∧ (decode cX9_looksAt 34 = .ok (.aload_n 0, 1)) := by decide +kernel
theorem dX9_looksAt_23 : decode cX9_looksAt 23 = .ok (.aload_n 0, 1) := eX9_looksAt_23.1
theorem dX9_looksAt_24 : decode cX9_looksAt 24 = .ok (.getfield 48, 3) := eX9_looksAt_23.2.1
theorem dX9_looksAt_27 : decode cX9_looksAt 27 = .ok (.iconst 2, 1) := eX9_looksAt_23.2.2.1
theorem dX9_looksAt_28 : decode cX9_looksAt 28 = .ok (.iload_n 2, 1) := eX9_looksAt_23.2.2.2.1
theorem dX9_looksAt_29 : decode cX9_looksAt 29 = .ok (.sipush 169, 3) := eX9_looksAt_23.2.2.2.2.1
theorem dX9_looksAt_32 : decode cX9_looksAt 32 = .ok (.idiv, 1) := eX9_looksAt_23.2.2.2.2.2.1
theorem dX9_looksAt_33 : decode cX9_looksAt 33 = .ok (.iastore, 1) := eX9_looksAt_23.2.2.2.2.2.2.1
theorem dX9_looksAt_34 : decode cX9_looksAt 34 = .ok (.aload_n 0, 1) := eX9_looksAt_23.2.2.2.2.2.2.2
theorem eX9_looksAt_35 : (decode cX9_looksAt 35 = .ok (.getfield 48, 3)) ∧ (decode cX9_looksAt 38 = .ok (.iconst 3, 1)) ∧ (decode cX9_looksAt 39 = .ok (.iload_n 3, 1)) ∧ (decode cX9_looksAt 40 = .ok (.aload_n 0, 1)) ∧ (decode cX9_looksAt 41 = .ok (.getfield 48, 3)) ∧ (decode cX9_looksAt 44 = .ok (.iconst 0, 1)) ∧ (decode cX9_looksAt 45 = .ok (.iaload, 1)) ∧ (decode cX9_looksAt 46 = .ok (.isub, 1)) := by decide +kernel
theorem dX9_looksAt_35 : decode cX9_looksAt 35 = .ok (.getfield 48, 3) := eX9_looksAt_35.1
theorem dX9_looksAt_38 : decode cX9_looksAt 38 = .ok (.iconst 3, 1) := eX9_looksAt_35.2.1
theorem dX9_looksAt_39 : decode cX9_looksAt 39 = .ok (.iload_n 3, 1) := eX9_looksAt_35.2.2.1
theorem dX9_looksAt_40 : decode cX9_looksAt 40 = .ok (.aload_n 0, 1) := eX9_looksAt_35.2.2.2.1
theorem dX9_looksAt_41 : decode cX9_looksAt 41 = .ok (.getfield 48, 3) := eX9_looksAt_35.2.2.2.2.1
theorem dX9_looksAt_44 : decode cX9_looksAt 44 = .ok (.iconst 0, 1) := eX9_looksAt_35.2.2.2.2.2.1
theorem dX9_looksAt_45 : decode cX9_looksAt 45 = .ok (.iaload, 1) := eX9_looksAt_35.2.2.2.2.2.2.1
theorem dX9_looksAt_46 : decode cX9_looksAt 46 = .ok (.isub, 1) := eX9_looksAt_35.2.2.2.2.2.2.2
theorem eX9_looksAt_47 : (decode cX9_looksAt 47 = .ok (.aload_n 0, 1)) ∧ (decode cX9_looksAt 48 = .ok (.getfield 48, 3)) ∧ (decode cX9_looksAt 51 = .ok (.iconst 1, 1)) ∧ (decode cX9_looksAt 52 = .ok (.iaload, 1)) ∧ (decode cX9_looksAt 53 = .ok (.isub, 1)) ∧ (decode cX9_looksAt 54 = .ok (.aload_n 0, 1)) ∧ (decode cX9_looksAt 55 = .ok (.getfield 48, 3)) ∧ (decode cX9_looksAt 58 = .ok (.iconst 2, 1)) := by decide +kernel
theorem dX9_looksAt_47 : decode cX9_looksAt 47 = .ok (.aload_n 0, 1) := eX9_looksAt_47.1
theorem dX9_looksAt_48 : decode cX9_looksAt 48 = .ok (.getfield 48, 3) := eX9_looksAt_47.2.1
theorem dX9_looksAt_51 : decode cX9_looksAt 51 = .ok (.iconst 1, 1) := eX9_looksAt_47.2.2.1
theorem dX9_looksAt_52 : decode cX9_looksAt 52 = .ok (.iaload, 1) := eX9_looksAt_47.2.2.2.1
theorem dX9_looksAt_53 : decode cX9_looksAt 53 = .ok (.isub, 1) := eX9_looksAt_47.2.2.2.2.1
theorem dX9_looksAt_54 : decode cX9_looksAt 54 = .ok (.aload_n 0, 1) := eX9_looksAt_47.2.2.2.2.2.1
theorem dX9_looksAt_55 : decode cX9_looksAt 55 = .ok (.getfield 48, 3) := eX9_looksAt_47.2.2.2.2.2.2.1
theorem dX9_looksAt_58 : decode cX9_looksAt 58 = .ok (.iconst 2, 1) := eX9_looksAt_47.2.2.2.2.2.2.2
theorem eX9_looksAt_59 : (decode cX9_looksAt 59 = .ok (.iaload, 1)) ∧ (decode cX9_looksAt 60 = .ok (.isub, 1)) ∧ (decode cX9_looksAt 61 = .ok (.iastore, 1)) ∧ (decode cX9_looksAt 62 = .ok (.iconst 0, 1)) ∧ (decode cX9_looksAt 63 = .ok (.istore 4, 2)) ∧ (decode cX9_looksAt 65 = .ok (.iload 4, 2)) ∧ (decode cX9_looksAt 67 = .ok (.iconst 4, 1)) ∧ (decode cX9_looksAt 68 = .ok (.if_icmp .ge 80, 3)) := by decide +kernel
theorem dX9_looksAt_59 : decode cX9_looksAt 59 = .ok (.iaload, 1) := eX9_looksAt_59.1
theorem dX9_looksAt_60 : decode cX9_looksAt 60 = .ok (.isub, 1) := eX9_looksAt_59.2.1
theorem dX9_looksAt_61 : decode cX9_looksAt 61 = .ok (.iastore, 1) := eX9_looksAt_59.2.2.1
theorem dX9_looksAt_62 : decode cX9_looksAt 62 = .ok (.iconst 0, 1) := eX9_looksAt_59.2.2.2.1
theorem dX9_looksAt_63 : decode cX9_looksAt 63 = .ok (.istore 4, 2) := eX9_looksAt_59.2.2.2.2.1
theorem dX9_looksAt_65 : decode cX9_looksAt 65 = .ok (.iload 4, 2) := eX9_looksAt_59.2.2.2.2.2.1
theorem dX9_looksAt_67 : decode cX9_looksAt 67 = .ok (.iconst 4, 1) := eX9_looksAt_59.2.2.2.2.2.2.1
theorem dX9_looksAt_68 : decode cX9_looksAt 68 = .ok (.if_icmp .ge 80, 3) := eX9_looksAt_59.2.2.2.2.2.2.2
theorem eX9_looksAt_71 : (decode cX9_looksAt 71 = .ok (.aload_n 0, 1)) ∧ (decode cX9_looksAt 72 = .ok (.getfield 51, 3)) ∧ (decode cX9_looksAt 75 = .ok (.iload 4, 2)) ∧ (decode cX9_looksAt 77 = .ok (.aload_n 0, 1)) ∧ (decode cX9_looksAt 78 = .ok (.getfield 26, 3)) ∧ (decode cX9_looksAt 81 = .ok (.bipush 25, 2)) ∧ (decode cX9_looksAt 83 = .ok (.iload_n 1, 1)) ∧ (decode cX9_looksAt 84 = .ok (.imul, 1)) := by decide +kernel
theorem dX9_looksAt_71 : decode cX9_looksAt 71 = .ok (.aload_n 0, 1) := eX9_looksAt_71.1
theorem dX9_looksAt_72 : decode cX9_looksAt 72 = .ok (.getfield 51, 3) := eX9_looksAt_71.2.1
theorem dX9_looksAt_75 : decode cX9_looksAt 75 = .ok (.iload 4, 2) := eX9_looksAt_71.2.2.1
theorem dX9_looksAt_77 : decode cX9_looksAt 77 = .ok (.aload_n 0, 1) := eX9_looksAt_71.2.2.2.1
theorem dX9_looksAt_78 : decode cX9_looksAt 78 = .ok (.getfield 26, 3) := eX9_looksAt_71.2.2.2.2.1
theorem dX9_looksAt_81 : decode cX9_looksAt 81 = .ok (.bipush 25, 2) := eX9_looksAt_71.2.2.2.2.2.1
theorem dX9_looksAt_83 : decode cX9_looksAt 83 = .ok (.iload_n 1, 1) := eX9_looksAt_71.2.2.2.2.2.2.1
theorem dX9_looksAt_84 : decode cX9_looksAt 84 = .ok (.imul, 1) := eX9_looksAt_71.2.2.2.2.2.2.2
theorem eX9_looksAt_85 : (decode cX9_looksAt 85 = .ok (.iload 4, 2)) ∧ (decode cX9_looksAt 87 = .ok (.iadd, 1)) ∧ (decode cX9_looksAt 88 = .ok (.iaload, 1)) ∧ (decode cX9_looksAt 89 = .ok (.iastore, 1)) ∧ (decode cX9_looksAt 90 = .ok (.iconst 0, 1)) ∧ (decode cX9_looksAt 91 = .ok (.istore 5, 2)) ∧ (decode cX9_looksAt 93 = .ok (.iload 5, 2)) ∧ (decode cX9_looksAt 95 = .ok (.iconst 4, 1)) := by decide +kernel
theorem dX9_looksAt_85 : decode cX9_looksAt 85 = .ok (.iload 4, 2) := eX9_looksAt_85.1
theorem dX9_looksAt_87 : decode cX9_looksAt 87 = .ok (.iadd, 1) := eX9_looksAt_85.2.1
theorem dX9_looksAt_88 : decode cX9_looksAt 88 = .ok (.iaload, 1) := eX9_looksAt_85.2.2.1
theorem dX9_looksAt_89 : decode cX9_looksAt 89 = .ok (.iastore, 1) := eX9_looksAt_85.2.2.2.1
theorem dX9_looksAt_90 : decode cX9_looksAt 90 = .ok (.iconst 0, 1) := eX9_looksAt_85.2.2.2.2.1
theorem dX9_looksAt_91 : decode cX9_looksAt 91 = .ok (.istore 5, 2) := eX9_looksAt_85.2.2.2.2.2.1
theorem dX9_looksAt_93 : decode cX9_looksAt 93 = .ok (.iload 5, 2) := eX9_looksAt_85.2.2.2.2.2.2.1
theorem dX9_looksAt_95 : decode cX9_looksAt 95 = .ok (.iconst 4, 1) := eX9_looksAt_85.2.2.2.2.2.2.2
theorem eX9_looksAt_96 : (decode cX9_looksAt 96 = .ok (.if_icmp .ge 46, 3)) ∧ (decode cX9_looksAt 99 = .ok (.aload_n 0, 1)) ∧ (decode cX9_looksAt 100 = .ok (.getfield 51, 3)) ∧ (decode cX9_looksAt 103 = .ok (.iload 4, 2)) ∧ (decode cX9_looksAt 105 = .ok (.dup2, 1)) ∧ (decode cX9_looksAt 106 = .ok (.iaload, 1)) ∧ (decode cX9_looksAt 107 = .ok (.aload_n 0, 1)) ∧ (decode cX9_looksAt 108 = .ok (.getfield 48, 3)) := by decide +kernel
theorem dX9_looksAt_96 : decode cX9_looksAt 96 = .ok (.if_icmp .ge 46, 3) := eX9_looksAt_96.1
theorem dX9_looksAt_99 : decode cX9_looksAt 99 = .ok (.aload_n 0, 1) := eX9_looksAt_96.2.1
theorem dX9_looksAt_100 : decode cX9_looksAt 100 = .ok (.getfield 51, 3) := eX9_looksAt_96.2.2.1
theorem dX9_looksAt_103 : decode cX9_looksAt 103 = .ok (.iload 4, 2) := eX9_looksAt_96.2.2.2.1
theorem dX9_looksAt_105 : decode cX9_looksAt 105 = .ok (.dup2, 1) := eX9_looksAt_96.2.2.2.2.1
theorem dX9_looksAt_106 : decode cX9_looksAt 106 = .ok (.iaload, 1) := eX9_looksAt_96.2.2.2.2.2.1
theorem dX9_looksAt_107 : decode cX9_looksAt 107 = .ok (.aload_n 0, 1) := eX9_looksAt_96.2.2.2.2.2.2.1
theorem dX9_looksAt_108 : decode cX9_looksAt 108 = .ok (.getfield 48, 3) := eX9_looksAt_96.2.2.2.2.2.2.2
theorem eX9_looksAt_111 : (decode cX9_looksAt 111 = .ok (.iload 5, 2)) ∧ (decode cX9_looksAt 113 = .ok (.iaload, 1)) ∧ (decode cX9_looksAt 114 = .ok (.aload_n 0, 1)) ∧ (decode cX9_looksAt 115 = .ok (.getfield 26, 3)) ∧ (decode cX9_looksAt 118 = .ok (.bipush 25, 2)) ∧ (decode cX9_looksAt 120 = .ok (.iload_n 1, 1)) ∧ (decode cX9_looksAt 121 = .ok (.imul, 1)) ∧ (decode cX9_looksAt 122 = .ok (.iconst 4, 1)) := by decide +kernel
theorem dX9_looksAt_111 : decode cX9_looksAt 111 = .ok (.iload 5, 2) := eX9_looksAt_111.1
theorem dX9_looksAt_113 : decode cX9_looksAt 113 = .ok (.iaload, 1) := eX9_looksAt_111.2.1
theorem dX9_looksAt_114 : decode cX9_looksAt 114 = .ok (.aload_n 0, 1) := eX9_looksAt_111.2.2.1
theorem dX9_looksAt_115 : decode cX9_looksAt 115 = .ok (.getfield 26, 3) := eX9_looksAt_111.2.2.2.1
theorem dX9_looksAt_118 : decode cX9_looksAt 118 = .ok (.bipush 25, 2) := eX9_looksAt_111.2.2.2.2.1
theorem dX9_looksAt_120 : decode cX9_looksAt 120 = .ok (.iload_n 1, 1) := eX9_looksAt_111.2.2.2.2.2.1
theorem dX9_looksAt_121 : decode cX9_looksAt 121 = .ok (.imul, 1) := eX9_looksAt_111.2.2.2.2.2.2.1
theorem dX9_looksAt_122 : decode cX9_looksAt 122 = .ok (.iconst 4, 1) := eX9_looksAt_111.2.2.2.2.2.2.2
theorem eX9_looksAt_123 : (decode cX9_looksAt 123 = .ok (.iadd, 1)) ∧ (decode cX9_looksAt 124 = .ok (.iconst 4, 1)) ∧ (decode cX9_looksAt 125 = .ok (.iload 5, 2)) ∧ (decode cX9_looksAt 127 = .ok (.imul, 1)) ∧ (decode cX9_looksAt 128 = .ok (.iadd, 1)) ∧ (decode cX9_looksAt 129 = .ok (.iload 4, 2)) ∧ (decode cX9_looksAt 131 = .ok (.iadd, 1)) ∧ (decode cX9_looksAt 132 = .ok (.iaload, 1)) := by decide +kernel
theorem dX9_looksAt_123 : decode cX9_looksAt 123 = .ok (.iadd, 1) := eX9_looksAt_123.1
theorem dX9_looksAt_124 : decode cX9_looksAt 124 = .ok (.iconst 4, 1) := eX9_looksAt_123.2.1
theorem dX9_looksAt_125 : decode cX9_looksAt 125 = .ok (.iload 5, 2) := eX9_looksAt_123.2.2.1
theorem dX9_looksAt_127 : decode cX9_looksAt 127 = .ok (.imul, 1) := eX9_looksAt_123.2.2.2.1
theorem dX9_looksAt_128 : decode cX9_looksAt 128 = .ok (.iadd, 1) := eX9_looksAt_123.2.2.2.2.1
theorem dX9_looksAt_129 : decode cX9_looksAt 129 = .ok (.iload 4, 2) := eX9_looksAt_123.2.2.2.2.2.1
theorem dX9_looksAt_131 : decode cX9_looksAt 131 = .ok (.iadd, 1) := eX9_looksAt_123.2.2.2.2.2.2.1
theorem dX9_looksAt_132 : decode cX9_looksAt 132 = .ok (.iaload, 1) := eX9_looksAt_123.2.2.2.2.2.2.2
theorem eX9_looksAt_133 : (decode cX9_looksAt 133 = .ok (.imul, 1)) ∧ (decode cX9_looksAt 134 = .ok (.iadd, 1)) ∧ (decode cX9_looksAt 135 = .ok (.iastore, 1)) ∧ (decode cX9_looksAt 136 = .ok (.iinc 5 1, 3)) ∧ (decode cX9_looksAt 139 = .ok (.goto (-46), 3)) ∧ (decode cX9_looksAt 142 = .ok (.iinc 4 1, 3)) ∧ (decode cX9_looksAt 145 = .ok (.goto (-80), 3)) ∧ (decode cX9_looksAt 148 = .ok (.return_, 1)) := by decide +kernel
theorem dX9_looksAt_133 : decode cX9_looksAt 133 = .ok (.imul, 1) := eX9_looksAt_133.1
theorem dX9_looksAt_134 : decode cX9_looksAt 134 = .ok (.iadd, 1) := eX9_looksAt_133.2.1
theorem dX9_looksAt_135 : decode cX9_looksAt 135 = .ok (.iastore, 1) := eX9_looksAt_133.2.2.1
theorem dX9_looksAt_136 : decode cX9_looksAt 136 = .ok (.iinc 5 1, 3) := eX9_looksAt_133.2.2.2.1
theorem dX9_looksAt_139 : decode cX9_looksAt 139 = .ok (.goto (-46), 3) := eX9_looksAt_133.2.2.2.2.1
theorem dX9_looksAt_142 : decode cX9_looksAt 142 = .ok (.iinc 4 1, 3) := eX9_looksAt_133.2.2.2.2.2.1
theorem dX9_looksAt_145 : decode cX9_looksAt 145 = .ok (.goto (-80), 3) := eX9_looksAt_133.2.2.2.2.2.2.1
theorem dX9_looksAt_148 : decode cX9_looksAt 148 = .ok (.return_, 1) := eX9_looksAt_133.2.2.2.2.2.2.2
theorem eX9_more_0 : (decode cX9_more 0 = .ok (.iload_n 1, 1)) ∧ (decode cX9_more 1 = .ok (.ifCond .ne 9, 3)) ∧ (decode cX9_more 4 = .ok (.iload_n 0, 1)) ∧ (decode cX9_more 5 = .ok (.iconst 1, 1)) ∧ (decode cX9_more 6 = .ok (.iadd, 1)) ∧ (decode cX9_more 7 = .ok (.goto 29, 3)) ∧ (decode cX9_more 10 = .ok (.iload_n 1, 1)) ∧ (decode cX9_more 11 = .ok (.iconst 1, 1)) := by decide +kernel
theorem dX9_more_0 : decode cX9_more 0 = .ok (.iload_n 1, 1) := eX9_more_0.1
theorem dX9_more_1 : decode cX9_more 1 = .ok (.ifCond .ne 9, 3) := eX9_more_0.2.1
theorem dX9_more_4 : decode cX9_more 4 = .ok (.iload_n 0, 1) := eX9_more_0.2.2.1
theorem dX9_more_5 : decode cX9_more 5 = .ok (.iconst 1, 1) := eX9_more_0.2.2.2.1
theorem dX9_more_6 : decode cX9_more 6 = .ok (.iadd, 1) := eX9_more_0.2.2.2.2.1
theorem dX9_more_7 : decode cX9_more 7 = .ok (.goto 29, 3) := eX9_more_0.2.2.2.2.2.1
theorem dX9_more_10 : decode cX9_more 10 = .ok (.iload_n 1, 1) := eX9_more_0.2.2.2.2.2.2.1
theorem dX9_more_11 : decode cX9_more 11 = .ok (.iconst 1, 1) := eX9_more_0.2.2.2.2.2.2.2
theorem eX9_more_12 : (decode cX9_more 12 = .ok (.if_icmp .ne 10, 3)) ∧ (decode cX9_more 15 = .ok (.iload_n 0, 1)) ∧ (decode cX9_more 16 = .ok (.bipush 13, 2)) ∧ (decode cX9_more 18 = .ok (.iadd, 1)) ∧ (decode cX9_more 19 = .ok (.goto 17, 3)) ∧ (decode cX9_more 22 = .ok (.iload_n 1, 1)) ∧ (decode cX9_more 23 = .ok (.iconst 2, 1)) ∧ (decode cX9_more 24 = .ok (.if_icmp .ne 11, 3)) := by decide +kernel
theorem dX9_more_12 : decode cX9_more 12 = .ok (.if_icmp .ne 10, 3) := eX9_more_12.1
theorem dX9_more_15 : decode cX9_more 15 = .ok (.iload_n 0, 1) := eX9_more_12.2.1
theorem dX9_more_16 : decode cX9_more 16 = .ok (.bipush 13, 2) := eX9_more_12.2.2.1
theorem dX9_more_18 : decode cX9_more 18 = .ok (.iadd, 1) := eX9_more_12.2.2.2.1
theorem dX9_more_19 : decode cX9_more 19 = .ok (.goto 17, 3) := eX9_more_12.2.2.2.2.1
theorem dX9_more_22 : decode cX9_more 22 = .ok (.iload_n 1, 1) := eX9_more_12.2.2.2.2.2.1
theorem dX9_more_23 : decode cX9_more 23 = .ok (.iconst 2, 1) := eX9_more_12.2.2.2.2.2.2.1
theorem dX9_more_24 : decode cX9_more 24 = .ok (.if_icmp .ne 11, 3) := eX9_more_12.2.2.2.2.2.2.2
theorem eX9_more_27 : (decode cX9_more 27 = .ok (.iload_n 0, 1)) ∧ (decode cX9_more 28 = .ok (.sipush 169, 3)) ∧ (decode cX9_more 31 = .ok (.iadd, 1)) ∧ (decode cX9_more 32 = .ok (.goto 4, 3)) ∧ (decode cX9_more 35 = .ok (.iload_n 0, 1)) ∧ (decode cX9_more 36 = .ok (.ireturn, 1)) := by decide +kernel
theorem dX9_more_27 : decode cX9_more 27 = .ok (.iload_n 0, 1) := eX9_more_27.1
theorem dX9_more_28 : decode cX9_more 28 = .ok (.sipush 169, 3) := eX9_more_27.2.1
theorem dX9_more_31 : decode cX9_more 31 = .ok (.iadd, 1) := eX9_more_27.2.2.1
theorem dX9_more_32 : decode cX9_more 32 = .ok (.goto 4, 3) := eX9_more_27.2.2.2.1
theorem dX9_more_35 : decode cX9_more 35 = .ok (.iload_n 0, 1) := eX9_more_27.2.2.2.2.1
theorem dX9_more_36 : decode cX9_more 36 = .ok (.ireturn, 1) := eX9_more_27.2.2.2.2.2
theorem eX9_at_0 : (decode cX9_at 0 = .ok (.sipush 2197, 3)) ∧ (decode cX9_at 3 = .ok (.iload_n 0, 1)) ∧ (decode cX9_at 4 = .ok (.iconst 1, 1)) ∧ (decode cX9_at 5 = .ok (.iand, 1)) ∧ (decode cX9_at 6 = .ok (.imul, 1)) ∧ (decode cX9_at 7 = .ok (.iload_n 1, 1)) ∧ (decode cX9_at 8 = .ok (.iadd, 1)) ∧ (decode cX9_at 9 = .ok (.ireturn, 1)) := by decide +kernel
theorem dX9_at_0 : decode cX9_at 0 = .ok (.sipush 2197, 3) := eX9_at_0.1
theorem dX9_at_3 : decode cX9_at 3 = .ok (.iload_n 0, 1) := eX9_at_0.2.1
theorem dX9_at_4 : decode cX9_at 4 = .ok (.iconst 1, 1) := eX9_at_0.2.2.1
theorem dX9_at_5 : decode cX9_at 5 = .ok (.iand, 1) := eX9_at_0.2.2.2.1
theorem dX9_at_6 : decode cX9_at 6 = .ok (.imul, 1) := eX9_at_0.2.2.2.2.1
theorem dX9_at_7 : decode cX9_at 7 = .ok (.iload_n 1, 1) := eX9_at_0.2.2.2.2.2.1
theorem dX9_at_8 : decode cX9_at 8 = .ok (.iadd, 1) := eX9_at_0.2.2.2.2.2.2.1
theorem dX9_at_9 : decode cX9_at 9 = .ok (.ireturn, 1) := eX9_at_0.2.2.2.2.2.2.2
theorem eX9_goes_0 : (decode cX9_goes 0 = .ok (.iconst 0, 1)) ∧ (decode cX9_goes 1 = .ok (.istore 7, 2)) ∧ (decode cX9_goes 3 = .ok (.iload 7, 2)) ∧ (decode cX9_goes 5 = .ok (.sipush 4394, 3)) ∧ (decode cX9_goes 8 = .ok (.if_icmp .ge 17, 3)) ∧ (decode cX9_goes 11 = .ok (.aload_n 0, 1)) ∧ (decode cX9_goes 12 = .ok (.getfield 45, 3)) ∧ (decode cX9_goes 15 = .ok (.iload 7, 2)) := by decide +kernel
theorem dX9_goes_0 : decode cX9_goes 0 = .ok (.iconst 0, 1) := eX9_goes_0.1
theorem dX9_goes_1 : decode cX9_goes 1 = .ok (.istore 7, 2) := eX9_goes_0.2.1
theorem dX9_goes_3 : decode cX9_goes 3 = .ok (.iload 7, 2) := eX9_goes_0.2.2.1
theorem dX9_goes_5 : decode cX9_goes 5 = .ok (.sipush 4394, 3) := eX9_goes_0.2.2.2.1
theorem dX9_goes_8 : decode cX9_goes 8 = .ok (.if_icmp .ge 17, 3) := eX9_goes_0.2.2.2.2.1
theorem dX9_goes_11 : decode cX9_goes 11 = .ok (.aload_n 0, 1) := eX9_goes_0.2.2.2.2.2.1
theorem dX9_goes_12 : decode cX9_goes 12 = .ok (.getfield 45, 3) := eX9_goes_0.2.2.2.2.2.2.1
theorem dX9_goes_15 : decode cX9_goes 15 = .ok (.iload 7, 2) := eX9_goes_0.2.2.2.2.2.2.2
theorem eX9_goes_17 : (decode cX9_goes 17 = .ok (.lconst 0, 1)) ∧ (decode cX9_goes 18 = .ok (.lastore, 1)) ∧ (decode cX9_goes 19 = .ok (.iinc 7 1, 3)) ∧ (decode cX9_goes 22 = .ok (.goto (-19), 3)) ∧ (decode cX9_goes 25 = .ok (.aload_n 0, 1)) ∧ (decode cX9_goes 26 = .ok (.getfield 45, 3)) ∧ (decode cX9_goes 29 = .ok (.iconst 0, 1)) ∧ (decode cX9_goes 30 = .ok (.lconst 1, 1)) := by decide +kernel
theorem dX9_goes_17 : decode cX9_goes 17 = .ok (.lconst 0, 1) := eX9_goes_17.1
theorem dX9_goes_18 : decode cX9_goes 18 = .ok (.lastore, 1) := eX9_goes_17.2.1
theorem dX9_goes_19 : decode cX9_goes 19 = .ok (.iinc 7 1, 3) := eX9_goes_17.2.2.1
theorem dX9_goes_22 : decode cX9_goes 22 = .ok (.goto (-19), 3) := eX9_goes_17.2.2.2.1
theorem dX9_goes_25 : decode cX9_goes 25 = .ok (.aload_n 0, 1) := eX9_goes_17.2.2.2.2.1
theorem dX9_goes_26 : decode cX9_goes 26 = .ok (.getfield 45, 3) := eX9_goes_17.2.2.2.2.2.1
theorem dX9_goes_29 : decode cX9_goes 29 = .ok (.iconst 0, 1) := eX9_goes_17.2.2.2.2.2.2.1
theorem dX9_goes_30 : decode cX9_goes 30 = .ok (.lconst 1, 1) := eX9_goes_17.2.2.2.2.2.2.2
theorem eX9_goes_31 : (decode cX9_goes 31 = .ok (.lastore, 1)) ∧ (decode cX9_goes 32 = .ok (.aload_n 0, 1)) ∧ (decode cX9_goes 33 = .ok (.lconst 0, 1)) ∧ (decode cX9_goes 34 = .ok (.putfield 183, 3)) ∧ (decode cX9_goes 37 = .ok (.aload_n 0, 1)) ∧ (decode cX9_goes 38 = .ok (.getfield 178, 3)) ∧ (decode cX9_goes 41 = .ok (.lstore 7, 2)) ∧ (decode cX9_goes 43 = .ok (.iconst 0, 1)) := by decide +kernel
theorem dX9_goes_31 : decode cX9_goes 31 = .ok (.lastore, 1) := eX9_goes_31.1
theorem dX9_goes_32 : decode cX9_goes 32 = .ok (.aload_n 0, 1) := eX9_goes_31.2.1
theorem dX9_goes_33 : decode cX9_goes 33 = .ok (.lconst 0, 1) := eX9_goes_31.2.2.1
theorem dX9_goes_34 : decode cX9_goes 34 = .ok (.putfield 183, 3) := eX9_goes_31.2.2.2.1
theorem dX9_goes_37 : decode cX9_goes 37 = .ok (.aload_n 0, 1) := eX9_goes_31.2.2.2.2.1
theorem dX9_goes_38 : decode cX9_goes 38 = .ok (.getfield 178, 3) := eX9_goes_31.2.2.2.2.2.1
theorem dX9_goes_41 : decode cX9_goes 41 = .ok (.lstore 7, 2) := eX9_goes_31.2.2.2.2.2.2.1
theorem dX9_goes_43 : decode cX9_goes 43 = .ok (.iconst 0, 1) := eX9_goes_31.2.2.2.2.2.2.2
theorem eX9_goes_44 : (decode cX9_goes 44 = .ok (.istore 9, 2)) ∧ (decode cX9_goes 46 = .ok (.iload 9, 2)) ∧ (decode cX9_goes 48 = .ok (.iload_n 2, 1)) ∧ (decode cX9_goes 49 = .ok (.if_icmp .ge 165, 3)) ∧ (decode cX9_goes 52 = .ok (.aload_n 0, 1)) ∧ (decode cX9_goes 53 = .ok (.iload_n 1, 1)) ∧ (decode cX9_goes 54 = .ok (.invokevirtual 113, 3)) ∧ (decode cX9_goes 57 = .ok (.i2l, 1)) := by decide +kernel
theorem dX9_goes_44 : decode cX9_goes 44 = .ok (.istore 9, 2) := eX9_goes_44.1
theorem dX9_goes_46 : decode cX9_goes 46 = .ok (.iload 9, 2) := eX9_goes_44.2.1
theorem dX9_goes_48 : decode cX9_goes 48 = .ok (.iload_n 2, 1) := eX9_goes_44.2.2.1
theorem dX9_goes_49 : decode cX9_goes 49 = .ok (.if_icmp .ge 165, 3) := eX9_goes_44.2.2.2.1
theorem dX9_goes_52 : decode cX9_goes 52 = .ok (.aload_n 0, 1) := eX9_goes_44.2.2.2.2.1
theorem dX9_goes_53 : decode cX9_goes 53 = .ok (.iload_n 1, 1) := eX9_goes_44.2.2.2.2.2.1
theorem dX9_goes_54 : decode cX9_goes 54 = .ok (.invokevirtual 113, 3) := eX9_goes_44.2.2.2.2.2.2.1
theorem dX9_goes_57 : decode cX9_goes 57 = .ok (.i2l, 1) := eX9_goes_44.2.2.2.2.2.2.2
theorem eX9_goes_58 : (decode cX9_goes 58 = .ok (.iload 9, 2)) ∧ (decode cX9_goes 60 = .ok (.i2l, 1)) ∧ (decode cX9_goes 61 = .ok (.aload_n 0, 1)) ∧ (decode cX9_goes 62 = .ok (.iload_n 1, 1)) ∧ (decode cX9_goes 63 = .ok (.iconst 0, 1)) ∧ (decode cX9_goes 64 = .ok (.invokevirtual 107, 3)) ∧ (decode cX9_goes 67 = .ok (.i2l, 1)) ∧ (decode cX9_goes 68 = .ok (.lmul, 1)) := by decide +kernel
theorem dX9_goes_58 : decode cX9_goes 58 = .ok (.iload 9, 2) := eX9_goes_58.1
theorem dX9_goes_60 : decode cX9_goes 60 = .ok (.i2l, 1) := eX9_goes_58.2.1
theorem dX9_goes_61 : decode cX9_goes 61 = .ok (.aload_n 0, 1) := eX9_goes_58.2.2.1
theorem dX9_goes_62 : decode cX9_goes 62 = .ok (.iload_n 1, 1) := eX9_goes_58.2.2.2.1
theorem dX9_goes_63 : decode cX9_goes 63 = .ok (.iconst 0, 1) := eX9_goes_58.2.2.2.2.1
theorem dX9_goes_64 : decode cX9_goes 64 = .ok (.invokevirtual 107, 3) := eX9_goes_58.2.2.2.2.2.1
theorem dX9_goes_67 : decode cX9_goes 67 = .ok (.i2l, 1) := eX9_goes_58.2.2.2.2.2.2.1
theorem dX9_goes_68 : decode cX9_goes 68 = .ok (.lmul, 1) := eX9_goes_58.2.2.2.2.2.2.2
theorem eX9_goes_69 : (decode cX9_goes 69 = .ok (.ladd, 1)) ∧ (decode cX9_goes 70 = .ok (.lstore 10, 2)) ∧ (decode cX9_goes 72 = .ok (.lload 10, 2)) ∧ (decode cX9_goes 74 = .ok (.lconst 0, 1)) ∧ (decode cX9_goes 75 = .ok (.lcmp, 1)) ∧ (decode cX9_goes 76 = .ok (.ifCond .le 11, 3)) ∧ (decode cX9_goes 79 = .ok (.lload 7, 2)) ∧ (decode cX9_goes 81 = .ok (.lload 10, 2)) := by decide +kernel
theorem dX9_goes_69 : decode cX9_goes 69 = .ok (.ladd, 1) := eX9_goes_69.1
theorem dX9_goes_70 : decode cX9_goes 70 = .ok (.lstore 10, 2) := eX9_goes_69.2.1
theorem dX9_goes_72 : decode cX9_goes 72 = .ok (.lload 10, 2) := eX9_goes_69.2.2.1
theorem dX9_goes_74 : decode cX9_goes 74 = .ok (.lconst 0, 1) := eX9_goes_69.2.2.2.1
theorem dX9_goes_75 : decode cX9_goes 75 = .ok (.lcmp, 1) := eX9_goes_69.2.2.2.2.1
theorem dX9_goes_76 : decode cX9_goes 76 = .ok (.ifCond .le 11, 3) := eX9_goes_69.2.2.2.2.2.1
theorem dX9_goes_79 : decode cX9_goes 79 = .ok (.lload 7, 2) := eX9_goes_69.2.2.2.2.2.2.1
theorem dX9_goes_81 : decode cX9_goes 81 = .ok (.lload 10, 2) := eX9_goes_69.2.2.2.2.2.2.2
theorem eX9_goes_83 : (decode cX9_goes 83 = .ok (.ldiv, 1)) ∧ (decode cX9_goes 84 = .ok (.goto 5, 3)) ∧ (decode cX9_goes 87 = .ok (.lload 7, 2)) ∧ (decode cX9_goes 89 = .ok (.lstore 7, 2)) ∧ (decode cX9_goes 91 = .ok (.iconst 0, 1)) ∧ (decode cX9_goes 92 = .ok (.istore 12, 2)) ∧ (decode cX9_goes 94 = .ok (.iload 12, 2)) ∧ (decode cX9_goes 96 = .ok (.sipush 2197, 3)) := by decide +kernel
theorem dX9_goes_83 : decode cX9_goes 83 = .ok (.ldiv, 1) := eX9_goes_83.1
theorem dX9_goes_84 : decode cX9_goes 84 = .ok (.goto 5, 3) := eX9_goes_83.2.1
theorem dX9_goes_87 : decode cX9_goes 87 = .ok (.lload 7, 2) := eX9_goes_83.2.2.1
theorem dX9_goes_89 : decode cX9_goes 89 = .ok (.lstore 7, 2) := eX9_goes_83.2.2.2.1
theorem dX9_goes_91 : decode cX9_goes 91 = .ok (.iconst 0, 1) := eX9_goes_83.2.2.2.2.1
theorem dX9_goes_92 : decode cX9_goes 92 = .ok (.istore 12, 2) := eX9_goes_83.2.2.2.2.2.1
theorem dX9_goes_94 : decode cX9_goes 94 = .ok (.iload 12, 2) := eX9_goes_83.2.2.2.2.2.2.1
theorem dX9_goes_96 : decode cX9_goes 96 = .ok (.sipush 2197, 3) := eX9_goes_83.2.2.2.2.2.2.2
theorem eX9_goes_99 : (decode cX9_goes 99 = .ok (.if_icmp .ge 24, 3)) ∧ (decode cX9_goes 102 = .ok (.aload_n 0, 1)) ∧ (decode cX9_goes 103 = .ok (.getfield 45, 3)) ∧ (decode cX9_goes 106 = .ok (.iload 9, 2)) ∧ (decode cX9_goes 108 = .ok (.iconst 1, 1)) ∧ (decode cX9_goes 109 = .ok (.iadd, 1)) ∧ (decode cX9_goes 110 = .ok (.iload 12, 2)) ∧ (decode cX9_goes 112 = .ok (.invokestatic 186, 3)) := by decide +kernel
theorem dX9_goes_99 : decode cX9_goes 99 = .ok (.if_icmp .ge 24, 3) := eX9_goes_99.1
theorem dX9_goes_102 : decode cX9_goes 102 = .ok (.aload_n 0, 1) := eX9_goes_99.2.1
theorem dX9_goes_103 : decode cX9_goes 103 = .ok (.getfield 45, 3) := eX9_goes_99.2.2.1
theorem dX9_goes_106 : decode cX9_goes 106 = .ok (.iload 9, 2) := eX9_goes_99.2.2.2.1
theorem dX9_goes_108 : decode cX9_goes 108 = .ok (.iconst 1, 1) := eX9_goes_99.2.2.2.2.1
theorem dX9_goes_109 : decode cX9_goes 109 = .ok (.iadd, 1) := eX9_goes_99.2.2.2.2.2.1
theorem dX9_goes_110 : decode cX9_goes 110 = .ok (.iload 12, 2) := eX9_goes_99.2.2.2.2.2.2.1
theorem dX9_goes_112 : decode cX9_goes 112 = .ok (.invokestatic 186, 3) := eX9_goes_99.2.2.2.2.2.2.2
theorem eX9_goes_115 : (decode cX9_goes 115 = .ok (.lconst 0, 1)) ∧ (decode cX9_goes 116 = .ok (.lastore, 1)) ∧ (decode cX9_goes 117 = .ok (.iinc 12 1, 3)) ∧ (decode cX9_goes 120 = .ok (.goto (-26), 3)) ∧ (decode cX9_goes 123 = .ok (.iconst 0, 1)) ∧ (decode cX9_goes 124 = .ok (.istore 12, 2)) ∧ (decode cX9_goes 126 = .ok (.iload 12, 2)) ∧ (decode cX9_goes 128 = .ok (.sipush 2197, 3)) := by decide +kernel
theorem dX9_goes_115 : decode cX9_goes 115 = .ok (.lconst 0, 1) := eX9_goes_115.1
theorem dX9_goes_116 : decode cX9_goes 116 = .ok (.lastore, 1) := eX9_goes_115.2.1
theorem dX9_goes_117 : decode cX9_goes 117 = .ok (.iinc 12 1, 3) := eX9_goes_115.2.2.1
theorem dX9_goes_120 : decode cX9_goes 120 = .ok (.goto (-26), 3) := eX9_goes_115.2.2.2.1
theorem dX9_goes_123 : decode cX9_goes 123 = .ok (.iconst 0, 1) := eX9_goes_115.2.2.2.2.1
theorem dX9_goes_124 : decode cX9_goes 124 = .ok (.istore 12, 2) := eX9_goes_115.2.2.2.2.2.1
theorem dX9_goes_126 : decode cX9_goes 126 = .ok (.iload 12, 2) := eX9_goes_115.2.2.2.2.2.2.1
theorem dX9_goes_128 : decode cX9_goes 128 = .ok (.sipush 2197, 3) := eX9_goes_115.2.2.2.2.2.2.2
theorem eX9_goes_131 : (decode cX9_goes 131 = .ok (.if_icmp .ge 77, 3)) ∧ (decode cX9_goes 134 = .ok (.aload_n 0, 1)) ∧ (decode cX9_goes 135 = .ok (.getfield 45, 3)) ∧ (decode cX9_goes 138 = .ok (.iload 9, 2)) ∧ (decode cX9_goes 140 = .ok (.iload 12, 2)) ∧ (decode cX9_goes 142 = .ok (.invokestatic 186, 3)) ∧ (decode cX9_goes 145 = .ok (.laload, 1)) ∧ (decode cX9_goes 146 = .ok (.lconst 0, 1)) := by decide +kernel
theorem dX9_goes_131 : decode cX9_goes 131 = .ok (.if_icmp .ge 77, 3) := eX9_goes_131.1
theorem dX9_goes_134 : decode cX9_goes 134 = .ok (.aload_n 0, 1) := eX9_goes_131.2.1
theorem dX9_goes_135 : decode cX9_goes 135 = .ok (.getfield 45, 3) := eX9_goes_131.2.2.1
theorem dX9_goes_138 : decode cX9_goes 138 = .ok (.iload 9, 2) := eX9_goes_131.2.2.2.1
theorem dX9_goes_140 : decode cX9_goes 140 = .ok (.iload 12, 2) := eX9_goes_131.2.2.2.2.1
theorem dX9_goes_142 : decode cX9_goes 142 = .ok (.invokestatic 186, 3) := eX9_goes_131.2.2.2.2.2.1
theorem dX9_goes_145 : decode cX9_goes 145 = .ok (.laload, 1) := eX9_goes_131.2.2.2.2.2.2.1
theorem dX9_goes_146 : decode cX9_goes 146 = .ok (.lconst 0, 1) := eX9_goes_131.2.2.2.2.2.2.2
theorem eX9_goes_147 : (decode cX9_goes 147 = .ok (.lcmp, 1)) ∧ (decode cX9_goes 148 = .ok (.ifCond .le 54, 3)) ∧ (decode cX9_goes 151 = .ok (.aload_n 0, 1)) ∧ (decode cX9_goes 152 = .ok (.iload_n 1, 1)) ∧ (decode cX9_goes 153 = .ok (.iload 12, 2)) ∧ (decode cX9_goes 155 = .ok (.iload 9, 2)) ∧ (decode cX9_goes 157 = .ok (.invokevirtual 189, 3)) ∧ (decode cX9_goes 160 = .ok (.aload_n 0, 1)) := by decide +kernel
theorem dX9_goes_147 : decode cX9_goes 147 = .ok (.lcmp, 1) := eX9_goes_147.1
theorem dX9_goes_148 : decode cX9_goes 148 = .ok (.ifCond .le 54, 3) := eX9_goes_147.2.1
theorem dX9_goes_151 : decode cX9_goes 151 = .ok (.aload_n 0, 1) := eX9_goes_147.2.2.1
theorem dX9_goes_152 : decode cX9_goes 152 = .ok (.iload_n 1, 1) := eX9_goes_147.2.2.2.1
theorem dX9_goes_153 : decode cX9_goes 153 = .ok (.iload 12, 2) := eX9_goes_147.2.2.2.2.1
theorem dX9_goes_155 : decode cX9_goes 155 = .ok (.iload 9, 2) := eX9_goes_147.2.2.2.2.2.1
theorem dX9_goes_157 : decode cX9_goes 157 = .ok (.invokevirtual 189, 3) := eX9_goes_147.2.2.2.2.2.2.1
theorem dX9_goes_160 : decode cX9_goes 160 = .ok (.aload_n 0, 1) := eX9_goes_147.2.2.2.2.2.2.2
theorem eX9_goes_161 : (decode cX9_goes 161 = .ok (.iload_n 1, 1)) ∧ (decode cX9_goes 162 = .ok (.iload 12, 2)) ∧ (decode cX9_goes 164 = .ok (.iload 9, 2)) ∧ (decode cX9_goes 166 = .ok (.lload 10, 2)) ∧ (decode cX9_goes 168 = .ok (.lload 7, 2)) ∧ (decode cX9_goes 170 = .ok (.iload 9, 2)) ∧ (decode cX9_goes 172 = .ok (.iconst 1, 1)) ∧ (decode cX9_goes 173 = .ok (.iadd, 1)) := by decide +kernel
theorem dX9_goes_161 : decode cX9_goes 161 = .ok (.iload_n 1, 1) := eX9_goes_161.1
theorem dX9_goes_162 : decode cX9_goes 162 = .ok (.iload 12, 2) := eX9_goes_161.2.1
theorem dX9_goes_164 : decode cX9_goes 164 = .ok (.iload 9, 2) := eX9_goes_161.2.2.1
theorem dX9_goes_166 : decode cX9_goes 166 = .ok (.lload 10, 2) := eX9_goes_161.2.2.2.1
theorem dX9_goes_168 : decode cX9_goes 168 = .ok (.lload 7, 2) := eX9_goes_161.2.2.2.2.1
theorem dX9_goes_170 : decode cX9_goes 170 = .ok (.iload 9, 2) := eX9_goes_161.2.2.2.2.2.1
theorem dX9_goes_172 : decode cX9_goes 172 = .ok (.iconst 1, 1) := eX9_goes_161.2.2.2.2.2.2.1
theorem dX9_goes_173 : decode cX9_goes 173 = .ok (.iadd, 1) := eX9_goes_161.2.2.2.2.2.2.2
theorem eX9_goes_174 : (decode cX9_goes 174 = .ok (.iload_n 3, 1)) ∧ (decode cX9_goes 175 = .ok (.if_icmp .ne 8, 3)) ∧ (decode cX9_goes 178 = .ok (.iload 4, 2)) ∧ (decode cX9_goes 180 = .ok (.goto 4, 3)) ∧ (decode cX9_goes 183 = .ok (.iconst (-1), 1)) ∧ (decode cX9_goes 184 = .ok (.iload 9, 2)) ∧ (decode cX9_goes 186 = .ok (.iconst 1, 1)) ∧ (decode cX9_goes 187 = .ok (.iadd, 1)) := by decide +kernel
theorem dX9_goes_174 : decode cX9_goes 174 = .ok (.iload_n 3, 1) := eX9_goes_174.1
theorem dX9_goes_175 : decode cX9_goes 175 = .ok (.if_icmp .ne 8, 3) := eX9_goes_174.2.1
theorem dX9_goes_178 : decode cX9_goes 178 = .ok (.iload 4, 2) := eX9_goes_174.2.2.1
theorem dX9_goes_180 : decode cX9_goes 180 = .ok (.goto 4, 3) := eX9_goes_174.2.2.2.1
theorem dX9_goes_183 : decode cX9_goes 183 = .ok (.iconst (-1), 1) := eX9_goes_174.2.2.2.2.1
theorem dX9_goes_184 : decode cX9_goes 184 = .ok (.iload 9, 2) := eX9_goes_174.2.2.2.2.2.1
theorem dX9_goes_186 : decode cX9_goes 186 = .ok (.iconst 1, 1) := eX9_goes_174.2.2.2.2.2.2.1
theorem dX9_goes_187 : decode cX9_goes 187 = .ok (.iadd, 1) := eX9_goes_174.2.2.2.2.2.2.2
theorem eX9_goes_188 : (decode cX9_goes 188 = .ok (.iload 5, 2)) ∧ (decode cX9_goes 190 = .ok (.if_icmp .ne 8, 3)) ∧ (decode cX9_goes 193 = .ok (.iload 6, 2)) ∧ (decode cX9_goes 195 = .ok (.goto 4, 3)) ∧ (decode cX9_goes 198 = .ok (.iconst (-1), 1)) ∧ (decode cX9_goes 199 = .ok (.invokevirtual 193, 3)) ∧ (decode cX9_goes 202 = .ok (.iinc 12 1, 3)) ∧ (decode cX9_goes 205 = .ok (.goto (-79), 3)) := by decide +kernel
theorem dX9_goes_188 : decode cX9_goes 188 = .ok (.iload 5, 2) := eX9_goes_188.1
theorem dX9_goes_190 : decode cX9_goes 190 = .ok (.if_icmp .ne 8, 3) := eX9_goes_188.2.1
theorem dX9_goes_193 : decode cX9_goes 193 = .ok (.iload 6, 2) := eX9_goes_188.2.2.1
theorem dX9_goes_195 : decode cX9_goes 195 = .ok (.goto 4, 3) := eX9_goes_188.2.2.2.1
theorem dX9_goes_198 : decode cX9_goes 198 = .ok (.iconst (-1), 1) := eX9_goes_188.2.2.2.2.1
theorem dX9_goes_199 : decode cX9_goes 199 = .ok (.invokevirtual 193, 3) := eX9_goes_188.2.2.2.2.2.1
theorem dX9_goes_202 : decode cX9_goes 202 = .ok (.iinc 12 1, 3) := eX9_goes_188.2.2.2.2.2.2.1
theorem dX9_goes_205 : decode cX9_goes 205 = .ok (.goto (-79), 3) := eX9_goes_188.2.2.2.2.2.2.2
theorem eX9_goes_208 : (decode cX9_goes 208 = .ok (.iinc 9 1, 3)) ∧ (decode cX9_goes 211 = .ok (.goto (-165), 3)) ∧ (decode cX9_goes 214 = .ok (.return_, 1)) := by decide +kernel
theorem dX9_goes_208 : decode cX9_goes 208 = .ok (.iinc 9 1, 3) := eX9_goes_208.1
theorem dX9_goes_211 : decode cX9_goes 211 = .ok (.goto (-165), 3) := eX9_goes_208.2.1
theorem dX9_goes_214 : decode cX9_goes 214 = .ok (.return_, 1) := eX9_goes_208.2.2
theorem eX9_spreads_0 : (decode cX9_spreads 0 = .ok (.aload_n 0, 1)) ∧ (decode cX9_spreads 1 = .ok (.getfield 45, 3)) ∧ (decode cX9_spreads 4 = .ok (.iload_n 3, 1)) ∧ (decode cX9_spreads 5 = .ok (.iload_n 2, 1)) ∧ (decode cX9_spreads 6 = .ok (.invokestatic 186, 3)) ∧ (decode cX9_spreads 9 = .ok (.laload, 1)) ∧ (decode cX9_spreads 10 = .ok (.lstore 10, 2)) ∧ (decode cX9_spreads 12 = .ok (.lload 4, 2)) := by decide +kernel
theorem dX9_spreads_0 : decode cX9_spreads 0 = .ok (.aload_n 0, 1) := eX9_spreads_0.1
theorem dX9_spreads_1 : decode cX9_spreads 1 = .ok (.getfield 45, 3) := eX9_spreads_0.2.1
theorem dX9_spreads_4 : decode cX9_spreads 4 = .ok (.iload_n 3, 1) := eX9_spreads_0.2.2.1
theorem dX9_spreads_5 : decode cX9_spreads 5 = .ok (.iload_n 2, 1) := eX9_spreads_0.2.2.2.1
theorem dX9_spreads_6 : decode cX9_spreads 6 = .ok (.invokestatic 186, 3) := eX9_spreads_0.2.2.2.2.1
theorem dX9_spreads_9 : decode cX9_spreads 9 = .ok (.laload, 1) := eX9_spreads_0.2.2.2.2.2.1
theorem dX9_spreads_10 : decode cX9_spreads 10 = .ok (.lstore 10, 2) := eX9_spreads_0.2.2.2.2.2.2.1
theorem dX9_spreads_12 : decode cX9_spreads 12 = .ok (.lload 4, 2) := eX9_spreads_0.2.2.2.2.2.2.2
theorem eX9_spreads_14 : (decode cX9_spreads 14 = .ok (.lconst 0, 1)) ∧ (decode cX9_spreads 15 = .ok (.lcmp, 1)) ∧ (decode cX9_spreads 16 = .ok (.ifCond .gt 18, 3)) ∧ (decode cX9_spreads 19 = .ok (.aload_n 0, 1)) ∧ (decode cX9_spreads 20 = .ok (.dup, 1)) ∧ (decode cX9_spreads 21 = .ok (.getfield 183, 3)) ∧ (decode cX9_spreads 24 = .ok (.lload 10, 2)) ∧ (decode cX9_spreads 26 = .ok (.lload 6, 2)) := by decide +kernel
theorem dX9_spreads_14 : decode cX9_spreads 14 = .ok (.lconst 0, 1) := eX9_spreads_14.1
theorem dX9_spreads_15 : decode cX9_spreads 15 = .ok (.lcmp, 1) := eX9_spreads_14.2.1
theorem dX9_spreads_16 : decode cX9_spreads 16 = .ok (.ifCond .gt 18, 3) := eX9_spreads_14.2.2.1
theorem dX9_spreads_19 : decode cX9_spreads 19 = .ok (.aload_n 0, 1) := eX9_spreads_14.2.2.2.1
theorem dX9_spreads_20 : decode cX9_spreads 20 = .ok (.dup, 1) := eX9_spreads_14.2.2.2.2.1
theorem dX9_spreads_21 : decode cX9_spreads 21 = .ok (.getfield 183, 3) := eX9_spreads_14.2.2.2.2.2.1
theorem dX9_spreads_24 : decode cX9_spreads 24 = .ok (.lload 10, 2) := eX9_spreads_14.2.2.2.2.2.2.1
theorem dX9_spreads_26 : decode cX9_spreads 26 = .ok (.lload 6, 2) := eX9_spreads_14.2.2.2.2.2.2.2
theorem eX9_spreads_28 : (decode cX9_spreads 28 = .ok (.lmul, 1)) ∧ (decode cX9_spreads 29 = .ok (.ladd, 1)) ∧ (decode cX9_spreads 30 = .ok (.putfield 183, 3)) ∧ (decode cX9_spreads 33 = .ok (.return_, 1)) ∧ (decode cX9_spreads 34 = .ok (.iconst 0, 1)) ∧ (decode cX9_spreads 35 = .ok (.istore 12, 2)) ∧ (decode cX9_spreads 37 = .ok (.iload 12, 2)) ∧ (decode cX9_spreads 39 = .ok (.iconst 4, 1)) := by decide +kernel
theorem dX9_spreads_28 : decode cX9_spreads 28 = .ok (.lmul, 1) := eX9_spreads_28.1
theorem dX9_spreads_29 : decode cX9_spreads 29 = .ok (.ladd, 1) := eX9_spreads_28.2.1
theorem dX9_spreads_30 : decode cX9_spreads 30 = .ok (.putfield 183, 3) := eX9_spreads_28.2.2.1
theorem dX9_spreads_33 : decode cX9_spreads 33 = .ok (.return_, 1) := eX9_spreads_28.2.2.2.1
theorem dX9_spreads_34 : decode cX9_spreads 34 = .ok (.iconst 0, 1) := eX9_spreads_28.2.2.2.2.1
theorem dX9_spreads_35 : decode cX9_spreads 35 = .ok (.istore 12, 2) := eX9_spreads_28.2.2.2.2.2.1
theorem dX9_spreads_37 : decode cX9_spreads 37 = .ok (.iload 12, 2) := eX9_spreads_28.2.2.2.2.2.2.1
theorem dX9_spreads_39 : decode cX9_spreads 39 = .ok (.iconst 4, 1) := eX9_spreads_28.2.2.2.2.2.2.2
theorem eX9_spreads_40 : (decode cX9_spreads 40 = .ok (.if_icmp .ge 185, 3)) ∧ (decode cX9_spreads 43 = .ok (.iconst 1, 1)) ∧ (decode cX9_spreads 44 = .ok (.istore 13, 2)) ∧ (decode cX9_spreads 46 = .ok (.iconst 0, 1)) ∧ (decode cX9_spreads 47 = .ok (.istore 14, 2)) ∧ (decode cX9_spreads 49 = .ok (.iload 14, 2)) ∧ (decode cX9_spreads 51 = .ok (.iconst 4, 1)) ∧ (decode cX9_spreads 52 = .ok (.if_icmp .ge 59, 3)) := by decide +kernel
theorem dX9_spreads_40 : decode cX9_spreads 40 = .ok (.if_icmp .ge 185, 3) := eX9_spreads_40.1
theorem dX9_spreads_43 : decode cX9_spreads 43 = .ok (.iconst 1, 1) := eX9_spreads_40.2.1
theorem dX9_spreads_44 : decode cX9_spreads 44 = .ok (.istore 13, 2) := eX9_spreads_40.2.2.1
theorem dX9_spreads_46 : decode cX9_spreads 46 = .ok (.iconst 0, 1) := eX9_spreads_40.2.2.2.1
theorem dX9_spreads_47 : decode cX9_spreads 47 = .ok (.istore 14, 2) := eX9_spreads_40.2.2.2.2.1
theorem dX9_spreads_49 : decode cX9_spreads 49 = .ok (.iload 14, 2) := eX9_spreads_40.2.2.2.2.2.1
theorem dX9_spreads_51 : decode cX9_spreads 51 = .ok (.iconst 4, 1) := eX9_spreads_40.2.2.2.2.2.2.1
theorem dX9_spreads_52 : decode cX9_spreads 52 = .ok (.if_icmp .ge 59, 3) := eX9_spreads_40.2.2.2.2.2.2.2
theorem eX9_spreads_55 : (decode cX9_spreads 55 = .ok (.iload 13, 2)) ∧ (decode cX9_spreads 57 = .ok (.ifCond .eq 45, 3)) ∧ (decode cX9_spreads 60 = .ok (.aload_n 0, 1)) ∧ (decode cX9_spreads 61 = .ok (.getfield 51, 3)) ∧ (decode cX9_spreads 64 = .ok (.iload 14, 2)) ∧ (decode cX9_spreads 66 = .ok (.iaload, 1)) ∧ (decode cX9_spreads 67 = .ok (.aload_n 0, 1)) ∧ (decode cX9_spreads 68 = .ok (.getfield 26, 3)) := by decide +kernel
theorem dX9_spreads_55 : decode cX9_spreads 55 = .ok (.iload 13, 2) := eX9_spreads_55.1
theorem dX9_spreads_57 : decode cX9_spreads 57 = .ok (.ifCond .eq 45, 3) := eX9_spreads_55.2.1
theorem dX9_spreads_60 : decode cX9_spreads 60 = .ok (.aload_n 0, 1) := eX9_spreads_55.2.2.1
theorem dX9_spreads_61 : decode cX9_spreads 61 = .ok (.getfield 51, 3) := eX9_spreads_55.2.2.2.1
theorem dX9_spreads_64 : decode cX9_spreads 64 = .ok (.iload 14, 2) := eX9_spreads_55.2.2.2.2.1
theorem dX9_spreads_66 : decode cX9_spreads 66 = .ok (.iaload, 1) := eX9_spreads_55.2.2.2.2.2.1
theorem dX9_spreads_67 : decode cX9_spreads 67 = .ok (.aload_n 0, 1) := eX9_spreads_55.2.2.2.2.2.2.1
theorem dX9_spreads_68 : decode cX9_spreads 68 = .ok (.getfield 26, 3) := eX9_spreads_55.2.2.2.2.2.2.2
theorem eX9_spreads_71 : (decode cX9_spreads 71 = .ok (.bipush 25, 2)) ∧ (decode cX9_spreads 73 = .ok (.iload_n 1, 1)) ∧ (decode cX9_spreads 74 = .ok (.imul, 1)) ∧ (decode cX9_spreads 75 = .ok (.iconst 4, 1)) ∧ (decode cX9_spreads 76 = .ok (.iadd, 1)) ∧ (decode cX9_spreads 77 = .ok (.iconst 4, 1)) ∧ (decode cX9_spreads 78 = .ok (.iload 12, 2)) ∧ (decode cX9_spreads 80 = .ok (.imul, 1)) := by decide +kernel
theorem dX9_spreads_71 : decode cX9_spreads 71 = .ok (.bipush 25, 2) := eX9_spreads_71.1
theorem dX9_spreads_73 : decode cX9_spreads 73 = .ok (.iload_n 1, 1) := eX9_spreads_71.2.1
theorem dX9_spreads_74 : decode cX9_spreads 74 = .ok (.imul, 1) := eX9_spreads_71.2.2.1
theorem dX9_spreads_75 : decode cX9_spreads 75 = .ok (.iconst 4, 1) := eX9_spreads_71.2.2.2.1
theorem dX9_spreads_76 : decode cX9_spreads 76 = .ok (.iadd, 1) := eX9_spreads_71.2.2.2.2.1
theorem dX9_spreads_77 : decode cX9_spreads 77 = .ok (.iconst 4, 1) := eX9_spreads_71.2.2.2.2.2.1
theorem dX9_spreads_78 : decode cX9_spreads 78 = .ok (.iload 12, 2) := eX9_spreads_71.2.2.2.2.2.2.1
theorem dX9_spreads_80 : decode cX9_spreads 80 = .ok (.imul, 1) := eX9_spreads_71.2.2.2.2.2.2.2
theorem eX9_spreads_81 : (decode cX9_spreads 81 = .ok (.iadd, 1)) ∧ (decode cX9_spreads 82 = .ok (.iload 14, 2)) ∧ (decode cX9_spreads 84 = .ok (.iadd, 1)) ∧ (decode cX9_spreads 85 = .ok (.iaload, 1)) ∧ (decode cX9_spreads 86 = .ok (.iadd, 1)) ∧ (decode cX9_spreads 87 = .ok (.i2l, 1)) ∧ (decode cX9_spreads 88 = .ok (.lconst 0, 1)) ∧ (decode cX9_spreads 89 = .ok (.ldc2_w 98, 3)) := by decide +kernel
theorem dX9_spreads_81 : decode cX9_spreads 81 = .ok (.iadd, 1) := eX9_spreads_81.1
theorem dX9_spreads_82 : decode cX9_spreads 82 = .ok (.iload 14, 2) := eX9_spreads_81.2.1
theorem dX9_spreads_84 : decode cX9_spreads 84 = .ok (.iadd, 1) := eX9_spreads_81.2.2.1
theorem dX9_spreads_85 : decode cX9_spreads 85 = .ok (.iaload, 1) := eX9_spreads_81.2.2.2.1
theorem dX9_spreads_86 : decode cX9_spreads 86 = .ok (.iadd, 1) := eX9_spreads_81.2.2.2.2.1
theorem dX9_spreads_87 : decode cX9_spreads 87 = .ok (.i2l, 1) := eX9_spreads_81.2.2.2.2.2.1
theorem dX9_spreads_88 : decode cX9_spreads 88 = .ok (.lconst 0, 1) := eX9_spreads_81.2.2.2.2.2.2.1
theorem dX9_spreads_89 : decode cX9_spreads 89 = .ok (.ldc2_w 98, 3) := eX9_spreads_81.2.2.2.2.2.2.2
theorem eX9_spreads_92 : (decode cX9_spreads 92 = .ok (.invokestatic 62, 3)) ∧ (decode cX9_spreads 95 = .ok (.ifCond .eq 7, 3)) ∧ (decode cX9_spreads 98 = .ok (.iconst 1, 1)) ∧ (decode cX9_spreads 99 = .ok (.goto 4, 3)) ∧ (decode cX9_spreads 102 = .ok (.iconst 0, 1)) ∧ (decode cX9_spreads 103 = .ok (.istore 13, 2)) ∧ (decode cX9_spreads 105 = .ok (.iinc 14 1, 3)) ∧ (decode cX9_spreads 108 = .ok (.goto (-59), 3)) := by decide +kernel
theorem dX9_spreads_92 : decode cX9_spreads 92 = .ok (.invokestatic 62, 3) := eX9_spreads_92.1
theorem dX9_spreads_95 : decode cX9_spreads 95 = .ok (.ifCond .eq 7, 3) := eX9_spreads_92.2.1
theorem dX9_spreads_98 : decode cX9_spreads 98 = .ok (.iconst 1, 1) := eX9_spreads_92.2.2.1
theorem dX9_spreads_99 : decode cX9_spreads 99 = .ok (.goto 4, 3) := eX9_spreads_92.2.2.2.1
theorem dX9_spreads_102 : decode cX9_spreads 102 = .ok (.iconst 0, 1) := eX9_spreads_92.2.2.2.2.1
theorem dX9_spreads_103 : decode cX9_spreads 103 = .ok (.istore 13, 2) := eX9_spreads_92.2.2.2.2.2.1
theorem dX9_spreads_105 : decode cX9_spreads 105 = .ok (.iinc 14 1, 3) := eX9_spreads_92.2.2.2.2.2.2.1
theorem dX9_spreads_108 : decode cX9_spreads 108 = .ok (.goto (-59), 3) := eX9_spreads_92.2.2.2.2.2.2.2
theorem eX9_spreads_111 : (decode cX9_spreads 111 = .ok (.aload_n 0, 1)) ∧ (decode cX9_spreads 112 = .ok (.getfield 51, 3)) ∧ (decode cX9_spreads 115 = .ok (.iload 12, 2)) ∧ (decode cX9_spreads 117 = .ok (.iaload, 1)) ∧ (decode cX9_spreads 118 = .ok (.ifCond .le 31, 3)) ∧ (decode cX9_spreads 121 = .ok (.iload 13, 2)) ∧ (decode cX9_spreads 123 = .ok (.ifCond .ne 26, 3)) ∧ (decode cX9_spreads 126 = .ok (.aload_n 0, 1)) := by decide +kernel
theorem dX9_spreads_111 : decode cX9_spreads 111 = .ok (.aload_n 0, 1) := eX9_spreads_111.1
theorem dX9_spreads_112 : decode cX9_spreads 112 = .ok (.getfield 51, 3) := eX9_spreads_111.2.1
theorem dX9_spreads_115 : decode cX9_spreads 115 = .ok (.iload 12, 2) := eX9_spreads_111.2.2.1
theorem dX9_spreads_117 : decode cX9_spreads 117 = .ok (.iaload, 1) := eX9_spreads_111.2.2.2.1
theorem dX9_spreads_118 : decode cX9_spreads 118 = .ok (.ifCond .le 31, 3) := eX9_spreads_111.2.2.2.2.1
theorem dX9_spreads_121 : decode cX9_spreads 121 = .ok (.iload 13, 2) := eX9_spreads_111.2.2.2.2.2.1
theorem dX9_spreads_123 : decode cX9_spreads 123 = .ok (.ifCond .ne 26, 3) := eX9_spreads_111.2.2.2.2.2.2.1
theorem dX9_spreads_126 : decode cX9_spreads 126 = .ok (.aload_n 0, 1) := eX9_spreads_111.2.2.2.2.2.2.2
theorem eX9_spreads_127 : (decode cX9_spreads 127 = .ok (.dup, 1)) ∧ (decode cX9_spreads 128 = .ok (.getfield 183, 3)) ∧ (decode cX9_spreads 131 = .ok (.lload 10, 2)) ∧ (decode cX9_spreads 133 = .ok (.aload_n 0, 1)) ∧ (decode cX9_spreads 134 = .ok (.getfield 51, 3)) ∧ (decode cX9_spreads 137 = .ok (.iload 12, 2)) ∧ (decode cX9_spreads 139 = .ok (.iaload, 1)) ∧ (decode cX9_spreads 140 = .ok (.i2l, 1)) := by decide +kernel
theorem dX9_spreads_127 : decode cX9_spreads 127 = .ok (.dup, 1) := eX9_spreads_127.1
theorem dX9_spreads_128 : decode cX9_spreads 128 = .ok (.getfield 183, 3) := eX9_spreads_127.2.1
theorem dX9_spreads_131 : decode cX9_spreads 131 = .ok (.lload 10, 2) := eX9_spreads_127.2.2.1
theorem dX9_spreads_133 : decode cX9_spreads 133 = .ok (.aload_n 0, 1) := eX9_spreads_127.2.2.2.1
theorem dX9_spreads_134 : decode cX9_spreads 134 = .ok (.getfield 51, 3) := eX9_spreads_127.2.2.2.2.1
theorem dX9_spreads_137 : decode cX9_spreads 137 = .ok (.iload 12, 2) := eX9_spreads_127.2.2.2.2.2.1
theorem dX9_spreads_139 : decode cX9_spreads 139 = .ok (.iaload, 1) := eX9_spreads_127.2.2.2.2.2.2.1
theorem dX9_spreads_140 : decode cX9_spreads 140 = .ok (.i2l, 1) := eX9_spreads_127.2.2.2.2.2.2.2
theorem eX9_spreads_141 : (decode cX9_spreads 141 = .ok (.lmul, 1)) ∧ (decode cX9_spreads 142 = .ok (.lload 6, 2)) ∧ (decode cX9_spreads 144 = .ok (.lmul, 1)) ∧ (decode cX9_spreads 145 = .ok (.ladd, 1)) ∧ (decode cX9_spreads 146 = .ok (.putfield 183, 3)) ∧ (decode cX9_spreads 149 = .ok (.aload_n 0, 1)) ∧ (decode cX9_spreads 150 = .ok (.getfield 51, 3)) ∧ (decode cX9_spreads 153 = .ok (.iload 12, 2)) := by decide +kernel
theorem dX9_spreads_141 : decode cX9_spreads 141 = .ok (.lmul, 1) := eX9_spreads_141.1
theorem dX9_spreads_142 : decode cX9_spreads 142 = .ok (.lload 6, 2) := eX9_spreads_141.2.1
theorem dX9_spreads_144 : decode cX9_spreads 144 = .ok (.lmul, 1) := eX9_spreads_141.2.2.1
theorem dX9_spreads_145 : decode cX9_spreads 145 = .ok (.ladd, 1) := eX9_spreads_141.2.2.2.1
theorem dX9_spreads_146 : decode cX9_spreads 146 = .ok (.putfield 183, 3) := eX9_spreads_141.2.2.2.2.1
theorem dX9_spreads_149 : decode cX9_spreads 149 = .ok (.aload_n 0, 1) := eX9_spreads_141.2.2.2.2.2.1
theorem dX9_spreads_150 : decode cX9_spreads 150 = .ok (.getfield 51, 3) := eX9_spreads_141.2.2.2.2.2.2.1
theorem dX9_spreads_153 : decode cX9_spreads 153 = .ok (.iload 12, 2) := eX9_spreads_141.2.2.2.2.2.2.2
theorem eX9_spreads_155 : (decode cX9_spreads 155 = .ok (.iaload, 1)) ∧ (decode cX9_spreads 156 = .ok (.ifCond .le 63, 3)) ∧ (decode cX9_spreads 159 = .ok (.iload 13, 2)) ∧ (decode cX9_spreads 161 = .ok (.ifCond .eq 58, 3)) ∧ (decode cX9_spreads 164 = .ok (.iload 8, 2)) ∧ (decode cX9_spreads 166 = .ok (.ifCond .lt 10, 3)) ∧ (decode cX9_spreads 169 = .ok (.iload 8, 2)) ∧ (decode cX9_spreads 171 = .ok (.iload 12, 2)) := by decide +kernel
theorem dX9_spreads_155 : decode cX9_spreads 155 = .ok (.iaload, 1) := eX9_spreads_155.1
theorem dX9_spreads_156 : decode cX9_spreads 156 = .ok (.ifCond .le 63, 3) := eX9_spreads_155.2.1
theorem dX9_spreads_159 : decode cX9_spreads 159 = .ok (.iload 13, 2) := eX9_spreads_155.2.2.1
theorem dX9_spreads_161 : decode cX9_spreads 161 = .ok (.ifCond .eq 58, 3) := eX9_spreads_155.2.2.2.1
theorem dX9_spreads_164 : decode cX9_spreads 164 = .ok (.iload 8, 2) := eX9_spreads_155.2.2.2.2.1
theorem dX9_spreads_166 : decode cX9_spreads 166 = .ok (.ifCond .lt 10, 3) := eX9_spreads_155.2.2.2.2.2.1
theorem dX9_spreads_169 : decode cX9_spreads 169 = .ok (.iload 8, 2) := eX9_spreads_155.2.2.2.2.2.2.1
theorem dX9_spreads_171 : decode cX9_spreads 171 = .ok (.iload 12, 2) := eX9_spreads_155.2.2.2.2.2.2.2
theorem eX9_spreads_173 : (decode cX9_spreads 173 = .ok (.if_icmp .ne 46, 3)) ∧ (decode cX9_spreads 176 = .ok (.iload 9, 2)) ∧ (decode cX9_spreads 178 = .ok (.ifCond .lt 10, 3)) ∧ (decode cX9_spreads 181 = .ok (.iload 9, 2)) ∧ (decode cX9_spreads 183 = .ok (.iload 12, 2)) ∧ (decode cX9_spreads 185 = .ok (.if_icmp .ne 34, 3)) ∧ (decode cX9_spreads 188 = .ok (.aload_n 0, 1)) ∧ (decode cX9_spreads 189 = .ok (.getfield 45, 3)) := by decide +kernel
theorem dX9_spreads_173 : decode cX9_spreads 173 = .ok (.if_icmp .ne 46, 3) := eX9_spreads_173.1
theorem dX9_spreads_176 : decode cX9_spreads 176 = .ok (.iload 9, 2) := eX9_spreads_173.2.1
theorem dX9_spreads_178 : decode cX9_spreads 178 = .ok (.ifCond .lt 10, 3) := eX9_spreads_173.2.2.1
theorem dX9_spreads_181 : decode cX9_spreads 181 = .ok (.iload 9, 2) := eX9_spreads_173.2.2.2.1
theorem dX9_spreads_183 : decode cX9_spreads 183 = .ok (.iload 12, 2) := eX9_spreads_173.2.2.2.2.1
theorem dX9_spreads_185 : decode cX9_spreads 185 = .ok (.if_icmp .ne 34, 3) := eX9_spreads_173.2.2.2.2.2.1
theorem dX9_spreads_188 : decode cX9_spreads 188 = .ok (.aload_n 0, 1) := eX9_spreads_173.2.2.2.2.2.2.1
theorem dX9_spreads_189 : decode cX9_spreads 189 = .ok (.getfield 45, 3) := eX9_spreads_173.2.2.2.2.2.2.2
theorem eX9_spreads_192 : (decode cX9_spreads 192 = .ok (.iload_n 3, 1)) ∧ (decode cX9_spreads 193 = .ok (.iconst 1, 1)) ∧ (decode cX9_spreads 194 = .ok (.iadd, 1)) ∧ (decode cX9_spreads 195 = .ok (.iload_n 2, 1)) ∧ (decode cX9_spreads 196 = .ok (.iload 12, 2)) ∧ (decode cX9_spreads 198 = .ok (.invokestatic 197, 3)) ∧ (decode cX9_spreads 201 = .ok (.invokestatic 186, 3)) ∧ (decode cX9_spreads 204 = .ok (.dup2, 1)) := by decide +kernel
theorem dX9_spreads_192 : decode cX9_spreads 192 = .ok (.iload_n 3, 1) := eX9_spreads_192.1
theorem dX9_spreads_193 : decode cX9_spreads 193 = .ok (.iconst 1, 1) := eX9_spreads_192.2.1
theorem dX9_spreads_194 : decode cX9_spreads 194 = .ok (.iadd, 1) := eX9_spreads_192.2.2.1
theorem dX9_spreads_195 : decode cX9_spreads 195 = .ok (.iload_n 2, 1) := eX9_spreads_192.2.2.2.1
theorem dX9_spreads_196 : decode cX9_spreads 196 = .ok (.iload 12, 2) := eX9_spreads_192.2.2.2.2.1
theorem dX9_spreads_198 : decode cX9_spreads 198 = .ok (.invokestatic 197, 3) := eX9_spreads_192.2.2.2.2.2.1
theorem dX9_spreads_201 : decode cX9_spreads 201 = .ok (.invokestatic 186, 3) := eX9_spreads_192.2.2.2.2.2.2.1
theorem dX9_spreads_204 : decode cX9_spreads 204 = .ok (.dup2, 1) := eX9_spreads_192.2.2.2.2.2.2.2
theorem eX9_spreads_205 : (decode cX9_spreads 205 = .ok (.laload, 1)) ∧ (decode cX9_spreads 206 = .ok (.lload 10, 2)) ∧ (decode cX9_spreads 208 = .ok (.aload_n 0, 1)) ∧ (decode cX9_spreads 209 = .ok (.getfield 51, 3)) ∧ (decode cX9_spreads 212 = .ok (.iload 12, 2)) ∧ (decode cX9_spreads 214 = .ok (.iaload, 1)) ∧ (decode cX9_spreads 215 = .ok (.i2l, 1)) ∧ (decode cX9_spreads 216 = .ok (.lmul, 1)) := by decide +kernel
theorem dX9_spreads_205 : decode cX9_spreads 205 = .ok (.laload, 1) := eX9_spreads_205.1
theorem dX9_spreads_206 : decode cX9_spreads 206 = .ok (.lload 10, 2) := eX9_spreads_205.2.1
theorem dX9_spreads_208 : decode cX9_spreads 208 = .ok (.aload_n 0, 1) := eX9_spreads_205.2.2.1
theorem dX9_spreads_209 : decode cX9_spreads 209 = .ok (.getfield 51, 3) := eX9_spreads_205.2.2.2.1
theorem dX9_spreads_212 : decode cX9_spreads 212 = .ok (.iload 12, 2) := eX9_spreads_205.2.2.2.2.1
theorem dX9_spreads_214 : decode cX9_spreads 214 = .ok (.iaload, 1) := eX9_spreads_205.2.2.2.2.2.1
theorem dX9_spreads_215 : decode cX9_spreads 215 = .ok (.i2l, 1) := eX9_spreads_205.2.2.2.2.2.2.1
theorem dX9_spreads_216 : decode cX9_spreads 216 = .ok (.lmul, 1) := eX9_spreads_205.2.2.2.2.2.2.2
theorem eX9_spreads_217 : (decode cX9_spreads 217 = .ok (.ladd, 1)) ∧ (decode cX9_spreads 218 = .ok (.lastore, 1)) ∧ (decode cX9_spreads 219 = .ok (.iinc 12 1, 3)) ∧ (decode cX9_spreads 222 = .ok (.goto (-185), 3)) ∧ (decode cX9_spreads 225 = .ok (.return_, 1)) := by decide +kernel
theorem dX9_spreads_217 : decode cX9_spreads 217 = .ok (.ladd, 1) := eX9_spreads_217.1
theorem dX9_spreads_218 : decode cX9_spreads 218 = .ok (.lastore, 1) := eX9_spreads_217.2.1
theorem dX9_spreads_219 : decode cX9_spreads 219 = .ok (.iinc 12 1, 3) := eX9_spreads_217.2.2.1
theorem dX9_spreads_222 : decode cX9_spreads 222 = .ok (.goto (-185), 3) := eX9_spreads_217.2.2.2.1
theorem dX9_spreads_225 : decode cX9_spreads 225 = .ok (.return_, 1) := eX9_spreads_217.2.2.2.2
theorem eX9_isAsked_0 : (decode cX9_isAsked 0 = .ok (.aload_n 0, 1)) ∧ (decode cX9_isAsked 1 = .ok (.iload_n 1, 1)) ∧ (decode cX9_isAsked 2 = .ok (.invokevirtual 89, 3)) ∧ (decode cX9_isAsked 5 = .ok (.ifCond .eq 19, 3)) ∧ (decode cX9_isAsked 8 = .ok (.iload_n 2, 1)) ∧ (decode cX9_isAsked 9 = .ok (.i2l, 1)) ∧ (decode cX9_isAsked 10 = .ok (.lconst 0, 1)) ∧ (decode cX9_isAsked 11 = .ok (.ldc2_w 168, 3)) := by decide +kernel
theorem dX9_isAsked_0 : decode cX9_isAsked 0 = .ok (.aload_n 0, 1) := eX9_isAsked_0.1
theorem dX9_isAsked_1 : decode cX9_isAsked 1 = .ok (.iload_n 1, 1) := eX9_isAsked_0.2.1
theorem dX9_isAsked_2 : decode cX9_isAsked 2 = .ok (.invokevirtual 89, 3) := eX9_isAsked_0.2.2.1
theorem dX9_isAsked_5 : decode cX9_isAsked 5 = .ok (.ifCond .eq 19, 3) := eX9_isAsked_0.2.2.2.1
theorem dX9_isAsked_8 : decode cX9_isAsked 8 = .ok (.iload_n 2, 1) := eX9_isAsked_0.2.2.2.2.1
theorem dX9_isAsked_9 : decode cX9_isAsked 9 = .ok (.i2l, 1) := eX9_isAsked_0.2.2.2.2.2.1
theorem dX9_isAsked_10 : decode cX9_isAsked 10 = .ok (.lconst 0, 1) := eX9_isAsked_0.2.2.2.2.2.2.1
theorem dX9_isAsked_11 : decode cX9_isAsked 11 = .ok (.ldc2_w 168, 3) := eX9_isAsked_0.2.2.2.2.2.2.2
theorem eX9_isAsked_14 : (decode cX9_isAsked 14 = .ok (.invokestatic 62, 3)) ∧ (decode cX9_isAsked 17 = .ok (.ifCond .eq 7, 3)) ∧ (decode cX9_isAsked 20 = .ok (.iconst 1, 1)) ∧ (decode cX9_isAsked 21 = .ok (.goto 4, 3)) ∧ (decode cX9_isAsked 24 = .ok (.iconst 0, 1)) ∧ (decode cX9_isAsked 25 = .ok (.ireturn, 1)) := by decide +kernel
theorem dX9_isAsked_14 : decode cX9_isAsked 14 = .ok (.invokestatic 62, 3) := eX9_isAsked_14.1
theorem dX9_isAsked_17 : decode cX9_isAsked 17 = .ok (.ifCond .eq 7, 3) := eX9_isAsked_14.2.1
theorem dX9_isAsked_20 : decode cX9_isAsked 20 = .ok (.iconst 1, 1) := eX9_isAsked_14.2.2.1
theorem dX9_isAsked_21 : decode cX9_isAsked 21 = .ok (.goto 4, 3) := eX9_isAsked_14.2.2.2.1
theorem dX9_isAsked_24 : decode cX9_isAsked 24 = .ok (.iconst 0, 1) := eX9_isAsked_14.2.2.2.2.1
theorem dX9_isAsked_25 : decode cX9_isAsked 25 = .ok (.ireturn, 1) := eX9_isAsked_14.2.2.2.2.2
theorem eX9_times_0 : (decode cX9_times 0 = .ok (.aload_n 0, 1)) ∧ (decode cX9_times 1 = .ok (.iload_n 1, 1)) ∧ (decode cX9_times 2 = .ok (.iload_n 2, 1)) ∧ (decode cX9_times 3 = .ok (.invokevirtual 200, 3)) ∧ (decode cX9_times 6 = .ok (.ifCond .eq 25, 3)) ∧ (decode cX9_times 9 = .ok (.aload_n 0, 1)) ∧ (decode cX9_times 10 = .ok (.iload_n 1, 1)) ∧ (decode cX9_times 11 = .ok (.iload_n 3, 1)) := by decide +kernel
theorem dX9_times_0 : decode cX9_times 0 = .ok (.aload_n 0, 1) := eX9_times_0.1
theorem dX9_times_1 : decode cX9_times 1 = .ok (.iload_n 1, 1) := eX9_times_0.2.1
theorem dX9_times_2 : decode cX9_times 2 = .ok (.iload_n 2, 1) := eX9_times_0.2.2.1
theorem dX9_times_3 : decode cX9_times 3 = .ok (.invokevirtual 200, 3) := eX9_times_0.2.2.2.1
theorem dX9_times_6 : decode cX9_times 6 = .ok (.ifCond .eq 25, 3) := eX9_times_0.2.2.2.2.1
theorem dX9_times_9 : decode cX9_times 9 = .ok (.aload_n 0, 1) := eX9_times_0.2.2.2.2.2.1
theorem dX9_times_10 : decode cX9_times 10 = .ok (.iload_n 1, 1) := eX9_times_0.2.2.2.2.2.2.1
theorem dX9_times_11 : decode cX9_times 11 = .ok (.iload_n 3, 1) := eX9_times_0.2.2.2.2.2.2.2
theorem eX9_times_12 : (decode cX9_times 12 = .ok (.invokevirtual 92, 3)) ∧ (decode cX9_times 15 = .ok (.ifCond .eq 16, 3)) ∧ (decode cX9_times 18 = .ok (.iload 4, 2)) ∧ (decode cX9_times 20 = .ok (.i2l, 1)) ∧ (decode cX9_times 21 = .ok (.lconst 0, 1)) ∧ (decode cX9_times 22 = .ok (.ldc2_w 168, 3)) ∧ (decode cX9_times 25 = .ok (.invokestatic 62, 3)) ∧ (decode cX9_times 28 = .ok (.ifCond .ne 5, 3)) := by decide +kernel
theorem dX9_times_12 : decode cX9_times 12 = .ok (.invokevirtual 92, 3) := eX9_times_12.1
theorem dX9_times_15 : decode cX9_times 15 = .ok (.ifCond .eq 16, 3) := eX9_times_12.2.1
theorem dX9_times_18 : decode cX9_times 18 = .ok (.iload 4, 2) := eX9_times_12.2.2.1
theorem dX9_times_20 : decode cX9_times 20 = .ok (.i2l, 1) := eX9_times_12.2.2.2.1
theorem dX9_times_21 : decode cX9_times 21 = .ok (.lconst 0, 1) := eX9_times_12.2.2.2.2.1
theorem dX9_times_22 : decode cX9_times 22 = .ok (.ldc2_w 168, 3) := eX9_times_12.2.2.2.2.2.1
theorem dX9_times_25 : decode cX9_times 25 = .ok (.invokestatic 62, 3) := eX9_times_12.2.2.2.2.2.2.1
theorem dX9_times_28 : decode cX9_times 28 = .ok (.ifCond .ne 5, 3) := eX9_times_12.2.2.2.2.2.2.2
theorem eX9_times_31 : (decode cX9_times 31 = .ok (.iconst (-1), 1)) ∧ (decode cX9_times 32 = .ok (.ireturn, 1)) ∧ (decode cX9_times 33 = .ok (.aload_n 0, 1)) ∧ (decode cX9_times 34 = .ok (.iload_n 1, 1)) ∧ (decode cX9_times 35 = .ok (.iload_n 2, 1)) ∧ (decode cX9_times 36 = .ok (.invokevirtual 203, 3)) ∧ (decode cX9_times 39 = .ok (.istore 5, 2)) ∧ (decode cX9_times 41 = .ok (.iload 5, 2)) := by decide +kernel
theorem dX9_times_31 : decode cX9_times 31 = .ok (.iconst (-1), 1) := eX9_times_31.1
theorem dX9_times_32 : decode cX9_times 32 = .ok (.ireturn, 1) := eX9_times_31.2.1
theorem dX9_times_33 : decode cX9_times 33 = .ok (.aload_n 0, 1) := eX9_times_31.2.2.1
theorem dX9_times_34 : decode cX9_times 34 = .ok (.iload_n 1, 1) := eX9_times_31.2.2.2.1
theorem dX9_times_35 : decode cX9_times 35 = .ok (.iload_n 2, 1) := eX9_times_31.2.2.2.2.1
theorem dX9_times_36 : decode cX9_times 36 = .ok (.invokevirtual 203, 3) := eX9_times_31.2.2.2.2.2.1
theorem dX9_times_39 : decode cX9_times 39 = .ok (.istore 5, 2) := eX9_times_31.2.2.2.2.2.2.1
theorem dX9_times_41 : decode cX9_times 41 = .ok (.iload 5, 2) := eX9_times_31.2.2.2.2.2.2.2
theorem eX9_times_43 : (decode cX9_times 43 = .ok (.ifCond .ge 6, 3)) ∧ (decode cX9_times 46 = .ok (.iload 5, 2)) ∧ (decode cX9_times 48 = .ok (.ireturn, 1)) ∧ (decode cX9_times 49 = .ok (.aload_n 0, 1)) ∧ (decode cX9_times 50 = .ok (.iload_n 1, 1)) ∧ (decode cX9_times 51 = .ok (.iload_n 2, 1)) ∧ (decode cX9_times 52 = .ok (.iconst 0, 1)) ∧ (decode cX9_times 53 = .ok (.iconst 0, 1)) := by decide +kernel
theorem dX9_times_43 : decode cX9_times 43 = .ok (.ifCond .ge 6, 3) := eX9_times_43.1
theorem dX9_times_46 : decode cX9_times 46 = .ok (.iload 5, 2) := eX9_times_43.2.1
theorem dX9_times_48 : decode cX9_times 48 = .ok (.ireturn, 1) := eX9_times_43.2.2.1
theorem dX9_times_49 : decode cX9_times 49 = .ok (.aload_n 0, 1) := eX9_times_43.2.2.2.1
theorem dX9_times_50 : decode cX9_times 50 = .ok (.iload_n 1, 1) := eX9_times_43.2.2.2.2.1
theorem dX9_times_51 : decode cX9_times 51 = .ok (.iload_n 2, 1) := eX9_times_43.2.2.2.2.2.1
theorem dX9_times_52 : decode cX9_times 52 = .ok (.iconst 0, 1) := eX9_times_43.2.2.2.2.2.2.1
theorem dX9_times_53 : decode cX9_times 53 = .ok (.iconst 0, 1) := eX9_times_43.2.2.2.2.2.2.2
theorem eX9_times_54 : (decode cX9_times 54 = .ok (.iconst 0, 1)) ∧ (decode cX9_times 55 = .ok (.iconst 0, 1)) ∧ (decode cX9_times 56 = .ok (.invokevirtual 206, 3)) ∧ (decode cX9_times 59 = .ok (.lconst 0, 1)) ∧ (decode cX9_times 60 = .ok (.lstore 6, 2)) ∧ (decode cX9_times 62 = .ok (.iconst 0, 1)) ∧ (decode cX9_times 63 = .ok (.istore 8, 2)) ∧ (decode cX9_times 65 = .ok (.iload 8, 2)) := by decide +kernel
theorem dX9_times_54 : decode cX9_times 54 = .ok (.iconst 0, 1) := eX9_times_54.1
theorem dX9_times_55 : decode cX9_times 55 = .ok (.iconst 0, 1) := eX9_times_54.2.1
theorem dX9_times_56 : decode cX9_times 56 = .ok (.invokevirtual 206, 3) := eX9_times_54.2.2.1
theorem dX9_times_59 : decode cX9_times 59 = .ok (.lconst 0, 1) := eX9_times_54.2.2.2.1
theorem dX9_times_60 : decode cX9_times 60 = .ok (.lstore 6, 2) := eX9_times_54.2.2.2.2.1
theorem dX9_times_62 : decode cX9_times 62 = .ok (.iconst 0, 1) := eX9_times_54.2.2.2.2.2.1
theorem dX9_times_63 : decode cX9_times 63 = .ok (.istore 8, 2) := eX9_times_54.2.2.2.2.2.2.1
theorem dX9_times_65 : decode cX9_times 65 = .ok (.iload 8, 2) := eX9_times_54.2.2.2.2.2.2.2
theorem eX9_times_67 : (decode cX9_times 67 = .ok (.sipush 2197, 3)) ∧ (decode cX9_times 70 = .ok (.if_icmp .ge 64, 3)) ∧ (decode cX9_times 73 = .ok (.aload_n 0, 1)) ∧ (decode cX9_times 74 = .ok (.getfield 45, 3)) ∧ (decode cX9_times 77 = .ok (.iload_n 2, 1)) ∧ (decode cX9_times 78 = .ok (.iload 8, 2)) ∧ (decode cX9_times 80 = .ok (.invokestatic 186, 3)) ∧ (decode cX9_times 83 = .ok (.laload, 1)) := by decide +kernel
theorem dX9_times_67 : decode cX9_times 67 = .ok (.sipush 2197, 3) := eX9_times_67.1
theorem dX9_times_70 : decode cX9_times 70 = .ok (.if_icmp .ge 64, 3) := eX9_times_67.2.1
theorem dX9_times_73 : decode cX9_times 73 = .ok (.aload_n 0, 1) := eX9_times_67.2.2.1
theorem dX9_times_74 : decode cX9_times 74 = .ok (.getfield 45, 3) := eX9_times_67.2.2.2.1
theorem dX9_times_77 : decode cX9_times 77 = .ok (.iload_n 2, 1) := eX9_times_67.2.2.2.2.1
theorem dX9_times_78 : decode cX9_times 78 = .ok (.iload 8, 2) := eX9_times_67.2.2.2.2.2.1
theorem dX9_times_80 : decode cX9_times 80 = .ok (.invokestatic 186, 3) := eX9_times_67.2.2.2.2.2.2.1
theorem dX9_times_83 : decode cX9_times 83 = .ok (.laload, 1) := eX9_times_67.2.2.2.2.2.2.2
theorem eX9_times_84 : (decode cX9_times 84 = .ok (.lconst 0, 1)) ∧ (decode cX9_times 85 = .ok (.lcmp, 1)) ∧ (decode cX9_times 86 = .ok (.ifCond .le 42, 3)) ∧ (decode cX9_times 89 = .ok (.aload_n 0, 1)) ∧ (decode cX9_times 90 = .ok (.iload_n 1, 1)) ∧ (decode cX9_times 91 = .ok (.iload 8, 2)) ∧ (decode cX9_times 93 = .ok (.iload_n 2, 1)) ∧ (decode cX9_times 94 = .ok (.invokevirtual 189, 3)) := by decide +kernel
theorem dX9_times_84 : decode cX9_times 84 = .ok (.lconst 0, 1) := eX9_times_84.1
theorem dX9_times_85 : decode cX9_times 85 = .ok (.lcmp, 1) := eX9_times_84.2.1
theorem dX9_times_86 : decode cX9_times 86 = .ok (.ifCond .le 42, 3) := eX9_times_84.2.2.1
theorem dX9_times_89 : decode cX9_times 89 = .ok (.aload_n 0, 1) := eX9_times_84.2.2.2.1
theorem dX9_times_90 : decode cX9_times 90 = .ok (.iload_n 1, 1) := eX9_times_84.2.2.2.2.1
theorem dX9_times_91 : decode cX9_times 91 = .ok (.iload 8, 2) := eX9_times_84.2.2.2.2.2.1
theorem dX9_times_93 : decode cX9_times 93 = .ok (.iload_n 2, 1) := eX9_times_84.2.2.2.2.2.2.1
theorem dX9_times_94 : decode cX9_times 94 = .ok (.invokevirtual 189, 3) := eX9_times_84.2.2.2.2.2.2.2
theorem eX9_times_97 : (decode cX9_times 97 = .ok (.lload 6, 2)) ∧ (decode cX9_times 99 = .ok (.aload_n 0, 1)) ∧ (decode cX9_times 100 = .ok (.getfield 48, 3)) ∧ (decode cX9_times 103 = .ok (.iload_n 3, 1)) ∧ (decode cX9_times 104 = .ok (.iaload, 1)) ∧ (decode cX9_times 105 = .ok (.iload 4, 2)) ∧ (decode cX9_times 107 = .ok (.if_icmp .ne 17, 3)) ∧ (decode cX9_times 110 = .ok (.aload_n 0, 1)) := by decide +kernel
theorem dX9_times_97 : decode cX9_times 97 = .ok (.lload 6, 2) := eX9_times_97.1
theorem dX9_times_99 : decode cX9_times 99 = .ok (.aload_n 0, 1) := eX9_times_97.2.1
theorem dX9_times_100 : decode cX9_times 100 = .ok (.getfield 48, 3) := eX9_times_97.2.2.1
theorem dX9_times_103 : decode cX9_times 103 = .ok (.iload_n 3, 1) := eX9_times_97.2.2.2.1
theorem dX9_times_104 : decode cX9_times 104 = .ok (.iaload, 1) := eX9_times_97.2.2.2.2.1
theorem dX9_times_105 : decode cX9_times 105 = .ok (.iload 4, 2) := eX9_times_97.2.2.2.2.2.1
theorem dX9_times_107 : decode cX9_times 107 = .ok (.if_icmp .ne 17, 3) := eX9_times_97.2.2.2.2.2.2.1
theorem dX9_times_110 : decode cX9_times 110 = .ok (.aload_n 0, 1) := eX9_times_97.2.2.2.2.2.2.2
theorem eX9_times_111 : (decode cX9_times 111 = .ok (.getfield 45, 3)) ∧ (decode cX9_times 114 = .ok (.iload_n 2, 1)) ∧ (decode cX9_times 115 = .ok (.iload 8, 2)) ∧ (decode cX9_times 117 = .ok (.invokestatic 186, 3)) ∧ (decode cX9_times 120 = .ok (.laload, 1)) ∧ (decode cX9_times 121 = .ok (.goto 4, 3)) ∧ (decode cX9_times 124 = .ok (.lconst 0, 1)) ∧ (decode cX9_times 125 = .ok (.ladd, 1)) := by decide +kernel
theorem dX9_times_111 : decode cX9_times 111 = .ok (.getfield 45, 3) := eX9_times_111.1
theorem dX9_times_114 : decode cX9_times 114 = .ok (.iload_n 2, 1) := eX9_times_111.2.1
theorem dX9_times_115 : decode cX9_times 115 = .ok (.iload 8, 2) := eX9_times_111.2.2.1
theorem dX9_times_117 : decode cX9_times 117 = .ok (.invokestatic 186, 3) := eX9_times_111.2.2.2.1
theorem dX9_times_120 : decode cX9_times 120 = .ok (.laload, 1) := eX9_times_111.2.2.2.2.1
theorem dX9_times_121 : decode cX9_times 121 = .ok (.goto 4, 3) := eX9_times_111.2.2.2.2.2.1
theorem dX9_times_124 : decode cX9_times 124 = .ok (.lconst 0, 1) := eX9_times_111.2.2.2.2.2.2.1
theorem dX9_times_125 : decode cX9_times 125 = .ok (.ladd, 1) := eX9_times_111.2.2.2.2.2.2.2
theorem eX9_times_126 : (decode cX9_times 126 = .ok (.lstore 6, 2)) ∧ (decode cX9_times 128 = .ok (.iinc 8 1, 3)) ∧ (decode cX9_times 131 = .ok (.goto (-66), 3)) ∧ (decode cX9_times 134 = .ok (.aload_n 0, 1)) ∧ (decode cX9_times 135 = .ok (.lload 6, 2)) ∧ (decode cX9_times 137 = .ok (.aload_n 0, 1)) ∧ (decode cX9_times 138 = .ok (.getfield 178, 3)) ∧ (decode cX9_times 141 = .ok (.invokevirtual 174, 3)) := by decide +kernel
theorem dX9_times_126 : decode cX9_times 126 = .ok (.lstore 6, 2) := eX9_times_126.1
theorem dX9_times_128 : decode cX9_times 128 = .ok (.iinc 8 1, 3) := eX9_times_126.2.1
theorem dX9_times_131 : decode cX9_times 131 = .ok (.goto (-66), 3) := eX9_times_126.2.2.1
theorem dX9_times_134 : decode cX9_times 134 = .ok (.aload_n 0, 1) := eX9_times_126.2.2.2.1
theorem dX9_times_135 : decode cX9_times 135 = .ok (.lload 6, 2) := eX9_times_126.2.2.2.2.1
theorem dX9_times_137 : decode cX9_times 137 = .ok (.aload_n 0, 1) := eX9_times_126.2.2.2.2.2.1
theorem dX9_times_138 : decode cX9_times 138 = .ok (.getfield 178, 3) := eX9_times_126.2.2.2.2.2.2.1
theorem dX9_times_141 : decode cX9_times 141 = .ok (.invokevirtual 174, 3) := eX9_times_126.2.2.2.2.2.2.2
theorem dX9_times_144 : decode cX9_times 144 = .ok (.ireturn, 1) := by decide +kernel
theorem eX9_left_0 : (decode cX9_left 0 = .ok (.aload_n 0, 1)) ∧ (decode cX9_left 1 = .ok (.iload_n 1, 1)) ∧ (decode cX9_left 2 = .ok (.iload_n 2, 1)) ∧ (decode cX9_left 3 = .ok (.invokevirtual 200, 3)) ∧ (decode cX9_left 6 = .ok (.ifCond .eq 25, 3)) ∧ (decode cX9_left 9 = .ok (.aload_n 0, 1)) ∧ (decode cX9_left 10 = .ok (.iload_n 1, 1)) ∧ (decode cX9_left 11 = .ok (.iload_n 3, 1)) := by decide +kernel
theorem dX9_left_0 : decode cX9_left 0 = .ok (.aload_n 0, 1) := eX9_left_0.1
theorem dX9_left_1 : decode cX9_left 1 = .ok (.iload_n 1, 1) := eX9_left_0.2.1
theorem dX9_left_2 : decode cX9_left 2 = .ok (.iload_n 2, 1) := eX9_left_0.2.2.1
theorem dX9_left_3 : decode cX9_left 3 = .ok (.invokevirtual 200, 3) := eX9_left_0.2.2.2.1
theorem dX9_left_6 : decode cX9_left 6 = .ok (.ifCond .eq 25, 3) := eX9_left_0.2.2.2.2.1
theorem dX9_left_9 : decode cX9_left 9 = .ok (.aload_n 0, 1) := eX9_left_0.2.2.2.2.2.1
theorem dX9_left_10 : decode cX9_left 10 = .ok (.iload_n 1, 1) := eX9_left_0.2.2.2.2.2.2.1
theorem dX9_left_11 : decode cX9_left 11 = .ok (.iload_n 3, 1) := eX9_left_0.2.2.2.2.2.2.2
theorem eX9_left_12 : (decode cX9_left 12 = .ok (.invokevirtual 92, 3)) ∧ (decode cX9_left 15 = .ok (.ifCond .eq 16, 3)) ∧ (decode cX9_left 18 = .ok (.iload 4, 2)) ∧ (decode cX9_left 20 = .ok (.i2l, 1)) ∧ (decode cX9_left 21 = .ok (.lconst 0, 1)) ∧ (decode cX9_left 22 = .ok (.ldc2_w 210, 3)) ∧ (decode cX9_left 25 = .ok (.invokestatic 62, 3)) ∧ (decode cX9_left 28 = .ok (.ifCond .ne 5, 3)) := by decide +kernel
theorem dX9_left_12 : decode cX9_left 12 = .ok (.invokevirtual 92, 3) := eX9_left_12.1
theorem dX9_left_15 : decode cX9_left 15 = .ok (.ifCond .eq 16, 3) := eX9_left_12.2.1
theorem dX9_left_18 : decode cX9_left 18 = .ok (.iload 4, 2) := eX9_left_12.2.2.1
theorem dX9_left_20 : decode cX9_left 20 = .ok (.i2l, 1) := eX9_left_12.2.2.2.1
theorem dX9_left_21 : decode cX9_left 21 = .ok (.lconst 0, 1) := eX9_left_12.2.2.2.2.1
theorem dX9_left_22 : decode cX9_left 22 = .ok (.ldc2_w 210, 3) := eX9_left_12.2.2.2.2.2.1
theorem dX9_left_25 : decode cX9_left 25 = .ok (.invokestatic 62, 3) := eX9_left_12.2.2.2.2.2.2.1
theorem dX9_left_28 : decode cX9_left 28 = .ok (.ifCond .ne 5, 3) := eX9_left_12.2.2.2.2.2.2.2
theorem eX9_left_31 : (decode cX9_left 31 = .ok (.iconst (-1), 1)) ∧ (decode cX9_left 32 = .ok (.ireturn, 1)) ∧ (decode cX9_left 33 = .ok (.aload_n 0, 1)) ∧ (decode cX9_left 34 = .ok (.iload_n 1, 1)) ∧ (decode cX9_left 35 = .ok (.iload_n 2, 1)) ∧ (decode cX9_left 36 = .ok (.invokevirtual 203, 3)) ∧ (decode cX9_left 39 = .ok (.istore 5, 2)) ∧ (decode cX9_left 41 = .ok (.iload 5, 2)) := by decide +kernel
theorem dX9_left_31 : decode cX9_left 31 = .ok (.iconst (-1), 1) := eX9_left_31.1
theorem dX9_left_32 : decode cX9_left 32 = .ok (.ireturn, 1) := eX9_left_31.2.1
theorem dX9_left_33 : decode cX9_left 33 = .ok (.aload_n 0, 1) := eX9_left_31.2.2.1
theorem dX9_left_34 : decode cX9_left 34 = .ok (.iload_n 1, 1) := eX9_left_31.2.2.2.1
theorem dX9_left_35 : decode cX9_left 35 = .ok (.iload_n 2, 1) := eX9_left_31.2.2.2.2.1
theorem dX9_left_36 : decode cX9_left 36 = .ok (.invokevirtual 203, 3) := eX9_left_31.2.2.2.2.2.1
theorem dX9_left_39 : decode cX9_left 39 = .ok (.istore 5, 2) := eX9_left_31.2.2.2.2.2.2.1
theorem dX9_left_41 : decode cX9_left 41 = .ok (.iload 5, 2) := eX9_left_31.2.2.2.2.2.2.2
theorem eX9_left_43 : (decode cX9_left 43 = .ok (.ifCond .ge 6, 3)) ∧ (decode cX9_left 46 = .ok (.iload 5, 2)) ∧ (decode cX9_left 48 = .ok (.ireturn, 1)) ∧ (decode cX9_left 49 = .ok (.aload_n 0, 1)) ∧ (decode cX9_left 50 = .ok (.iload_n 1, 1)) ∧ (decode cX9_left 51 = .ok (.iload_n 2, 1)) ∧ (decode cX9_left 52 = .ok (.iconst 0, 1)) ∧ (decode cX9_left 53 = .ok (.iconst 0, 1)) := by decide +kernel
theorem dX9_left_43 : decode cX9_left 43 = .ok (.ifCond .ge 6, 3) := eX9_left_43.1
theorem dX9_left_46 : decode cX9_left 46 = .ok (.iload 5, 2) := eX9_left_43.2.1
theorem dX9_left_48 : decode cX9_left 48 = .ok (.ireturn, 1) := eX9_left_43.2.2.1
theorem dX9_left_49 : decode cX9_left 49 = .ok (.aload_n 0, 1) := eX9_left_43.2.2.2.1
theorem dX9_left_50 : decode cX9_left 50 = .ok (.iload_n 1, 1) := eX9_left_43.2.2.2.2.1
theorem dX9_left_51 : decode cX9_left 51 = .ok (.iload_n 2, 1) := eX9_left_43.2.2.2.2.2.1
theorem dX9_left_52 : decode cX9_left 52 = .ok (.iconst 0, 1) := eX9_left_43.2.2.2.2.2.2.1
theorem dX9_left_53 : decode cX9_left 53 = .ok (.iconst 0, 1) := eX9_left_43.2.2.2.2.2.2.2
theorem eX9_left_54 : (decode cX9_left 54 = .ok (.iconst 0, 1)) ∧ (decode cX9_left 55 = .ok (.iconst 0, 1)) ∧ (decode cX9_left 56 = .ok (.invokevirtual 206, 3)) ∧ (decode cX9_left 59 = .ok (.lconst 0, 1)) ∧ (decode cX9_left 60 = .ok (.lstore 6, 2)) ∧ (decode cX9_left 62 = .ok (.iconst 0, 1)) ∧ (decode cX9_left 63 = .ok (.istore 8, 2)) ∧ (decode cX9_left 65 = .ok (.iload 8, 2)) := by decide +kernel
theorem dX9_left_54 : decode cX9_left 54 = .ok (.iconst 0, 1) := eX9_left_54.1
theorem dX9_left_55 : decode cX9_left 55 = .ok (.iconst 0, 1) := eX9_left_54.2.1
theorem dX9_left_56 : decode cX9_left 56 = .ok (.invokevirtual 206, 3) := eX9_left_54.2.2.1
theorem dX9_left_59 : decode cX9_left 59 = .ok (.lconst 0, 1) := eX9_left_54.2.2.2.1
theorem dX9_left_60 : decode cX9_left 60 = .ok (.lstore 6, 2) := eX9_left_54.2.2.2.2.1
theorem dX9_left_62 : decode cX9_left 62 = .ok (.iconst 0, 1) := eX9_left_54.2.2.2.2.2.1
theorem dX9_left_63 : decode cX9_left 63 = .ok (.istore 8, 2) := eX9_left_54.2.2.2.2.2.2.1
theorem dX9_left_65 : decode cX9_left 65 = .ok (.iload 8, 2) := eX9_left_54.2.2.2.2.2.2.2
theorem eX9_left_67 : (decode cX9_left 67 = .ok (.sipush 2197, 3)) ∧ (decode cX9_left 70 = .ok (.if_icmp .ge 64, 3)) ∧ (decode cX9_left 73 = .ok (.aload_n 0, 1)) ∧ (decode cX9_left 74 = .ok (.getfield 45, 3)) ∧ (decode cX9_left 77 = .ok (.iload_n 2, 1)) ∧ (decode cX9_left 78 = .ok (.iload 8, 2)) ∧ (decode cX9_left 80 = .ok (.invokestatic 186, 3)) ∧ (decode cX9_left 83 = .ok (.laload, 1)) := by decide +kernel
theorem dX9_left_67 : decode cX9_left 67 = .ok (.sipush 2197, 3) := eX9_left_67.1
theorem dX9_left_70 : decode cX9_left 70 = .ok (.if_icmp .ge 64, 3) := eX9_left_67.2.1
theorem dX9_left_73 : decode cX9_left 73 = .ok (.aload_n 0, 1) := eX9_left_67.2.2.1
theorem dX9_left_74 : decode cX9_left 74 = .ok (.getfield 45, 3) := eX9_left_67.2.2.2.1
theorem dX9_left_77 : decode cX9_left 77 = .ok (.iload_n 2, 1) := eX9_left_67.2.2.2.2.1
theorem dX9_left_78 : decode cX9_left 78 = .ok (.iload 8, 2) := eX9_left_67.2.2.2.2.2.1
theorem dX9_left_80 : decode cX9_left 80 = .ok (.invokestatic 186, 3) := eX9_left_67.2.2.2.2.2.2.1
theorem dX9_left_83 : decode cX9_left 83 = .ok (.laload, 1) := eX9_left_67.2.2.2.2.2.2.2
theorem eX9_left_84 : (decode cX9_left 84 = .ok (.lconst 0, 1)) ∧ (decode cX9_left 85 = .ok (.lcmp, 1)) ∧ (decode cX9_left 86 = .ok (.ifCond .le 42, 3)) ∧ (decode cX9_left 89 = .ok (.aload_n 0, 1)) ∧ (decode cX9_left 90 = .ok (.iload_n 1, 1)) ∧ (decode cX9_left 91 = .ok (.iload 8, 2)) ∧ (decode cX9_left 93 = .ok (.iload_n 2, 1)) ∧ (decode cX9_left 94 = .ok (.invokevirtual 189, 3)) := by decide +kernel
theorem dX9_left_84 : decode cX9_left 84 = .ok (.lconst 0, 1) := eX9_left_84.1
theorem dX9_left_85 : decode cX9_left 85 = .ok (.lcmp, 1) := eX9_left_84.2.1
theorem dX9_left_86 : decode cX9_left 86 = .ok (.ifCond .le 42, 3) := eX9_left_84.2.2.1
theorem dX9_left_89 : decode cX9_left 89 = .ok (.aload_n 0, 1) := eX9_left_84.2.2.2.1
theorem dX9_left_90 : decode cX9_left 90 = .ok (.iload_n 1, 1) := eX9_left_84.2.2.2.2.1
theorem dX9_left_91 : decode cX9_left 91 = .ok (.iload 8, 2) := eX9_left_84.2.2.2.2.2.1
theorem dX9_left_93 : decode cX9_left 93 = .ok (.iload_n 2, 1) := eX9_left_84.2.2.2.2.2.2.1
theorem dX9_left_94 : decode cX9_left 94 = .ok (.invokevirtual 189, 3) := eX9_left_84.2.2.2.2.2.2.2
theorem eX9_left_97 : (decode cX9_left 97 = .ok (.lload 6, 2)) ∧ (decode cX9_left 99 = .ok (.aload_n 0, 1)) ∧ (decode cX9_left 100 = .ok (.getfield 51, 3)) ∧ (decode cX9_left 103 = .ok (.iload_n 3, 1)) ∧ (decode cX9_left 104 = .ok (.iaload, 1)) ∧ (decode cX9_left 105 = .ok (.iload 4, 2)) ∧ (decode cX9_left 107 = .ok (.if_icmp .ne 17, 3)) ∧ (decode cX9_left 110 = .ok (.aload_n 0, 1)) := by decide +kernel
theorem dX9_left_97 : decode cX9_left 97 = .ok (.lload 6, 2) := eX9_left_97.1
theorem dX9_left_99 : decode cX9_left 99 = .ok (.aload_n 0, 1) := eX9_left_97.2.1
theorem dX9_left_100 : decode cX9_left 100 = .ok (.getfield 51, 3) := eX9_left_97.2.2.1
theorem dX9_left_103 : decode cX9_left 103 = .ok (.iload_n 3, 1) := eX9_left_97.2.2.2.1
theorem dX9_left_104 : decode cX9_left 104 = .ok (.iaload, 1) := eX9_left_97.2.2.2.2.1
theorem dX9_left_105 : decode cX9_left 105 = .ok (.iload 4, 2) := eX9_left_97.2.2.2.2.2.1
theorem dX9_left_107 : decode cX9_left 107 = .ok (.if_icmp .ne 17, 3) := eX9_left_97.2.2.2.2.2.2.1
theorem dX9_left_110 : decode cX9_left 110 = .ok (.aload_n 0, 1) := eX9_left_97.2.2.2.2.2.2.2
theorem eX9_left_111 : (decode cX9_left 111 = .ok (.getfield 45, 3)) ∧ (decode cX9_left 114 = .ok (.iload_n 2, 1)) ∧ (decode cX9_left 115 = .ok (.iload 8, 2)) ∧ (decode cX9_left 117 = .ok (.invokestatic 186, 3)) ∧ (decode cX9_left 120 = .ok (.laload, 1)) ∧ (decode cX9_left 121 = .ok (.goto 4, 3)) ∧ (decode cX9_left 124 = .ok (.lconst 0, 1)) ∧ (decode cX9_left 125 = .ok (.ladd, 1)) := by decide +kernel
theorem dX9_left_111 : decode cX9_left 111 = .ok (.getfield 45, 3) := eX9_left_111.1
theorem dX9_left_114 : decode cX9_left 114 = .ok (.iload_n 2, 1) := eX9_left_111.2.1
theorem dX9_left_115 : decode cX9_left 115 = .ok (.iload 8, 2) := eX9_left_111.2.2.1
theorem dX9_left_117 : decode cX9_left 117 = .ok (.invokestatic 186, 3) := eX9_left_111.2.2.2.1
theorem dX9_left_120 : decode cX9_left 120 = .ok (.laload, 1) := eX9_left_111.2.2.2.2.1
theorem dX9_left_121 : decode cX9_left 121 = .ok (.goto 4, 3) := eX9_left_111.2.2.2.2.2.1
theorem dX9_left_124 : decode cX9_left 124 = .ok (.lconst 0, 1) := eX9_left_111.2.2.2.2.2.2.1
theorem dX9_left_125 : decode cX9_left 125 = .ok (.ladd, 1) := eX9_left_111.2.2.2.2.2.2.2
theorem eX9_left_126 : (decode cX9_left 126 = .ok (.lstore 6, 2)) ∧ (decode cX9_left 128 = .ok (.iinc 8 1, 3)) ∧ (decode cX9_left 131 = .ok (.goto (-66), 3)) ∧ (decode cX9_left 134 = .ok (.aload_n 0, 1)) ∧ (decode cX9_left 135 = .ok (.lload 6, 2)) ∧ (decode cX9_left 137 = .ok (.aload_n 0, 1)) ∧ (decode cX9_left 138 = .ok (.getfield 178, 3)) ∧ (decode cX9_left 141 = .ok (.invokevirtual 174, 3)) := by decide +kernel
theorem dX9_left_126 : decode cX9_left 126 = .ok (.lstore 6, 2) := eX9_left_126.1
theorem dX9_left_128 : decode cX9_left 128 = .ok (.iinc 8 1, 3) := eX9_left_126.2.1
theorem dX9_left_131 : decode cX9_left 131 = .ok (.goto (-66), 3) := eX9_left_126.2.2.1
theorem dX9_left_134 : decode cX9_left 134 = .ok (.aload_n 0, 1) := eX9_left_126.2.2.2.1
theorem dX9_left_135 : decode cX9_left 135 = .ok (.lload 6, 2) := eX9_left_126.2.2.2.2.1
theorem dX9_left_137 : decode cX9_left 137 = .ok (.aload_n 0, 1) := eX9_left_126.2.2.2.2.2.1
theorem dX9_left_138 : decode cX9_left 138 = .ok (.getfield 178, 3) := eX9_left_126.2.2.2.2.2.2.1
theorem dX9_left_141 : decode cX9_left 141 = .ok (.invokevirtual 174, 3) := eX9_left_126.2.2.2.2.2.2.2
theorem dX9_left_144 : decode cX9_left 144 = .ok (.ireturn, 1) := by decide +kernel
theorem eX9_stuck_0 : (decode cX9_stuck 0 = .ok (.aload_n 0, 1)) ∧ (decode cX9_stuck 1 = .ok (.iload_n 1, 1)) ∧ (decode cX9_stuck 2 = .ok (.iload_n 2, 1)) ∧ (decode cX9_stuck 3 = .ok (.invokevirtual 200, 3)) ∧ (decode cX9_stuck 6 = .ok (.ifCond .ne 5, 3)) ∧ (decode cX9_stuck 9 = .ok (.iconst (-1), 1)) ∧ (decode cX9_stuck 10 = .ok (.ireturn, 1)) ∧ (decode cX9_stuck 11 = .ok (.aload_n 0, 1)) := by decide +kernel
theorem dX9_stuck_0 : decode cX9_stuck 0 = .ok (.aload_n 0, 1) := eX9_stuck_0.1
theorem dX9_stuck_1 : decode cX9_stuck 1 = .ok (.iload_n 1, 1) := eX9_stuck_0.2.1
theorem dX9_stuck_2 : decode cX9_stuck 2 = .ok (.iload_n 2, 1) := eX9_stuck_0.2.2.1
theorem dX9_stuck_3 : decode cX9_stuck 3 = .ok (.invokevirtual 200, 3) := eX9_stuck_0.2.2.2.1
theorem dX9_stuck_6 : decode cX9_stuck 6 = .ok (.ifCond .ne 5, 3) := eX9_stuck_0.2.2.2.2.1
theorem dX9_stuck_9 : decode cX9_stuck 9 = .ok (.iconst (-1), 1) := eX9_stuck_0.2.2.2.2.2.1
theorem dX9_stuck_10 : decode cX9_stuck 10 = .ok (.ireturn, 1) := eX9_stuck_0.2.2.2.2.2.2.1
theorem dX9_stuck_11 : decode cX9_stuck 11 = .ok (.aload_n 0, 1) := eX9_stuck_0.2.2.2.2.2.2.2
theorem eX9_stuck_12 : (decode cX9_stuck 12 = .ok (.iload_n 1, 1)) ∧ (decode cX9_stuck 13 = .ok (.iload_n 2, 1)) ∧ (decode cX9_stuck 14 = .ok (.invokevirtual 203, 3)) ∧ (decode cX9_stuck 17 = .ok (.istore_n 3, 1)) ∧ (decode cX9_stuck 18 = .ok (.iload_n 3, 1)) ∧ (decode cX9_stuck 19 = .ok (.ifCond .ge 5, 3)) ∧ (decode cX9_stuck 22 = .ok (.iload_n 3, 1)) ∧ (decode cX9_stuck 23 = .ok (.ireturn, 1)) := by decide +kernel
theorem dX9_stuck_12 : decode cX9_stuck 12 = .ok (.iload_n 1, 1) := eX9_stuck_12.1
theorem dX9_stuck_13 : decode cX9_stuck 13 = .ok (.iload_n 2, 1) := eX9_stuck_12.2.1
theorem dX9_stuck_14 : decode cX9_stuck 14 = .ok (.invokevirtual 203, 3) := eX9_stuck_12.2.2.1
theorem dX9_stuck_17 : decode cX9_stuck 17 = .ok (.istore_n 3, 1) := eX9_stuck_12.2.2.2.1
theorem dX9_stuck_18 : decode cX9_stuck 18 = .ok (.iload_n 3, 1) := eX9_stuck_12.2.2.2.2.1
theorem dX9_stuck_19 : decode cX9_stuck 19 = .ok (.ifCond .ge 5, 3) := eX9_stuck_12.2.2.2.2.2.1
theorem dX9_stuck_22 : decode cX9_stuck 22 = .ok (.iload_n 3, 1) := eX9_stuck_12.2.2.2.2.2.2.1
theorem dX9_stuck_23 : decode cX9_stuck 23 = .ok (.ireturn, 1) := eX9_stuck_12.2.2.2.2.2.2.2
theorem eX9_stuck_24 : (decode cX9_stuck 24 = .ok (.aload_n 0, 1)) ∧ (decode cX9_stuck 25 = .ok (.iload_n 1, 1)) ∧ (decode cX9_stuck 26 = .ok (.iload_n 2, 1)) ∧ (decode cX9_stuck 27 = .ok (.iconst 0, 1)) ∧ (decode cX9_stuck 28 = .ok (.iconst 0, 1)) ∧ (decode cX9_stuck 29 = .ok (.iconst 0, 1)) ∧ (decode cX9_stuck 30 = .ok (.iconst 0, 1)) ∧ (decode cX9_stuck 31 = .ok (.invokevirtual 206, 3)) := by decide +kernel
theorem dX9_stuck_24 : decode cX9_stuck 24 = .ok (.aload_n 0, 1) := eX9_stuck_24.1
theorem dX9_stuck_25 : decode cX9_stuck 25 = .ok (.iload_n 1, 1) := eX9_stuck_24.2.1
theorem dX9_stuck_26 : decode cX9_stuck 26 = .ok (.iload_n 2, 1) := eX9_stuck_24.2.2.1
theorem dX9_stuck_27 : decode cX9_stuck 27 = .ok (.iconst 0, 1) := eX9_stuck_24.2.2.2.1
theorem dX9_stuck_28 : decode cX9_stuck 28 = .ok (.iconst 0, 1) := eX9_stuck_24.2.2.2.2.1
theorem dX9_stuck_29 : decode cX9_stuck 29 = .ok (.iconst 0, 1) := eX9_stuck_24.2.2.2.2.2.1
theorem dX9_stuck_30 : decode cX9_stuck 30 = .ok (.iconst 0, 1) := eX9_stuck_24.2.2.2.2.2.2.1
theorem dX9_stuck_31 : decode cX9_stuck 31 = .ok (.invokevirtual 206, 3) := eX9_stuck_24.2.2.2.2.2.2.2
theorem eX9_stuck_34 : (decode cX9_stuck 34 = .ok (.aload_n 0, 1)) ∧ (decode cX9_stuck 35 = .ok (.aload_n 0, 1)) ∧ (decode cX9_stuck 36 = .ok (.getfield 183, 3)) ∧ (decode cX9_stuck 39 = .ok (.aload_n 0, 1)) ∧ (decode cX9_stuck 40 = .ok (.getfield 178, 3)) ∧ (decode cX9_stuck 43 = .ok (.invokevirtual 174, 3)) ∧ (decode cX9_stuck 46 = .ok (.ireturn, 1)) := by decide +kernel
theorem dX9_stuck_34 : decode cX9_stuck 34 = .ok (.aload_n 0, 1) := eX9_stuck_34.1
theorem dX9_stuck_35 : decode cX9_stuck 35 = .ok (.aload_n 0, 1) := eX9_stuck_34.2.1
theorem dX9_stuck_36 : decode cX9_stuck 36 = .ok (.getfield 183, 3) := eX9_stuck_34.2.2.1
theorem dX9_stuck_39 : decode cX9_stuck 39 = .ok (.aload_n 0, 1) := eX9_stuck_34.2.2.2.1
theorem dX9_stuck_40 : decode cX9_stuck 40 = .ok (.getfield 178, 3) := eX9_stuck_34.2.2.2.2.1
theorem dX9_stuck_43 : decode cX9_stuck 43 = .ok (.invokevirtual 174, 3) := eX9_stuck_34.2.2.2.2.2.1
theorem dX9_stuck_46 : decode cX9_stuck 46 = .ok (.ireturn, 1) := eX9_stuck_34.2.2.2.2.2.2
theorem eX9_mean_0 : (decode cX9_mean 0 = .ok (.aload_n 0, 1)) ∧ (decode cX9_mean 1 = .ok (.iload_n 1, 1)) ∧ (decode cX9_mean 2 = .ok (.iload_n 2, 1)) ∧ (decode cX9_mean 3 = .ok (.invokevirtual 200, 3)) ∧ (decode cX9_mean 6 = .ok (.ifCond .eq 25, 3)) ∧ (decode cX9_mean 9 = .ok (.aload_n 0, 1)) ∧ (decode cX9_mean 10 = .ok (.iload_n 1, 1)) ∧ (decode cX9_mean 11 = .ok (.iload_n 3, 1)) := by decide +kernel
theorem dX9_mean_0 : decode cX9_mean 0 = .ok (.aload_n 0, 1) := eX9_mean_0.1
theorem dX9_mean_1 : decode cX9_mean 1 = .ok (.iload_n 1, 1) := eX9_mean_0.2.1
theorem dX9_mean_2 : decode cX9_mean 2 = .ok (.iload_n 2, 1) := eX9_mean_0.2.2.1
theorem dX9_mean_3 : decode cX9_mean 3 = .ok (.invokevirtual 200, 3) := eX9_mean_0.2.2.2.1
theorem dX9_mean_6 : decode cX9_mean 6 = .ok (.ifCond .eq 25, 3) := eX9_mean_0.2.2.2.2.1
theorem dX9_mean_9 : decode cX9_mean 9 = .ok (.aload_n 0, 1) := eX9_mean_0.2.2.2.2.2.1
theorem dX9_mean_10 : decode cX9_mean 10 = .ok (.iload_n 1, 1) := eX9_mean_0.2.2.2.2.2.2.1
theorem dX9_mean_11 : decode cX9_mean 11 = .ok (.iload_n 3, 1) := eX9_mean_0.2.2.2.2.2.2.2
theorem eX9_mean_12 : (decode cX9_mean 12 = .ok (.invokevirtual 92, 3)) ∧ (decode cX9_mean 15 = .ok (.ifCond .eq 16, 3)) ∧ (decode cX9_mean 18 = .ok (.iload 4, 2)) ∧ (decode cX9_mean 20 = .ok (.i2l, 1)) ∧ (decode cX9_mean 21 = .ok (.lconst 1, 1)) ∧ (decode cX9_mean 22 = .ok (.ldc2_w 212, 3)) ∧ (decode cX9_mean 25 = .ok (.invokestatic 62, 3)) ∧ (decode cX9_mean 28 = .ok (.ifCond .ne 5, 3)) := by decide +kernel
theorem dX9_mean_12 : decode cX9_mean 12 = .ok (.invokevirtual 92, 3) := eX9_mean_12.1
theorem dX9_mean_15 : decode cX9_mean 15 = .ok (.ifCond .eq 16, 3) := eX9_mean_12.2.1
theorem dX9_mean_18 : decode cX9_mean 18 = .ok (.iload 4, 2) := eX9_mean_12.2.2.1
theorem dX9_mean_20 : decode cX9_mean 20 = .ok (.i2l, 1) := eX9_mean_12.2.2.2.1
theorem dX9_mean_21 : decode cX9_mean 21 = .ok (.lconst 1, 1) := eX9_mean_12.2.2.2.2.1
theorem dX9_mean_22 : decode cX9_mean 22 = .ok (.ldc2_w 212, 3) := eX9_mean_12.2.2.2.2.2.1
theorem dX9_mean_25 : decode cX9_mean 25 = .ok (.invokestatic 62, 3) := eX9_mean_12.2.2.2.2.2.2.1
theorem dX9_mean_28 : decode cX9_mean 28 = .ok (.ifCond .ne 5, 3) := eX9_mean_12.2.2.2.2.2.2.2
theorem eX9_mean_31 : (decode cX9_mean 31 = .ok (.iconst (-1), 1)) ∧ (decode cX9_mean 32 = .ok (.ireturn, 1)) ∧ (decode cX9_mean 33 = .ok (.aload_n 0, 1)) ∧ (decode cX9_mean 34 = .ok (.iload_n 1, 1)) ∧ (decode cX9_mean 35 = .ok (.iload_n 2, 1)) ∧ (decode cX9_mean 36 = .ok (.invokevirtual 203, 3)) ∧ (decode cX9_mean 39 = .ok (.istore 5, 2)) ∧ (decode cX9_mean 41 = .ok (.iload 5, 2)) := by decide +kernel
theorem dX9_mean_31 : decode cX9_mean 31 = .ok (.iconst (-1), 1) := eX9_mean_31.1
theorem dX9_mean_32 : decode cX9_mean 32 = .ok (.ireturn, 1) := eX9_mean_31.2.1
theorem dX9_mean_33 : decode cX9_mean 33 = .ok (.aload_n 0, 1) := eX9_mean_31.2.2.1
theorem dX9_mean_34 : decode cX9_mean 34 = .ok (.iload_n 1, 1) := eX9_mean_31.2.2.2.1
theorem dX9_mean_35 : decode cX9_mean 35 = .ok (.iload_n 2, 1) := eX9_mean_31.2.2.2.2.1
theorem dX9_mean_36 : decode cX9_mean 36 = .ok (.invokevirtual 203, 3) := eX9_mean_31.2.2.2.2.2.1
theorem dX9_mean_39 : decode cX9_mean 39 = .ok (.istore 5, 2) := eX9_mean_31.2.2.2.2.2.2.1
theorem dX9_mean_41 : decode cX9_mean 41 = .ok (.iload 5, 2) := eX9_mean_31.2.2.2.2.2.2.2
theorem eX9_mean_43 : (decode cX9_mean 43 = .ok (.ifCond .ge 6, 3)) ∧ (decode cX9_mean 46 = .ok (.iload 5, 2)) ∧ (decode cX9_mean 48 = .ok (.ireturn, 1)) ∧ (decode cX9_mean 49 = .ok (.aload_n 0, 1)) ∧ (decode cX9_mean 50 = .ok (.iload_n 1, 1)) ∧ (decode cX9_mean 51 = .ok (.iload_n 2, 1)) ∧ (decode cX9_mean 52 = .ok (.iconst 0, 1)) ∧ (decode cX9_mean 53 = .ok (.iconst 0, 1)) := by decide +kernel
theorem dX9_mean_43 : decode cX9_mean 43 = .ok (.ifCond .ge 6, 3) := eX9_mean_43.1
theorem dX9_mean_46 : decode cX9_mean 46 = .ok (.iload 5, 2) := eX9_mean_43.2.1
theorem dX9_mean_48 : decode cX9_mean 48 = .ok (.ireturn, 1) := eX9_mean_43.2.2.1
theorem dX9_mean_49 : decode cX9_mean 49 = .ok (.aload_n 0, 1) := eX9_mean_43.2.2.2.1
theorem dX9_mean_50 : decode cX9_mean 50 = .ok (.iload_n 1, 1) := eX9_mean_43.2.2.2.2.1
theorem dX9_mean_51 : decode cX9_mean 51 = .ok (.iload_n 2, 1) := eX9_mean_43.2.2.2.2.2.1
theorem dX9_mean_52 : decode cX9_mean 52 = .ok (.iconst 0, 1) := eX9_mean_43.2.2.2.2.2.2.1
theorem dX9_mean_53 : decode cX9_mean 53 = .ok (.iconst 0, 1) := eX9_mean_43.2.2.2.2.2.2.2
theorem eX9_mean_54 : (decode cX9_mean 54 = .ok (.iconst 0, 1)) ∧ (decode cX9_mean 55 = .ok (.iconst 0, 1)) ∧ (decode cX9_mean 56 = .ok (.invokevirtual 206, 3)) ∧ (decode cX9_mean 59 = .ok (.lconst 0, 1)) ∧ (decode cX9_mean 60 = .ok (.lstore 6, 2)) ∧ (decode cX9_mean 62 = .ok (.lconst 0, 1)) ∧ (decode cX9_mean 63 = .ok (.lstore 8, 2)) ∧ (decode cX9_mean 65 = .ok (.iconst 0, 1)) := by decide +kernel
theorem dX9_mean_54 : decode cX9_mean 54 = .ok (.iconst 0, 1) := eX9_mean_54.1
theorem dX9_mean_55 : decode cX9_mean 55 = .ok (.iconst 0, 1) := eX9_mean_54.2.1
theorem dX9_mean_56 : decode cX9_mean 56 = .ok (.invokevirtual 206, 3) := eX9_mean_54.2.2.1
theorem dX9_mean_59 : decode cX9_mean 59 = .ok (.lconst 0, 1) := eX9_mean_54.2.2.2.1
theorem dX9_mean_60 : decode cX9_mean 60 = .ok (.lstore 6, 2) := eX9_mean_54.2.2.2.2.1
theorem dX9_mean_62 : decode cX9_mean 62 = .ok (.lconst 0, 1) := eX9_mean_54.2.2.2.2.2.1
theorem dX9_mean_63 : decode cX9_mean 63 = .ok (.lstore 8, 2) := eX9_mean_54.2.2.2.2.2.2.1
theorem dX9_mean_65 : decode cX9_mean 65 = .ok (.iconst 0, 1) := eX9_mean_54.2.2.2.2.2.2.2
theorem eX9_mean_66 : (decode cX9_mean 66 = .ok (.istore 10, 2)) ∧ (decode cX9_mean 68 = .ok (.iload 10, 2)) ∧ (decode cX9_mean 70 = .ok (.sipush 2197, 3)) ∧ (decode cX9_mean 73 = .ok (.if_icmp .ge 140, 3)) ∧ (decode cX9_mean 76 = .ok (.aload_n 0, 1)) ∧ (decode cX9_mean 77 = .ok (.getfield 45, 3)) ∧ (decode cX9_mean 80 = .ok (.iload_n 2, 1)) ∧ (decode cX9_mean 81 = .ok (.iload 10, 2)) := by decide +kernel
theorem dX9_mean_66 : decode cX9_mean 66 = .ok (.istore 10, 2) := eX9_mean_66.1
theorem dX9_mean_68 : decode cX9_mean 68 = .ok (.iload 10, 2) := eX9_mean_66.2.1
theorem dX9_mean_70 : decode cX9_mean 70 = .ok (.sipush 2197, 3) := eX9_mean_66.2.2.1
theorem dX9_mean_73 : decode cX9_mean 73 = .ok (.if_icmp .ge 140, 3) := eX9_mean_66.2.2.2.1
theorem dX9_mean_76 : decode cX9_mean 76 = .ok (.aload_n 0, 1) := eX9_mean_66.2.2.2.2.1
theorem dX9_mean_77 : decode cX9_mean 77 = .ok (.getfield 45, 3) := eX9_mean_66.2.2.2.2.2.1
theorem dX9_mean_80 : decode cX9_mean 80 = .ok (.iload_n 2, 1) := eX9_mean_66.2.2.2.2.2.2.1
theorem dX9_mean_81 : decode cX9_mean 81 = .ok (.iload 10, 2) := eX9_mean_66.2.2.2.2.2.2.2
theorem eX9_mean_83 : (decode cX9_mean 83 = .ok (.invokestatic 186, 3)) ∧ (decode cX9_mean 86 = .ok (.laload, 1)) ∧ (decode cX9_mean 87 = .ok (.lconst 0, 1)) ∧ (decode cX9_mean 88 = .ok (.lcmp, 1)) ∧ (decode cX9_mean 89 = .ok (.ifCond .le 118, 3)) ∧ (decode cX9_mean 92 = .ok (.aload_n 0, 1)) ∧ (decode cX9_mean 93 = .ok (.iload_n 1, 1)) ∧ (decode cX9_mean 94 = .ok (.iload 10, 2)) := by decide +kernel
theorem dX9_mean_83 : decode cX9_mean 83 = .ok (.invokestatic 186, 3) := eX9_mean_83.1
theorem dX9_mean_86 : decode cX9_mean 86 = .ok (.laload, 1) := eX9_mean_83.2.1
theorem dX9_mean_87 : decode cX9_mean 87 = .ok (.lconst 0, 1) := eX9_mean_83.2.2.1
theorem dX9_mean_88 : decode cX9_mean 88 = .ok (.lcmp, 1) := eX9_mean_83.2.2.2.1
theorem dX9_mean_89 : decode cX9_mean 89 = .ok (.ifCond .le 118, 3) := eX9_mean_83.2.2.2.2.1
theorem dX9_mean_92 : decode cX9_mean 92 = .ok (.aload_n 0, 1) := eX9_mean_83.2.2.2.2.2.1
theorem dX9_mean_93 : decode cX9_mean 93 = .ok (.iload_n 1, 1) := eX9_mean_83.2.2.2.2.2.2.1
theorem dX9_mean_94 : decode cX9_mean 94 = .ok (.iload 10, 2) := eX9_mean_83.2.2.2.2.2.2.2
theorem eX9_mean_96 : (decode cX9_mean 96 = .ok (.iload_n 2, 1)) ∧ (decode cX9_mean 97 = .ok (.invokevirtual 189, 3)) ∧ (decode cX9_mean 100 = .ok (.lconst 0, 1)) ∧ (decode cX9_mean 101 = .ok (.lstore 11, 2)) ∧ (decode cX9_mean 103 = .ok (.aload_n 0, 1)) ∧ (decode cX9_mean 104 = .ok (.getfield 45, 3)) ∧ (decode cX9_mean 107 = .ok (.iload_n 2, 1)) ∧ (decode cX9_mean 108 = .ok (.iload 10, 2)) := by decide +kernel
theorem dX9_mean_96 : decode cX9_mean 96 = .ok (.iload_n 2, 1) := eX9_mean_96.1
theorem dX9_mean_97 : decode cX9_mean 97 = .ok (.invokevirtual 189, 3) := eX9_mean_96.2.1
theorem dX9_mean_100 : decode cX9_mean 100 = .ok (.lconst 0, 1) := eX9_mean_96.2.2.1
theorem dX9_mean_101 : decode cX9_mean 101 = .ok (.lstore 11, 2) := eX9_mean_96.2.2.2.1
theorem dX9_mean_103 : decode cX9_mean 103 = .ok (.aload_n 0, 1) := eX9_mean_96.2.2.2.2.1
theorem dX9_mean_104 : decode cX9_mean 104 = .ok (.getfield 45, 3) := eX9_mean_96.2.2.2.2.2.1
theorem dX9_mean_107 : decode cX9_mean 107 = .ok (.iload_n 2, 1) := eX9_mean_96.2.2.2.2.2.2.1
theorem dX9_mean_108 : decode cX9_mean 108 = .ok (.iload 10, 2) := eX9_mean_96.2.2.2.2.2.2.2
theorem eX9_mean_110 : (decode cX9_mean 110 = .ok (.invokestatic 186, 3)) ∧ (decode cX9_mean 113 = .ok (.laload, 1)) ∧ (decode cX9_mean 114 = .ok (.lstore 13, 2)) ∧ (decode cX9_mean 116 = .ok (.iconst 0, 1)) ∧ (decode cX9_mean 117 = .ok (.istore 15, 2)) ∧ (decode cX9_mean 119 = .ok (.iload 15, 2)) ∧ (decode cX9_mean 121 = .ok (.iload 4, 2)) ∧ (decode cX9_mean 123 = .ok (.if_icmp .ge 54, 3)) := by decide +kernel
theorem dX9_mean_110 : decode cX9_mean 110 = .ok (.invokestatic 186, 3) := eX9_mean_110.1
theorem dX9_mean_113 : decode cX9_mean 113 = .ok (.laload, 1) := eX9_mean_110.2.1
theorem dX9_mean_114 : decode cX9_mean 114 = .ok (.lstore 13, 2) := eX9_mean_110.2.2.1
theorem dX9_mean_116 : decode cX9_mean 116 = .ok (.iconst 0, 1) := eX9_mean_110.2.2.2.1
theorem dX9_mean_117 : decode cX9_mean 117 = .ok (.istore 15, 2) := eX9_mean_110.2.2.2.2.1
theorem dX9_mean_119 : decode cX9_mean 119 = .ok (.iload 15, 2) := eX9_mean_110.2.2.2.2.2.1
theorem dX9_mean_121 : decode cX9_mean 121 = .ok (.iload 4, 2) := eX9_mean_110.2.2.2.2.2.2.1
theorem dX9_mean_123 : decode cX9_mean 123 = .ok (.if_icmp .ge 54, 3) := eX9_mean_110.2.2.2.2.2.2.2
theorem eX9_mean_126 : (decode cX9_mean 126 = .ok (.lload 11, 2)) ∧ (decode cX9_mean 128 = .ok (.aload_n 0, 1)) ∧ (decode cX9_mean 129 = .ok (.getfield 51, 3)) ∧ (decode cX9_mean 132 = .ok (.iload_n 3, 1)) ∧ (decode cX9_mean 133 = .ok (.iaload, 1)) ∧ (decode cX9_mean 134 = .ok (.i2l, 1)) ∧ (decode cX9_mean 135 = .ok (.lmul, 1)) ∧ (decode cX9_mean 136 = .ok (.lload 13, 2)) := by decide +kernel
theorem dX9_mean_126 : decode cX9_mean 126 = .ok (.lload 11, 2) := eX9_mean_126.1
theorem dX9_mean_128 : decode cX9_mean 128 = .ok (.aload_n 0, 1) := eX9_mean_126.2.1
theorem dX9_mean_129 : decode cX9_mean 129 = .ok (.getfield 51, 3) := eX9_mean_126.2.2.1
theorem dX9_mean_132 : decode cX9_mean 132 = .ok (.iload_n 3, 1) := eX9_mean_126.2.2.2.1
theorem dX9_mean_133 : decode cX9_mean 133 = .ok (.iaload, 1) := eX9_mean_126.2.2.2.2.1
theorem dX9_mean_134 : decode cX9_mean 134 = .ok (.i2l, 1) := eX9_mean_126.2.2.2.2.2.1
theorem dX9_mean_135 : decode cX9_mean 135 = .ok (.lmul, 1) := eX9_mean_126.2.2.2.2.2.2.1
theorem dX9_mean_136 : decode cX9_mean 136 = .ok (.lload 13, 2) := eX9_mean_126.2.2.2.2.2.2.2
theorem eX9_mean_138 : (decode cX9_mean 138 = .ok (.aload_n 0, 1)) ∧ (decode cX9_mean 139 = .ok (.getfield 51, 3)) ∧ (decode cX9_mean 142 = .ok (.iload_n 3, 1)) ∧ (decode cX9_mean 143 = .ok (.iaload, 1)) ∧ (decode cX9_mean 144 = .ok (.i2l, 1)) ∧ (decode cX9_mean 145 = .ok (.lmul, 1)) ∧ (decode cX9_mean 146 = .ok (.aload_n 0, 1)) ∧ (decode cX9_mean 147 = .ok (.getfield 178, 3)) := by decide +kernel
theorem dX9_mean_138 : decode cX9_mean 138 = .ok (.aload_n 0, 1) := eX9_mean_138.1
theorem dX9_mean_139 : decode cX9_mean 139 = .ok (.getfield 51, 3) := eX9_mean_138.2.1
theorem dX9_mean_142 : decode cX9_mean 142 = .ok (.iload_n 3, 1) := eX9_mean_138.2.2.1
theorem dX9_mean_143 : decode cX9_mean 143 = .ok (.iaload, 1) := eX9_mean_138.2.2.2.1
theorem dX9_mean_144 : decode cX9_mean 144 = .ok (.i2l, 1) := eX9_mean_138.2.2.2.2.1
theorem dX9_mean_145 : decode cX9_mean 145 = .ok (.lmul, 1) := eX9_mean_138.2.2.2.2.2.1
theorem dX9_mean_146 : decode cX9_mean 146 = .ok (.aload_n 0, 1) := eX9_mean_138.2.2.2.2.2.2.1
theorem dX9_mean_147 : decode cX9_mean 147 = .ok (.getfield 178, 3) := eX9_mean_138.2.2.2.2.2.2.2
theorem eX9_mean_150 : (decode cX9_mean 150 = .ok (.ldiv, 1)) ∧ (decode cX9_mean 151 = .ok (.ladd, 1)) ∧ (decode cX9_mean 152 = .ok (.lstore 11, 2)) ∧ (decode cX9_mean 154 = .ok (.lload 13, 2)) ∧ (decode cX9_mean 156 = .ok (.aload_n 0, 1)) ∧ (decode cX9_mean 157 = .ok (.getfield 51, 3)) ∧ (decode cX9_mean 160 = .ok (.iload_n 3, 1)) ∧ (decode cX9_mean 161 = .ok (.iaload, 1)) := by decide +kernel
theorem dX9_mean_150 : decode cX9_mean 150 = .ok (.ldiv, 1) := eX9_mean_150.1
theorem dX9_mean_151 : decode cX9_mean 151 = .ok (.ladd, 1) := eX9_mean_150.2.1
theorem dX9_mean_152 : decode cX9_mean 152 = .ok (.lstore 11, 2) := eX9_mean_150.2.2.1
theorem dX9_mean_154 : decode cX9_mean 154 = .ok (.lload 13, 2) := eX9_mean_150.2.2.2.1
theorem dX9_mean_156 : decode cX9_mean 156 = .ok (.aload_n 0, 1) := eX9_mean_150.2.2.2.2.1
theorem dX9_mean_157 : decode cX9_mean 157 = .ok (.getfield 51, 3) := eX9_mean_150.2.2.2.2.2.1
theorem dX9_mean_160 : decode cX9_mean 160 = .ok (.iload_n 3, 1) := eX9_mean_150.2.2.2.2.2.2.1
theorem dX9_mean_161 : decode cX9_mean 161 = .ok (.iaload, 1) := eX9_mean_150.2.2.2.2.2.2.2
theorem eX9_mean_162 : (decode cX9_mean 162 = .ok (.i2l, 1)) ∧ (decode cX9_mean 163 = .ok (.lmul, 1)) ∧ (decode cX9_mean 164 = .ok (.aload_n 0, 1)) ∧ (decode cX9_mean 165 = .ok (.getfield 178, 3)) ∧ (decode cX9_mean 168 = .ok (.lrem, 1)) ∧ (decode cX9_mean 169 = .ok (.lstore 13, 2)) ∧ (decode cX9_mean 171 = .ok (.iinc 15 1, 3)) ∧ (decode cX9_mean 174 = .ok (.goto (-55), 3)) := by decide +kernel
theorem dX9_mean_162 : decode cX9_mean 162 = .ok (.i2l, 1) := eX9_mean_162.1
theorem dX9_mean_163 : decode cX9_mean 163 = .ok (.lmul, 1) := eX9_mean_162.2.1
theorem dX9_mean_164 : decode cX9_mean 164 = .ok (.aload_n 0, 1) := eX9_mean_162.2.2.1
theorem dX9_mean_165 : decode cX9_mean 165 = .ok (.getfield 178, 3) := eX9_mean_162.2.2.2.1
theorem dX9_mean_168 : decode cX9_mean 168 = .ok (.lrem, 1) := eX9_mean_162.2.2.2.2.1
theorem dX9_mean_169 : decode cX9_mean 169 = .ok (.lstore 13, 2) := eX9_mean_162.2.2.2.2.2.1
theorem dX9_mean_171 : decode cX9_mean 171 = .ok (.iinc 15 1, 3) := eX9_mean_162.2.2.2.2.2.2.1
theorem dX9_mean_174 : decode cX9_mean 174 = .ok (.goto (-55), 3) := eX9_mean_162.2.2.2.2.2.2.2
theorem eX9_mean_177 : (decode cX9_mean 177 = .ok (.lload 6, 2)) ∧ (decode cX9_mean 179 = .ok (.lload 11, 2)) ∧ (decode cX9_mean 181 = .ok (.lload 8, 2)) ∧ (decode cX9_mean 183 = .ok (.lload 13, 2)) ∧ (decode cX9_mean 185 = .ok (.ladd, 1)) ∧ (decode cX9_mean 186 = .ok (.aload_n 0, 1)) ∧ (decode cX9_mean 187 = .ok (.getfield 178, 3)) ∧ (decode cX9_mean 190 = .ok (.ldiv, 1)) := by decide +kernel
theorem dX9_mean_177 : decode cX9_mean 177 = .ok (.lload 6, 2) := eX9_mean_177.1
theorem dX9_mean_179 : decode cX9_mean 179 = .ok (.lload 11, 2) := eX9_mean_177.2.1
theorem dX9_mean_181 : decode cX9_mean 181 = .ok (.lload 8, 2) := eX9_mean_177.2.2.1
theorem dX9_mean_183 : decode cX9_mean 183 = .ok (.lload 13, 2) := eX9_mean_177.2.2.2.1
theorem dX9_mean_185 : decode cX9_mean 185 = .ok (.ladd, 1) := eX9_mean_177.2.2.2.2.1
theorem dX9_mean_186 : decode cX9_mean 186 = .ok (.aload_n 0, 1) := eX9_mean_177.2.2.2.2.2.1
theorem dX9_mean_187 : decode cX9_mean 187 = .ok (.getfield 178, 3) := eX9_mean_177.2.2.2.2.2.2.1
theorem dX9_mean_190 : decode cX9_mean 190 = .ok (.ldiv, 1) := eX9_mean_177.2.2.2.2.2.2.2
theorem eX9_mean_191 : (decode cX9_mean 191 = .ok (.ladd, 1)) ∧ (decode cX9_mean 192 = .ok (.ladd, 1)) ∧ (decode cX9_mean 193 = .ok (.lstore 6, 2)) ∧ (decode cX9_mean 195 = .ok (.lload 8, 2)) ∧ (decode cX9_mean 197 = .ok (.lload 13, 2)) ∧ (decode cX9_mean 199 = .ok (.ladd, 1)) ∧ (decode cX9_mean 200 = .ok (.aload_n 0, 1)) ∧ (decode cX9_mean 201 = .ok (.getfield 178, 3)) := by decide +kernel
theorem dX9_mean_191 : decode cX9_mean 191 = .ok (.ladd, 1) := eX9_mean_191.1
theorem dX9_mean_192 : decode cX9_mean 192 = .ok (.ladd, 1) := eX9_mean_191.2.1
theorem dX9_mean_193 : decode cX9_mean 193 = .ok (.lstore 6, 2) := eX9_mean_191.2.2.1
theorem dX9_mean_195 : decode cX9_mean 195 = .ok (.lload 8, 2) := eX9_mean_191.2.2.2.1
theorem dX9_mean_197 : decode cX9_mean 197 = .ok (.lload 13, 2) := eX9_mean_191.2.2.2.2.1
theorem dX9_mean_199 : decode cX9_mean 199 = .ok (.ladd, 1) := eX9_mean_191.2.2.2.2.2.1
theorem dX9_mean_200 : decode cX9_mean 200 = .ok (.aload_n 0, 1) := eX9_mean_191.2.2.2.2.2.2.1
theorem dX9_mean_201 : decode cX9_mean 201 = .ok (.getfield 178, 3) := eX9_mean_191.2.2.2.2.2.2.2
theorem eX9_mean_204 : (decode cX9_mean 204 = .ok (.lrem, 1)) ∧ (decode cX9_mean 205 = .ok (.lstore 8, 2)) ∧ (decode cX9_mean 207 = .ok (.iinc 10 1, 3)) ∧ (decode cX9_mean 210 = .ok (.goto (-142), 3)) ∧ (decode cX9_mean 213 = .ok (.aload_n 0, 1)) ∧ (decode cX9_mean 214 = .ok (.lload 8, 2)) ∧ (decode cX9_mean 216 = .ok (.aload_n 0, 1)) ∧ (decode cX9_mean 217 = .ok (.getfield 178, 3)) := by decide +kernel
theorem dX9_mean_204 : decode cX9_mean 204 = .ok (.lrem, 1) := eX9_mean_204.1
theorem dX9_mean_205 : decode cX9_mean 205 = .ok (.lstore 8, 2) := eX9_mean_204.2.1
theorem dX9_mean_207 : decode cX9_mean 207 = .ok (.iinc 10 1, 3) := eX9_mean_204.2.2.1
theorem dX9_mean_210 : decode cX9_mean 210 = .ok (.goto (-142), 3) := eX9_mean_204.2.2.2.1
theorem dX9_mean_213 : decode cX9_mean 213 = .ok (.aload_n 0, 1) := eX9_mean_204.2.2.2.2.1
theorem dX9_mean_214 : decode cX9_mean 214 = .ok (.lload 8, 2) := eX9_mean_204.2.2.2.2.2.1
theorem dX9_mean_216 : decode cX9_mean 216 = .ok (.aload_n 0, 1) := eX9_mean_204.2.2.2.2.2.2.1
theorem dX9_mean_217 : decode cX9_mean 217 = .ok (.getfield 178, 3) := eX9_mean_204.2.2.2.2.2.2.2
theorem eX9_mean_220 : (decode cX9_mean 220 = .ok (.invokevirtual 174, 3)) ∧ (decode cX9_mean 223 = .ok (.istore 10, 2)) ∧ (decode cX9_mean 225 = .ok (.aload_n 0, 1)) ∧ (decode cX9_mean 226 = .ok (.lload 6, 2)) ∧ (decode cX9_mean 228 = .ok (.putfield 154, 3)) ∧ (decode cX9_mean 231 = .ok (.iload 10, 2)) ∧ (decode cX9_mean 233 = .ok (.ireturn, 1)) := by decide +kernel
theorem dX9_mean_220 : decode cX9_mean 220 = .ok (.invokevirtual 174, 3) := eX9_mean_220.1
theorem dX9_mean_223 : decode cX9_mean 223 = .ok (.istore 10, 2) := eX9_mean_220.2.1
theorem dX9_mean_225 : decode cX9_mean 225 = .ok (.aload_n 0, 1) := eX9_mean_220.2.2.1
theorem dX9_mean_226 : decode cX9_mean 226 = .ok (.lload 6, 2) := eX9_mean_220.2.2.2.1
theorem dX9_mean_228 : decode cX9_mean 228 = .ok (.putfield 154, 3) := eX9_mean_220.2.2.2.2.1
theorem dX9_mean_231 : decode cX9_mean 231 = .ok (.iload 10, 2) := eX9_mean_220.2.2.2.2.2.1
theorem dX9_mean_233 : decode cX9_mean 233 = .ok (.ireturn, 1) := eX9_mean_220.2.2.2.2.2.2
theorem eX9_told_0 : (decode cX9_told 0 = .ok (.aload_n 0, 1)) ∧ (decode cX9_told 1 = .ok (.iload_n 1, 1)) ∧ (decode cX9_told 2 = .ok (.invokevirtual 89, 3)) ∧ (decode cX9_told 5 = .ok (.ifCond .eq 50, 3)) ∧ (decode cX9_told 8 = .ok (.iload_n 2, 1)) ∧ (decode cX9_told 9 = .ok (.i2l, 1)) ∧ (decode cX9_told 10 = .ok (.lconst 1, 1)) ∧ (decode cX9_told 11 = .ok (.ldc2_w 168, 3)) := by decide +kernel
theorem dX9_told_0 : decode cX9_told 0 = .ok (.aload_n 0, 1) := eX9_told_0.1
theorem dX9_told_1 : decode cX9_told 1 = .ok (.iload_n 1, 1) := eX9_told_0.2.1
theorem dX9_told_2 : decode cX9_told 2 = .ok (.invokevirtual 89, 3) := eX9_told_0.2.2.1
theorem dX9_told_5 : decode cX9_told 5 = .ok (.ifCond .eq 50, 3) := eX9_told_0.2.2.2.1
theorem dX9_told_8 : decode cX9_told 8 = .ok (.iload_n 2, 1) := eX9_told_0.2.2.2.2.1
theorem dX9_told_9 : decode cX9_told 9 = .ok (.i2l, 1) := eX9_told_0.2.2.2.2.2.1
theorem dX9_told_10 : decode cX9_told 10 = .ok (.lconst 1, 1) := eX9_told_0.2.2.2.2.2.2.1
theorem dX9_told_11 : decode cX9_told 11 = .ok (.ldc2_w 168, 3) := eX9_told_0.2.2.2.2.2.2.2
theorem eX9_told_14 : (decode cX9_told 14 = .ok (.invokestatic 62, 3)) ∧ (decode cX9_told 17 = .ok (.ifCond .eq 38, 3)) ∧ (decode cX9_told 20 = .ok (.aload_n 0, 1)) ∧ (decode cX9_told 21 = .ok (.iload_n 1, 1)) ∧ (decode cX9_told 22 = .ok (.iload_n 3, 1)) ∧ (decode cX9_told 23 = .ok (.invokevirtual 92, 3)) ∧ (decode cX9_told 26 = .ok (.ifCond .eq 29, 3)) ∧ (decode cX9_told 29 = .ok (.iload 4, 2)) := by decide +kernel
theorem dX9_told_14 : decode cX9_told 14 = .ok (.invokestatic 62, 3) := eX9_told_14.1
theorem dX9_told_17 : decode cX9_told 17 = .ok (.ifCond .eq 38, 3) := eX9_told_14.2.1
theorem dX9_told_20 : decode cX9_told 20 = .ok (.aload_n 0, 1) := eX9_told_14.2.2.1
theorem dX9_told_21 : decode cX9_told 21 = .ok (.iload_n 1, 1) := eX9_told_14.2.2.2.1
theorem dX9_told_22 : decode cX9_told 22 = .ok (.iload_n 3, 1) := eX9_told_14.2.2.2.2.1
theorem dX9_told_23 : decode cX9_told 23 = .ok (.invokevirtual 92, 3) := eX9_told_14.2.2.2.2.2.1
theorem dX9_told_26 : decode cX9_told 26 = .ok (.ifCond .eq 29, 3) := eX9_told_14.2.2.2.2.2.2.1
theorem dX9_told_29 : decode cX9_told 29 = .ok (.iload 4, 2) := eX9_told_14.2.2.2.2.2.2.2
theorem eX9_told_31 : (decode cX9_told 31 = .ok (.i2l, 1)) ∧ (decode cX9_told 32 = .ok (.iload_n 2, 1)) ∧ (decode cX9_told 33 = .ok (.iconst 1, 1)) ∧ (decode cX9_told 34 = .ok (.iadd, 1)) ∧ (decode cX9_told 35 = .ok (.i2l, 1)) ∧ (decode cX9_told 36 = .ok (.ldc2_w 168, 3)) ∧ (decode cX9_told 39 = .ok (.invokestatic 62, 3)) ∧ (decode cX9_told 42 = .ok (.ifCond .eq 13, 3)) := by decide +kernel
theorem dX9_told_31 : decode cX9_told 31 = .ok (.i2l, 1) := eX9_told_31.1
theorem dX9_told_32 : decode cX9_told 32 = .ok (.iload_n 2, 1) := eX9_told_31.2.1
theorem dX9_told_33 : decode cX9_told 33 = .ok (.iconst 1, 1) := eX9_told_31.2.2.1
theorem dX9_told_34 : decode cX9_told 34 = .ok (.iadd, 1) := eX9_told_31.2.2.2.1
theorem dX9_told_35 : decode cX9_told 35 = .ok (.i2l, 1) := eX9_told_31.2.2.2.2.1
theorem dX9_told_36 : decode cX9_told 36 = .ok (.ldc2_w 168, 3) := eX9_told_31.2.2.2.2.2.1
theorem dX9_told_39 : decode cX9_told 39 = .ok (.invokestatic 62, 3) := eX9_told_31.2.2.2.2.2.2.1
theorem dX9_told_42 : decode cX9_told 42 = .ok (.ifCond .eq 13, 3) := eX9_told_31.2.2.2.2.2.2.2
theorem eX9_told_45 : (decode cX9_told 45 = .ok (.aload_n 0, 1)) ∧ (decode cX9_told 46 = .ok (.iload_n 1, 1)) ∧ (decode cX9_told 47 = .ok (.iload 5, 2)) ∧ (decode cX9_told 49 = .ok (.invokevirtual 92, 3)) ∧ (decode cX9_told 52 = .ok (.ifCond .ne 5, 3)) ∧ (decode cX9_told 55 = .ok (.iconst (-1), 1)) ∧ (decode cX9_told 56 = .ok (.ireturn, 1)) ∧ (decode cX9_told 57 = .ok (.aload_n 0, 1)) := by decide +kernel
theorem dX9_told_45 : decode cX9_told 45 = .ok (.aload_n 0, 1) := eX9_told_45.1
theorem dX9_told_46 : decode cX9_told 46 = .ok (.iload_n 1, 1) := eX9_told_45.2.1
theorem dX9_told_47 : decode cX9_told 47 = .ok (.iload 5, 2) := eX9_told_45.2.2.1
theorem dX9_told_49 : decode cX9_told 49 = .ok (.invokevirtual 92, 3) := eX9_told_45.2.2.2.1
theorem dX9_told_52 : decode cX9_told 52 = .ok (.ifCond .ne 5, 3) := eX9_told_45.2.2.2.2.1
theorem dX9_told_55 : decode cX9_told 55 = .ok (.iconst (-1), 1) := eX9_told_45.2.2.2.2.2.1
theorem dX9_told_56 : decode cX9_told 56 = .ok (.ireturn, 1) := eX9_told_45.2.2.2.2.2.2.1
theorem dX9_told_57 : decode cX9_told 57 = .ok (.aload_n 0, 1) := eX9_told_45.2.2.2.2.2.2.2
theorem eX9_told_58 : (decode cX9_told 58 = .ok (.iload_n 1, 1)) ∧ (decode cX9_told 59 = .ok (.iload 4, 2)) ∧ (decode cX9_told 61 = .ok (.invokevirtual 203, 3)) ∧ (decode cX9_told 64 = .ok (.istore 6, 2)) ∧ (decode cX9_told 66 = .ok (.iload 6, 2)) ∧ (decode cX9_told 68 = .ok (.ifCond .ge 6, 3)) ∧ (decode cX9_told 71 = .ok (.iload 6, 2)) ∧ (decode cX9_told 73 = .ok (.ireturn, 1)) := by decide +kernel
theorem dX9_told_58 : decode cX9_told 58 = .ok (.iload_n 1, 1) := eX9_told_58.1
theorem dX9_told_59 : decode cX9_told 59 = .ok (.iload 4, 2) := eX9_told_58.2.1
theorem dX9_told_61 : decode cX9_told 61 = .ok (.invokevirtual 203, 3) := eX9_told_58.2.2.1
theorem dX9_told_64 : decode cX9_told 64 = .ok (.istore 6, 2) := eX9_told_58.2.2.2.1
theorem dX9_told_66 : decode cX9_told 66 = .ok (.iload 6, 2) := eX9_told_58.2.2.2.2.1
theorem dX9_told_68 : decode cX9_told 68 = .ok (.ifCond .ge 6, 3) := eX9_told_58.2.2.2.2.2.1
theorem dX9_told_71 : decode cX9_told 71 = .ok (.iload 6, 2) := eX9_told_58.2.2.2.2.2.2.1
theorem dX9_told_73 : decode cX9_told 73 = .ok (.ireturn, 1) := eX9_told_58.2.2.2.2.2.2.2
theorem eX9_told_74 : (decode cX9_told 74 = .ok (.aload_n 0, 1)) ∧ (decode cX9_told 75 = .ok (.iload_n 1, 1)) ∧ (decode cX9_told 76 = .ok (.iload 4, 2)) ∧ (decode cX9_told 78 = .ok (.iconst 0, 1)) ∧ (decode cX9_told 79 = .ok (.iconst 0, 1)) ∧ (decode cX9_told 80 = .ok (.iload 4, 2)) ∧ (decode cX9_told 82 = .ok (.iload 5, 2)) ∧ (decode cX9_told 84 = .ok (.invokevirtual 206, 3)) := by decide +kernel
theorem dX9_told_74 : decode cX9_told 74 = .ok (.aload_n 0, 1) := eX9_told_74.1
theorem dX9_told_75 : decode cX9_told 75 = .ok (.iload_n 1, 1) := eX9_told_74.2.1
theorem dX9_told_76 : decode cX9_told 76 = .ok (.iload 4, 2) := eX9_told_74.2.2.1
theorem dX9_told_78 : decode cX9_told 78 = .ok (.iconst 0, 1) := eX9_told_74.2.2.2.1
theorem dX9_told_79 : decode cX9_told 79 = .ok (.iconst 0, 1) := eX9_told_74.2.2.2.2.1
theorem dX9_told_80 : decode cX9_told 80 = .ok (.iload 4, 2) := eX9_told_74.2.2.2.2.2.1
theorem dX9_told_82 : decode cX9_told 82 = .ok (.iload 5, 2) := eX9_told_74.2.2.2.2.2.2.1
theorem dX9_told_84 : decode cX9_told 84 = .ok (.invokevirtual 206, 3) := eX9_told_74.2.2.2.2.2.2.2
theorem eX9_told_87 : (decode cX9_told 87 = .ok (.aload_n 0, 1)) ∧ (decode cX9_told 88 = .ok (.iload 4, 2)) ∧ (decode cX9_told 90 = .ok (.invokevirtual 214, 3)) ∧ (decode cX9_told 93 = .ok (.lstore 7, 2)) ∧ (decode cX9_told 95 = .ok (.lload 7, 2)) ∧ (decode cX9_told 97 = .ok (.lconst 0, 1)) ∧ (decode cX9_told 98 = .ok (.lcmp, 1)) ∧ (decode cX9_told 99 = .ok (.ifCond .ne 6, 3)) := by decide +kernel
theorem dX9_told_87 : decode cX9_told 87 = .ok (.aload_n 0, 1) := eX9_told_87.1
theorem dX9_told_88 : decode cX9_told 88 = .ok (.iload 4, 2) := eX9_told_87.2.1
theorem dX9_told_90 : decode cX9_told 90 = .ok (.invokevirtual 214, 3) := eX9_told_87.2.2.1
theorem dX9_told_93 : decode cX9_told 93 = .ok (.lstore 7, 2) := eX9_told_87.2.2.2.1
theorem dX9_told_95 : decode cX9_told 95 = .ok (.lload 7, 2) := eX9_told_87.2.2.2.2.1
theorem dX9_told_97 : decode cX9_told 97 = .ok (.lconst 0, 1) := eX9_told_87.2.2.2.2.2.1
theorem dX9_told_98 : decode cX9_told 98 = .ok (.lcmp, 1) := eX9_told_87.2.2.2.2.2.2.1
theorem dX9_told_99 : decode cX9_told 99 = .ok (.ifCond .ne 6, 3) := eX9_told_87.2.2.2.2.2.2.2
theorem eX9_told_102 : (decode cX9_told 102 = .ok (.bipush (-2), 2)) ∧ (decode cX9_told 104 = .ok (.ireturn, 1)) ∧ (decode cX9_told 105 = .ok (.aload_n 0, 1)) ∧ (decode cX9_told 106 = .ok (.iload_n 1, 1)) ∧ (decode cX9_told 107 = .ok (.iload 4, 2)) ∧ (decode cX9_told 109 = .ok (.iload_n 2, 1)) ∧ (decode cX9_told 110 = .ok (.iload_n 3, 1)) ∧ (decode cX9_told 111 = .ok (.iload 4, 2)) := by decide +kernel
theorem dX9_told_102 : decode cX9_told 102 = .ok (.bipush (-2), 2) := eX9_told_102.1
theorem dX9_told_104 : decode cX9_told 104 = .ok (.ireturn, 1) := eX9_told_102.2.1
theorem dX9_told_105 : decode cX9_told 105 = .ok (.aload_n 0, 1) := eX9_told_102.2.2.1
theorem dX9_told_106 : decode cX9_told 106 = .ok (.iload_n 1, 1) := eX9_told_102.2.2.2.1
theorem dX9_told_107 : decode cX9_told 107 = .ok (.iload 4, 2) := eX9_told_102.2.2.2.2.1
theorem dX9_told_109 : decode cX9_told 109 = .ok (.iload_n 2, 1) := eX9_told_102.2.2.2.2.2.1
theorem dX9_told_110 : decode cX9_told 110 = .ok (.iload_n 3, 1) := eX9_told_102.2.2.2.2.2.2.1
theorem dX9_told_111 : decode cX9_told 111 = .ok (.iload 4, 2) := eX9_told_102.2.2.2.2.2.2.2
theorem eX9_told_113 : (decode cX9_told 113 = .ok (.iload 5, 2)) ∧ (decode cX9_told 115 = .ok (.invokevirtual 206, 3)) ∧ (decode cX9_told 118 = .ok (.aload_n 0, 1)) ∧ (decode cX9_told 119 = .ok (.aload_n 0, 1)) ∧ (decode cX9_told 120 = .ok (.iload 4, 2)) ∧ (decode cX9_told 122 = .ok (.invokevirtual 214, 3)) ∧ (decode cX9_told 125 = .ok (.lload 7, 2)) ∧ (decode cX9_told 127 = .ok (.invokevirtual 174, 3)) := by decide +kernel
theorem dX9_told_113 : decode cX9_told 113 = .ok (.iload 5, 2) := eX9_told_113.1
theorem dX9_told_115 : decode cX9_told 115 = .ok (.invokevirtual 206, 3) := eX9_told_113.2.1
theorem dX9_told_118 : decode cX9_told 118 = .ok (.aload_n 0, 1) := eX9_told_113.2.2.1
theorem dX9_told_119 : decode cX9_told 119 = .ok (.aload_n 0, 1) := eX9_told_113.2.2.2.1
theorem dX9_told_120 : decode cX9_told 120 = .ok (.iload 4, 2) := eX9_told_113.2.2.2.2.1
theorem dX9_told_122 : decode cX9_told 122 = .ok (.invokevirtual 214, 3) := eX9_told_113.2.2.2.2.2.1
theorem dX9_told_125 : decode cX9_told 125 = .ok (.lload 7, 2) := eX9_told_113.2.2.2.2.2.2.1
theorem dX9_told_127 : decode cX9_told 127 = .ok (.invokevirtual 174, 3) := eX9_told_113.2.2.2.2.2.2.2
theorem dX9_told_130 : decode cX9_told 130 = .ok (.ireturn, 1) := by decide +kernel
theorem eX9_sum_0 : (decode cX9_sum 0 = .ok (.lconst 0, 1)) ∧ (decode cX9_sum 1 = .ok (.lstore_n 2, 1)) ∧ (decode cX9_sum 2 = .ok (.iconst 0, 1)) ∧ (decode cX9_sum 3 = .ok (.istore 4, 2)) ∧ (decode cX9_sum 5 = .ok (.iload 4, 2)) ∧ (decode cX9_sum 7 = .ok (.sipush 2197, 3)) ∧ (decode cX9_sum 10 = .ok (.if_icmp .ge 23, 3)) ∧ (decode cX9_sum 13 = .ok (.lload_n 2, 1)) := by decide +kernel
theorem dX9_sum_0 : decode cX9_sum 0 = .ok (.lconst 0, 1) := eX9_sum_0.1
theorem dX9_sum_1 : decode cX9_sum 1 = .ok (.lstore_n 2, 1) := eX9_sum_0.2.1
theorem dX9_sum_2 : decode cX9_sum 2 = .ok (.iconst 0, 1) := eX9_sum_0.2.2.1
theorem dX9_sum_3 : decode cX9_sum 3 = .ok (.istore 4, 2) := eX9_sum_0.2.2.2.1
theorem dX9_sum_5 : decode cX9_sum 5 = .ok (.iload 4, 2) := eX9_sum_0.2.2.2.2.1
theorem dX9_sum_7 : decode cX9_sum 7 = .ok (.sipush 2197, 3) := eX9_sum_0.2.2.2.2.2.1
theorem dX9_sum_10 : decode cX9_sum 10 = .ok (.if_icmp .ge 23, 3) := eX9_sum_0.2.2.2.2.2.2.1
theorem dX9_sum_13 : decode cX9_sum 13 = .ok (.lload_n 2, 1) := eX9_sum_0.2.2.2.2.2.2.2
theorem eX9_sum_14 : (decode cX9_sum 14 = .ok (.aload_n 0, 1)) ∧ (decode cX9_sum 15 = .ok (.getfield 45, 3)) ∧ (decode cX9_sum 18 = .ok (.iload_n 1, 1)) ∧ (decode cX9_sum 19 = .ok (.iload 4, 2)) ∧ (decode cX9_sum 21 = .ok (.invokestatic 186, 3)) ∧ (decode cX9_sum 24 = .ok (.laload, 1)) ∧ (decode cX9_sum 25 = .ok (.ladd, 1)) ∧ (decode cX9_sum 26 = .ok (.lstore_n 2, 1)) := by decide +kernel
theorem dX9_sum_14 : decode cX9_sum 14 = .ok (.aload_n 0, 1) := eX9_sum_14.1
theorem dX9_sum_15 : decode cX9_sum 15 = .ok (.getfield 45, 3) := eX9_sum_14.2.1
theorem dX9_sum_18 : decode cX9_sum 18 = .ok (.iload_n 1, 1) := eX9_sum_14.2.2.1
theorem dX9_sum_19 : decode cX9_sum 19 = .ok (.iload 4, 2) := eX9_sum_14.2.2.2.1
theorem dX9_sum_21 : decode cX9_sum 21 = .ok (.invokestatic 186, 3) := eX9_sum_14.2.2.2.2.1
theorem dX9_sum_24 : decode cX9_sum 24 = .ok (.laload, 1) := eX9_sum_14.2.2.2.2.2.1
theorem dX9_sum_25 : decode cX9_sum 25 = .ok (.ladd, 1) := eX9_sum_14.2.2.2.2.2.2.1
theorem dX9_sum_26 : decode cX9_sum 26 = .ok (.lstore_n 2, 1) := eX9_sum_14.2.2.2.2.2.2.2
theorem eX9_sum_27 : (decode cX9_sum 27 = .ok (.iinc 4 1, 3)) ∧ (decode cX9_sum 30 = .ok (.goto (-25), 3)) ∧ (decode cX9_sum 33 = .ok (.lload_n 2, 1)) ∧ (decode cX9_sum 34 = .ok (.lreturn, 1)) := by decide +kernel
theorem dX9_sum_27 : decode cX9_sum 27 = .ok (.iinc 4 1, 3) := eX9_sum_27.1
theorem dX9_sum_30 : decode cX9_sum 30 = .ok (.goto (-25), 3) := eX9_sum_27.2.1
theorem dX9_sum_33 : decode cX9_sum 33 = .ok (.lload_n 2, 1) := eX9_sum_27.2.2.1
theorem dX9_sum_34 : decode cX9_sum 34 = .ok (.lreturn, 1) := eX9_sum_27.2.2.2
theorem eX9_share_0 : (decode cX9_share 0 = .ok (.aload_n 0, 1)) ∧ (decode cX9_share 1 = .ok (.iload_n 1, 1)) ∧ (decode cX9_share 2 = .ok (.invokevirtual 89, 3)) ∧ (decode cX9_share 5 = .ok (.ifCond .eq 24, 3)) ∧ (decode cX9_share 8 = .ok (.aload_n 0, 1)) ∧ (decode cX9_share 9 = .ok (.iload_n 1, 1)) ∧ (decode cX9_share 10 = .ok (.iload_n 2, 1)) ∧ (decode cX9_share 11 = .ok (.invokevirtual 92, 3)) := by decide +kernel
theorem dX9_share_0 : decode cX9_share 0 = .ok (.aload_n 0, 1) := eX9_share_0.1
theorem dX9_share_1 : decode cX9_share 1 = .ok (.iload_n 1, 1) := eX9_share_0.2.1
theorem dX9_share_2 : decode cX9_share 2 = .ok (.invokevirtual 89, 3) := eX9_share_0.2.2.1
theorem dX9_share_5 : decode cX9_share 5 = .ok (.ifCond .eq 24, 3) := eX9_share_0.2.2.2.1
theorem dX9_share_8 : decode cX9_share 8 = .ok (.aload_n 0, 1) := eX9_share_0.2.2.2.2.1
theorem dX9_share_9 : decode cX9_share 9 = .ok (.iload_n 1, 1) := eX9_share_0.2.2.2.2.2.1
theorem dX9_share_10 : decode cX9_share 10 = .ok (.iload_n 2, 1) := eX9_share_0.2.2.2.2.2.2.1
theorem dX9_share_11 : decode cX9_share 11 = .ok (.invokevirtual 92, 3) := eX9_share_0.2.2.2.2.2.2.2
theorem eX9_share_14 : (decode cX9_share 14 = .ok (.ifCond .eq 15, 3)) ∧ (decode cX9_share 17 = .ok (.iload_n 3, 1)) ∧ (decode cX9_share 18 = .ok (.i2l, 1)) ∧ (decode cX9_share 19 = .ok (.lconst 1, 1)) ∧ (decode cX9_share 20 = .ok (.ldc2_w 105, 3)) ∧ (decode cX9_share 23 = .ok (.invokestatic 62, 3)) ∧ (decode cX9_share 26 = .ok (.ifCond .ne 5, 3)) ∧ (decode cX9_share 29 = .ok (.iconst (-1), 1)) := by decide +kernel
theorem dX9_share_14 : decode cX9_share 14 = .ok (.ifCond .eq 15, 3) := eX9_share_14.1
theorem dX9_share_17 : decode cX9_share 17 = .ok (.iload_n 3, 1) := eX9_share_14.2.1
theorem dX9_share_18 : decode cX9_share 18 = .ok (.i2l, 1) := eX9_share_14.2.2.1
theorem dX9_share_19 : decode cX9_share 19 = .ok (.lconst 1, 1) := eX9_share_14.2.2.2.1
theorem dX9_share_20 : decode cX9_share 20 = .ok (.ldc2_w 105, 3) := eX9_share_14.2.2.2.2.1
theorem dX9_share_23 : decode cX9_share 23 = .ok (.invokestatic 62, 3) := eX9_share_14.2.2.2.2.2.1
theorem dX9_share_26 : decode cX9_share 26 = .ok (.ifCond .ne 5, 3) := eX9_share_14.2.2.2.2.2.2.1
theorem dX9_share_29 : decode cX9_share 29 = .ok (.iconst (-1), 1) := eX9_share_14.2.2.2.2.2.2.2
theorem eX9_share_30 : (decode cX9_share 30 = .ok (.ireturn, 1)) ∧ (decode cX9_share 31 = .ok (.aload_n 0, 1)) ∧ (decode cX9_share 32 = .ok (.iload_n 1, 1)) ∧ (decode cX9_share 33 = .ok (.iconst 0, 1)) ∧ (decode cX9_share 34 = .ok (.invokevirtual 107, 3)) ∧ (decode cX9_share 37 = .ok (.istore 4, 2)) ∧ (decode cX9_share 39 = .ok (.aload_n 0, 1)) ∧ (decode cX9_share 40 = .ok (.iload_n 1, 1)) := by decide +kernel
theorem dX9_share_30 : decode cX9_share 30 = .ok (.ireturn, 1) := eX9_share_30.1
theorem dX9_share_31 : decode cX9_share 31 = .ok (.aload_n 0, 1) := eX9_share_30.2.1
theorem dX9_share_32 : decode cX9_share 32 = .ok (.iload_n 1, 1) := eX9_share_30.2.2.1
theorem dX9_share_33 : decode cX9_share 33 = .ok (.iconst 0, 1) := eX9_share_30.2.2.2.1
theorem dX9_share_34 : decode cX9_share 34 = .ok (.invokevirtual 107, 3) := eX9_share_30.2.2.2.2.1
theorem dX9_share_37 : decode cX9_share 37 = .ok (.istore 4, 2) := eX9_share_30.2.2.2.2.2.1
theorem dX9_share_39 : decode cX9_share 39 = .ok (.aload_n 0, 1) := eX9_share_30.2.2.2.2.2.2.1
theorem dX9_share_40 : decode cX9_share 40 = .ok (.iload_n 1, 1) := eX9_share_30.2.2.2.2.2.2.2
theorem eX9_share_41 : (decode cX9_share 41 = .ok (.invokevirtual 117, 3)) ∧ (decode cX9_share 44 = .ok (.ifCond .eq 16, 3)) ∧ (decode cX9_share 47 = .ok (.iload 4, 2)) ∧ (decode cX9_share 49 = .ok (.ifCond .eq 11, 3)) ∧ (decode cX9_share 52 = .ok (.aload_n 0, 1)) ∧ (decode cX9_share 53 = .ok (.iload_n 1, 1)) ∧ (decode cX9_share 54 = .ok (.invokevirtual 113, 3)) ∧ (decode cX9_share 57 = .ok (.ifCond .ne 6, 3)) := by decide +kernel
theorem dX9_share_41 : decode cX9_share 41 = .ok (.invokevirtual 117, 3) := eX9_share_41.1
theorem dX9_share_44 : decode cX9_share 44 = .ok (.ifCond .eq 16, 3) := eX9_share_41.2.1
theorem dX9_share_47 : decode cX9_share 47 = .ok (.iload 4, 2) := eX9_share_41.2.2.1
theorem dX9_share_49 : decode cX9_share 49 = .ok (.ifCond .eq 11, 3) := eX9_share_41.2.2.2.1
theorem dX9_share_52 : decode cX9_share 52 = .ok (.aload_n 0, 1) := eX9_share_41.2.2.2.2.1
theorem dX9_share_53 : decode cX9_share 53 = .ok (.iload_n 1, 1) := eX9_share_41.2.2.2.2.2.1
theorem dX9_share_54 : decode cX9_share 54 = .ok (.invokevirtual 113, 3) := eX9_share_41.2.2.2.2.2.2.1
theorem dX9_share_57 : decode cX9_share 57 = .ok (.ifCond .ne 6, 3) := eX9_share_41.2.2.2.2.2.2.2
theorem eX9_share_60 : (decode cX9_share 60 = .ok (.bipush (-2), 2)) ∧ (decode cX9_share 62 = .ok (.ireturn, 1)) ∧ (decode cX9_share 63 = .ok (.lconst 1, 1)) ∧ (decode cX9_share 64 = .ok (.lstore 5, 2)) ∧ (decode cX9_share 66 = .ok (.lconst 1, 1)) ∧ (decode cX9_share 67 = .ok (.lstore 7, 2)) ∧ (decode cX9_share 69 = .ok (.iconst 0, 1)) ∧ (decode cX9_share 70 = .ok (.istore 9, 2)) := by decide +kernel
theorem dX9_share_60 : decode cX9_share 60 = .ok (.bipush (-2), 2) := eX9_share_60.1
theorem dX9_share_62 : decode cX9_share 62 = .ok (.ireturn, 1) := eX9_share_60.2.1
theorem dX9_share_63 : decode cX9_share 63 = .ok (.lconst 1, 1) := eX9_share_60.2.2.1
theorem dX9_share_64 : decode cX9_share 64 = .ok (.lstore 5, 2) := eX9_share_60.2.2.2.1
theorem dX9_share_66 : decode cX9_share 66 = .ok (.lconst 1, 1) := eX9_share_60.2.2.2.2.1
theorem dX9_share_67 : decode cX9_share 67 = .ok (.lstore 7, 2) := eX9_share_60.2.2.2.2.2.1
theorem dX9_share_69 : decode cX9_share 69 = .ok (.iconst 0, 1) := eX9_share_60.2.2.2.2.2.2.1
theorem dX9_share_70 : decode cX9_share 70 = .ok (.istore 9, 2) := eX9_share_60.2.2.2.2.2.2.2
theorem eX9_share_72 : (decode cX9_share 72 = .ok (.iload 9, 2)) ∧ (decode cX9_share 74 = .ok (.iload_n 3, 1)) ∧ (decode cX9_share 75 = .ok (.if_icmp .ge 49, 3)) ∧ (decode cX9_share 78 = .ok (.lload 5, 2)) ∧ (decode cX9_share 80 = .ok (.aload_n 0, 1)) ∧ (decode cX9_share 81 = .ok (.getfield 26, 3)) ∧ (decode cX9_share 84 = .ok (.bipush 25, 2)) ∧ (decode cX9_share 86 = .ok (.iload_n 1, 1)) := by decide +kernel
theorem dX9_share_72 : decode cX9_share 72 = .ok (.iload 9, 2) := eX9_share_72.1
theorem dX9_share_74 : decode cX9_share 74 = .ok (.iload_n 3, 1) := eX9_share_72.2.1
theorem dX9_share_75 : decode cX9_share 75 = .ok (.if_icmp .ge 49, 3) := eX9_share_72.2.2.1
theorem dX9_share_78 : decode cX9_share 78 = .ok (.lload 5, 2) := eX9_share_72.2.2.2.1
theorem dX9_share_80 : decode cX9_share 80 = .ok (.aload_n 0, 1) := eX9_share_72.2.2.2.2.1
theorem dX9_share_81 : decode cX9_share 81 = .ok (.getfield 26, 3) := eX9_share_72.2.2.2.2.2.1
theorem dX9_share_84 : decode cX9_share 84 = .ok (.bipush 25, 2) := eX9_share_72.2.2.2.2.2.2.1
theorem dX9_share_86 : decode cX9_share 86 = .ok (.iload_n 1, 1) := eX9_share_72.2.2.2.2.2.2.2
theorem eX9_share_87 : (decode cX9_share 87 = .ok (.imul, 1)) ∧ (decode cX9_share 88 = .ok (.iload_n 2, 1)) ∧ (decode cX9_share 89 = .ok (.iadd, 1)) ∧ (decode cX9_share 90 = .ok (.iaload, 1)) ∧ (decode cX9_share 91 = .ok (.iload 9, 2)) ∧ (decode cX9_share 93 = .ok (.iload 4, 2)) ∧ (decode cX9_share 95 = .ok (.imul, 1)) ∧ (decode cX9_share 96 = .ok (.iadd, 1)) := by decide +kernel
theorem dX9_share_87 : decode cX9_share 87 = .ok (.imul, 1) := eX9_share_87.1
theorem dX9_share_88 : decode cX9_share 88 = .ok (.iload_n 2, 1) := eX9_share_87.2.1
theorem dX9_share_89 : decode cX9_share 89 = .ok (.iadd, 1) := eX9_share_87.2.2.1
theorem dX9_share_90 : decode cX9_share 90 = .ok (.iaload, 1) := eX9_share_87.2.2.2.1
theorem dX9_share_91 : decode cX9_share 91 = .ok (.iload 9, 2) := eX9_share_87.2.2.2.2.1
theorem dX9_share_93 : decode cX9_share 93 = .ok (.iload 4, 2) := eX9_share_87.2.2.2.2.2.1
theorem dX9_share_95 : decode cX9_share 95 = .ok (.imul, 1) := eX9_share_87.2.2.2.2.2.2.1
theorem dX9_share_96 : decode cX9_share 96 = .ok (.iadd, 1) := eX9_share_87.2.2.2.2.2.2.2
theorem eX9_share_97 : (decode cX9_share 97 = .ok (.i2l, 1)) ∧ (decode cX9_share 98 = .ok (.lmul, 1)) ∧ (decode cX9_share 99 = .ok (.lstore 5, 2)) ∧ (decode cX9_share 101 = .ok (.lload 7, 2)) ∧ (decode cX9_share 103 = .ok (.aload_n 0, 1)) ∧ (decode cX9_share 104 = .ok (.iload_n 1, 1)) ∧ (decode cX9_share 105 = .ok (.invokevirtual 113, 3)) ∧ (decode cX9_share 108 = .ok (.iload 9, 2)) := by decide +kernel
theorem dX9_share_97 : decode cX9_share 97 = .ok (.i2l, 1) := eX9_share_97.1
theorem dX9_share_98 : decode cX9_share 98 = .ok (.lmul, 1) := eX9_share_97.2.1
theorem dX9_share_99 : decode cX9_share 99 = .ok (.lstore 5, 2) := eX9_share_97.2.2.1
theorem dX9_share_101 : decode cX9_share 101 = .ok (.lload 7, 2) := eX9_share_97.2.2.2.1
theorem dX9_share_103 : decode cX9_share 103 = .ok (.aload_n 0, 1) := eX9_share_97.2.2.2.2.1
theorem dX9_share_104 : decode cX9_share 104 = .ok (.iload_n 1, 1) := eX9_share_97.2.2.2.2.2.1
theorem dX9_share_105 : decode cX9_share 105 = .ok (.invokevirtual 113, 3) := eX9_share_97.2.2.2.2.2.2.1
theorem dX9_share_108 : decode cX9_share 108 = .ok (.iload 9, 2) := eX9_share_97.2.2.2.2.2.2.2
theorem eX9_share_110 : (decode cX9_share 110 = .ok (.iload 4, 2)) ∧ (decode cX9_share 112 = .ok (.imul, 1)) ∧ (decode cX9_share 113 = .ok (.iadd, 1)) ∧ (decode cX9_share 114 = .ok (.i2l, 1)) ∧ (decode cX9_share 115 = .ok (.lmul, 1)) ∧ (decode cX9_share 116 = .ok (.lstore 7, 2)) ∧ (decode cX9_share 118 = .ok (.iinc 9 1, 3)) ∧ (decode cX9_share 121 = .ok (.goto (-49), 3)) := by decide +kernel
theorem dX9_share_110 : decode cX9_share 110 = .ok (.iload 4, 2) := eX9_share_110.1
theorem dX9_share_112 : decode cX9_share 112 = .ok (.imul, 1) := eX9_share_110.2.1
theorem dX9_share_113 : decode cX9_share 113 = .ok (.iadd, 1) := eX9_share_110.2.2.1
theorem dX9_share_114 : decode cX9_share 114 = .ok (.i2l, 1) := eX9_share_110.2.2.2.1
theorem dX9_share_115 : decode cX9_share 115 = .ok (.lmul, 1) := eX9_share_110.2.2.2.2.1
theorem dX9_share_116 : decode cX9_share 116 = .ok (.lstore 7, 2) := eX9_share_110.2.2.2.2.2.1
theorem dX9_share_118 : decode cX9_share 118 = .ok (.iinc 9 1, 3) := eX9_share_110.2.2.2.2.2.2.1
theorem dX9_share_121 : decode cX9_share 121 = .ok (.goto (-49), 3) := eX9_share_110.2.2.2.2.2.2.2
theorem eX9_share_124 : (decode cX9_share 124 = .ok (.aload_n 0, 1)) ∧ (decode cX9_share 125 = .ok (.lload 5, 2)) ∧ (decode cX9_share 127 = .ok (.lload 7, 2)) ∧ (decode cX9_share 129 = .ok (.invokevirtual 174, 3)) ∧ (decode cX9_share 132 = .ok (.ireturn, 1)) := by decide +kernel
theorem dX9_share_124 : decode cX9_share 124 = .ok (.aload_n 0, 1) := eX9_share_124.1
theorem dX9_share_125 : decode cX9_share 125 = .ok (.lload 5, 2) := eX9_share_124.2.1
theorem dX9_share_127 : decode cX9_share 127 = .ok (.lload 7, 2) := eX9_share_124.2.2.1
theorem dX9_share_129 : decode cX9_share 129 = .ok (.invokevirtual 174, 3) := eX9_share_124.2.2.2.1
theorem dX9_share_132 : decode cX9_share 132 = .ok (.ireturn, 1) := eX9_share_124.2.2.2.2
theorem eX9_free_0 : (decode cX9_free 0 = .ok (.aload_n 0, 1)) ∧ (decode cX9_free 1 = .ok (.iload_n 1, 1)) ∧ (decode cX9_free 2 = .ok (.invokevirtual 89, 3)) ∧ (decode cX9_free 5 = .ok (.ifCond .eq 15, 3)) ∧ (decode cX9_free 8 = .ok (.iload_n 2, 1)) ∧ (decode cX9_free 9 = .ok (.i2l, 1)) ∧ (decode cX9_free 10 = .ok (.lconst 1, 1)) ∧ (decode cX9_free 11 = .ok (.ldc2_w 60, 3)) := by decide +kernel
theorem dX9_free_0 : decode cX9_free 0 = .ok (.aload_n 0, 1) := eX9_free_0.1
theorem dX9_free_1 : decode cX9_free 1 = .ok (.iload_n 1, 1) := eX9_free_0.2.1
theorem dX9_free_2 : decode cX9_free 2 = .ok (.invokevirtual 89, 3) := eX9_free_0.2.2.1
theorem dX9_free_5 : decode cX9_free 5 = .ok (.ifCond .eq 15, 3) := eX9_free_0.2.2.2.1
theorem dX9_free_8 : decode cX9_free 8 = .ok (.iload_n 2, 1) := eX9_free_0.2.2.2.2.1
theorem dX9_free_9 : decode cX9_free 9 = .ok (.i2l, 1) := eX9_free_0.2.2.2.2.2.1
theorem dX9_free_10 : decode cX9_free 10 = .ok (.lconst 1, 1) := eX9_free_0.2.2.2.2.2.2.1
theorem dX9_free_11 : decode cX9_free 11 = .ok (.ldc2_w 60, 3) := eX9_free_0.2.2.2.2.2.2.2
theorem eX9_free_14 : (decode cX9_free 14 = .ok (.invokestatic 62, 3)) ∧ (decode cX9_free 17 = .ok (.ifCond .ne 5, 3)) ∧ (decode cX9_free 20 = .ok (.iconst (-1), 1)) ∧ (decode cX9_free 21 = .ok (.ireturn, 1)) ∧ (decode cX9_free 22 = .ok (.aload_n 0, 1)) ∧ (decode cX9_free 23 = .ok (.iload_n 1, 1)) ∧ (decode cX9_free 24 = .ok (.invokevirtual 113, 3)) ∧ (decode cX9_free 27 = .ok (.ifCond .ne 6, 3)) := by decide +kernel
theorem dX9_free_14 : decode cX9_free 14 = .ok (.invokestatic 62, 3) := eX9_free_14.1
theorem dX9_free_17 : decode cX9_free 17 = .ok (.ifCond .ne 5, 3) := eX9_free_14.2.1
theorem dX9_free_20 : decode cX9_free 20 = .ok (.iconst (-1), 1) := eX9_free_14.2.2.1
theorem dX9_free_21 : decode cX9_free 21 = .ok (.ireturn, 1) := eX9_free_14.2.2.2.1
theorem dX9_free_22 : decode cX9_free 22 = .ok (.aload_n 0, 1) := eX9_free_14.2.2.2.2.1
theorem dX9_free_23 : decode cX9_free 23 = .ok (.iload_n 1, 1) := eX9_free_14.2.2.2.2.2.1
theorem dX9_free_24 : decode cX9_free 24 = .ok (.invokevirtual 113, 3) := eX9_free_14.2.2.2.2.2.2.1
theorem dX9_free_27 : decode cX9_free 27 = .ok (.ifCond .ne 6, 3) := eX9_free_14.2.2.2.2.2.2.2
theorem eX9_free_30 : (decode cX9_free 30 = .ok (.bipush (-2), 2)) ∧ (decode cX9_free 32 = .ok (.ireturn, 1)) ∧ (decode cX9_free 33 = .ok (.iconst 0, 1)) ∧ (decode cX9_free 34 = .ok (.istore_n 3, 1)) ∧ (decode cX9_free 35 = .ok (.iload_n 3, 1)) ∧ (decode cX9_free 36 = .ok (.sipush 216, 3)) ∧ (decode cX9_free 39 = .ok (.if_icmp .ge 16, 3)) ∧ (decode cX9_free 42 = .ok (.aload_n 0, 1)) := by decide +kernel
theorem dX9_free_30 : decode cX9_free 30 = .ok (.bipush (-2), 2) := eX9_free_30.1
theorem dX9_free_32 : decode cX9_free 32 = .ok (.ireturn, 1) := eX9_free_30.2.1
theorem dX9_free_33 : decode cX9_free 33 = .ok (.iconst 0, 1) := eX9_free_30.2.2.1
theorem dX9_free_34 : decode cX9_free 34 = .ok (.istore_n 3, 1) := eX9_free_30.2.2.2.1
theorem dX9_free_35 : decode cX9_free 35 = .ok (.iload_n 3, 1) := eX9_free_30.2.2.2.2.1
theorem dX9_free_36 : decode cX9_free 36 = .ok (.sipush 216, 3) := eX9_free_30.2.2.2.2.2.1
theorem dX9_free_39 : decode cX9_free 39 = .ok (.if_icmp .ge 16, 3) := eX9_free_30.2.2.2.2.2.2.1
theorem dX9_free_42 : decode cX9_free 42 = .ok (.aload_n 0, 1) := eX9_free_30.2.2.2.2.2.2.2
theorem eX9_free_43 : (decode cX9_free 43 = .ok (.getfield 57, 3)) ∧ (decode cX9_free 46 = .ok (.iload_n 3, 1)) ∧ (decode cX9_free 47 = .ok (.lconst 0, 1)) ∧ (decode cX9_free 48 = .ok (.lastore, 1)) ∧ (decode cX9_free 49 = .ok (.iinc 3 1, 3)) ∧ (decode cX9_free 52 = .ok (.goto (-17), 3)) ∧ (decode cX9_free 55 = .ok (.iconst 1, 1)) ∧ (decode cX9_free 56 = .ok (.istore_n 3, 1)) := by decide +kernel
theorem dX9_free_43 : decode cX9_free 43 = .ok (.getfield 57, 3) := eX9_free_43.1
theorem dX9_free_46 : decode cX9_free 46 = .ok (.iload_n 3, 1) := eX9_free_43.2.1
theorem dX9_free_47 : decode cX9_free 47 = .ok (.lconst 0, 1) := eX9_free_43.2.2.1
theorem dX9_free_48 : decode cX9_free 48 = .ok (.lastore, 1) := eX9_free_43.2.2.2.1
theorem dX9_free_49 : decode cX9_free 49 = .ok (.iinc 3 1, 3) := eX9_free_43.2.2.2.2.1
theorem dX9_free_52 : decode cX9_free 52 = .ok (.goto (-17), 3) := eX9_free_43.2.2.2.2.2.1
theorem dX9_free_55 : decode cX9_free 55 = .ok (.iconst 1, 1) := eX9_free_43.2.2.2.2.2.2.1
theorem dX9_free_56 : decode cX9_free 56 = .ok (.istore_n 3, 1) := eX9_free_43.2.2.2.2.2.2.2
theorem eX9_free_57 : (decode cX9_free 57 = .ok (.iconst 0, 1)) ∧ (decode cX9_free 58 = .ok (.istore 4, 2)) ∧ (decode cX9_free 60 = .ok (.iload 4, 2)) ∧ (decode cX9_free 62 = .ok (.iconst 1, 1)) ∧ (decode cX9_free 63 = .ok (.iconst 2, 1)) ∧ (decode cX9_free 64 = .ok (.iload_n 2, 1)) ∧ (decode cX9_free 65 = .ok (.imul, 1)) ∧ (decode cX9_free 66 = .ok (.ishl, 1)) := by decide +kernel
theorem dX9_free_57 : decode cX9_free 57 = .ok (.iconst 0, 1) := eX9_free_57.1
theorem dX9_free_58 : decode cX9_free 58 = .ok (.istore 4, 2) := eX9_free_57.2.1
theorem dX9_free_60 : decode cX9_free 60 = .ok (.iload 4, 2) := eX9_free_57.2.2.1
theorem dX9_free_62 : decode cX9_free 62 = .ok (.iconst 1, 1) := eX9_free_57.2.2.2.1
theorem dX9_free_63 : decode cX9_free 63 = .ok (.iconst 2, 1) := eX9_free_57.2.2.2.2.1
theorem dX9_free_64 : decode cX9_free 64 = .ok (.iload_n 2, 1) := eX9_free_57.2.2.2.2.2.1
theorem dX9_free_65 : decode cX9_free 65 = .ok (.imul, 1) := eX9_free_57.2.2.2.2.2.2.1
theorem dX9_free_66 : decode cX9_free 66 = .ok (.ishl, 1) := eX9_free_57.2.2.2.2.2.2.2
theorem eX9_free_67 : (decode cX9_free 67 = .ok (.if_icmp .ge 190, 3)) ∧ (decode cX9_free 70 = .ok (.iconst 1, 1)) ∧ (decode cX9_free 71 = .ok (.istore 5, 2)) ∧ (decode cX9_free 73 = .ok (.iconst 0, 1)) ∧ (decode cX9_free 74 = .ok (.istore 6, 2)) ∧ (decode cX9_free 76 = .ok (.iconst 0, 1)) ∧ (decode cX9_free 77 = .ok (.istore 7, 2)) ∧ (decode cX9_free 79 = .ok (.iload 7, 2)) := by decide +kernel
theorem dX9_free_67 : decode cX9_free 67 = .ok (.if_icmp .ge 190, 3) := eX9_free_67.1
theorem dX9_free_70 : decode cX9_free 70 = .ok (.iconst 1, 1) := eX9_free_67.2.1
theorem dX9_free_71 : decode cX9_free 71 = .ok (.istore 5, 2) := eX9_free_67.2.2.1
theorem dX9_free_73 : decode cX9_free 73 = .ok (.iconst 0, 1) := eX9_free_67.2.2.2.1
theorem dX9_free_74 : decode cX9_free 74 = .ok (.istore 6, 2) := eX9_free_67.2.2.2.2.1
theorem dX9_free_76 : decode cX9_free 76 = .ok (.iconst 0, 1) := eX9_free_67.2.2.2.2.2.1
theorem dX9_free_77 : decode cX9_free 77 = .ok (.istore 7, 2) := eX9_free_67.2.2.2.2.2.2.1
theorem dX9_free_79 : decode cX9_free 79 = .ok (.iload 7, 2) := eX9_free_67.2.2.2.2.2.2.2
theorem eX9_free_81 : (decode cX9_free 81 = .ok (.iload_n 2, 1)) ∧ (decode cX9_free 82 = .ok (.if_icmp .ge 80, 3)) ∧ (decode cX9_free 85 = .ok (.iload 4, 2)) ∧ (decode cX9_free 87 = .ok (.iconst 2, 1)) ∧ (decode cX9_free 88 = .ok (.iload 7, 2)) ∧ (decode cX9_free 90 = .ok (.imul, 1)) ∧ (decode cX9_free 91 = .ok (.ishr, 1)) ∧ (decode cX9_free 92 = .ok (.iconst 3, 1)) := by decide +kernel
theorem dX9_free_81 : decode cX9_free 81 = .ok (.iload_n 2, 1) := eX9_free_81.1
theorem dX9_free_82 : decode cX9_free 82 = .ok (.if_icmp .ge 80, 3) := eX9_free_81.2.1
theorem dX9_free_85 : decode cX9_free 85 = .ok (.iload 4, 2) := eX9_free_81.2.2.1
theorem dX9_free_87 : decode cX9_free 87 = .ok (.iconst 2, 1) := eX9_free_81.2.2.2.1
theorem dX9_free_88 : decode cX9_free 88 = .ok (.iload 7, 2) := eX9_free_81.2.2.2.2.1
theorem dX9_free_90 : decode cX9_free 90 = .ok (.imul, 1) := eX9_free_81.2.2.2.2.2.1
theorem dX9_free_91 : decode cX9_free 91 = .ok (.ishr, 1) := eX9_free_81.2.2.2.2.2.2.1
theorem dX9_free_92 : decode cX9_free 92 = .ok (.iconst 3, 1) := eX9_free_81.2.2.2.2.2.2.2
theorem eX9_free_93 : (decode cX9_free 93 = .ok (.iand, 1)) ∧ (decode cX9_free 94 = .ok (.istore 8, 2)) ∧ (decode cX9_free 96 = .ok (.iload 5, 2)) ∧ (decode cX9_free 98 = .ok (.ifCond .eq 18, 3)) ∧ (decode cX9_free 101 = .ok (.iload 8, 2)) ∧ (decode cX9_free 103 = .ok (.aload_n 0, 1)) ∧ (decode cX9_free 104 = .ok (.getfield 23, 3)) ∧ (decode cX9_free 107 = .ok (.iload_n 1, 1)) := by decide +kernel
theorem dX9_free_93 : decode cX9_free 93 = .ok (.iand, 1) := eX9_free_93.1
theorem dX9_free_94 : decode cX9_free 94 = .ok (.istore 8, 2) := eX9_free_93.2.1
theorem dX9_free_96 : decode cX9_free 96 = .ok (.iload 5, 2) := eX9_free_93.2.2.1
theorem dX9_free_98 : decode cX9_free 98 = .ok (.ifCond .eq 18, 3) := eX9_free_93.2.2.2.1
theorem dX9_free_101 : decode cX9_free 101 = .ok (.iload 8, 2) := eX9_free_93.2.2.2.2.1
theorem dX9_free_103 : decode cX9_free 103 = .ok (.aload_n 0, 1) := eX9_free_93.2.2.2.2.2.1
theorem dX9_free_104 : decode cX9_free 104 = .ok (.getfield 23, 3) := eX9_free_93.2.2.2.2.2.2.1
theorem dX9_free_107 : decode cX9_free 107 = .ok (.iload_n 1, 1) := eX9_free_93.2.2.2.2.2.2.2
theorem eX9_free_108 : (decode cX9_free 108 = .ok (.iaload, 1)) ∧ (decode cX9_free 109 = .ok (.if_icmp .ge 7, 3)) ∧ (decode cX9_free 112 = .ok (.iconst 1, 1)) ∧ (decode cX9_free 113 = .ok (.goto 4, 3)) ∧ (decode cX9_free 116 = .ok (.iconst 0, 1)) ∧ (decode cX9_free 117 = .ok (.istore 5, 2)) ∧ (decode cX9_free 119 = .ok (.iload 6, 2)) ∧ (decode cX9_free 121 = .ok (.iload 8, 2)) := by decide +kernel
theorem dX9_free_108 : decode cX9_free 108 = .ok (.iaload, 1) := eX9_free_108.1
theorem dX9_free_109 : decode cX9_free 109 = .ok (.if_icmp .ge 7, 3) := eX9_free_108.2.1
theorem dX9_free_112 : decode cX9_free 112 = .ok (.iconst 1, 1) := eX9_free_108.2.2.1
theorem dX9_free_113 : decode cX9_free 113 = .ok (.goto 4, 3) := eX9_free_108.2.2.2.1
theorem dX9_free_116 : decode cX9_free 116 = .ok (.iconst 0, 1) := eX9_free_108.2.2.2.2.1
theorem dX9_free_117 : decode cX9_free 117 = .ok (.istore 5, 2) := eX9_free_108.2.2.2.2.2.1
theorem dX9_free_119 : decode cX9_free 119 = .ok (.iload 6, 2) := eX9_free_108.2.2.2.2.2.2.1
theorem dX9_free_121 : decode cX9_free 121 = .ok (.iload 8, 2) := eX9_free_108.2.2.2.2.2.2.2
theorem eX9_free_123 : (decode cX9_free 123 = .ok (.ifCond .ne 7, 3)) ∧ (decode cX9_free 126 = .ok (.iconst 1, 1)) ∧ (decode cX9_free 127 = .ok (.goto 26, 3)) ∧ (decode cX9_free 130 = .ok (.iload 8, 2)) ∧ (decode cX9_free 132 = .ok (.iconst 1, 1)) ∧ (decode cX9_free 133 = .ok (.if_icmp .ne 8, 3)) ∧ (decode cX9_free 136 = .ok (.bipush 6, 2)) ∧ (decode cX9_free 138 = .ok (.goto 15, 3)) := by decide +kernel
theorem dX9_free_123 : decode cX9_free 123 = .ok (.ifCond .ne 7, 3) := eX9_free_123.1
theorem dX9_free_126 : decode cX9_free 126 = .ok (.iconst 1, 1) := eX9_free_123.2.1
theorem dX9_free_127 : decode cX9_free 127 = .ok (.goto 26, 3) := eX9_free_123.2.2.1
theorem dX9_free_130 : decode cX9_free 130 = .ok (.iload 8, 2) := eX9_free_123.2.2.2.1
theorem dX9_free_132 : decode cX9_free 132 = .ok (.iconst 1, 1) := eX9_free_123.2.2.2.2.1
theorem dX9_free_133 : decode cX9_free 133 = .ok (.if_icmp .ne 8, 3) := eX9_free_123.2.2.2.2.2.1
theorem dX9_free_136 : decode cX9_free 136 = .ok (.bipush 6, 2) := eX9_free_123.2.2.2.2.2.2.1
theorem dX9_free_138 : decode cX9_free 138 = .ok (.goto 15, 3) := eX9_free_123.2.2.2.2.2.2.2
theorem eX9_free_141 : (decode cX9_free 141 = .ok (.iload 8, 2)) ∧ (decode cX9_free 143 = .ok (.iconst 2, 1)) ∧ (decode cX9_free 144 = .ok (.if_icmp .ne 8, 3)) ∧ (decode cX9_free 147 = .ok (.bipush 36, 2)) ∧ (decode cX9_free 149 = .ok (.goto 4, 3)) ∧ (decode cX9_free 152 = .ok (.iconst 0, 1)) ∧ (decode cX9_free 153 = .ok (.iadd, 1)) ∧ (decode cX9_free 154 = .ok (.istore 6, 2)) := by decide +kernel
theorem dX9_free_141 : decode cX9_free 141 = .ok (.iload 8, 2) := eX9_free_141.1
theorem dX9_free_143 : decode cX9_free 143 = .ok (.iconst 2, 1) := eX9_free_141.2.1
theorem dX9_free_144 : decode cX9_free 144 = .ok (.if_icmp .ne 8, 3) := eX9_free_141.2.2.1
theorem dX9_free_147 : decode cX9_free 147 = .ok (.bipush 36, 2) := eX9_free_141.2.2.2.1
theorem dX9_free_149 : decode cX9_free 149 = .ok (.goto 4, 3) := eX9_free_141.2.2.2.2.1
theorem dX9_free_152 : decode cX9_free 152 = .ok (.iconst 0, 1) := eX9_free_141.2.2.2.2.2.1
theorem dX9_free_153 : decode cX9_free 153 = .ok (.iadd, 1) := eX9_free_141.2.2.2.2.2.2.1
theorem dX9_free_154 : decode cX9_free 154 = .ok (.istore 6, 2) := eX9_free_141.2.2.2.2.2.2.2
theorem eX9_free_156 : (decode cX9_free 156 = .ok (.iinc 7 1, 3)) ∧ (decode cX9_free 159 = .ok (.goto (-80), 3)) ∧ (decode cX9_free 162 = .ok (.iload 5, 2)) ∧ (decode cX9_free 164 = .ok (.ifCond .eq 87, 3)) ∧ (decode cX9_free 167 = .ok (.aload_n 0, 1)) ∧ (decode cX9_free 168 = .ok (.iload_n 1, 1)) ∧ (decode cX9_free 169 = .ok (.iload_n 2, 1)) ∧ (decode cX9_free 170 = .ok (.iload 4, 2)) := by decide +kernel
theorem dX9_free_156 : decode cX9_free 156 = .ok (.iinc 7 1, 3) := eX9_free_156.1
theorem dX9_free_159 : decode cX9_free 159 = .ok (.goto (-80), 3) := eX9_free_156.2.1
theorem dX9_free_162 : decode cX9_free 162 = .ok (.iload 5, 2) := eX9_free_156.2.2.1
theorem dX9_free_164 : decode cX9_free 164 = .ok (.ifCond .eq 87, 3) := eX9_free_156.2.2.2.1
theorem dX9_free_167 : decode cX9_free 167 = .ok (.aload_n 0, 1) := eX9_free_156.2.2.2.2.1
theorem dX9_free_168 : decode cX9_free 168 = .ok (.iload_n 1, 1) := eX9_free_156.2.2.2.2.2.1
theorem dX9_free_169 : decode cX9_free 169 = .ok (.iload_n 2, 1) := eX9_free_156.2.2.2.2.2.2.1
theorem dX9_free_170 : decode cX9_free 170 = .ok (.iload 4, 2) := eX9_free_156.2.2.2.2.2.2.2
theorem eX9_free_172 : (decode cX9_free 172 = .ok (.invokevirtual 170, 3)) ∧ (decode cX9_free 175 = .ok (.istore 7, 2)) ∧ (decode cX9_free 177 = .ok (.aload_n 0, 1)) ∧ (decode cX9_free 178 = .ok (.getfield 57, 3)) ∧ (decode cX9_free 181 = .ok (.iload 6, 2)) ∧ (decode cX9_free 183 = .ok (.laload, 1)) ∧ (decode cX9_free 184 = .ok (.lconst 0, 1)) ∧ (decode cX9_free 185 = .ok (.lcmp, 1)) := by decide +kernel
theorem dX9_free_172 : decode cX9_free 172 = .ok (.invokevirtual 170, 3) := eX9_free_172.1
theorem dX9_free_175 : decode cX9_free 175 = .ok (.istore 7, 2) := eX9_free_172.2.1
theorem dX9_free_177 : decode cX9_free 177 = .ok (.aload_n 0, 1) := eX9_free_172.2.2.1
theorem dX9_free_178 : decode cX9_free 178 = .ok (.getfield 57, 3) := eX9_free_172.2.2.2.1
theorem dX9_free_181 : decode cX9_free 181 = .ok (.iload 6, 2) := eX9_free_172.2.2.2.2.1
theorem dX9_free_183 : decode cX9_free 183 = .ok (.laload, 1) := eX9_free_172.2.2.2.2.2.1
theorem dX9_free_184 : decode cX9_free 184 = .ok (.lconst 0, 1) := eX9_free_172.2.2.2.2.2.2.1
theorem dX9_free_185 : decode cX9_free 185 = .ok (.lcmp, 1) := eX9_free_172.2.2.2.2.2.2.2
theorem eX9_free_186 : (decode cX9_free 186 = .ok (.ifCond .ne 25, 3)) ∧ (decode cX9_free 189 = .ok (.aload_n 0, 1)) ∧ (decode cX9_free 190 = .ok (.getfield 54, 3)) ∧ (decode cX9_free 193 = .ok (.iload 6, 2)) ∧ (decode cX9_free 195 = .ok (.aload_n 0, 1)) ∧ (decode cX9_free 196 = .ok (.getfield 160, 3)) ∧ (decode cX9_free 199 = .ok (.lastore, 1)) ∧ (decode cX9_free 200 = .ok (.aload_n 0, 1)) := by decide +kernel
theorem dX9_free_186 : decode cX9_free 186 = .ok (.ifCond .ne 25, 3) := eX9_free_186.1
theorem dX9_free_189 : decode cX9_free 189 = .ok (.aload_n 0, 1) := eX9_free_186.2.1
theorem dX9_free_190 : decode cX9_free 190 = .ok (.getfield 54, 3) := eX9_free_186.2.2.1
theorem dX9_free_193 : decode cX9_free 193 = .ok (.iload 6, 2) := eX9_free_186.2.2.2.1
theorem dX9_free_195 : decode cX9_free 195 = .ok (.aload_n 0, 1) := eX9_free_186.2.2.2.2.1
theorem dX9_free_196 : decode cX9_free 196 = .ok (.getfield 160, 3) := eX9_free_186.2.2.2.2.2.1
theorem dX9_free_199 : decode cX9_free 199 = .ok (.lastore, 1) := eX9_free_186.2.2.2.2.2.2.1
theorem dX9_free_200 : decode cX9_free 200 = .ok (.aload_n 0, 1) := eX9_free_186.2.2.2.2.2.2.2
theorem eX9_free_201 : (decode cX9_free 201 = .ok (.getfield 57, 3)) ∧ (decode cX9_free 204 = .ok (.iload 6, 2)) ∧ (decode cX9_free 206 = .ok (.aload_n 0, 1)) ∧ (decode cX9_free 207 = .ok (.getfield 163, 3)) ∧ (decode cX9_free 210 = .ok (.lastore, 1)) ∧ (decode cX9_free 211 = .ok (.iload_n 3, 1)) ∧ (decode cX9_free 212 = .ok (.ifCond .eq 37, 3)) ∧ (decode cX9_free 215 = .ok (.aload_n 0, 1)) := by decide +kernel
theorem dX9_free_201 : decode cX9_free 201 = .ok (.getfield 57, 3) := eX9_free_201.1
theorem dX9_free_204 : decode cX9_free 204 = .ok (.iload 6, 2) := eX9_free_201.2.1
theorem dX9_free_206 : decode cX9_free 206 = .ok (.aload_n 0, 1) := eX9_free_201.2.2.1
theorem dX9_free_207 : decode cX9_free 207 = .ok (.getfield 163, 3) := eX9_free_201.2.2.2.1
theorem dX9_free_210 : decode cX9_free 210 = .ok (.lastore, 1) := eX9_free_201.2.2.2.2.1
theorem dX9_free_211 : decode cX9_free 211 = .ok (.iload_n 3, 1) := eX9_free_201.2.2.2.2.2.1
theorem dX9_free_212 : decode cX9_free 212 = .ok (.ifCond .eq 37, 3) := eX9_free_201.2.2.2.2.2.2.1
theorem dX9_free_215 : decode cX9_free 215 = .ok (.aload_n 0, 1) := eX9_free_201.2.2.2.2.2.2.2
theorem eX9_free_216 : (decode cX9_free 216 = .ok (.getfield 54, 3)) ∧ (decode cX9_free 219 = .ok (.iload 6, 2)) ∧ (decode cX9_free 221 = .ok (.laload, 1)) ∧ (decode cX9_free 222 = .ok (.aload_n 0, 1)) ∧ (decode cX9_free 223 = .ok (.getfield 160, 3)) ∧ (decode cX9_free 226 = .ok (.lcmp, 1)) ∧ (decode cX9_free 227 = .ok (.ifCond .ne 22, 3)) ∧ (decode cX9_free 230 = .ok (.aload_n 0, 1)) := by decide +kernel
theorem dX9_free_216 : decode cX9_free 216 = .ok (.getfield 54, 3) := eX9_free_216.1
theorem dX9_free_219 : decode cX9_free 219 = .ok (.iload 6, 2) := eX9_free_216.2.1
theorem dX9_free_221 : decode cX9_free 221 = .ok (.laload, 1) := eX9_free_216.2.2.1
theorem dX9_free_222 : decode cX9_free 222 = .ok (.aload_n 0, 1) := eX9_free_216.2.2.2.1
theorem dX9_free_223 : decode cX9_free 223 = .ok (.getfield 160, 3) := eX9_free_216.2.2.2.2.1
theorem dX9_free_226 : decode cX9_free 226 = .ok (.lcmp, 1) := eX9_free_216.2.2.2.2.2.1
theorem dX9_free_227 : decode cX9_free 227 = .ok (.ifCond .ne 22, 3) := eX9_free_216.2.2.2.2.2.2.1
theorem dX9_free_230 : decode cX9_free 230 = .ok (.aload_n 0, 1) := eX9_free_216.2.2.2.2.2.2.2
theorem eX9_free_231 : (decode cX9_free 231 = .ok (.getfield 57, 3)) ∧ (decode cX9_free 234 = .ok (.iload 6, 2)) ∧ (decode cX9_free 236 = .ok (.laload, 1)) ∧ (decode cX9_free 237 = .ok (.aload_n 0, 1)) ∧ (decode cX9_free 238 = .ok (.getfield 163, 3)) ∧ (decode cX9_free 241 = .ok (.lcmp, 1)) ∧ (decode cX9_free 242 = .ok (.ifCond .ne 7, 3)) ∧ (decode cX9_free 245 = .ok (.iconst 1, 1)) := by decide +kernel
theorem dX9_free_231 : decode cX9_free 231 = .ok (.getfield 57, 3) := eX9_free_231.1
theorem dX9_free_234 : decode cX9_free 234 = .ok (.iload 6, 2) := eX9_free_231.2.1
theorem dX9_free_236 : decode cX9_free 236 = .ok (.laload, 1) := eX9_free_231.2.2.1
theorem dX9_free_237 : decode cX9_free 237 = .ok (.aload_n 0, 1) := eX9_free_231.2.2.2.1
theorem dX9_free_238 : decode cX9_free 238 = .ok (.getfield 163, 3) := eX9_free_231.2.2.2.2.1
theorem dX9_free_241 : decode cX9_free 241 = .ok (.lcmp, 1) := eX9_free_231.2.2.2.2.2.1
theorem dX9_free_242 : decode cX9_free 242 = .ok (.ifCond .ne 7, 3) := eX9_free_231.2.2.2.2.2.2.1
theorem dX9_free_245 : decode cX9_free 245 = .ok (.iconst 1, 1) := eX9_free_231.2.2.2.2.2.2.2
theorem eX9_free_246 : (decode cX9_free 246 = .ok (.goto 4, 3)) ∧ (decode cX9_free 249 = .ok (.iconst 0, 1)) ∧ (decode cX9_free 250 = .ok (.istore_n 3, 1)) ∧ (decode cX9_free 251 = .ok (.iinc 4 1, 3)) ∧ (decode cX9_free 254 = .ok (.goto (-194), 3)) ∧ (decode cX9_free 257 = .ok (.iload_n 3, 1)) ∧ (decode cX9_free 258 = .ok (.ifCond .eq 7, 3)) ∧ (decode cX9_free 261 = .ok (.iconst 1, 1)) := by decide +kernel
theorem dX9_free_246 : decode cX9_free 246 = .ok (.goto 4, 3) := eX9_free_246.1
theorem dX9_free_249 : decode cX9_free 249 = .ok (.iconst 0, 1) := eX9_free_246.2.1
theorem dX9_free_250 : decode cX9_free 250 = .ok (.istore_n 3, 1) := eX9_free_246.2.2.1
theorem dX9_free_251 : decode cX9_free 251 = .ok (.iinc 4 1, 3) := eX9_free_246.2.2.2.1
theorem dX9_free_254 : decode cX9_free 254 = .ok (.goto (-194), 3) := eX9_free_246.2.2.2.2.1
theorem dX9_free_257 : decode cX9_free 257 = .ok (.iload_n 3, 1) := eX9_free_246.2.2.2.2.2.1
theorem dX9_free_258 : decode cX9_free 258 = .ok (.ifCond .eq 7, 3) := eX9_free_246.2.2.2.2.2.2.1
theorem dX9_free_261 : decode cX9_free 261 = .ok (.iconst 1, 1) := eX9_free_246.2.2.2.2.2.2.2
theorem eX9_free_262 : (decode cX9_free 262 = .ok (.goto 4, 3)) ∧ (decode cX9_free 265 = .ok (.iconst 0, 1)) ∧ (decode cX9_free 266 = .ok (.ireturn, 1)) := by decide +kernel
theorem dX9_free_262 : decode cX9_free 262 = .ok (.goto 4, 3) := eX9_free_262.1
theorem dX9_free_265 : decode cX9_free 265 = .ok (.iconst 0, 1) := eX9_free_262.2.1
theorem dX9_free_266 : decode cX9_free 266 = .ok (.ireturn, 1) := eX9_free_262.2.2
theorem eX9_count_0 : (decode cX9_count 0 = .ok (.iload_n 1, 1)) ∧ (decode cX9_count 1 = .ok (.tableswitch 59 0 3 #[31, 36, 41, 50], 31)) ∧ (decode cX9_count 32 = .ok (.aload_n 0, 1)) ∧ (decode cX9_count 33 = .ok (.getfield 82, 3)) ∧ (decode cX9_count 36 = .ok (.ireturn, 1)) ∧ (decode cX9_count 37 = .ok (.aload_n 0, 1)) ∧ (decode cX9_count 38 = .ok (.getfield 86, 3)) ∧ (decode cX9_count 41 = .ok (.ireturn, 1)) := by decide +kernel
theorem dX9_count_0 : decode cX9_count 0 = .ok (.iload_n 1, 1) := eX9_count_0.1
theorem dX9_count_1 : decode cX9_count 1 = .ok (.tableswitch 59 0 3 #[31, 36, 41, 50], 31) := eX9_count_0.2.1
theorem dX9_count_32 : decode cX9_count 32 = .ok (.aload_n 0, 1) := eX9_count_0.2.2.1
theorem dX9_count_33 : decode cX9_count 33 = .ok (.getfield 82, 3) := eX9_count_0.2.2.2.1
theorem dX9_count_36 : decode cX9_count 36 = .ok (.ireturn, 1) := eX9_count_0.2.2.2.2.1
theorem dX9_count_37 : decode cX9_count 37 = .ok (.aload_n 0, 1) := eX9_count_0.2.2.2.2.2.1
theorem dX9_count_38 : decode cX9_count 38 = .ok (.getfield 86, 3) := eX9_count_0.2.2.2.2.2.2.1
theorem dX9_count_41 : decode cX9_count 41 = .ok (.ireturn, 1) := eX9_count_0.2.2.2.2.2.2.2
theorem eX9_count_42 : (decode cX9_count 42 = .ok (.aload_n 0, 1)) ∧ (decode cX9_count 43 = .ok (.getfield 26, 3)) ∧ (decode cX9_count 46 = .ok (.sipush 201, 3)) ∧ (decode cX9_count 49 = .ok (.iaload, 1)) ∧ (decode cX9_count 50 = .ok (.ireturn, 1)) ∧ (decode cX9_count 51 = .ok (.aload_n 0, 1)) ∧ (decode cX9_count 52 = .ok (.getfield 26, 3)) ∧ (decode cX9_count 55 = .ok (.sipush 200, 3)) := by decide +kernel
theorem dX9_count_42 : decode cX9_count 42 = .ok (.aload_n 0, 1) := eX9_count_42.1
theorem dX9_count_43 : decode cX9_count 43 = .ok (.getfield 26, 3) := eX9_count_42.2.1
theorem dX9_count_46 : decode cX9_count 46 = .ok (.sipush 201, 3) := eX9_count_42.2.2.1
theorem dX9_count_49 : decode cX9_count 49 = .ok (.iaload, 1) := eX9_count_42.2.2.2.1
theorem dX9_count_50 : decode cX9_count 50 = .ok (.ireturn, 1) := eX9_count_42.2.2.2.2.1
theorem dX9_count_51 : decode cX9_count 51 = .ok (.aload_n 0, 1) := eX9_count_42.2.2.2.2.2.1
theorem dX9_count_52 : decode cX9_count 52 = .ok (.getfield 26, 3) := eX9_count_42.2.2.2.2.2.2.1
theorem dX9_count_55 : decode cX9_count 55 = .ok (.sipush 200, 3) := eX9_count_42.2.2.2.2.2.2.2
theorem eX9_count_58 : (decode cX9_count 58 = .ok (.iaload, 1)) ∧ (decode cX9_count 59 = .ok (.ireturn, 1)) ∧ (decode cX9_count 60 = .ok (.iconst (-1), 1)) ∧ (decode cX9_count 61 = .ok (.ireturn, 1)) := by decide +kernel
theorem dX9_count_58 : decode cX9_count 58 = .ok (.iaload, 1) := eX9_count_58.1
theorem dX9_count_59 : decode cX9_count 59 = .ok (.ireturn, 1) := eX9_count_58.2.1
theorem dX9_count_60 : decode cX9_count 60 = .ok (.iconst (-1), 1) := eX9_count_58.2.2.1
theorem dX9_count_61 : decode cX9_count 61 = .ok (.ireturn, 1) := eX9_count_58.2.2.2
theorem eJ7_fill_d0a16_0 : (decode cJ7_fill_d0a16 0 = .ok (.iconst 0, 1)) ∧ (decode cJ7_fill_d0a16 1 = .ok (.istore_n 3, 1)) ∧ (decode cJ7_fill_d0a16 2 = .ok (.aload_n 0, 1)) ∧ (decode cJ7_fill_d0a16 3 = .ok (.arraylength, 1)) ∧ (decode cJ7_fill_d0a16 4 = .ok (.istore 4, 2)) ∧ (decode cJ7_fill_d0a16 6 = .ok (.iload_n 3, 1)) ∧ (decode cJ7_fill_d0a16 7 = .ok (.iload 4, 2)) ∧ (decode cJ7_fill_d0a16 9 = .ok (.if_icmp .ge 13, 3)) := by decide +kernel
theorem dJ7_fill_d0a16_0 : decode cJ7_fill_d0a16 0 = .ok (.iconst 0, 1) := eJ7_fill_d0a16_0.1
theorem dJ7_fill_d0a16_1 : decode cJ7_fill_d0a16 1 = .ok (.istore_n 3, 1) := eJ7_fill_d0a16_0.2.1
theorem dJ7_fill_d0a16_2 : decode cJ7_fill_d0a16 2 = .ok (.aload_n 0, 1) := eJ7_fill_d0a16_0.2.2.1
theorem dJ7_fill_d0a16_3 : decode cJ7_fill_d0a16 3 = .ok (.arraylength, 1) := eJ7_fill_d0a16_0.2.2.2.1
theorem dJ7_fill_d0a16_4 : decode cJ7_fill_d0a16 4 = .ok (.istore 4, 2) := eJ7_fill_d0a16_0.2.2.2.2.1
theorem dJ7_fill_d0a16_6 : decode cJ7_fill_d0a16 6 = .ok (.iload_n 3, 1) := eJ7_fill_d0a16_0.2.2.2.2.2.1
theorem dJ7_fill_d0a16_7 : decode cJ7_fill_d0a16 7 = .ok (.iload 4, 2) := eJ7_fill_d0a16_0.2.2.2.2.2.2.1
theorem dJ7_fill_d0a16_9 : decode cJ7_fill_d0a16 9 = .ok (.if_icmp .ge 13, 3) := eJ7_fill_d0a16_0.2.2.2.2.2.2.2
theorem eJ7_fill_d0a16_12 : (decode cJ7_fill_d0a16 12 = .ok (.aload_n 0, 1)) ∧ (decode cJ7_fill_d0a16 13 = .ok (.iload_n 3, 1)) ∧ (decode cJ7_fill_d0a16 14 = .ok (.lload_n 1, 1)) ∧ (decode cJ7_fill_d0a16 15 = .ok (.lastore, 1)) ∧ (decode cJ7_fill_d0a16 16 = .ok (.iinc 3 1, 3)) ∧ (decode cJ7_fill_d0a16 19 = .ok (.goto (-13), 3)) ∧ (decode cJ7_fill_d0a16 22 = .ok (.return_, 1)) := by decide +kernel
theorem dJ7_fill_d0a16_12 : decode cJ7_fill_d0a16 12 = .ok (.aload_n 0, 1) := eJ7_fill_d0a16_12.1
theorem dJ7_fill_d0a16_13 : decode cJ7_fill_d0a16 13 = .ok (.iload_n 3, 1) := eJ7_fill_d0a16_12.2.1
theorem dJ7_fill_d0a16_14 : decode cJ7_fill_d0a16 14 = .ok (.lload_n 1, 1) := eJ7_fill_d0a16_12.2.2.1
theorem dJ7_fill_d0a16_15 : decode cJ7_fill_d0a16 15 = .ok (.lastore, 1) := eJ7_fill_d0a16_12.2.2.2.1
theorem dJ7_fill_d0a16_16 : decode cJ7_fill_d0a16 16 = .ok (.iinc 3 1, 3) := eJ7_fill_d0a16_12.2.2.2.2.1
theorem dJ7_fill_d0a16_19 : decode cJ7_fill_d0a16 19 = .ok (.goto (-13), 3) := eJ7_fill_d0a16_12.2.2.2.2.2.1
theorem dJ7_fill_d0a16_22 : decode cJ7_fill_d0a16 22 = .ok (.return_, 1) := eJ7_fill_d0a16_12.2.2.2.2.2.2
theorem eJ7_fill_53178_0 : (decode cJ7_fill_53178 0 = .ok (.iconst 0, 1)) ∧ (decode cJ7_fill_53178 1 = .ok (.istore_n 2, 1)) ∧ (decode cJ7_fill_53178 2 = .ok (.aload_n 0, 1)) ∧ (decode cJ7_fill_53178 3 = .ok (.arraylength, 1)) ∧ (decode cJ7_fill_53178 4 = .ok (.istore_n 3, 1)) ∧ (decode cJ7_fill_53178 5 = .ok (.iload_n 2, 1)) ∧ (decode cJ7_fill_53178 6 = .ok (.iload_n 3, 1)) ∧ (decode cJ7_fill_53178 7 = .ok (.if_icmp .ge 13, 3)) := by decide +kernel
theorem dJ7_fill_53178_0 : decode cJ7_fill_53178 0 = .ok (.iconst 0, 1) := eJ7_fill_53178_0.1
theorem dJ7_fill_53178_1 : decode cJ7_fill_53178 1 = .ok (.istore_n 2, 1) := eJ7_fill_53178_0.2.1
theorem dJ7_fill_53178_2 : decode cJ7_fill_53178 2 = .ok (.aload_n 0, 1) := eJ7_fill_53178_0.2.2.1
theorem dJ7_fill_53178_3 : decode cJ7_fill_53178 3 = .ok (.arraylength, 1) := eJ7_fill_53178_0.2.2.2.1
theorem dJ7_fill_53178_4 : decode cJ7_fill_53178 4 = .ok (.istore_n 3, 1) := eJ7_fill_53178_0.2.2.2.2.1
theorem dJ7_fill_53178_5 : decode cJ7_fill_53178 5 = .ok (.iload_n 2, 1) := eJ7_fill_53178_0.2.2.2.2.2.1
theorem dJ7_fill_53178_6 : decode cJ7_fill_53178 6 = .ok (.iload_n 3, 1) := eJ7_fill_53178_0.2.2.2.2.2.2.1
theorem dJ7_fill_53178_7 : decode cJ7_fill_53178 7 = .ok (.if_icmp .ge 13, 3) := eJ7_fill_53178_0.2.2.2.2.2.2.2
theorem eJ7_fill_53178_10 : (decode cJ7_fill_53178 10 = .ok (.aload_n 0, 1)) ∧ (decode cJ7_fill_53178 11 = .ok (.iload_n 2, 1)) ∧ (decode cJ7_fill_53178 12 = .ok (.iload_n 1, 1)) ∧ (decode cJ7_fill_53178 13 = .ok (.iastore, 1)) ∧ (decode cJ7_fill_53178 14 = .ok (.iinc 2 1, 3)) ∧ (decode cJ7_fill_53178 17 = .ok (.goto (-12), 3)) ∧ (decode cJ7_fill_53178 20 = .ok (.return_, 1)) := by decide +kernel
theorem dJ7_fill_53178_10 : decode cJ7_fill_53178 10 = .ok (.aload_n 0, 1) := eJ7_fill_53178_10.1
theorem dJ7_fill_53178_11 : decode cJ7_fill_53178 11 = .ok (.iload_n 2, 1) := eJ7_fill_53178_10.2.1
theorem dJ7_fill_53178_12 : decode cJ7_fill_53178 12 = .ok (.iload_n 1, 1) := eJ7_fill_53178_10.2.2.1
theorem dJ7_fill_53178_13 : decode cJ7_fill_53178 13 = .ok (.iastore, 1) := eJ7_fill_53178_10.2.2.2.1
theorem dJ7_fill_53178_14 : decode cJ7_fill_53178 14 = .ok (.iinc 2 1, 3) := eJ7_fill_53178_10.2.2.2.2.1
theorem dJ7_fill_53178_17 : decode cJ7_fill_53178 17 = .ok (.goto (-12), 3) := eJ7_fill_53178_10.2.2.2.2.2.1
theorem dJ7_fill_53178_20 : decode cJ7_fill_53178 20 = .ok (.return_, 1) := eJ7_fill_53178_10.2.2.2.2.2.2
theorem eL_law_0 : (decode cL_law 0 = .ok (.new 7, 3)) ∧ (decode cL_law 3 = .ok (.dup, 1)) ∧ (decode cL_law 4 = .ok (.invokespecial 9, 3)) ∧ (decode cL_law 7 = .ok (.astore_n 1, 1)) ∧ (decode cL_law 8 = .ok (.new 10, 3)) ∧ (decode cL_law 11 = .ok (.dup, 1)) ∧ (decode cL_law 12 = .ok (.invokespecial 12, 3)) ∧ (decode cL_law 15 = .ok (.astore_n 2, 1)) := by decide +kernel
theorem dL_law_0 : decode cL_law 0 = .ok (.new 7, 3) := eL_law_0.1
theorem dL_law_3 : decode cL_law 3 = .ok (.dup, 1) := eL_law_0.2.1
theorem dL_law_4 : decode cL_law 4 = .ok (.invokespecial 9, 3) := eL_law_0.2.2.1
theorem dL_law_7 : decode cL_law 7 = .ok (.astore_n 1, 1) := eL_law_0.2.2.2.1
theorem dL_law_8 : decode cL_law 8 = .ok (.new 10, 3) := eL_law_0.2.2.2.2.1
theorem dL_law_11 : decode cL_law 11 = .ok (.dup, 1) := eL_law_0.2.2.2.2.2.1
theorem dL_law_12 : decode cL_law 12 = .ok (.invokespecial 12, 3) := eL_law_0.2.2.2.2.2.2.1
theorem dL_law_15 : decode cL_law 15 = .ok (.astore_n 2, 1) := eL_law_0.2.2.2.2.2.2.2
theorem eL_law_16 : (decode cL_law 16 = .ok (.iconst 0, 1)) ∧ (decode cL_law 17 = .ok (.istore_n 3, 1)) ∧ (decode cL_law 18 = .ok (.iload_n 3, 1)) ∧ (decode cL_law 19 = .ok (.aload_n 0, 1)) ∧ (decode cL_law 20 = .ok (.arraylength, 1)) ∧ (decode cL_law 21 = .ok (.bipush 6, 2)) ∧ (decode cL_law 23 = .ok (.isub, 1)) ∧ (decode cL_law 24 = .ok (.if_icmp .gt 1232, 3)) := by decide +kernel
theorem dL_law_16 : decode cL_law 16 = .ok (.iconst 0, 1) := eL_law_16.1
theorem dL_law_17 : decode cL_law 17 = .ok (.istore_n 3, 1) := eL_law_16.2.1
theorem dL_law_18 : decode cL_law 18 = .ok (.iload_n 3, 1) := eL_law_16.2.2.1
theorem dL_law_19 : decode cL_law 19 = .ok (.aload_n 0, 1) := eL_law_16.2.2.2.1
theorem dL_law_20 : decode cL_law 20 = .ok (.arraylength, 1) := eL_law_16.2.2.2.2.1
theorem dL_law_21 : decode cL_law 21 = .ok (.bipush 6, 2) := eL_law_16.2.2.2.2.2.1
theorem dL_law_23 : decode cL_law 23 = .ok (.isub, 1) := eL_law_16.2.2.2.2.2.2.1
theorem dL_law_24 : decode cL_law 24 = .ok (.if_icmp .gt 1232, 3) := eL_law_16.2.2.2.2.2.2.2
theorem eL_law_27 : (decode cL_law 27 = .ok (.aload_n 0, 1)) ∧ (decode cL_law 28 = .ok (.iload_n 3, 1)) ∧ (decode cL_law 29 = .ok (.iaload, 1)) ∧ (decode cL_law 30 = .ok (.bipush 31, 2)) ∧ (decode cL_law 32 = .ok (.iand, 1)) ∧ (decode cL_law 33 = .ok (.tableswitch 1217 0 25 #[119, 162, 235, 298, 371, 434, 457, 500, 553, 596, 629, 672, 705, 728, 751, 784, 797, 840, 893, 946, 979, 1032, 1095, 1138, 1171, 1194], 119)) ∧ (decode cL_law 152 = .ok (.aload_n 1, 1)) ∧ (decode cL_law 153 = .ok (.aload_n 0, 1)) := by decide +kernel
theorem dL_law_27 : decode cL_law 27 = .ok (.aload_n 0, 1) := eL_law_27.1
theorem dL_law_28 : decode cL_law 28 = .ok (.iload_n 3, 1) := eL_law_27.2.1
theorem dL_law_29 : decode cL_law 29 = .ok (.iaload, 1) := eL_law_27.2.2.1
theorem dL_law_30 : decode cL_law 30 = .ok (.bipush 31, 2) := eL_law_27.2.2.2.1
theorem dL_law_32 : decode cL_law 32 = .ok (.iand, 1) := eL_law_27.2.2.2.2.1
theorem dL_law_33 : decode cL_law 33 = .ok (.tableswitch 1217 0 25 #[119, 162, 235, 298, 371, 434, 457, 500, 553, 596, 629, 672, 705, 728, 751, 784, 797, 840, 893, 946, 979, 1032, 1095, 1138, 1171, 1194], 119) := eL_law_27.2.2.2.2.2.1
theorem dL_law_152 : decode cL_law 152 = .ok (.aload_n 1, 1) := eL_law_27.2.2.2.2.2.2.1
theorem dL_law_153 : decode cL_law 153 = .ok (.aload_n 0, 1) := eL_law_27.2.2.2.2.2.2.2
theorem eL_law_154 : (decode cL_law 154 = .ok (.iload_n 3, 1)) ∧ (decode cL_law 155 = .ok (.iconst 1, 1)) ∧ (decode cL_law 156 = .ok (.iadd, 1)) ∧ (decode cL_law 157 = .ok (.iaload, 1)) ∧ (decode cL_law 158 = .ok (.aload_n 0, 1)) ∧ (decode cL_law 159 = .ok (.iload_n 3, 1)) ∧ (decode cL_law 160 = .ok (.iconst 2, 1)) ∧ (decode cL_law 161 = .ok (.iadd, 1)) := by decide +kernel
theorem dL_law_154 : decode cL_law 154 = .ok (.iload_n 3, 1) := eL_law_154.1
theorem dL_law_155 : decode cL_law 155 = .ok (.iconst 1, 1) := eL_law_154.2.1
theorem dL_law_156 : decode cL_law 156 = .ok (.iadd, 1) := eL_law_154.2.2.1
theorem dL_law_157 : decode cL_law 157 = .ok (.iaload, 1) := eL_law_154.2.2.2.1
theorem dL_law_158 : decode cL_law 158 = .ok (.aload_n 0, 1) := eL_law_154.2.2.2.2.1
theorem dL_law_159 : decode cL_law 159 = .ok (.iload_n 3, 1) := eL_law_154.2.2.2.2.2.1
theorem dL_law_160 : decode cL_law 160 = .ok (.iconst 2, 1) := eL_law_154.2.2.2.2.2.2.1
theorem dL_law_161 : decode cL_law 161 = .ok (.iadd, 1) := eL_law_154.2.2.2.2.2.2.2
theorem eL_law_162 : (decode cL_law 162 = .ok (.iaload, 1)) ∧ (decode cL_law 163 = .ok (.aload_n 0, 1)) ∧ (decode cL_law 164 = .ok (.iload_n 3, 1)) ∧ (decode cL_law 165 = .ok (.iconst 3, 1)) ∧ (decode cL_law 166 = .ok (.iadd, 1)) ∧ (decode cL_law 167 = .ok (.iaload, 1)) ∧ (decode cL_law 168 = .ok (.invokevirtual 13, 3)) ∧ (decode cL_law 171 = .ok (.pop, 1)) := by decide +kernel
theorem dL_law_162 : decode cL_law 162 = .ok (.iaload, 1) := eL_law_162.1
theorem dL_law_163 : decode cL_law 163 = .ok (.aload_n 0, 1) := eL_law_162.2.1
theorem dL_law_164 : decode cL_law 164 = .ok (.iload_n 3, 1) := eL_law_162.2.2.1
theorem dL_law_165 : decode cL_law 165 = .ok (.iconst 3, 1) := eL_law_162.2.2.2.1
theorem dL_law_166 : decode cL_law 166 = .ok (.iadd, 1) := eL_law_162.2.2.2.2.1
theorem dL_law_167 : decode cL_law 167 = .ok (.iaload, 1) := eL_law_162.2.2.2.2.2.1
theorem dL_law_168 : decode cL_law 168 = .ok (.invokevirtual 13, 3) := eL_law_162.2.2.2.2.2.2.1
theorem dL_law_171 : decode cL_law 171 = .ok (.pop, 1) := eL_law_162.2.2.2.2.2.2.2
theorem eL_law_172 : (decode cL_law 172 = .ok (.aload_n 2, 1)) ∧ (decode cL_law 173 = .ok (.aload_n 0, 1)) ∧ (decode cL_law 174 = .ok (.iload_n 3, 1)) ∧ (decode cL_law 175 = .ok (.iconst 1, 1)) ∧ (decode cL_law 176 = .ok (.iadd, 1)) ∧ (decode cL_law 177 = .ok (.iaload, 1)) ∧ (decode cL_law 178 = .ok (.aload_n 0, 1)) ∧ (decode cL_law 179 = .ok (.iload_n 3, 1)) := by decide +kernel
theorem dL_law_172 : decode cL_law 172 = .ok (.aload_n 2, 1) := eL_law_172.1
theorem dL_law_173 : decode cL_law 173 = .ok (.aload_n 0, 1) := eL_law_172.2.1
theorem dL_law_174 : decode cL_law 174 = .ok (.iload_n 3, 1) := eL_law_172.2.2.1
theorem dL_law_175 : decode cL_law 175 = .ok (.iconst 1, 1) := eL_law_172.2.2.2.1
theorem dL_law_176 : decode cL_law 176 = .ok (.iadd, 1) := eL_law_172.2.2.2.2.1
theorem dL_law_177 : decode cL_law 177 = .ok (.iaload, 1) := eL_law_172.2.2.2.2.2.1
theorem dL_law_178 : decode cL_law 178 = .ok (.aload_n 0, 1) := eL_law_172.2.2.2.2.2.2.1
theorem dL_law_179 : decode cL_law 179 = .ok (.iload_n 3, 1) := eL_law_172.2.2.2.2.2.2.2
theorem eL_law_180 : (decode cL_law 180 = .ok (.iconst 2, 1)) ∧ (decode cL_law 181 = .ok (.iadd, 1)) ∧ (decode cL_law 182 = .ok (.iaload, 1)) ∧ (decode cL_law 183 = .ok (.aload_n 0, 1)) ∧ (decode cL_law 184 = .ok (.iload_n 3, 1)) ∧ (decode cL_law 185 = .ok (.iconst 3, 1)) ∧ (decode cL_law 186 = .ok (.iadd, 1)) ∧ (decode cL_law 187 = .ok (.iaload, 1)) := by decide +kernel
theorem dL_law_180 : decode cL_law 180 = .ok (.iconst 2, 1) := eL_law_180.1
theorem dL_law_181 : decode cL_law 181 = .ok (.iadd, 1) := eL_law_180.2.1
theorem dL_law_182 : decode cL_law 182 = .ok (.iaload, 1) := eL_law_180.2.2.1
theorem dL_law_183 : decode cL_law 183 = .ok (.aload_n 0, 1) := eL_law_180.2.2.2.1
theorem dL_law_184 : decode cL_law 184 = .ok (.iload_n 3, 1) := eL_law_180.2.2.2.2.1
theorem dL_law_185 : decode cL_law 185 = .ok (.iconst 3, 1) := eL_law_180.2.2.2.2.2.1
theorem dL_law_186 : decode cL_law 186 = .ok (.iadd, 1) := eL_law_180.2.2.2.2.2.2.1
theorem dL_law_187 : decode cL_law 187 = .ok (.iaload, 1) := eL_law_180.2.2.2.2.2.2.2
theorem eL_law_188 : (decode cL_law 188 = .ok (.invokevirtual 17, 3)) ∧ (decode cL_law 191 = .ok (.pop, 1)) ∧ (decode cL_law 192 = .ok (.goto 1058, 3)) ∧ (decode cL_law 195 = .ok (.aload_n 1, 1)) ∧ (decode cL_law 196 = .ok (.aload_n 0, 1)) ∧ (decode cL_law 197 = .ok (.iload_n 3, 1)) ∧ (decode cL_law 198 = .ok (.iconst 1, 1)) ∧ (decode cL_law 199 = .ok (.iadd, 1)) := by decide +kernel
theorem dL_law_188 : decode cL_law 188 = .ok (.invokevirtual 17, 3) := eL_law_188.1
theorem dL_law_191 : decode cL_law 191 = .ok (.pop, 1) := eL_law_188.2.1
theorem dL_law_192 : decode cL_law 192 = .ok (.goto 1058, 3) := eL_law_188.2.2.1
theorem dL_law_195 : decode cL_law 195 = .ok (.aload_n 1, 1) := eL_law_188.2.2.2.1
theorem dL_law_196 : decode cL_law 196 = .ok (.aload_n 0, 1) := eL_law_188.2.2.2.2.1
theorem dL_law_197 : decode cL_law 197 = .ok (.iload_n 3, 1) := eL_law_188.2.2.2.2.2.1
theorem dL_law_198 : decode cL_law 198 = .ok (.iconst 1, 1) := eL_law_188.2.2.2.2.2.2.1
theorem dL_law_199 : decode cL_law 199 = .ok (.iadd, 1) := eL_law_188.2.2.2.2.2.2.2
theorem eL_law_200 : (decode cL_law 200 = .ok (.iaload, 1)) ∧ (decode cL_law 201 = .ok (.aload_n 0, 1)) ∧ (decode cL_law 202 = .ok (.iload_n 3, 1)) ∧ (decode cL_law 203 = .ok (.iconst 2, 1)) ∧ (decode cL_law 204 = .ok (.iadd, 1)) ∧ (decode cL_law 205 = .ok (.iaload, 1)) ∧ (decode cL_law 206 = .ok (.aload_n 0, 1)) ∧ (decode cL_law 207 = .ok (.iload_n 3, 1)) := by decide +kernel
theorem dL_law_200 : decode cL_law 200 = .ok (.iaload, 1) := eL_law_200.1
theorem dL_law_201 : decode cL_law 201 = .ok (.aload_n 0, 1) := eL_law_200.2.1
theorem dL_law_202 : decode cL_law 202 = .ok (.iload_n 3, 1) := eL_law_200.2.2.1
theorem dL_law_203 : decode cL_law 203 = .ok (.iconst 2, 1) := eL_law_200.2.2.2.1
theorem dL_law_204 : decode cL_law 204 = .ok (.iadd, 1) := eL_law_200.2.2.2.2.1
theorem dL_law_205 : decode cL_law 205 = .ok (.iaload, 1) := eL_law_200.2.2.2.2.2.1
theorem dL_law_206 : decode cL_law 206 = .ok (.aload_n 0, 1) := eL_law_200.2.2.2.2.2.2.1
theorem dL_law_207 : decode cL_law 207 = .ok (.iload_n 3, 1) := eL_law_200.2.2.2.2.2.2.2
theorem eL_law_208 : (decode cL_law 208 = .ok (.iconst 3, 1)) ∧ (decode cL_law 209 = .ok (.iadd, 1)) ∧ (decode cL_law 210 = .ok (.iaload, 1)) ∧ (decode cL_law 211 = .ok (.i2l, 1)) ∧ (decode cL_law 212 = .ok (.bipush 32, 2)) ∧ (decode cL_law 214 = .ok (.lshl, 1)) ∧ (decode cL_law 215 = .ok (.aload_n 0, 1)) ∧ (decode cL_law 216 = .ok (.iload_n 3, 1)) := by decide +kernel
theorem dL_law_208 : decode cL_law 208 = .ok (.iconst 3, 1) := eL_law_208.1
theorem dL_law_209 : decode cL_law 209 = .ok (.iadd, 1) := eL_law_208.2.1
theorem dL_law_210 : decode cL_law 210 = .ok (.iaload, 1) := eL_law_208.2.2.1
theorem dL_law_211 : decode cL_law 211 = .ok (.i2l, 1) := eL_law_208.2.2.2.1
theorem dL_law_212 : decode cL_law 212 = .ok (.bipush 32, 2) := eL_law_208.2.2.2.2.1
theorem dL_law_214 : decode cL_law 214 = .ok (.lshl, 1) := eL_law_208.2.2.2.2.2.1
theorem dL_law_215 : decode cL_law 215 = .ok (.aload_n 0, 1) := eL_law_208.2.2.2.2.2.2.1
theorem dL_law_216 : decode cL_law 216 = .ok (.iload_n 3, 1) := eL_law_208.2.2.2.2.2.2.2
theorem eL_law_217 : (decode cL_law 217 = .ok (.iconst 4, 1)) ∧ (decode cL_law 218 = .ok (.iadd, 1)) ∧ (decode cL_law 219 = .ok (.iaload, 1)) ∧ (decode cL_law 220 = .ok (.i2l, 1)) ∧ (decode cL_law 221 = .ok (.ldc2_w 18, 3)) ∧ (decode cL_law 224 = .ok (.land, 1)) ∧ (decode cL_law 225 = .ok (.lor, 1)) ∧ (decode cL_law 226 = .ok (.invokevirtual 20, 3)) := by decide +kernel
theorem dL_law_217 : decode cL_law 217 = .ok (.iconst 4, 1) := eL_law_217.1
theorem dL_law_218 : decode cL_law 218 = .ok (.iadd, 1) := eL_law_217.2.1
theorem dL_law_219 : decode cL_law 219 = .ok (.iaload, 1) := eL_law_217.2.2.1
theorem dL_law_220 : decode cL_law 220 = .ok (.i2l, 1) := eL_law_217.2.2.2.1
theorem dL_law_221 : decode cL_law 221 = .ok (.ldc2_w 18, 3) := eL_law_217.2.2.2.2.1
theorem dL_law_224 : decode cL_law 224 = .ok (.land, 1) := eL_law_217.2.2.2.2.2.1
theorem dL_law_225 : decode cL_law 225 = .ok (.lor, 1) := eL_law_217.2.2.2.2.2.2.1
theorem dL_law_226 : decode cL_law 226 = .ok (.invokevirtual 20, 3) := eL_law_217.2.2.2.2.2.2.2
theorem eL_law_229 : (decode cL_law 229 = .ok (.pop, 1)) ∧ (decode cL_law 230 = .ok (.aload_n 2, 1)) ∧ (decode cL_law 231 = .ok (.aload_n 0, 1)) ∧ (decode cL_law 232 = .ok (.iload_n 3, 1)) ∧ (decode cL_law 233 = .ok (.iconst 1, 1)) ∧ (decode cL_law 234 = .ok (.iadd, 1)) ∧ (decode cL_law 235 = .ok (.iaload, 1)) ∧ (decode cL_law 236 = .ok (.aload_n 0, 1)) := by decide +kernel
theorem dL_law_229 : decode cL_law 229 = .ok (.pop, 1) := eL_law_229.1
theorem dL_law_230 : decode cL_law 230 = .ok (.aload_n 2, 1) := eL_law_229.2.1
theorem dL_law_231 : decode cL_law 231 = .ok (.aload_n 0, 1) := eL_law_229.2.2.1
theorem dL_law_232 : decode cL_law 232 = .ok (.iload_n 3, 1) := eL_law_229.2.2.2.1
theorem dL_law_233 : decode cL_law 233 = .ok (.iconst 1, 1) := eL_law_229.2.2.2.2.1
theorem dL_law_234 : decode cL_law 234 = .ok (.iadd, 1) := eL_law_229.2.2.2.2.2.1
theorem dL_law_235 : decode cL_law 235 = .ok (.iaload, 1) := eL_law_229.2.2.2.2.2.2.1
theorem dL_law_236 : decode cL_law 236 = .ok (.aload_n 0, 1) := eL_law_229.2.2.2.2.2.2.2
theorem eL_law_237 : (decode cL_law 237 = .ok (.iload_n 3, 1)) ∧ (decode cL_law 238 = .ok (.iconst 2, 1)) ∧ (decode cL_law 239 = .ok (.iadd, 1)) ∧ (decode cL_law 240 = .ok (.iaload, 1)) ∧ (decode cL_law 241 = .ok (.aload_n 0, 1)) ∧ (decode cL_law 242 = .ok (.iload_n 3, 1)) ∧ (decode cL_law 243 = .ok (.iconst 3, 1)) ∧ (decode cL_law 244 = .ok (.iadd, 1)) := by decide +kernel
theorem dL_law_237 : decode cL_law 237 = .ok (.iload_n 3, 1) := eL_law_237.1
theorem dL_law_238 : decode cL_law 238 = .ok (.iconst 2, 1) := eL_law_237.2.1
theorem dL_law_239 : decode cL_law 239 = .ok (.iadd, 1) := eL_law_237.2.2.1
theorem dL_law_240 : decode cL_law 240 = .ok (.iaload, 1) := eL_law_237.2.2.2.1
theorem dL_law_241 : decode cL_law 241 = .ok (.aload_n 0, 1) := eL_law_237.2.2.2.2.1
theorem dL_law_242 : decode cL_law 242 = .ok (.iload_n 3, 1) := eL_law_237.2.2.2.2.2.1
theorem dL_law_243 : decode cL_law 243 = .ok (.iconst 3, 1) := eL_law_237.2.2.2.2.2.2.1
theorem dL_law_244 : decode cL_law 244 = .ok (.iadd, 1) := eL_law_237.2.2.2.2.2.2.2
theorem eL_law_245 : (decode cL_law 245 = .ok (.iaload, 1)) ∧ (decode cL_law 246 = .ok (.i2l, 1)) ∧ (decode cL_law 247 = .ok (.bipush 32, 2)) ∧ (decode cL_law 249 = .ok (.lshl, 1)) ∧ (decode cL_law 250 = .ok (.aload_n 0, 1)) ∧ (decode cL_law 251 = .ok (.iload_n 3, 1)) ∧ (decode cL_law 252 = .ok (.iconst 4, 1)) ∧ (decode cL_law 253 = .ok (.iadd, 1)) := by decide +kernel
theorem dL_law_245 : decode cL_law 245 = .ok (.iaload, 1) := eL_law_245.1
theorem dL_law_246 : decode cL_law 246 = .ok (.i2l, 1) := eL_law_245.2.1
theorem dL_law_247 : decode cL_law 247 = .ok (.bipush 32, 2) := eL_law_245.2.2.1
theorem dL_law_249 : decode cL_law 249 = .ok (.lshl, 1) := eL_law_245.2.2.2.1
theorem dL_law_250 : decode cL_law 250 = .ok (.aload_n 0, 1) := eL_law_245.2.2.2.2.1
theorem dL_law_251 : decode cL_law 251 = .ok (.iload_n 3, 1) := eL_law_245.2.2.2.2.2.1
theorem dL_law_252 : decode cL_law 252 = .ok (.iconst 4, 1) := eL_law_245.2.2.2.2.2.2.1
theorem dL_law_253 : decode cL_law 253 = .ok (.iadd, 1) := eL_law_245.2.2.2.2.2.2.2
theorem eL_law_254 : (decode cL_law 254 = .ok (.iaload, 1)) ∧ (decode cL_law 255 = .ok (.i2l, 1)) ∧ (decode cL_law 256 = .ok (.ldc2_w 18, 3)) ∧ (decode cL_law 259 = .ok (.land, 1)) ∧ (decode cL_law 260 = .ok (.lor, 1)) ∧ (decode cL_law 261 = .ok (.invokevirtual 24, 3)) ∧ (decode cL_law 264 = .ok (.pop, 1)) ∧ (decode cL_law 265 = .ok (.goto 985, 3)) := by decide +kernel
theorem dL_law_254 : decode cL_law 254 = .ok (.iaload, 1) := eL_law_254.1
theorem dL_law_255 : decode cL_law 255 = .ok (.i2l, 1) := eL_law_254.2.1
theorem dL_law_256 : decode cL_law 256 = .ok (.ldc2_w 18, 3) := eL_law_254.2.2.1
theorem dL_law_259 : decode cL_law 259 = .ok (.land, 1) := eL_law_254.2.2.2.1
theorem dL_law_260 : decode cL_law 260 = .ok (.lor, 1) := eL_law_254.2.2.2.2.1
theorem dL_law_261 : decode cL_law 261 = .ok (.invokevirtual 24, 3) := eL_law_254.2.2.2.2.2.1
theorem dL_law_264 : decode cL_law 264 = .ok (.pop, 1) := eL_law_254.2.2.2.2.2.2.1
theorem dL_law_265 : decode cL_law 265 = .ok (.goto 985, 3) := eL_law_254.2.2.2.2.2.2.2
theorem eL_law_268 : (decode cL_law 268 = .ok (.aload_n 1, 1)) ∧ (decode cL_law 269 = .ok (.aload_n 0, 1)) ∧ (decode cL_law 270 = .ok (.iload_n 3, 1)) ∧ (decode cL_law 271 = .ok (.iconst 1, 1)) ∧ (decode cL_law 272 = .ok (.iadd, 1)) ∧ (decode cL_law 273 = .ok (.iaload, 1)) ∧ (decode cL_law 274 = .ok (.aload_n 0, 1)) ∧ (decode cL_law 275 = .ok (.iload_n 3, 1)) := by decide +kernel
theorem dL_law_268 : decode cL_law 268 = .ok (.aload_n 1, 1) := eL_law_268.1
theorem dL_law_269 : decode cL_law 269 = .ok (.aload_n 0, 1) := eL_law_268.2.1
theorem dL_law_270 : decode cL_law 270 = .ok (.iload_n 3, 1) := eL_law_268.2.2.1
theorem dL_law_271 : decode cL_law 271 = .ok (.iconst 1, 1) := eL_law_268.2.2.2.1
theorem dL_law_272 : decode cL_law 272 = .ok (.iadd, 1) := eL_law_268.2.2.2.2.1
theorem dL_law_273 : decode cL_law 273 = .ok (.iaload, 1) := eL_law_268.2.2.2.2.2.1
theorem dL_law_274 : decode cL_law 274 = .ok (.aload_n 0, 1) := eL_law_268.2.2.2.2.2.2.1
theorem dL_law_275 : decode cL_law 275 = .ok (.iload_n 3, 1) := eL_law_268.2.2.2.2.2.2.2
theorem eL_law_276 : (decode cL_law 276 = .ok (.iconst 2, 1)) ∧ (decode cL_law 277 = .ok (.iadd, 1)) ∧ (decode cL_law 278 = .ok (.iaload, 1)) ∧ (decode cL_law 279 = .ok (.aload_n 0, 1)) ∧ (decode cL_law 280 = .ok (.iload_n 3, 1)) ∧ (decode cL_law 281 = .ok (.iconst 3, 1)) ∧ (decode cL_law 282 = .ok (.iadd, 1)) ∧ (decode cL_law 283 = .ok (.iaload, 1)) := by decide +kernel
theorem dL_law_276 : decode cL_law 276 = .ok (.iconst 2, 1) := eL_law_276.1
theorem dL_law_277 : decode cL_law 277 = .ok (.iadd, 1) := eL_law_276.2.1
theorem dL_law_278 : decode cL_law 278 = .ok (.iaload, 1) := eL_law_276.2.2.1
theorem dL_law_279 : decode cL_law 279 = .ok (.aload_n 0, 1) := eL_law_276.2.2.2.1
theorem dL_law_280 : decode cL_law 280 = .ok (.iload_n 3, 1) := eL_law_276.2.2.2.2.1
theorem dL_law_281 : decode cL_law 281 = .ok (.iconst 3, 1) := eL_law_276.2.2.2.2.2.1
theorem dL_law_282 : decode cL_law 282 = .ok (.iadd, 1) := eL_law_276.2.2.2.2.2.2.1
theorem dL_law_283 : decode cL_law 283 = .ok (.iaload, 1) := eL_law_276.2.2.2.2.2.2.2
theorem eL_law_284 : (decode cL_law 284 = .ok (.aload_n 0, 1)) ∧ (decode cL_law 285 = .ok (.iload_n 3, 1)) ∧ (decode cL_law 286 = .ok (.iconst 4, 1)) ∧ (decode cL_law 287 = .ok (.iadd, 1)) ∧ (decode cL_law 288 = .ok (.iaload, 1)) ∧ (decode cL_law 289 = .ok (.aload_n 0, 1)) ∧ (decode cL_law 290 = .ok (.iload_n 3, 1)) ∧ (decode cL_law 291 = .ok (.iconst 5, 1)) := by decide +kernel
theorem dL_law_284 : decode cL_law 284 = .ok (.aload_n 0, 1) := eL_law_284.1
theorem dL_law_285 : decode cL_law 285 = .ok (.iload_n 3, 1) := eL_law_284.2.1
theorem dL_law_286 : decode cL_law 286 = .ok (.iconst 4, 1) := eL_law_284.2.2.1
theorem dL_law_287 : decode cL_law 287 = .ok (.iadd, 1) := eL_law_284.2.2.2.1
theorem dL_law_288 : decode cL_law 288 = .ok (.iaload, 1) := eL_law_284.2.2.2.2.1
theorem dL_law_289 : decode cL_law 289 = .ok (.aload_n 0, 1) := eL_law_284.2.2.2.2.2.1
theorem dL_law_290 : decode cL_law 290 = .ok (.iload_n 3, 1) := eL_law_284.2.2.2.2.2.2.1
theorem dL_law_291 : decode cL_law 291 = .ok (.iconst 5, 1) := eL_law_284.2.2.2.2.2.2.2
theorem eL_law_292 : (decode cL_law 292 = .ok (.iadd, 1)) ∧ (decode cL_law 293 = .ok (.iaload, 1)) ∧ (decode cL_law 294 = .ok (.invokevirtual 25, 3)) ∧ (decode cL_law 297 = .ok (.pop, 1)) ∧ (decode cL_law 298 = .ok (.aload_n 2, 1)) ∧ (decode cL_law 299 = .ok (.aload_n 0, 1)) ∧ (decode cL_law 300 = .ok (.iload_n 3, 1)) ∧ (decode cL_law 301 = .ok (.iconst 1, 1)) := by decide +kernel
theorem dL_law_292 : decode cL_law 292 = .ok (.iadd, 1) := eL_law_292.1
theorem dL_law_293 : decode cL_law 293 = .ok (.iaload, 1) := eL_law_292.2.1
theorem dL_law_294 : decode cL_law 294 = .ok (.invokevirtual 25, 3) := eL_law_292.2.2.1
theorem dL_law_297 : decode cL_law 297 = .ok (.pop, 1) := eL_law_292.2.2.2.1
theorem dL_law_298 : decode cL_law 298 = .ok (.aload_n 2, 1) := eL_law_292.2.2.2.2.1
theorem dL_law_299 : decode cL_law 299 = .ok (.aload_n 0, 1) := eL_law_292.2.2.2.2.2.1
theorem dL_law_300 : decode cL_law 300 = .ok (.iload_n 3, 1) := eL_law_292.2.2.2.2.2.2.1
theorem dL_law_301 : decode cL_law 301 = .ok (.iconst 1, 1) := eL_law_292.2.2.2.2.2.2.2
theorem eL_law_302 : (decode cL_law 302 = .ok (.iadd, 1)) ∧ (decode cL_law 303 = .ok (.iaload, 1)) ∧ (decode cL_law 304 = .ok (.aload_n 0, 1)) ∧ (decode cL_law 305 = .ok (.iload_n 3, 1)) ∧ (decode cL_law 306 = .ok (.iconst 2, 1)) ∧ (decode cL_law 307 = .ok (.iadd, 1)) ∧ (decode cL_law 308 = .ok (.iaload, 1)) ∧ (decode cL_law 309 = .ok (.aload_n 0, 1)) := by decide +kernel
theorem dL_law_302 : decode cL_law 302 = .ok (.iadd, 1) := eL_law_302.1
theorem dL_law_303 : decode cL_law 303 = .ok (.iaload, 1) := eL_law_302.2.1
theorem dL_law_304 : decode cL_law 304 = .ok (.aload_n 0, 1) := eL_law_302.2.2.1
theorem dL_law_305 : decode cL_law 305 = .ok (.iload_n 3, 1) := eL_law_302.2.2.2.1
theorem dL_law_306 : decode cL_law 306 = .ok (.iconst 2, 1) := eL_law_302.2.2.2.2.1
theorem dL_law_307 : decode cL_law 307 = .ok (.iadd, 1) := eL_law_302.2.2.2.2.2.1
theorem dL_law_308 : decode cL_law 308 = .ok (.iaload, 1) := eL_law_302.2.2.2.2.2.2.1
theorem dL_law_309 : decode cL_law 309 = .ok (.aload_n 0, 1) := eL_law_302.2.2.2.2.2.2.2
theorem eL_law_310 : (decode cL_law 310 = .ok (.iload_n 3, 1)) ∧ (decode cL_law 311 = .ok (.iconst 3, 1)) ∧ (decode cL_law 312 = .ok (.iadd, 1)) ∧ (decode cL_law 313 = .ok (.iaload, 1)) ∧ (decode cL_law 314 = .ok (.aload_n 0, 1)) ∧ (decode cL_law 315 = .ok (.iload_n 3, 1)) ∧ (decode cL_law 316 = .ok (.iconst 4, 1)) ∧ (decode cL_law 317 = .ok (.iadd, 1)) := by decide +kernel
theorem dL_law_310 : decode cL_law 310 = .ok (.iload_n 3, 1) := eL_law_310.1
theorem dL_law_311 : decode cL_law 311 = .ok (.iconst 3, 1) := eL_law_310.2.1
theorem dL_law_312 : decode cL_law 312 = .ok (.iadd, 1) := eL_law_310.2.2.1
theorem dL_law_313 : decode cL_law 313 = .ok (.iaload, 1) := eL_law_310.2.2.2.1
theorem dL_law_314 : decode cL_law 314 = .ok (.aload_n 0, 1) := eL_law_310.2.2.2.2.1
theorem dL_law_315 : decode cL_law 315 = .ok (.iload_n 3, 1) := eL_law_310.2.2.2.2.2.1
theorem dL_law_316 : decode cL_law 316 = .ok (.iconst 4, 1) := eL_law_310.2.2.2.2.2.2.1
theorem dL_law_317 : decode cL_law 317 = .ok (.iadd, 1) := eL_law_310.2.2.2.2.2.2.2
theorem eL_law_318 : (decode cL_law 318 = .ok (.iaload, 1)) ∧ (decode cL_law 319 = .ok (.aload_n 0, 1)) ∧ (decode cL_law 320 = .ok (.iload_n 3, 1)) ∧ (decode cL_law 321 = .ok (.iconst 5, 1)) ∧ (decode cL_law 322 = .ok (.iadd, 1)) ∧ (decode cL_law 323 = .ok (.iaload, 1)) ∧ (decode cL_law 324 = .ok (.invokevirtual 29, 3)) ∧ (decode cL_law 327 = .ok (.pop, 1)) := by decide +kernel
theorem dL_law_318 : decode cL_law 318 = .ok (.iaload, 1) := eL_law_318.1
theorem dL_law_319 : decode cL_law 319 = .ok (.aload_n 0, 1) := eL_law_318.2.1
theorem dL_law_320 : decode cL_law 320 = .ok (.iload_n 3, 1) := eL_law_318.2.2.1
theorem dL_law_321 : decode cL_law 321 = .ok (.iconst 5, 1) := eL_law_318.2.2.2.1
theorem dL_law_322 : decode cL_law 322 = .ok (.iadd, 1) := eL_law_318.2.2.2.2.1
theorem dL_law_323 : decode cL_law 323 = .ok (.iaload, 1) := eL_law_318.2.2.2.2.2.1
theorem dL_law_324 : decode cL_law 324 = .ok (.invokevirtual 29, 3) := eL_law_318.2.2.2.2.2.2.1
theorem dL_law_327 : decode cL_law 327 = .ok (.pop, 1) := eL_law_318.2.2.2.2.2.2.2
theorem eL_law_328 : (decode cL_law 328 = .ok (.goto 922, 3)) ∧ (decode cL_law 331 = .ok (.aload_n 1, 1)) ∧ (decode cL_law 332 = .ok (.aload_n 0, 1)) ∧ (decode cL_law 333 = .ok (.iload_n 3, 1)) ∧ (decode cL_law 334 = .ok (.iconst 1, 1)) ∧ (decode cL_law 335 = .ok (.iadd, 1)) ∧ (decode cL_law 336 = .ok (.iaload, 1)) ∧ (decode cL_law 337 = .ok (.aload_n 0, 1)) := by decide +kernel
theorem dL_law_328 : decode cL_law 328 = .ok (.goto 922, 3) := eL_law_328.1
theorem dL_law_331 : decode cL_law 331 = .ok (.aload_n 1, 1) := eL_law_328.2.1
theorem dL_law_332 : decode cL_law 332 = .ok (.aload_n 0, 1) := eL_law_328.2.2.1
theorem dL_law_333 : decode cL_law 333 = .ok (.iload_n 3, 1) := eL_law_328.2.2.2.1
theorem dL_law_334 : decode cL_law 334 = .ok (.iconst 1, 1) := eL_law_328.2.2.2.2.1
theorem dL_law_335 : decode cL_law 335 = .ok (.iadd, 1) := eL_law_328.2.2.2.2.2.1
theorem dL_law_336 : decode cL_law 336 = .ok (.iaload, 1) := eL_law_328.2.2.2.2.2.2.1
theorem dL_law_337 : decode cL_law 337 = .ok (.aload_n 0, 1) := eL_law_328.2.2.2.2.2.2.2
theorem eL_law_338 : (decode cL_law 338 = .ok (.iload_n 3, 1)) ∧ (decode cL_law 339 = .ok (.iconst 2, 1)) ∧ (decode cL_law 340 = .ok (.iadd, 1)) ∧ (decode cL_law 341 = .ok (.iaload, 1)) ∧ (decode cL_law 342 = .ok (.aload_n 0, 1)) ∧ (decode cL_law 343 = .ok (.iload_n 3, 1)) ∧ (decode cL_law 344 = .ok (.iconst 3, 1)) ∧ (decode cL_law 345 = .ok (.iadd, 1)) := by decide +kernel
theorem dL_law_338 : decode cL_law 338 = .ok (.iload_n 3, 1) := eL_law_338.1
theorem dL_law_339 : decode cL_law 339 = .ok (.iconst 2, 1) := eL_law_338.2.1
theorem dL_law_340 : decode cL_law 340 = .ok (.iadd, 1) := eL_law_338.2.2.1
theorem dL_law_341 : decode cL_law 341 = .ok (.iaload, 1) := eL_law_338.2.2.2.1
theorem dL_law_342 : decode cL_law 342 = .ok (.aload_n 0, 1) := eL_law_338.2.2.2.2.1
theorem dL_law_343 : decode cL_law 343 = .ok (.iload_n 3, 1) := eL_law_338.2.2.2.2.2.1
theorem dL_law_344 : decode cL_law 344 = .ok (.iconst 3, 1) := eL_law_338.2.2.2.2.2.2.1
theorem dL_law_345 : decode cL_law 345 = .ok (.iadd, 1) := eL_law_338.2.2.2.2.2.2.2
theorem eL_law_346 : (decode cL_law 346 = .ok (.iaload, 1)) ∧ (decode cL_law 347 = .ok (.i2l, 1)) ∧ (decode cL_law 348 = .ok (.bipush 32, 2)) ∧ (decode cL_law 350 = .ok (.lshl, 1)) ∧ (decode cL_law 351 = .ok (.aload_n 0, 1)) ∧ (decode cL_law 352 = .ok (.iload_n 3, 1)) ∧ (decode cL_law 353 = .ok (.iconst 4, 1)) ∧ (decode cL_law 354 = .ok (.iadd, 1)) := by decide +kernel
theorem dL_law_346 : decode cL_law 346 = .ok (.iaload, 1) := eL_law_346.1
theorem dL_law_347 : decode cL_law 347 = .ok (.i2l, 1) := eL_law_346.2.1
theorem dL_law_348 : decode cL_law 348 = .ok (.bipush 32, 2) := eL_law_346.2.2.1
theorem dL_law_350 : decode cL_law 350 = .ok (.lshl, 1) := eL_law_346.2.2.2.1
theorem dL_law_351 : decode cL_law 351 = .ok (.aload_n 0, 1) := eL_law_346.2.2.2.2.1
theorem dL_law_352 : decode cL_law 352 = .ok (.iload_n 3, 1) := eL_law_346.2.2.2.2.2.1
theorem dL_law_353 : decode cL_law 353 = .ok (.iconst 4, 1) := eL_law_346.2.2.2.2.2.2.1
theorem dL_law_354 : decode cL_law 354 = .ok (.iadd, 1) := eL_law_346.2.2.2.2.2.2.2
theorem eL_law_355 : (decode cL_law 355 = .ok (.iaload, 1)) ∧ (decode cL_law 356 = .ok (.i2l, 1)) ∧ (decode cL_law 357 = .ok (.ldc2_w 18, 3)) ∧ (decode cL_law 360 = .ok (.land, 1)) ∧ (decode cL_law 361 = .ok (.lor, 1)) ∧ (decode cL_law 362 = .ok (.invokevirtual 30, 3)) ∧ (decode cL_law 365 = .ok (.pop, 1)) ∧ (decode cL_law 366 = .ok (.aload_n 2, 1)) := by decide +kernel
theorem dL_law_355 : decode cL_law 355 = .ok (.iaload, 1) := eL_law_355.1
theorem dL_law_356 : decode cL_law 356 = .ok (.i2l, 1) := eL_law_355.2.1
theorem dL_law_357 : decode cL_law 357 = .ok (.ldc2_w 18, 3) := eL_law_355.2.2.1
theorem dL_law_360 : decode cL_law 360 = .ok (.land, 1) := eL_law_355.2.2.2.1
theorem dL_law_361 : decode cL_law 361 = .ok (.lor, 1) := eL_law_355.2.2.2.2.1
theorem dL_law_362 : decode cL_law 362 = .ok (.invokevirtual 30, 3) := eL_law_355.2.2.2.2.2.1
theorem dL_law_365 : decode cL_law 365 = .ok (.pop, 1) := eL_law_355.2.2.2.2.2.2.1
theorem dL_law_366 : decode cL_law 366 = .ok (.aload_n 2, 1) := eL_law_355.2.2.2.2.2.2.2
theorem eL_law_367 : (decode cL_law 367 = .ok (.aload_n 0, 1)) ∧ (decode cL_law 368 = .ok (.iload_n 3, 1)) ∧ (decode cL_law 369 = .ok (.iconst 1, 1)) ∧ (decode cL_law 370 = .ok (.iadd, 1)) ∧ (decode cL_law 371 = .ok (.iaload, 1)) ∧ (decode cL_law 372 = .ok (.aload_n 0, 1)) ∧ (decode cL_law 373 = .ok (.iload_n 3, 1)) ∧ (decode cL_law 374 = .ok (.iconst 2, 1)) := by decide +kernel
theorem dL_law_367 : decode cL_law 367 = .ok (.aload_n 0, 1) := eL_law_367.1
theorem dL_law_368 : decode cL_law 368 = .ok (.iload_n 3, 1) := eL_law_367.2.1
theorem dL_law_369 : decode cL_law 369 = .ok (.iconst 1, 1) := eL_law_367.2.2.1
theorem dL_law_370 : decode cL_law 370 = .ok (.iadd, 1) := eL_law_367.2.2.2.1
theorem dL_law_371 : decode cL_law 371 = .ok (.iaload, 1) := eL_law_367.2.2.2.2.1
theorem dL_law_372 : decode cL_law 372 = .ok (.aload_n 0, 1) := eL_law_367.2.2.2.2.2.1
theorem dL_law_373 : decode cL_law 373 = .ok (.iload_n 3, 1) := eL_law_367.2.2.2.2.2.2.1
theorem dL_law_374 : decode cL_law 374 = .ok (.iconst 2, 1) := eL_law_367.2.2.2.2.2.2.2
theorem eL_law_375 : (decode cL_law 375 = .ok (.iadd, 1)) ∧ (decode cL_law 376 = .ok (.iaload, 1)) ∧ (decode cL_law 377 = .ok (.aload_n 0, 1)) ∧ (decode cL_law 378 = .ok (.iload_n 3, 1)) ∧ (decode cL_law 379 = .ok (.iconst 3, 1)) ∧ (decode cL_law 380 = .ok (.iadd, 1)) ∧ (decode cL_law 381 = .ok (.iaload, 1)) ∧ (decode cL_law 382 = .ok (.i2l, 1)) := by decide +kernel
theorem dL_law_375 : decode cL_law 375 = .ok (.iadd, 1) := eL_law_375.1
theorem dL_law_376 : decode cL_law 376 = .ok (.iaload, 1) := eL_law_375.2.1
theorem dL_law_377 : decode cL_law 377 = .ok (.aload_n 0, 1) := eL_law_375.2.2.1
theorem dL_law_378 : decode cL_law 378 = .ok (.iload_n 3, 1) := eL_law_375.2.2.2.1
theorem dL_law_379 : decode cL_law 379 = .ok (.iconst 3, 1) := eL_law_375.2.2.2.2.1
theorem dL_law_380 : decode cL_law 380 = .ok (.iadd, 1) := eL_law_375.2.2.2.2.2.1
theorem dL_law_381 : decode cL_law 381 = .ok (.iaload, 1) := eL_law_375.2.2.2.2.2.2.1
theorem dL_law_382 : decode cL_law 382 = .ok (.i2l, 1) := eL_law_375.2.2.2.2.2.2.2
theorem eL_law_383 : (decode cL_law 383 = .ok (.bipush 32, 2)) ∧ (decode cL_law 385 = .ok (.lshl, 1)) ∧ (decode cL_law 386 = .ok (.aload_n 0, 1)) ∧ (decode cL_law 387 = .ok (.iload_n 3, 1)) ∧ (decode cL_law 388 = .ok (.iconst 4, 1)) ∧ (decode cL_law 389 = .ok (.iadd, 1)) ∧ (decode cL_law 390 = .ok (.iaload, 1)) ∧ (decode cL_law 391 = .ok (.i2l, 1)) := by decide +kernel
theorem dL_law_383 : decode cL_law 383 = .ok (.bipush 32, 2) := eL_law_383.1
theorem dL_law_385 : decode cL_law 385 = .ok (.lshl, 1) := eL_law_383.2.1
theorem dL_law_386 : decode cL_law 386 = .ok (.aload_n 0, 1) := eL_law_383.2.2.1
theorem dL_law_387 : decode cL_law 387 = .ok (.iload_n 3, 1) := eL_law_383.2.2.2.1
theorem dL_law_388 : decode cL_law 388 = .ok (.iconst 4, 1) := eL_law_383.2.2.2.2.1
theorem dL_law_389 : decode cL_law 389 = .ok (.iadd, 1) := eL_law_383.2.2.2.2.2.1
theorem dL_law_390 : decode cL_law 390 = .ok (.iaload, 1) := eL_law_383.2.2.2.2.2.2.1
theorem dL_law_391 : decode cL_law 391 = .ok (.i2l, 1) := eL_law_383.2.2.2.2.2.2.2
theorem eL_law_392 : (decode cL_law 392 = .ok (.ldc2_w 18, 3)) ∧ (decode cL_law 395 = .ok (.land, 1)) ∧ (decode cL_law 396 = .ok (.lor, 1)) ∧ (decode cL_law 397 = .ok (.invokevirtual 33, 3)) ∧ (decode cL_law 400 = .ok (.pop, 1)) ∧ (decode cL_law 401 = .ok (.goto 849, 3)) ∧ (decode cL_law 404 = .ok (.aload_n 1, 1)) ∧ (decode cL_law 405 = .ok (.aload_n 0, 1)) := by decide +kernel
theorem dL_law_392 : decode cL_law 392 = .ok (.ldc2_w 18, 3) := eL_law_392.1
theorem dL_law_395 : decode cL_law 395 = .ok (.land, 1) := eL_law_392.2.1
theorem dL_law_396 : decode cL_law 396 = .ok (.lor, 1) := eL_law_392.2.2.1
theorem dL_law_397 : decode cL_law 397 = .ok (.invokevirtual 33, 3) := eL_law_392.2.2.2.1
theorem dL_law_400 : decode cL_law 400 = .ok (.pop, 1) := eL_law_392.2.2.2.2.1
theorem dL_law_401 : decode cL_law 401 = .ok (.goto 849, 3) := eL_law_392.2.2.2.2.2.1
theorem dL_law_404 : decode cL_law 404 = .ok (.aload_n 1, 1) := eL_law_392.2.2.2.2.2.2.1
theorem dL_law_405 : decode cL_law 405 = .ok (.aload_n 0, 1) := eL_law_392.2.2.2.2.2.2.2
theorem eL_law_406 : (decode cL_law 406 = .ok (.iload_n 3, 1)) ∧ (decode cL_law 407 = .ok (.iconst 1, 1)) ∧ (decode cL_law 408 = .ok (.iadd, 1)) ∧ (decode cL_law 409 = .ok (.iaload, 1)) ∧ (decode cL_law 410 = .ok (.aload_n 0, 1)) ∧ (decode cL_law 411 = .ok (.iload_n 3, 1)) ∧ (decode cL_law 412 = .ok (.iconst 2, 1)) ∧ (decode cL_law 413 = .ok (.iadd, 1)) := by decide +kernel
theorem dL_law_406 : decode cL_law 406 = .ok (.iload_n 3, 1) := eL_law_406.1
theorem dL_law_407 : decode cL_law 407 = .ok (.iconst 1, 1) := eL_law_406.2.1
theorem dL_law_408 : decode cL_law 408 = .ok (.iadd, 1) := eL_law_406.2.2.1
theorem dL_law_409 : decode cL_law 409 = .ok (.iaload, 1) := eL_law_406.2.2.2.1
theorem dL_law_410 : decode cL_law 410 = .ok (.aload_n 0, 1) := eL_law_406.2.2.2.2.1
theorem dL_law_411 : decode cL_law 411 = .ok (.iload_n 3, 1) := eL_law_406.2.2.2.2.2.1
theorem dL_law_412 : decode cL_law 412 = .ok (.iconst 2, 1) := eL_law_406.2.2.2.2.2.2.1
theorem dL_law_413 : decode cL_law 413 = .ok (.iadd, 1) := eL_law_406.2.2.2.2.2.2.2
theorem eL_law_414 : (decode cL_law 414 = .ok (.iaload, 1)) ∧ (decode cL_law 415 = .ok (.aload_n 0, 1)) ∧ (decode cL_law 416 = .ok (.iload_n 3, 1)) ∧ (decode cL_law 417 = .ok (.iconst 3, 1)) ∧ (decode cL_law 418 = .ok (.iadd, 1)) ∧ (decode cL_law 419 = .ok (.iaload, 1)) ∧ (decode cL_law 420 = .ok (.aload_n 0, 1)) ∧ (decode cL_law 421 = .ok (.iload_n 3, 1)) := by decide +kernel
theorem dL_law_414 : decode cL_law 414 = .ok (.iaload, 1) := eL_law_414.1
theorem dL_law_415 : decode cL_law 415 = .ok (.aload_n 0, 1) := eL_law_414.2.1
theorem dL_law_416 : decode cL_law 416 = .ok (.iload_n 3, 1) := eL_law_414.2.2.1
theorem dL_law_417 : decode cL_law 417 = .ok (.iconst 3, 1) := eL_law_414.2.2.2.1
theorem dL_law_418 : decode cL_law 418 = .ok (.iadd, 1) := eL_law_414.2.2.2.2.1
theorem dL_law_419 : decode cL_law 419 = .ok (.iaload, 1) := eL_law_414.2.2.2.2.2.1
theorem dL_law_420 : decode cL_law 420 = .ok (.aload_n 0, 1) := eL_law_414.2.2.2.2.2.2.1
theorem dL_law_421 : decode cL_law 421 = .ok (.iload_n 3, 1) := eL_law_414.2.2.2.2.2.2.2
theorem eL_law_422 : (decode cL_law 422 = .ok (.iconst 4, 1)) ∧ (decode cL_law 423 = .ok (.iadd, 1)) ∧ (decode cL_law 424 = .ok (.iaload, 1)) ∧ (decode cL_law 425 = .ok (.aload_n 0, 1)) ∧ (decode cL_law 426 = .ok (.iload_n 3, 1)) ∧ (decode cL_law 427 = .ok (.iconst 5, 1)) ∧ (decode cL_law 428 = .ok (.iadd, 1)) ∧ (decode cL_law 429 = .ok (.iaload, 1)) := by decide +kernel
theorem dL_law_422 : decode cL_law 422 = .ok (.iconst 4, 1) := eL_law_422.1
theorem dL_law_423 : decode cL_law 423 = .ok (.iadd, 1) := eL_law_422.2.1
theorem dL_law_424 : decode cL_law 424 = .ok (.iaload, 1) := eL_law_422.2.2.1
theorem dL_law_425 : decode cL_law 425 = .ok (.aload_n 0, 1) := eL_law_422.2.2.2.1
theorem dL_law_426 : decode cL_law 426 = .ok (.iload_n 3, 1) := eL_law_422.2.2.2.2.1
theorem dL_law_427 : decode cL_law 427 = .ok (.iconst 5, 1) := eL_law_422.2.2.2.2.2.1
theorem dL_law_428 : decode cL_law 428 = .ok (.iadd, 1) := eL_law_422.2.2.2.2.2.2.1
theorem dL_law_429 : decode cL_law 429 = .ok (.iaload, 1) := eL_law_422.2.2.2.2.2.2.2
theorem eL_law_430 : (decode cL_law 430 = .ok (.invokevirtual 34, 3)) ∧ (decode cL_law 433 = .ok (.pop, 1)) ∧ (decode cL_law 434 = .ok (.aload_n 2, 1)) ∧ (decode cL_law 435 = .ok (.aload_n 0, 1)) ∧ (decode cL_law 436 = .ok (.iload_n 3, 1)) ∧ (decode cL_law 437 = .ok (.iconst 1, 1)) ∧ (decode cL_law 438 = .ok (.iadd, 1)) ∧ (decode cL_law 439 = .ok (.iaload, 1)) := by decide +kernel
theorem dL_law_430 : decode cL_law 430 = .ok (.invokevirtual 34, 3) := eL_law_430.1
theorem dL_law_433 : decode cL_law 433 = .ok (.pop, 1) := eL_law_430.2.1
theorem dL_law_434 : decode cL_law 434 = .ok (.aload_n 2, 1) := eL_law_430.2.2.1
theorem dL_law_435 : decode cL_law 435 = .ok (.aload_n 0, 1) := eL_law_430.2.2.2.1
theorem dL_law_436 : decode cL_law 436 = .ok (.iload_n 3, 1) := eL_law_430.2.2.2.2.1
theorem dL_law_437 : decode cL_law 437 = .ok (.iconst 1, 1) := eL_law_430.2.2.2.2.2.1
theorem dL_law_438 : decode cL_law 438 = .ok (.iadd, 1) := eL_law_430.2.2.2.2.2.2.1
theorem dL_law_439 : decode cL_law 439 = .ok (.iaload, 1) := eL_law_430.2.2.2.2.2.2.2
theorem eL_law_440 : (decode cL_law 440 = .ok (.aload_n 0, 1)) ∧ (decode cL_law 441 = .ok (.iload_n 3, 1)) ∧ (decode cL_law 442 = .ok (.iconst 2, 1)) ∧ (decode cL_law 443 = .ok (.iadd, 1)) ∧ (decode cL_law 444 = .ok (.iaload, 1)) ∧ (decode cL_law 445 = .ok (.aload_n 0, 1)) ∧ (decode cL_law 446 = .ok (.iload_n 3, 1)) ∧ (decode cL_law 447 = .ok (.iconst 3, 1)) := by decide +kernel
theorem dL_law_440 : decode cL_law 440 = .ok (.aload_n 0, 1) := eL_law_440.1
theorem dL_law_441 : decode cL_law 441 = .ok (.iload_n 3, 1) := eL_law_440.2.1
theorem dL_law_442 : decode cL_law 442 = .ok (.iconst 2, 1) := eL_law_440.2.2.1
theorem dL_law_443 : decode cL_law 443 = .ok (.iadd, 1) := eL_law_440.2.2.2.1
theorem dL_law_444 : decode cL_law 444 = .ok (.iaload, 1) := eL_law_440.2.2.2.2.1
theorem dL_law_445 : decode cL_law 445 = .ok (.aload_n 0, 1) := eL_law_440.2.2.2.2.2.1
theorem dL_law_446 : decode cL_law 446 = .ok (.iload_n 3, 1) := eL_law_440.2.2.2.2.2.2.1
theorem dL_law_447 : decode cL_law 447 = .ok (.iconst 3, 1) := eL_law_440.2.2.2.2.2.2.2
theorem eL_law_448 : (decode cL_law 448 = .ok (.iadd, 1)) ∧ (decode cL_law 449 = .ok (.iaload, 1)) ∧ (decode cL_law 450 = .ok (.aload_n 0, 1)) ∧ (decode cL_law 451 = .ok (.iload_n 3, 1)) ∧ (decode cL_law 452 = .ok (.iconst 4, 1)) ∧ (decode cL_law 453 = .ok (.iadd, 1)) ∧ (decode cL_law 454 = .ok (.iaload, 1)) ∧ (decode cL_law 455 = .ok (.aload_n 0, 1)) := by decide +kernel
theorem dL_law_448 : decode cL_law 448 = .ok (.iadd, 1) := eL_law_448.1
theorem dL_law_449 : decode cL_law 449 = .ok (.iaload, 1) := eL_law_448.2.1
theorem dL_law_450 : decode cL_law 450 = .ok (.aload_n 0, 1) := eL_law_448.2.2.1
theorem dL_law_451 : decode cL_law 451 = .ok (.iload_n 3, 1) := eL_law_448.2.2.2.1
theorem dL_law_452 : decode cL_law 452 = .ok (.iconst 4, 1) := eL_law_448.2.2.2.2.1
theorem dL_law_453 : decode cL_law 453 = .ok (.iadd, 1) := eL_law_448.2.2.2.2.2.1
theorem dL_law_454 : decode cL_law 454 = .ok (.iaload, 1) := eL_law_448.2.2.2.2.2.2.1
theorem dL_law_455 : decode cL_law 455 = .ok (.aload_n 0, 1) := eL_law_448.2.2.2.2.2.2.2
theorem eL_law_456 : (decode cL_law 456 = .ok (.iload_n 3, 1)) ∧ (decode cL_law 457 = .ok (.iconst 5, 1)) ∧ (decode cL_law 458 = .ok (.iadd, 1)) ∧ (decode cL_law 459 = .ok (.iaload, 1)) ∧ (decode cL_law 460 = .ok (.invokevirtual 37, 3)) ∧ (decode cL_law 463 = .ok (.pop, 1)) ∧ (decode cL_law 464 = .ok (.goto 786, 3)) ∧ (decode cL_law 467 = .ok (.aload_n 1, 1)) := by decide +kernel
theorem dL_law_456 : decode cL_law 456 = .ok (.iload_n 3, 1) := eL_law_456.1
theorem dL_law_457 : decode cL_law 457 = .ok (.iconst 5, 1) := eL_law_456.2.1
theorem dL_law_458 : decode cL_law 458 = .ok (.iadd, 1) := eL_law_456.2.2.1
theorem dL_law_459 : decode cL_law 459 = .ok (.iaload, 1) := eL_law_456.2.2.2.1
theorem dL_law_460 : decode cL_law 460 = .ok (.invokevirtual 37, 3) := eL_law_456.2.2.2.2.1
theorem dL_law_463 : decode cL_law 463 = .ok (.pop, 1) := eL_law_456.2.2.2.2.2.1
theorem dL_law_464 : decode cL_law 464 = .ok (.goto 786, 3) := eL_law_456.2.2.2.2.2.2.1
theorem dL_law_467 : decode cL_law 467 = .ok (.aload_n 1, 1) := eL_law_456.2.2.2.2.2.2.2
theorem eL_law_468 : (decode cL_law 468 = .ok (.aload_n 0, 1)) ∧ (decode cL_law 469 = .ok (.iload_n 3, 1)) ∧ (decode cL_law 470 = .ok (.iconst 1, 1)) ∧ (decode cL_law 471 = .ok (.iadd, 1)) ∧ (decode cL_law 472 = .ok (.iaload, 1)) ∧ (decode cL_law 473 = .ok (.invokevirtual 38, 3)) ∧ (decode cL_law 476 = .ok (.pop, 1)) ∧ (decode cL_law 477 = .ok (.aload_n 2, 1)) := by decide +kernel
theorem dL_law_468 : decode cL_law 468 = .ok (.aload_n 0, 1) := eL_law_468.1
theorem dL_law_469 : decode cL_law 469 = .ok (.iload_n 3, 1) := eL_law_468.2.1
theorem dL_law_470 : decode cL_law 470 = .ok (.iconst 1, 1) := eL_law_468.2.2.1
theorem dL_law_471 : decode cL_law 471 = .ok (.iadd, 1) := eL_law_468.2.2.2.1
theorem dL_law_472 : decode cL_law 472 = .ok (.iaload, 1) := eL_law_468.2.2.2.2.1
theorem dL_law_473 : decode cL_law 473 = .ok (.invokevirtual 38, 3) := eL_law_468.2.2.2.2.2.1
theorem dL_law_476 : decode cL_law 476 = .ok (.pop, 1) := eL_law_468.2.2.2.2.2.2.1
theorem dL_law_477 : decode cL_law 477 = .ok (.aload_n 2, 1) := eL_law_468.2.2.2.2.2.2.2
theorem eL_law_478 : (decode cL_law 478 = .ok (.aload_n 0, 1)) ∧ (decode cL_law 479 = .ok (.iload_n 3, 1)) ∧ (decode cL_law 480 = .ok (.iconst 1, 1)) ∧ (decode cL_law 481 = .ok (.iadd, 1)) ∧ (decode cL_law 482 = .ok (.iaload, 1)) ∧ (decode cL_law 483 = .ok (.invokevirtual 42, 3)) ∧ (decode cL_law 486 = .ok (.pop, 1)) ∧ (decode cL_law 487 = .ok (.goto 763, 3)) := by decide +kernel
theorem dL_law_478 : decode cL_law 478 = .ok (.aload_n 0, 1) := eL_law_478.1
theorem dL_law_479 : decode cL_law 479 = .ok (.iload_n 3, 1) := eL_law_478.2.1
theorem dL_law_480 : decode cL_law 480 = .ok (.iconst 1, 1) := eL_law_478.2.2.1
theorem dL_law_481 : decode cL_law 481 = .ok (.iadd, 1) := eL_law_478.2.2.2.1
theorem dL_law_482 : decode cL_law 482 = .ok (.iaload, 1) := eL_law_478.2.2.2.2.1
theorem dL_law_483 : decode cL_law 483 = .ok (.invokevirtual 42, 3) := eL_law_478.2.2.2.2.2.1
theorem dL_law_486 : decode cL_law 486 = .ok (.pop, 1) := eL_law_478.2.2.2.2.2.2.1
theorem dL_law_487 : decode cL_law 487 = .ok (.goto 763, 3) := eL_law_478.2.2.2.2.2.2.2
theorem eL_law_490 : (decode cL_law 490 = .ok (.aload_n 1, 1)) ∧ (decode cL_law 491 = .ok (.aload_n 0, 1)) ∧ (decode cL_law 492 = .ok (.iload_n 3, 1)) ∧ (decode cL_law 493 = .ok (.iconst 1, 1)) ∧ (decode cL_law 494 = .ok (.iadd, 1)) ∧ (decode cL_law 495 = .ok (.iaload, 1)) ∧ (decode cL_law 496 = .ok (.aload_n 0, 1)) ∧ (decode cL_law 497 = .ok (.iload_n 3, 1)) := by decide +kernel
theorem dL_law_490 : decode cL_law 490 = .ok (.aload_n 1, 1) := eL_law_490.1
theorem dL_law_491 : decode cL_law 491 = .ok (.aload_n 0, 1) := eL_law_490.2.1
theorem dL_law_492 : decode cL_law 492 = .ok (.iload_n 3, 1) := eL_law_490.2.2.1
theorem dL_law_493 : decode cL_law 493 = .ok (.iconst 1, 1) := eL_law_490.2.2.2.1
theorem dL_law_494 : decode cL_law 494 = .ok (.iadd, 1) := eL_law_490.2.2.2.2.1
theorem dL_law_495 : decode cL_law 495 = .ok (.iaload, 1) := eL_law_490.2.2.2.2.2.1
theorem dL_law_496 : decode cL_law 496 = .ok (.aload_n 0, 1) := eL_law_490.2.2.2.2.2.2.1
theorem dL_law_497 : decode cL_law 497 = .ok (.iload_n 3, 1) := eL_law_490.2.2.2.2.2.2.2
theorem eL_law_498 : (decode cL_law 498 = .ok (.iconst 2, 1)) ∧ (decode cL_law 499 = .ok (.iadd, 1)) ∧ (decode cL_law 500 = .ok (.iaload, 1)) ∧ (decode cL_law 501 = .ok (.aload_n 0, 1)) ∧ (decode cL_law 502 = .ok (.iload_n 3, 1)) ∧ (decode cL_law 503 = .ok (.iconst 3, 1)) ∧ (decode cL_law 504 = .ok (.iadd, 1)) ∧ (decode cL_law 505 = .ok (.iaload, 1)) := by decide +kernel
theorem dL_law_498 : decode cL_law 498 = .ok (.iconst 2, 1) := eL_law_498.1
theorem dL_law_499 : decode cL_law 499 = .ok (.iadd, 1) := eL_law_498.2.1
theorem dL_law_500 : decode cL_law 500 = .ok (.iaload, 1) := eL_law_498.2.2.1
theorem dL_law_501 : decode cL_law 501 = .ok (.aload_n 0, 1) := eL_law_498.2.2.2.1
theorem dL_law_502 : decode cL_law 502 = .ok (.iload_n 3, 1) := eL_law_498.2.2.2.2.1
theorem dL_law_503 : decode cL_law 503 = .ok (.iconst 3, 1) := eL_law_498.2.2.2.2.2.1
theorem dL_law_504 : decode cL_law 504 = .ok (.iadd, 1) := eL_law_498.2.2.2.2.2.2.1
theorem dL_law_505 : decode cL_law 505 = .ok (.iaload, 1) := eL_law_498.2.2.2.2.2.2.2
theorem eL_law_506 : (decode cL_law 506 = .ok (.invokevirtual 43, 3)) ∧ (decode cL_law 509 = .ok (.pop, 1)) ∧ (decode cL_law 510 = .ok (.aload_n 2, 1)) ∧ (decode cL_law 511 = .ok (.aload_n 0, 1)) ∧ (decode cL_law 512 = .ok (.iload_n 3, 1)) ∧ (decode cL_law 513 = .ok (.iconst 1, 1)) ∧ (decode cL_law 514 = .ok (.iadd, 1)) ∧ (decode cL_law 515 = .ok (.iaload, 1)) := by decide +kernel
theorem dL_law_506 : decode cL_law 506 = .ok (.invokevirtual 43, 3) := eL_law_506.1
theorem dL_law_509 : decode cL_law 509 = .ok (.pop, 1) := eL_law_506.2.1
theorem dL_law_510 : decode cL_law 510 = .ok (.aload_n 2, 1) := eL_law_506.2.2.1
theorem dL_law_511 : decode cL_law 511 = .ok (.aload_n 0, 1) := eL_law_506.2.2.2.1
theorem dL_law_512 : decode cL_law 512 = .ok (.iload_n 3, 1) := eL_law_506.2.2.2.2.1
theorem dL_law_513 : decode cL_law 513 = .ok (.iconst 1, 1) := eL_law_506.2.2.2.2.2.1
theorem dL_law_514 : decode cL_law 514 = .ok (.iadd, 1) := eL_law_506.2.2.2.2.2.2.1
theorem dL_law_515 : decode cL_law 515 = .ok (.iaload, 1) := eL_law_506.2.2.2.2.2.2.2
theorem eL_law_516 : (decode cL_law 516 = .ok (.aload_n 0, 1)) ∧ (decode cL_law 517 = .ok (.iload_n 3, 1)) ∧ (decode cL_law 518 = .ok (.iconst 2, 1)) ∧ (decode cL_law 519 = .ok (.iadd, 1)) ∧ (decode cL_law 520 = .ok (.iaload, 1)) ∧ (decode cL_law 521 = .ok (.aload_n 0, 1)) ∧ (decode cL_law 522 = .ok (.iload_n 3, 1)) ∧ (decode cL_law 523 = .ok (.iconst 3, 1)) := by decide +kernel
theorem dL_law_516 : decode cL_law 516 = .ok (.aload_n 0, 1) := eL_law_516.1
theorem dL_law_517 : decode cL_law 517 = .ok (.iload_n 3, 1) := eL_law_516.2.1
theorem dL_law_518 : decode cL_law 518 = .ok (.iconst 2, 1) := eL_law_516.2.2.1
theorem dL_law_519 : decode cL_law 519 = .ok (.iadd, 1) := eL_law_516.2.2.2.1
theorem dL_law_520 : decode cL_law 520 = .ok (.iaload, 1) := eL_law_516.2.2.2.2.1
theorem dL_law_521 : decode cL_law 521 = .ok (.aload_n 0, 1) := eL_law_516.2.2.2.2.2.1
theorem dL_law_522 : decode cL_law 522 = .ok (.iload_n 3, 1) := eL_law_516.2.2.2.2.2.2.1
theorem dL_law_523 : decode cL_law 523 = .ok (.iconst 3, 1) := eL_law_516.2.2.2.2.2.2.2
theorem eL_law_524 : (decode cL_law 524 = .ok (.iadd, 1)) ∧ (decode cL_law 525 = .ok (.iaload, 1)) ∧ (decode cL_law 526 = .ok (.invokevirtual 46, 3)) ∧ (decode cL_law 529 = .ok (.pop, 1)) ∧ (decode cL_law 530 = .ok (.goto 720, 3)) ∧ (decode cL_law 533 = .ok (.aload_n 1, 1)) ∧ (decode cL_law 534 = .ok (.aload_n 0, 1)) ∧ (decode cL_law 535 = .ok (.iload_n 3, 1)) := by decide +kernel
theorem dL_law_524 : decode cL_law 524 = .ok (.iadd, 1) := eL_law_524.1
theorem dL_law_525 : decode cL_law 525 = .ok (.iaload, 1) := eL_law_524.2.1
theorem dL_law_526 : decode cL_law 526 = .ok (.invokevirtual 46, 3) := eL_law_524.2.2.1
theorem dL_law_529 : decode cL_law 529 = .ok (.pop, 1) := eL_law_524.2.2.2.1
theorem dL_law_530 : decode cL_law 530 = .ok (.goto 720, 3) := eL_law_524.2.2.2.2.1
theorem dL_law_533 : decode cL_law 533 = .ok (.aload_n 1, 1) := eL_law_524.2.2.2.2.2.1
theorem dL_law_534 : decode cL_law 534 = .ok (.aload_n 0, 1) := eL_law_524.2.2.2.2.2.2.1
theorem dL_law_535 : decode cL_law 535 = .ok (.iload_n 3, 1) := eL_law_524.2.2.2.2.2.2.2
theorem eL_law_536 : (decode cL_law 536 = .ok (.iconst 1, 1)) ∧ (decode cL_law 537 = .ok (.iadd, 1)) ∧ (decode cL_law 538 = .ok (.iaload, 1)) ∧ (decode cL_law 539 = .ok (.aload_n 0, 1)) ∧ (decode cL_law 540 = .ok (.iload_n 3, 1)) ∧ (decode cL_law 541 = .ok (.iconst 2, 1)) ∧ (decode cL_law 542 = .ok (.iadd, 1)) ∧ (decode cL_law 543 = .ok (.iaload, 1)) := by decide +kernel
theorem dL_law_536 : decode cL_law 536 = .ok (.iconst 1, 1) := eL_law_536.1
theorem dL_law_537 : decode cL_law 537 = .ok (.iadd, 1) := eL_law_536.2.1
theorem dL_law_538 : decode cL_law 538 = .ok (.iaload, 1) := eL_law_536.2.2.1
theorem dL_law_539 : decode cL_law 539 = .ok (.aload_n 0, 1) := eL_law_536.2.2.2.1
theorem dL_law_540 : decode cL_law 540 = .ok (.iload_n 3, 1) := eL_law_536.2.2.2.2.1
theorem dL_law_541 : decode cL_law 541 = .ok (.iconst 2, 1) := eL_law_536.2.2.2.2.2.1
theorem dL_law_542 : decode cL_law 542 = .ok (.iadd, 1) := eL_law_536.2.2.2.2.2.2.1
theorem dL_law_543 : decode cL_law 543 = .ok (.iaload, 1) := eL_law_536.2.2.2.2.2.2.2
theorem eL_law_544 : (decode cL_law 544 = .ok (.aload_n 0, 1)) ∧ (decode cL_law 545 = .ok (.iload_n 3, 1)) ∧ (decode cL_law 546 = .ok (.iconst 3, 1)) ∧ (decode cL_law 547 = .ok (.iadd, 1)) ∧ (decode cL_law 548 = .ok (.iaload, 1)) ∧ (decode cL_law 549 = .ok (.aload_n 0, 1)) ∧ (decode cL_law 550 = .ok (.iload_n 3, 1)) ∧ (decode cL_law 551 = .ok (.iconst 4, 1)) := by decide +kernel
theorem dL_law_544 : decode cL_law 544 = .ok (.aload_n 0, 1) := eL_law_544.1
theorem dL_law_545 : decode cL_law 545 = .ok (.iload_n 3, 1) := eL_law_544.2.1
theorem dL_law_546 : decode cL_law 546 = .ok (.iconst 3, 1) := eL_law_544.2.2.1
theorem dL_law_547 : decode cL_law 547 = .ok (.iadd, 1) := eL_law_544.2.2.2.1
theorem dL_law_548 : decode cL_law 548 = .ok (.iaload, 1) := eL_law_544.2.2.2.2.1
theorem dL_law_549 : decode cL_law 549 = .ok (.aload_n 0, 1) := eL_law_544.2.2.2.2.2.1
theorem dL_law_550 : decode cL_law 550 = .ok (.iload_n 3, 1) := eL_law_544.2.2.2.2.2.2.1
theorem dL_law_551 : decode cL_law 551 = .ok (.iconst 4, 1) := eL_law_544.2.2.2.2.2.2.2
theorem eL_law_552 : (decode cL_law 552 = .ok (.iadd, 1)) ∧ (decode cL_law 553 = .ok (.iaload, 1)) ∧ (decode cL_law 554 = .ok (.invokevirtual 47, 3)) ∧ (decode cL_law 557 = .ok (.pop, 1)) ∧ (decode cL_law 558 = .ok (.aload_n 2, 1)) ∧ (decode cL_law 559 = .ok (.aload_n 0, 1)) ∧ (decode cL_law 560 = .ok (.iload_n 3, 1)) ∧ (decode cL_law 561 = .ok (.iconst 1, 1)) := by decide +kernel
theorem dL_law_552 : decode cL_law 552 = .ok (.iadd, 1) := eL_law_552.1
theorem dL_law_553 : decode cL_law 553 = .ok (.iaload, 1) := eL_law_552.2.1
theorem dL_law_554 : decode cL_law 554 = .ok (.invokevirtual 47, 3) := eL_law_552.2.2.1
theorem dL_law_557 : decode cL_law 557 = .ok (.pop, 1) := eL_law_552.2.2.2.1
theorem dL_law_558 : decode cL_law 558 = .ok (.aload_n 2, 1) := eL_law_552.2.2.2.2.1
theorem dL_law_559 : decode cL_law 559 = .ok (.aload_n 0, 1) := eL_law_552.2.2.2.2.2.1
theorem dL_law_560 : decode cL_law 560 = .ok (.iload_n 3, 1) := eL_law_552.2.2.2.2.2.2.1
theorem dL_law_561 : decode cL_law 561 = .ok (.iconst 1, 1) := eL_law_552.2.2.2.2.2.2.2
theorem eL_law_562 : (decode cL_law 562 = .ok (.iadd, 1)) ∧ (decode cL_law 563 = .ok (.iaload, 1)) ∧ (decode cL_law 564 = .ok (.aload_n 0, 1)) ∧ (decode cL_law 565 = .ok (.iload_n 3, 1)) ∧ (decode cL_law 566 = .ok (.iconst 2, 1)) ∧ (decode cL_law 567 = .ok (.iadd, 1)) ∧ (decode cL_law 568 = .ok (.iaload, 1)) ∧ (decode cL_law 569 = .ok (.aload_n 0, 1)) := by decide +kernel
theorem dL_law_562 : decode cL_law 562 = .ok (.iadd, 1) := eL_law_562.1
theorem dL_law_563 : decode cL_law 563 = .ok (.iaload, 1) := eL_law_562.2.1
theorem dL_law_564 : decode cL_law 564 = .ok (.aload_n 0, 1) := eL_law_562.2.2.1
theorem dL_law_565 : decode cL_law 565 = .ok (.iload_n 3, 1) := eL_law_562.2.2.2.1
theorem dL_law_566 : decode cL_law 566 = .ok (.iconst 2, 1) := eL_law_562.2.2.2.2.1
theorem dL_law_567 : decode cL_law 567 = .ok (.iadd, 1) := eL_law_562.2.2.2.2.2.1
theorem dL_law_568 : decode cL_law 568 = .ok (.iaload, 1) := eL_law_562.2.2.2.2.2.2.1
theorem dL_law_569 : decode cL_law 569 = .ok (.aload_n 0, 1) := eL_law_562.2.2.2.2.2.2.2
theorem eL_law_570 : (decode cL_law 570 = .ok (.iload_n 3, 1)) ∧ (decode cL_law 571 = .ok (.iconst 3, 1)) ∧ (decode cL_law 572 = .ok (.iadd, 1)) ∧ (decode cL_law 573 = .ok (.iaload, 1)) ∧ (decode cL_law 574 = .ok (.aload_n 0, 1)) ∧ (decode cL_law 575 = .ok (.iload_n 3, 1)) ∧ (decode cL_law 576 = .ok (.iconst 4, 1)) ∧ (decode cL_law 577 = .ok (.iadd, 1)) := by decide +kernel
theorem dL_law_570 : decode cL_law 570 = .ok (.iload_n 3, 1) := eL_law_570.1
theorem dL_law_571 : decode cL_law 571 = .ok (.iconst 3, 1) := eL_law_570.2.1
theorem dL_law_572 : decode cL_law 572 = .ok (.iadd, 1) := eL_law_570.2.2.1
theorem dL_law_573 : decode cL_law 573 = .ok (.iaload, 1) := eL_law_570.2.2.2.1
theorem dL_law_574 : decode cL_law 574 = .ok (.aload_n 0, 1) := eL_law_570.2.2.2.2.1
theorem dL_law_575 : decode cL_law 575 = .ok (.iload_n 3, 1) := eL_law_570.2.2.2.2.2.1
theorem dL_law_576 : decode cL_law 576 = .ok (.iconst 4, 1) := eL_law_570.2.2.2.2.2.2.1
theorem dL_law_577 : decode cL_law 577 = .ok (.iadd, 1) := eL_law_570.2.2.2.2.2.2.2
theorem eL_law_578 : (decode cL_law 578 = .ok (.iaload, 1)) ∧ (decode cL_law 579 = .ok (.invokevirtual 51, 3)) ∧ (decode cL_law 582 = .ok (.pop, 1)) ∧ (decode cL_law 583 = .ok (.goto 667, 3)) ∧ (decode cL_law 586 = .ok (.aload_n 1, 1)) ∧ (decode cL_law 587 = .ok (.aload_n 0, 1)) ∧ (decode cL_law 588 = .ok (.iload_n 3, 1)) ∧ (decode cL_law 589 = .ok (.iconst 1, 1)) := by decide +kernel
theorem dL_law_578 : decode cL_law 578 = .ok (.iaload, 1) := eL_law_578.1
theorem dL_law_579 : decode cL_law 579 = .ok (.invokevirtual 51, 3) := eL_law_578.2.1
theorem dL_law_582 : decode cL_law 582 = .ok (.pop, 1) := eL_law_578.2.2.1
theorem dL_law_583 : decode cL_law 583 = .ok (.goto 667, 3) := eL_law_578.2.2.2.1
theorem dL_law_586 : decode cL_law 586 = .ok (.aload_n 1, 1) := eL_law_578.2.2.2.2.1
theorem dL_law_587 : decode cL_law 587 = .ok (.aload_n 0, 1) := eL_law_578.2.2.2.2.2.1
theorem dL_law_588 : decode cL_law 588 = .ok (.iload_n 3, 1) := eL_law_578.2.2.2.2.2.2.1
theorem dL_law_589 : decode cL_law 589 = .ok (.iconst 1, 1) := eL_law_578.2.2.2.2.2.2.2
theorem eL_law_590 : (decode cL_law 590 = .ok (.iadd, 1)) ∧ (decode cL_law 591 = .ok (.iaload, 1)) ∧ (decode cL_law 592 = .ok (.aload_n 0, 1)) ∧ (decode cL_law 593 = .ok (.iload_n 3, 1)) ∧ (decode cL_law 594 = .ok (.iconst 2, 1)) ∧ (decode cL_law 595 = .ok (.iadd, 1)) ∧ (decode cL_law 596 = .ok (.iaload, 1)) ∧ (decode cL_law 597 = .ok (.aload_n 0, 1)) := by decide +kernel
theorem dL_law_590 : decode cL_law 590 = .ok (.iadd, 1) := eL_law_590.1
theorem dL_law_591 : decode cL_law 591 = .ok (.iaload, 1) := eL_law_590.2.1
theorem dL_law_592 : decode cL_law 592 = .ok (.aload_n 0, 1) := eL_law_590.2.2.1
theorem dL_law_593 : decode cL_law 593 = .ok (.iload_n 3, 1) := eL_law_590.2.2.2.1
theorem dL_law_594 : decode cL_law 594 = .ok (.iconst 2, 1) := eL_law_590.2.2.2.2.1
theorem dL_law_595 : decode cL_law 595 = .ok (.iadd, 1) := eL_law_590.2.2.2.2.2.1
theorem dL_law_596 : decode cL_law 596 = .ok (.iaload, 1) := eL_law_590.2.2.2.2.2.2.1
theorem dL_law_597 : decode cL_law 597 = .ok (.aload_n 0, 1) := eL_law_590.2.2.2.2.2.2.2
theorem eL_law_598 : (decode cL_law 598 = .ok (.iload_n 3, 1)) ∧ (decode cL_law 599 = .ok (.iconst 3, 1)) ∧ (decode cL_law 600 = .ok (.iadd, 1)) ∧ (decode cL_law 601 = .ok (.iaload, 1)) ∧ (decode cL_law 602 = .ok (.invokevirtual 52, 3)) ∧ (decode cL_law 605 = .ok (.pop, 1)) ∧ (decode cL_law 606 = .ok (.aload_n 2, 1)) ∧ (decode cL_law 607 = .ok (.aload_n 0, 1)) := by decide +kernel
theorem dL_law_598 : decode cL_law 598 = .ok (.iload_n 3, 1) := eL_law_598.1
theorem dL_law_599 : decode cL_law 599 = .ok (.iconst 3, 1) := eL_law_598.2.1
theorem dL_law_600 : decode cL_law 600 = .ok (.iadd, 1) := eL_law_598.2.2.1
theorem dL_law_601 : decode cL_law 601 = .ok (.iaload, 1) := eL_law_598.2.2.2.1
theorem dL_law_602 : decode cL_law 602 = .ok (.invokevirtual 52, 3) := eL_law_598.2.2.2.2.1
theorem dL_law_605 : decode cL_law 605 = .ok (.pop, 1) := eL_law_598.2.2.2.2.2.1
theorem dL_law_606 : decode cL_law 606 = .ok (.aload_n 2, 1) := eL_law_598.2.2.2.2.2.2.1
theorem dL_law_607 : decode cL_law 607 = .ok (.aload_n 0, 1) := eL_law_598.2.2.2.2.2.2.2
theorem eL_law_608 : (decode cL_law 608 = .ok (.iload_n 3, 1)) ∧ (decode cL_law 609 = .ok (.iconst 1, 1)) ∧ (decode cL_law 610 = .ok (.iadd, 1)) ∧ (decode cL_law 611 = .ok (.iaload, 1)) ∧ (decode cL_law 612 = .ok (.aload_n 0, 1)) ∧ (decode cL_law 613 = .ok (.iload_n 3, 1)) ∧ (decode cL_law 614 = .ok (.iconst 2, 1)) ∧ (decode cL_law 615 = .ok (.iadd, 1)) := by decide +kernel
theorem dL_law_608 : decode cL_law 608 = .ok (.iload_n 3, 1) := eL_law_608.1
theorem dL_law_609 : decode cL_law 609 = .ok (.iconst 1, 1) := eL_law_608.2.1
theorem dL_law_610 : decode cL_law 610 = .ok (.iadd, 1) := eL_law_608.2.2.1
theorem dL_law_611 : decode cL_law 611 = .ok (.iaload, 1) := eL_law_608.2.2.2.1
theorem dL_law_612 : decode cL_law 612 = .ok (.aload_n 0, 1) := eL_law_608.2.2.2.2.1
theorem dL_law_613 : decode cL_law 613 = .ok (.iload_n 3, 1) := eL_law_608.2.2.2.2.2.1
theorem dL_law_614 : decode cL_law 614 = .ok (.iconst 2, 1) := eL_law_608.2.2.2.2.2.2.1
theorem dL_law_615 : decode cL_law 615 = .ok (.iadd, 1) := eL_law_608.2.2.2.2.2.2.2
theorem eL_law_616 : (decode cL_law 616 = .ok (.iaload, 1)) ∧ (decode cL_law 617 = .ok (.aload_n 0, 1)) ∧ (decode cL_law 618 = .ok (.iload_n 3, 1)) ∧ (decode cL_law 619 = .ok (.iconst 3, 1)) ∧ (decode cL_law 620 = .ok (.iadd, 1)) ∧ (decode cL_law 621 = .ok (.iaload, 1)) ∧ (decode cL_law 622 = .ok (.invokevirtual 55, 3)) ∧ (decode cL_law 625 = .ok (.pop, 1)) := by decide +kernel
theorem dL_law_616 : decode cL_law 616 = .ok (.iaload, 1) := eL_law_616.1
theorem dL_law_617 : decode cL_law 617 = .ok (.aload_n 0, 1) := eL_law_616.2.1
theorem dL_law_618 : decode cL_law 618 = .ok (.iload_n 3, 1) := eL_law_616.2.2.1
theorem dL_law_619 : decode cL_law 619 = .ok (.iconst 3, 1) := eL_law_616.2.2.2.1
theorem dL_law_620 : decode cL_law 620 = .ok (.iadd, 1) := eL_law_616.2.2.2.2.1
theorem dL_law_621 : decode cL_law 621 = .ok (.iaload, 1) := eL_law_616.2.2.2.2.2.1
theorem dL_law_622 : decode cL_law 622 = .ok (.invokevirtual 55, 3) := eL_law_616.2.2.2.2.2.2.1
theorem dL_law_625 : decode cL_law 625 = .ok (.pop, 1) := eL_law_616.2.2.2.2.2.2.2
theorem eL_law_626 : (decode cL_law 626 = .ok (.goto 624, 3)) ∧ (decode cL_law 629 = .ok (.aload_n 1, 1)) ∧ (decode cL_law 630 = .ok (.aload_n 0, 1)) ∧ (decode cL_law 631 = .ok (.iload_n 3, 1)) ∧ (decode cL_law 632 = .ok (.iconst 1, 1)) ∧ (decode cL_law 633 = .ok (.iadd, 1)) ∧ (decode cL_law 634 = .ok (.iaload, 1)) ∧ (decode cL_law 635 = .ok (.aload_n 0, 1)) := by decide +kernel
theorem dL_law_626 : decode cL_law 626 = .ok (.goto 624, 3) := eL_law_626.1
theorem dL_law_629 : decode cL_law 629 = .ok (.aload_n 1, 1) := eL_law_626.2.1
theorem dL_law_630 : decode cL_law 630 = .ok (.aload_n 0, 1) := eL_law_626.2.2.1
theorem dL_law_631 : decode cL_law 631 = .ok (.iload_n 3, 1) := eL_law_626.2.2.2.1
theorem dL_law_632 : decode cL_law 632 = .ok (.iconst 1, 1) := eL_law_626.2.2.2.2.1
theorem dL_law_633 : decode cL_law 633 = .ok (.iadd, 1) := eL_law_626.2.2.2.2.2.1
theorem dL_law_634 : decode cL_law 634 = .ok (.iaload, 1) := eL_law_626.2.2.2.2.2.2.1
theorem dL_law_635 : decode cL_law 635 = .ok (.aload_n 0, 1) := eL_law_626.2.2.2.2.2.2.2
theorem eL_law_636 : (decode cL_law 636 = .ok (.iload_n 3, 1)) ∧ (decode cL_law 637 = .ok (.iconst 2, 1)) ∧ (decode cL_law 638 = .ok (.iadd, 1)) ∧ (decode cL_law 639 = .ok (.iaload, 1)) ∧ (decode cL_law 640 = .ok (.invokevirtual 56, 3)) ∧ (decode cL_law 643 = .ok (.pop, 1)) ∧ (decode cL_law 644 = .ok (.aload_n 2, 1)) ∧ (decode cL_law 645 = .ok (.aload_n 0, 1)) := by decide +kernel
theorem dL_law_636 : decode cL_law 636 = .ok (.iload_n 3, 1) := eL_law_636.1
theorem dL_law_637 : decode cL_law 637 = .ok (.iconst 2, 1) := eL_law_636.2.1
theorem dL_law_638 : decode cL_law 638 = .ok (.iadd, 1) := eL_law_636.2.2.1
theorem dL_law_639 : decode cL_law 639 = .ok (.iaload, 1) := eL_law_636.2.2.2.1
theorem dL_law_640 : decode cL_law 640 = .ok (.invokevirtual 56, 3) := eL_law_636.2.2.2.2.1
theorem dL_law_643 : decode cL_law 643 = .ok (.pop, 1) := eL_law_636.2.2.2.2.2.1
theorem dL_law_644 : decode cL_law 644 = .ok (.aload_n 2, 1) := eL_law_636.2.2.2.2.2.2.1
theorem dL_law_645 : decode cL_law 645 = .ok (.aload_n 0, 1) := eL_law_636.2.2.2.2.2.2.2
theorem eL_law_646 : (decode cL_law 646 = .ok (.iload_n 3, 1)) ∧ (decode cL_law 647 = .ok (.iconst 1, 1)) ∧ (decode cL_law 648 = .ok (.iadd, 1)) ∧ (decode cL_law 649 = .ok (.iaload, 1)) ∧ (decode cL_law 650 = .ok (.aload_n 0, 1)) ∧ (decode cL_law 651 = .ok (.iload_n 3, 1)) ∧ (decode cL_law 652 = .ok (.iconst 2, 1)) ∧ (decode cL_law 653 = .ok (.iadd, 1)) := by decide +kernel
theorem dL_law_646 : decode cL_law 646 = .ok (.iload_n 3, 1) := eL_law_646.1
theorem dL_law_647 : decode cL_law 647 = .ok (.iconst 1, 1) := eL_law_646.2.1
theorem dL_law_648 : decode cL_law 648 = .ok (.iadd, 1) := eL_law_646.2.2.1
theorem dL_law_649 : decode cL_law 649 = .ok (.iaload, 1) := eL_law_646.2.2.2.1
theorem dL_law_650 : decode cL_law 650 = .ok (.aload_n 0, 1) := eL_law_646.2.2.2.2.1
theorem dL_law_651 : decode cL_law 651 = .ok (.iload_n 3, 1) := eL_law_646.2.2.2.2.2.1
theorem dL_law_652 : decode cL_law 652 = .ok (.iconst 2, 1) := eL_law_646.2.2.2.2.2.2.1
theorem dL_law_653 : decode cL_law 653 = .ok (.iadd, 1) := eL_law_646.2.2.2.2.2.2.2
theorem eL_law_654 : (decode cL_law 654 = .ok (.iaload, 1)) ∧ (decode cL_law 655 = .ok (.invokevirtual 60, 3)) ∧ (decode cL_law 658 = .ok (.pop, 1)) ∧ (decode cL_law 659 = .ok (.goto 591, 3)) ∧ (decode cL_law 662 = .ok (.aload_n 1, 1)) ∧ (decode cL_law 663 = .ok (.aload_n 0, 1)) ∧ (decode cL_law 664 = .ok (.iload_n 3, 1)) ∧ (decode cL_law 665 = .ok (.iconst 1, 1)) := by decide +kernel
theorem dL_law_654 : decode cL_law 654 = .ok (.iaload, 1) := eL_law_654.1
theorem dL_law_655 : decode cL_law 655 = .ok (.invokevirtual 60, 3) := eL_law_654.2.1
theorem dL_law_658 : decode cL_law 658 = .ok (.pop, 1) := eL_law_654.2.2.1
theorem dL_law_659 : decode cL_law 659 = .ok (.goto 591, 3) := eL_law_654.2.2.2.1
theorem dL_law_662 : decode cL_law 662 = .ok (.aload_n 1, 1) := eL_law_654.2.2.2.2.1
theorem dL_law_663 : decode cL_law 663 = .ok (.aload_n 0, 1) := eL_law_654.2.2.2.2.2.1
theorem dL_law_664 : decode cL_law 664 = .ok (.iload_n 3, 1) := eL_law_654.2.2.2.2.2.2.1
theorem dL_law_665 : decode cL_law 665 = .ok (.iconst 1, 1) := eL_law_654.2.2.2.2.2.2.2
theorem eL_law_666 : (decode cL_law 666 = .ok (.iadd, 1)) ∧ (decode cL_law 667 = .ok (.iaload, 1)) ∧ (decode cL_law 668 = .ok (.aload_n 0, 1)) ∧ (decode cL_law 669 = .ok (.iload_n 3, 1)) ∧ (decode cL_law 670 = .ok (.iconst 2, 1)) ∧ (decode cL_law 671 = .ok (.iadd, 1)) ∧ (decode cL_law 672 = .ok (.iaload, 1)) ∧ (decode cL_law 673 = .ok (.aload_n 0, 1)) := by decide +kernel
theorem dL_law_666 : decode cL_law 666 = .ok (.iadd, 1) := eL_law_666.1
theorem dL_law_667 : decode cL_law 667 = .ok (.iaload, 1) := eL_law_666.2.1
theorem dL_law_668 : decode cL_law 668 = .ok (.aload_n 0, 1) := eL_law_666.2.2.1
theorem dL_law_669 : decode cL_law 669 = .ok (.iload_n 3, 1) := eL_law_666.2.2.2.1
theorem dL_law_670 : decode cL_law 670 = .ok (.iconst 2, 1) := eL_law_666.2.2.2.2.1
theorem dL_law_671 : decode cL_law 671 = .ok (.iadd, 1) := eL_law_666.2.2.2.2.2.1
theorem dL_law_672 : decode cL_law 672 = .ok (.iaload, 1) := eL_law_666.2.2.2.2.2.2.1
theorem dL_law_673 : decode cL_law 673 = .ok (.aload_n 0, 1) := eL_law_666.2.2.2.2.2.2.2
theorem eL_law_674 : (decode cL_law 674 = .ok (.iload_n 3, 1)) ∧ (decode cL_law 675 = .ok (.iconst 3, 1)) ∧ (decode cL_law 676 = .ok (.iadd, 1)) ∧ (decode cL_law 677 = .ok (.iaload, 1)) ∧ (decode cL_law 678 = .ok (.invokevirtual 61, 3)) ∧ (decode cL_law 681 = .ok (.pop, 1)) ∧ (decode cL_law 682 = .ok (.aload_n 2, 1)) ∧ (decode cL_law 683 = .ok (.aload_n 0, 1)) := by decide +kernel
theorem dL_law_674 : decode cL_law 674 = .ok (.iload_n 3, 1) := eL_law_674.1
theorem dL_law_675 : decode cL_law 675 = .ok (.iconst 3, 1) := eL_law_674.2.1
theorem dL_law_676 : decode cL_law 676 = .ok (.iadd, 1) := eL_law_674.2.2.1
theorem dL_law_677 : decode cL_law 677 = .ok (.iaload, 1) := eL_law_674.2.2.2.1
theorem dL_law_678 : decode cL_law 678 = .ok (.invokevirtual 61, 3) := eL_law_674.2.2.2.2.1
theorem dL_law_681 : decode cL_law 681 = .ok (.pop, 1) := eL_law_674.2.2.2.2.2.1
theorem dL_law_682 : decode cL_law 682 = .ok (.aload_n 2, 1) := eL_law_674.2.2.2.2.2.2.1
theorem dL_law_683 : decode cL_law 683 = .ok (.aload_n 0, 1) := eL_law_674.2.2.2.2.2.2.2
theorem eL_law_684 : (decode cL_law 684 = .ok (.iload_n 3, 1)) ∧ (decode cL_law 685 = .ok (.iconst 1, 1)) ∧ (decode cL_law 686 = .ok (.iadd, 1)) ∧ (decode cL_law 687 = .ok (.iaload, 1)) ∧ (decode cL_law 688 = .ok (.aload_n 0, 1)) ∧ (decode cL_law 689 = .ok (.iload_n 3, 1)) ∧ (decode cL_law 690 = .ok (.iconst 2, 1)) ∧ (decode cL_law 691 = .ok (.iadd, 1)) := by decide +kernel
theorem dL_law_684 : decode cL_law 684 = .ok (.iload_n 3, 1) := eL_law_684.1
theorem dL_law_685 : decode cL_law 685 = .ok (.iconst 1, 1) := eL_law_684.2.1
theorem dL_law_686 : decode cL_law 686 = .ok (.iadd, 1) := eL_law_684.2.2.1
theorem dL_law_687 : decode cL_law 687 = .ok (.iaload, 1) := eL_law_684.2.2.2.1
theorem dL_law_688 : decode cL_law 688 = .ok (.aload_n 0, 1) := eL_law_684.2.2.2.2.1
theorem dL_law_689 : decode cL_law 689 = .ok (.iload_n 3, 1) := eL_law_684.2.2.2.2.2.1
theorem dL_law_690 : decode cL_law 690 = .ok (.iconst 2, 1) := eL_law_684.2.2.2.2.2.2.1
theorem dL_law_691 : decode cL_law 691 = .ok (.iadd, 1) := eL_law_684.2.2.2.2.2.2.2
theorem eL_law_692 : (decode cL_law 692 = .ok (.iaload, 1)) ∧ (decode cL_law 693 = .ok (.aload_n 0, 1)) ∧ (decode cL_law 694 = .ok (.iload_n 3, 1)) ∧ (decode cL_law 695 = .ok (.iconst 3, 1)) ∧ (decode cL_law 696 = .ok (.iadd, 1)) ∧ (decode cL_law 697 = .ok (.iaload, 1)) ∧ (decode cL_law 698 = .ok (.invokevirtual 64, 3)) ∧ (decode cL_law 701 = .ok (.pop, 1)) := by decide +kernel
theorem dL_law_692 : decode cL_law 692 = .ok (.iaload, 1) := eL_law_692.1
theorem dL_law_693 : decode cL_law 693 = .ok (.aload_n 0, 1) := eL_law_692.2.1
theorem dL_law_694 : decode cL_law 694 = .ok (.iload_n 3, 1) := eL_law_692.2.2.1
theorem dL_law_695 : decode cL_law 695 = .ok (.iconst 3, 1) := eL_law_692.2.2.2.1
theorem dL_law_696 : decode cL_law 696 = .ok (.iadd, 1) := eL_law_692.2.2.2.2.1
theorem dL_law_697 : decode cL_law 697 = .ok (.iaload, 1) := eL_law_692.2.2.2.2.2.1
theorem dL_law_698 : decode cL_law 698 = .ok (.invokevirtual 64, 3) := eL_law_692.2.2.2.2.2.2.1
theorem dL_law_701 : decode cL_law 701 = .ok (.pop, 1) := eL_law_692.2.2.2.2.2.2.2
theorem eL_law_702 : (decode cL_law 702 = .ok (.goto 548, 3)) ∧ (decode cL_law 705 = .ok (.aload_n 1, 1)) ∧ (decode cL_law 706 = .ok (.aload_n 0, 1)) ∧ (decode cL_law 707 = .ok (.iload_n 3, 1)) ∧ (decode cL_law 708 = .ok (.iconst 1, 1)) ∧ (decode cL_law 709 = .ok (.iadd, 1)) ∧ (decode cL_law 710 = .ok (.iaload, 1)) ∧ (decode cL_law 711 = .ok (.aload_n 0, 1)) := by decide +kernel
theorem dL_law_702 : decode cL_law 702 = .ok (.goto 548, 3) := eL_law_702.1
theorem dL_law_705 : decode cL_law 705 = .ok (.aload_n 1, 1) := eL_law_702.2.1
theorem dL_law_706 : decode cL_law 706 = .ok (.aload_n 0, 1) := eL_law_702.2.2.1
theorem dL_law_707 : decode cL_law 707 = .ok (.iload_n 3, 1) := eL_law_702.2.2.2.1
theorem dL_law_708 : decode cL_law 708 = .ok (.iconst 1, 1) := eL_law_702.2.2.2.2.1
theorem dL_law_709 : decode cL_law 709 = .ok (.iadd, 1) := eL_law_702.2.2.2.2.2.1
theorem dL_law_710 : decode cL_law 710 = .ok (.iaload, 1) := eL_law_702.2.2.2.2.2.2.1
theorem dL_law_711 : decode cL_law 711 = .ok (.aload_n 0, 1) := eL_law_702.2.2.2.2.2.2.2
theorem eL_law_712 : (decode cL_law 712 = .ok (.iload_n 3, 1)) ∧ (decode cL_law 713 = .ok (.iconst 2, 1)) ∧ (decode cL_law 714 = .ok (.iadd, 1)) ∧ (decode cL_law 715 = .ok (.iaload, 1)) ∧ (decode cL_law 716 = .ok (.invokevirtual 65, 3)) ∧ (decode cL_law 719 = .ok (.pop, 1)) ∧ (decode cL_law 720 = .ok (.aload_n 2, 1)) ∧ (decode cL_law 721 = .ok (.aload_n 0, 1)) := by decide +kernel
theorem dL_law_712 : decode cL_law 712 = .ok (.iload_n 3, 1) := eL_law_712.1
theorem dL_law_713 : decode cL_law 713 = .ok (.iconst 2, 1) := eL_law_712.2.1
theorem dL_law_714 : decode cL_law 714 = .ok (.iadd, 1) := eL_law_712.2.2.1
theorem dL_law_715 : decode cL_law 715 = .ok (.iaload, 1) := eL_law_712.2.2.2.1
theorem dL_law_716 : decode cL_law 716 = .ok (.invokevirtual 65, 3) := eL_law_712.2.2.2.2.1
theorem dL_law_719 : decode cL_law 719 = .ok (.pop, 1) := eL_law_712.2.2.2.2.2.1
theorem dL_law_720 : decode cL_law 720 = .ok (.aload_n 2, 1) := eL_law_712.2.2.2.2.2.2.1
theorem dL_law_721 : decode cL_law 721 = .ok (.aload_n 0, 1) := eL_law_712.2.2.2.2.2.2.2
theorem eL_law_722 : (decode cL_law 722 = .ok (.iload_n 3, 1)) ∧ (decode cL_law 723 = .ok (.iconst 1, 1)) ∧ (decode cL_law 724 = .ok (.iadd, 1)) ∧ (decode cL_law 725 = .ok (.iaload, 1)) ∧ (decode cL_law 726 = .ok (.aload_n 0, 1)) ∧ (decode cL_law 727 = .ok (.iload_n 3, 1)) ∧ (decode cL_law 728 = .ok (.iconst 2, 1)) ∧ (decode cL_law 729 = .ok (.iadd, 1)) := by decide +kernel
theorem dL_law_722 : decode cL_law 722 = .ok (.iload_n 3, 1) := eL_law_722.1
theorem dL_law_723 : decode cL_law 723 = .ok (.iconst 1, 1) := eL_law_722.2.1
theorem dL_law_724 : decode cL_law 724 = .ok (.iadd, 1) := eL_law_722.2.2.1
theorem dL_law_725 : decode cL_law 725 = .ok (.iaload, 1) := eL_law_722.2.2.2.1
theorem dL_law_726 : decode cL_law 726 = .ok (.aload_n 0, 1) := eL_law_722.2.2.2.2.1
theorem dL_law_727 : decode cL_law 727 = .ok (.iload_n 3, 1) := eL_law_722.2.2.2.2.2.1
theorem dL_law_728 : decode cL_law 728 = .ok (.iconst 2, 1) := eL_law_722.2.2.2.2.2.2.1
theorem dL_law_729 : decode cL_law 729 = .ok (.iadd, 1) := eL_law_722.2.2.2.2.2.2.2
theorem eL_law_730 : (decode cL_law 730 = .ok (.iaload, 1)) ∧ (decode cL_law 731 = .ok (.invokevirtual 68, 3)) ∧ (decode cL_law 734 = .ok (.pop, 1)) ∧ (decode cL_law 735 = .ok (.goto 515, 3)) ∧ (decode cL_law 738 = .ok (.aload_n 1, 1)) ∧ (decode cL_law 739 = .ok (.aload_n 0, 1)) ∧ (decode cL_law 740 = .ok (.iload_n 3, 1)) ∧ (decode cL_law 741 = .ok (.iconst 1, 1)) := by decide +kernel
theorem dL_law_730 : decode cL_law 730 = .ok (.iaload, 1) := eL_law_730.1
theorem dL_law_731 : decode cL_law 731 = .ok (.invokevirtual 68, 3) := eL_law_730.2.1
theorem dL_law_734 : decode cL_law 734 = .ok (.pop, 1) := eL_law_730.2.2.1
theorem dL_law_735 : decode cL_law 735 = .ok (.goto 515, 3) := eL_law_730.2.2.2.1
theorem dL_law_738 : decode cL_law 738 = .ok (.aload_n 1, 1) := eL_law_730.2.2.2.2.1
theorem dL_law_739 : decode cL_law 739 = .ok (.aload_n 0, 1) := eL_law_730.2.2.2.2.2.1
theorem dL_law_740 : decode cL_law 740 = .ok (.iload_n 3, 1) := eL_law_730.2.2.2.2.2.2.1
theorem dL_law_741 : decode cL_law 741 = .ok (.iconst 1, 1) := eL_law_730.2.2.2.2.2.2.2
theorem eL_law_742 : (decode cL_law 742 = .ok (.iadd, 1)) ∧ (decode cL_law 743 = .ok (.iaload, 1)) ∧ (decode cL_law 744 = .ok (.invokevirtual 69, 3)) ∧ (decode cL_law 747 = .ok (.pop, 1)) ∧ (decode cL_law 748 = .ok (.aload_n 2, 1)) ∧ (decode cL_law 749 = .ok (.aload_n 0, 1)) ∧ (decode cL_law 750 = .ok (.iload_n 3, 1)) ∧ (decode cL_law 751 = .ok (.iconst 1, 1)) := by decide +kernel
theorem dL_law_742 : decode cL_law 742 = .ok (.iadd, 1) := eL_law_742.1
theorem dL_law_743 : decode cL_law 743 = .ok (.iaload, 1) := eL_law_742.2.1
theorem dL_law_744 : decode cL_law 744 = .ok (.invokevirtual 69, 3) := eL_law_742.2.2.1
theorem dL_law_747 : decode cL_law 747 = .ok (.pop, 1) := eL_law_742.2.2.2.1
theorem dL_law_748 : decode cL_law 748 = .ok (.aload_n 2, 1) := eL_law_742.2.2.2.2.1
theorem dL_law_749 : decode cL_law 749 = .ok (.aload_n 0, 1) := eL_law_742.2.2.2.2.2.1
theorem dL_law_750 : decode cL_law 750 = .ok (.iload_n 3, 1) := eL_law_742.2.2.2.2.2.2.1
theorem dL_law_751 : decode cL_law 751 = .ok (.iconst 1, 1) := eL_law_742.2.2.2.2.2.2.2
theorem eL_law_752 : (decode cL_law 752 = .ok (.iadd, 1)) ∧ (decode cL_law 753 = .ok (.iaload, 1)) ∧ (decode cL_law 754 = .ok (.invokevirtual 72, 3)) ∧ (decode cL_law 757 = .ok (.pop, 1)) ∧ (decode cL_law 758 = .ok (.goto 492, 3)) ∧ (decode cL_law 761 = .ok (.aload_n 1, 1)) ∧ (decode cL_law 762 = .ok (.aload_n 0, 1)) ∧ (decode cL_law 763 = .ok (.iload_n 3, 1)) := by decide +kernel
theorem dL_law_752 : decode cL_law 752 = .ok (.iadd, 1) := eL_law_752.1
theorem dL_law_753 : decode cL_law 753 = .ok (.iaload, 1) := eL_law_752.2.1
theorem dL_law_754 : decode cL_law 754 = .ok (.invokevirtual 72, 3) := eL_law_752.2.2.1
theorem dL_law_757 : decode cL_law 757 = .ok (.pop, 1) := eL_law_752.2.2.2.1
theorem dL_law_758 : decode cL_law 758 = .ok (.goto 492, 3) := eL_law_752.2.2.2.2.1
theorem dL_law_761 : decode cL_law 761 = .ok (.aload_n 1, 1) := eL_law_752.2.2.2.2.2.1
theorem dL_law_762 : decode cL_law 762 = .ok (.aload_n 0, 1) := eL_law_752.2.2.2.2.2.2.1
theorem dL_law_763 : decode cL_law 763 = .ok (.iload_n 3, 1) := eL_law_752.2.2.2.2.2.2.2
theorem eL_law_764 : (decode cL_law 764 = .ok (.iconst 1, 1)) ∧ (decode cL_law 765 = .ok (.iadd, 1)) ∧ (decode cL_law 766 = .ok (.iaload, 1)) ∧ (decode cL_law 767 = .ok (.invokevirtual 73, 3)) ∧ (decode cL_law 770 = .ok (.pop, 1)) ∧ (decode cL_law 771 = .ok (.aload_n 2, 1)) ∧ (decode cL_law 772 = .ok (.aload_n 0, 1)) ∧ (decode cL_law 773 = .ok (.iload_n 3, 1)) := by decide +kernel
theorem dL_law_764 : decode cL_law 764 = .ok (.iconst 1, 1) := eL_law_764.1
theorem dL_law_765 : decode cL_law 765 = .ok (.iadd, 1) := eL_law_764.2.1
theorem dL_law_766 : decode cL_law 766 = .ok (.iaload, 1) := eL_law_764.2.2.1
theorem dL_law_767 : decode cL_law 767 = .ok (.invokevirtual 73, 3) := eL_law_764.2.2.2.1
theorem dL_law_770 : decode cL_law 770 = .ok (.pop, 1) := eL_law_764.2.2.2.2.1
theorem dL_law_771 : decode cL_law 771 = .ok (.aload_n 2, 1) := eL_law_764.2.2.2.2.2.1
theorem dL_law_772 : decode cL_law 772 = .ok (.aload_n 0, 1) := eL_law_764.2.2.2.2.2.2.1
theorem dL_law_773 : decode cL_law 773 = .ok (.iload_n 3, 1) := eL_law_764.2.2.2.2.2.2.2
theorem eL_law_774 : (decode cL_law 774 = .ok (.iconst 1, 1)) ∧ (decode cL_law 775 = .ok (.iadd, 1)) ∧ (decode cL_law 776 = .ok (.iaload, 1)) ∧ (decode cL_law 777 = .ok (.invokevirtual 76, 3)) ∧ (decode cL_law 780 = .ok (.pop, 1)) ∧ (decode cL_law 781 = .ok (.goto 469, 3)) ∧ (decode cL_law 784 = .ok (.aload_n 1, 1)) ∧ (decode cL_law 785 = .ok (.aload_n 0, 1)) := by decide +kernel
theorem dL_law_774 : decode cL_law 774 = .ok (.iconst 1, 1) := eL_law_774.1
theorem dL_law_775 : decode cL_law 775 = .ok (.iadd, 1) := eL_law_774.2.1
theorem dL_law_776 : decode cL_law 776 = .ok (.iaload, 1) := eL_law_774.2.2.1
theorem dL_law_777 : decode cL_law 777 = .ok (.invokevirtual 76, 3) := eL_law_774.2.2.2.1
theorem dL_law_780 : decode cL_law 780 = .ok (.pop, 1) := eL_law_774.2.2.2.2.1
theorem dL_law_781 : decode cL_law 781 = .ok (.goto 469, 3) := eL_law_774.2.2.2.2.2.1
theorem dL_law_784 : decode cL_law 784 = .ok (.aload_n 1, 1) := eL_law_774.2.2.2.2.2.2.1
theorem dL_law_785 : decode cL_law 785 = .ok (.aload_n 0, 1) := eL_law_774.2.2.2.2.2.2.2
theorem eL_law_786 : (decode cL_law 786 = .ok (.iload_n 3, 1)) ∧ (decode cL_law 787 = .ok (.iconst 1, 1)) ∧ (decode cL_law 788 = .ok (.iadd, 1)) ∧ (decode cL_law 789 = .ok (.iaload, 1)) ∧ (decode cL_law 790 = .ok (.aload_n 0, 1)) ∧ (decode cL_law 791 = .ok (.iload_n 3, 1)) ∧ (decode cL_law 792 = .ok (.iconst 2, 1)) ∧ (decode cL_law 793 = .ok (.iadd, 1)) := by decide +kernel
theorem dL_law_786 : decode cL_law 786 = .ok (.iload_n 3, 1) := eL_law_786.1
theorem dL_law_787 : decode cL_law 787 = .ok (.iconst 1, 1) := eL_law_786.2.1
theorem dL_law_788 : decode cL_law 788 = .ok (.iadd, 1) := eL_law_786.2.2.1
theorem dL_law_789 : decode cL_law 789 = .ok (.iaload, 1) := eL_law_786.2.2.2.1
theorem dL_law_790 : decode cL_law 790 = .ok (.aload_n 0, 1) := eL_law_786.2.2.2.2.1
theorem dL_law_791 : decode cL_law 791 = .ok (.iload_n 3, 1) := eL_law_786.2.2.2.2.2.1
theorem dL_law_792 : decode cL_law 792 = .ok (.iconst 2, 1) := eL_law_786.2.2.2.2.2.2.1
theorem dL_law_793 : decode cL_law 793 = .ok (.iadd, 1) := eL_law_786.2.2.2.2.2.2.2
theorem eL_law_794 : (decode cL_law 794 = .ok (.iaload, 1)) ∧ (decode cL_law 795 = .ok (.invokevirtual 77, 3)) ∧ (decode cL_law 798 = .ok (.pop, 1)) ∧ (decode cL_law 799 = .ok (.aload_n 2, 1)) ∧ (decode cL_law 800 = .ok (.aload_n 0, 1)) ∧ (decode cL_law 801 = .ok (.iload_n 3, 1)) ∧ (decode cL_law 802 = .ok (.iconst 1, 1)) ∧ (decode cL_law 803 = .ok (.iadd, 1)) := by decide +kernel
theorem dL_law_794 : decode cL_law 794 = .ok (.iaload, 1) := eL_law_794.1
theorem dL_law_795 : decode cL_law 795 = .ok (.invokevirtual 77, 3) := eL_law_794.2.1
theorem dL_law_798 : decode cL_law 798 = .ok (.pop, 1) := eL_law_794.2.2.1
theorem dL_law_799 : decode cL_law 799 = .ok (.aload_n 2, 1) := eL_law_794.2.2.2.1
theorem dL_law_800 : decode cL_law 800 = .ok (.aload_n 0, 1) := eL_law_794.2.2.2.2.1
theorem dL_law_801 : decode cL_law 801 = .ok (.iload_n 3, 1) := eL_law_794.2.2.2.2.2.1
theorem dL_law_802 : decode cL_law 802 = .ok (.iconst 1, 1) := eL_law_794.2.2.2.2.2.2.1
theorem dL_law_803 : decode cL_law 803 = .ok (.iadd, 1) := eL_law_794.2.2.2.2.2.2.2
theorem eL_law_804 : (decode cL_law 804 = .ok (.iaload, 1)) ∧ (decode cL_law 805 = .ok (.aload_n 0, 1)) ∧ (decode cL_law 806 = .ok (.iload_n 3, 1)) ∧ (decode cL_law 807 = .ok (.iconst 2, 1)) ∧ (decode cL_law 808 = .ok (.iadd, 1)) ∧ (decode cL_law 809 = .ok (.iaload, 1)) ∧ (decode cL_law 810 = .ok (.invokevirtual 80, 3)) ∧ (decode cL_law 813 = .ok (.pop, 1)) := by decide +kernel
theorem dL_law_804 : decode cL_law 804 = .ok (.iaload, 1) := eL_law_804.1
theorem dL_law_805 : decode cL_law 805 = .ok (.aload_n 0, 1) := eL_law_804.2.1
theorem dL_law_806 : decode cL_law 806 = .ok (.iload_n 3, 1) := eL_law_804.2.2.1
theorem dL_law_807 : decode cL_law 807 = .ok (.iconst 2, 1) := eL_law_804.2.2.2.1
theorem dL_law_808 : decode cL_law 808 = .ok (.iadd, 1) := eL_law_804.2.2.2.2.1
theorem dL_law_809 : decode cL_law 809 = .ok (.iaload, 1) := eL_law_804.2.2.2.2.2.1
theorem dL_law_810 : decode cL_law 810 = .ok (.invokevirtual 80, 3) := eL_law_804.2.2.2.2.2.2.1
theorem dL_law_813 : decode cL_law 813 = .ok (.pop, 1) := eL_law_804.2.2.2.2.2.2.2
theorem eL_law_814 : (decode cL_law 814 = .ok (.goto 436, 3)) ∧ (decode cL_law 817 = .ok (.aload_n 1, 1)) ∧ (decode cL_law 818 = .ok (.invokevirtual 81, 3)) ∧ (decode cL_law 821 = .ok (.pop, 1)) ∧ (decode cL_law 822 = .ok (.aload_n 2, 1)) ∧ (decode cL_law 823 = .ok (.invokevirtual 85, 3)) ∧ (decode cL_law 826 = .ok (.pop, 1)) ∧ (decode cL_law 827 = .ok (.goto 423, 3)) := by decide +kernel
theorem dL_law_814 : decode cL_law 814 = .ok (.goto 436, 3) := eL_law_814.1
theorem dL_law_817 : decode cL_law 817 = .ok (.aload_n 1, 1) := eL_law_814.2.1
theorem dL_law_818 : decode cL_law 818 = .ok (.invokevirtual 81, 3) := eL_law_814.2.2.1
theorem dL_law_821 : decode cL_law 821 = .ok (.pop, 1) := eL_law_814.2.2.2.1
theorem dL_law_822 : decode cL_law 822 = .ok (.aload_n 2, 1) := eL_law_814.2.2.2.2.1
theorem dL_law_823 : decode cL_law 823 = .ok (.invokevirtual 85, 3) := eL_law_814.2.2.2.2.2.1
theorem dL_law_826 : decode cL_law 826 = .ok (.pop, 1) := eL_law_814.2.2.2.2.2.2.1
theorem dL_law_827 : decode cL_law 827 = .ok (.goto 423, 3) := eL_law_814.2.2.2.2.2.2.2
theorem eL_law_830 : (decode cL_law 830 = .ok (.aload_n 1, 1)) ∧ (decode cL_law 831 = .ok (.aload_n 0, 1)) ∧ (decode cL_law 832 = .ok (.iload_n 3, 1)) ∧ (decode cL_law 833 = .ok (.iconst 1, 1)) ∧ (decode cL_law 834 = .ok (.iadd, 1)) ∧ (decode cL_law 835 = .ok (.iaload, 1)) ∧ (decode cL_law 836 = .ok (.aload_n 0, 1)) ∧ (decode cL_law 837 = .ok (.iload_n 3, 1)) := by decide +kernel
theorem dL_law_830 : decode cL_law 830 = .ok (.aload_n 1, 1) := eL_law_830.1
theorem dL_law_831 : decode cL_law 831 = .ok (.aload_n 0, 1) := eL_law_830.2.1
theorem dL_law_832 : decode cL_law 832 = .ok (.iload_n 3, 1) := eL_law_830.2.2.1
theorem dL_law_833 : decode cL_law 833 = .ok (.iconst 1, 1) := eL_law_830.2.2.2.1
theorem dL_law_834 : decode cL_law 834 = .ok (.iadd, 1) := eL_law_830.2.2.2.2.1
theorem dL_law_835 : decode cL_law 835 = .ok (.iaload, 1) := eL_law_830.2.2.2.2.2.1
theorem dL_law_836 : decode cL_law 836 = .ok (.aload_n 0, 1) := eL_law_830.2.2.2.2.2.2.1
theorem dL_law_837 : decode cL_law 837 = .ok (.iload_n 3, 1) := eL_law_830.2.2.2.2.2.2.2
theorem eL_law_838 : (decode cL_law 838 = .ok (.iconst 2, 1)) ∧ (decode cL_law 839 = .ok (.iadd, 1)) ∧ (decode cL_law 840 = .ok (.iaload, 1)) ∧ (decode cL_law 841 = .ok (.aload_n 0, 1)) ∧ (decode cL_law 842 = .ok (.iload_n 3, 1)) ∧ (decode cL_law 843 = .ok (.iconst 3, 1)) ∧ (decode cL_law 844 = .ok (.iadd, 1)) ∧ (decode cL_law 845 = .ok (.iaload, 1)) := by decide +kernel
theorem dL_law_838 : decode cL_law 838 = .ok (.iconst 2, 1) := eL_law_838.1
theorem dL_law_839 : decode cL_law 839 = .ok (.iadd, 1) := eL_law_838.2.1
theorem dL_law_840 : decode cL_law 840 = .ok (.iaload, 1) := eL_law_838.2.2.1
theorem dL_law_841 : decode cL_law 841 = .ok (.aload_n 0, 1) := eL_law_838.2.2.2.1
theorem dL_law_842 : decode cL_law 842 = .ok (.iload_n 3, 1) := eL_law_838.2.2.2.2.1
theorem dL_law_843 : decode cL_law 843 = .ok (.iconst 3, 1) := eL_law_838.2.2.2.2.2.1
theorem dL_law_844 : decode cL_law 844 = .ok (.iadd, 1) := eL_law_838.2.2.2.2.2.2.1
theorem dL_law_845 : decode cL_law 845 = .ok (.iaload, 1) := eL_law_838.2.2.2.2.2.2.2
theorem eL_law_846 : (decode cL_law 846 = .ok (.invokevirtual 86, 3)) ∧ (decode cL_law 849 = .ok (.pop, 1)) ∧ (decode cL_law 850 = .ok (.aload_n 2, 1)) ∧ (decode cL_law 851 = .ok (.aload_n 0, 1)) ∧ (decode cL_law 852 = .ok (.iload_n 3, 1)) ∧ (decode cL_law 853 = .ok (.iconst 1, 1)) ∧ (decode cL_law 854 = .ok (.iadd, 1)) ∧ (decode cL_law 855 = .ok (.iaload, 1)) := by decide +kernel
theorem dL_law_846 : decode cL_law 846 = .ok (.invokevirtual 86, 3) := eL_law_846.1
theorem dL_law_849 : decode cL_law 849 = .ok (.pop, 1) := eL_law_846.2.1
theorem dL_law_850 : decode cL_law 850 = .ok (.aload_n 2, 1) := eL_law_846.2.2.1
theorem dL_law_851 : decode cL_law 851 = .ok (.aload_n 0, 1) := eL_law_846.2.2.2.1
theorem dL_law_852 : decode cL_law 852 = .ok (.iload_n 3, 1) := eL_law_846.2.2.2.2.1
theorem dL_law_853 : decode cL_law 853 = .ok (.iconst 1, 1) := eL_law_846.2.2.2.2.2.1
theorem dL_law_854 : decode cL_law 854 = .ok (.iadd, 1) := eL_law_846.2.2.2.2.2.2.1
theorem dL_law_855 : decode cL_law 855 = .ok (.iaload, 1) := eL_law_846.2.2.2.2.2.2.2
theorem eL_law_856 : (decode cL_law 856 = .ok (.aload_n 0, 1)) ∧ (decode cL_law 857 = .ok (.iload_n 3, 1)) ∧ (decode cL_law 858 = .ok (.iconst 2, 1)) ∧ (decode cL_law 859 = .ok (.iadd, 1)) ∧ (decode cL_law 860 = .ok (.iaload, 1)) ∧ (decode cL_law 861 = .ok (.aload_n 0, 1)) ∧ (decode cL_law 862 = .ok (.iload_n 3, 1)) ∧ (decode cL_law 863 = .ok (.iconst 3, 1)) := by decide +kernel
theorem dL_law_856 : decode cL_law 856 = .ok (.aload_n 0, 1) := eL_law_856.1
theorem dL_law_857 : decode cL_law 857 = .ok (.iload_n 3, 1) := eL_law_856.2.1
theorem dL_law_858 : decode cL_law 858 = .ok (.iconst 2, 1) := eL_law_856.2.2.1
theorem dL_law_859 : decode cL_law 859 = .ok (.iadd, 1) := eL_law_856.2.2.2.1
theorem dL_law_860 : decode cL_law 860 = .ok (.iaload, 1) := eL_law_856.2.2.2.2.1
theorem dL_law_861 : decode cL_law 861 = .ok (.aload_n 0, 1) := eL_law_856.2.2.2.2.2.1
theorem dL_law_862 : decode cL_law 862 = .ok (.iload_n 3, 1) := eL_law_856.2.2.2.2.2.2.1
theorem dL_law_863 : decode cL_law 863 = .ok (.iconst 3, 1) := eL_law_856.2.2.2.2.2.2.2
theorem eL_law_864 : (decode cL_law 864 = .ok (.iadd, 1)) ∧ (decode cL_law 865 = .ok (.iaload, 1)) ∧ (decode cL_law 866 = .ok (.invokevirtual 89, 3)) ∧ (decode cL_law 869 = .ok (.pop, 1)) ∧ (decode cL_law 870 = .ok (.goto 380, 3)) ∧ (decode cL_law 873 = .ok (.aload_n 1, 1)) ∧ (decode cL_law 874 = .ok (.aload_n 0, 1)) ∧ (decode cL_law 875 = .ok (.iload_n 3, 1)) := by decide +kernel
theorem dL_law_864 : decode cL_law 864 = .ok (.iadd, 1) := eL_law_864.1
theorem dL_law_865 : decode cL_law 865 = .ok (.iaload, 1) := eL_law_864.2.1
theorem dL_law_866 : decode cL_law 866 = .ok (.invokevirtual 89, 3) := eL_law_864.2.2.1
theorem dL_law_869 : decode cL_law 869 = .ok (.pop, 1) := eL_law_864.2.2.2.1
theorem dL_law_870 : decode cL_law 870 = .ok (.goto 380, 3) := eL_law_864.2.2.2.2.1
theorem dL_law_873 : decode cL_law 873 = .ok (.aload_n 1, 1) := eL_law_864.2.2.2.2.2.1
theorem dL_law_874 : decode cL_law 874 = .ok (.aload_n 0, 1) := eL_law_864.2.2.2.2.2.2.1
theorem dL_law_875 : decode cL_law 875 = .ok (.iload_n 3, 1) := eL_law_864.2.2.2.2.2.2.2
theorem eL_law_876 : (decode cL_law 876 = .ok (.iconst 1, 1)) ∧ (decode cL_law 877 = .ok (.iadd, 1)) ∧ (decode cL_law 878 = .ok (.iaload, 1)) ∧ (decode cL_law 879 = .ok (.aload_n 0, 1)) ∧ (decode cL_law 880 = .ok (.iload_n 3, 1)) ∧ (decode cL_law 881 = .ok (.iconst 2, 1)) ∧ (decode cL_law 882 = .ok (.iadd, 1)) ∧ (decode cL_law 883 = .ok (.iaload, 1)) := by decide +kernel
theorem dL_law_876 : decode cL_law 876 = .ok (.iconst 1, 1) := eL_law_876.1
theorem dL_law_877 : decode cL_law 877 = .ok (.iadd, 1) := eL_law_876.2.1
theorem dL_law_878 : decode cL_law 878 = .ok (.iaload, 1) := eL_law_876.2.2.1
theorem dL_law_879 : decode cL_law 879 = .ok (.aload_n 0, 1) := eL_law_876.2.2.2.1
theorem dL_law_880 : decode cL_law 880 = .ok (.iload_n 3, 1) := eL_law_876.2.2.2.2.1
theorem dL_law_881 : decode cL_law 881 = .ok (.iconst 2, 1) := eL_law_876.2.2.2.2.2.1
theorem dL_law_882 : decode cL_law 882 = .ok (.iadd, 1) := eL_law_876.2.2.2.2.2.2.1
theorem dL_law_883 : decode cL_law 883 = .ok (.iaload, 1) := eL_law_876.2.2.2.2.2.2.2
theorem eL_law_884 : (decode cL_law 884 = .ok (.aload_n 0, 1)) ∧ (decode cL_law 885 = .ok (.iload_n 3, 1)) ∧ (decode cL_law 886 = .ok (.iconst 3, 1)) ∧ (decode cL_law 887 = .ok (.iadd, 1)) ∧ (decode cL_law 888 = .ok (.iaload, 1)) ∧ (decode cL_law 889 = .ok (.aload_n 0, 1)) ∧ (decode cL_law 890 = .ok (.iload_n 3, 1)) ∧ (decode cL_law 891 = .ok (.iconst 4, 1)) := by decide +kernel
theorem dL_law_884 : decode cL_law 884 = .ok (.aload_n 0, 1) := eL_law_884.1
theorem dL_law_885 : decode cL_law 885 = .ok (.iload_n 3, 1) := eL_law_884.2.1
theorem dL_law_886 : decode cL_law 886 = .ok (.iconst 3, 1) := eL_law_884.2.2.1
theorem dL_law_887 : decode cL_law 887 = .ok (.iadd, 1) := eL_law_884.2.2.2.1
theorem dL_law_888 : decode cL_law 888 = .ok (.iaload, 1) := eL_law_884.2.2.2.2.1
theorem dL_law_889 : decode cL_law 889 = .ok (.aload_n 0, 1) := eL_law_884.2.2.2.2.2.1
theorem dL_law_890 : decode cL_law 890 = .ok (.iload_n 3, 1) := eL_law_884.2.2.2.2.2.2.1
theorem dL_law_891 : decode cL_law 891 = .ok (.iconst 4, 1) := eL_law_884.2.2.2.2.2.2.2
theorem eL_law_892 : (decode cL_law 892 = .ok (.iadd, 1)) ∧ (decode cL_law 893 = .ok (.iaload, 1)) ∧ (decode cL_law 894 = .ok (.invokevirtual 90, 3)) ∧ (decode cL_law 897 = .ok (.pop, 1)) ∧ (decode cL_law 898 = .ok (.aload_n 2, 1)) ∧ (decode cL_law 899 = .ok (.aload_n 0, 1)) ∧ (decode cL_law 900 = .ok (.iload_n 3, 1)) ∧ (decode cL_law 901 = .ok (.iconst 1, 1)) := by decide +kernel
theorem dL_law_892 : decode cL_law 892 = .ok (.iadd, 1) := eL_law_892.1
theorem dL_law_893 : decode cL_law 893 = .ok (.iaload, 1) := eL_law_892.2.1
theorem dL_law_894 : decode cL_law 894 = .ok (.invokevirtual 90, 3) := eL_law_892.2.2.1
theorem dL_law_897 : decode cL_law 897 = .ok (.pop, 1) := eL_law_892.2.2.2.1
theorem dL_law_898 : decode cL_law 898 = .ok (.aload_n 2, 1) := eL_law_892.2.2.2.2.1
theorem dL_law_899 : decode cL_law 899 = .ok (.aload_n 0, 1) := eL_law_892.2.2.2.2.2.1
theorem dL_law_900 : decode cL_law 900 = .ok (.iload_n 3, 1) := eL_law_892.2.2.2.2.2.2.1
theorem dL_law_901 : decode cL_law 901 = .ok (.iconst 1, 1) := eL_law_892.2.2.2.2.2.2.2
theorem eL_law_902 : (decode cL_law 902 = .ok (.iadd, 1)) ∧ (decode cL_law 903 = .ok (.iaload, 1)) ∧ (decode cL_law 904 = .ok (.aload_n 0, 1)) ∧ (decode cL_law 905 = .ok (.iload_n 3, 1)) ∧ (decode cL_law 906 = .ok (.iconst 2, 1)) ∧ (decode cL_law 907 = .ok (.iadd, 1)) ∧ (decode cL_law 908 = .ok (.iaload, 1)) ∧ (decode cL_law 909 = .ok (.aload_n 0, 1)) := by decide +kernel
theorem dL_law_902 : decode cL_law 902 = .ok (.iadd, 1) := eL_law_902.1
theorem dL_law_903 : decode cL_law 903 = .ok (.iaload, 1) := eL_law_902.2.1
theorem dL_law_904 : decode cL_law 904 = .ok (.aload_n 0, 1) := eL_law_902.2.2.1
theorem dL_law_905 : decode cL_law 905 = .ok (.iload_n 3, 1) := eL_law_902.2.2.2.1
theorem dL_law_906 : decode cL_law 906 = .ok (.iconst 2, 1) := eL_law_902.2.2.2.2.1
theorem dL_law_907 : decode cL_law 907 = .ok (.iadd, 1) := eL_law_902.2.2.2.2.2.1
theorem dL_law_908 : decode cL_law 908 = .ok (.iaload, 1) := eL_law_902.2.2.2.2.2.2.1
theorem dL_law_909 : decode cL_law 909 = .ok (.aload_n 0, 1) := eL_law_902.2.2.2.2.2.2.2
theorem eL_law_910 : (decode cL_law 910 = .ok (.iload_n 3, 1)) ∧ (decode cL_law 911 = .ok (.iconst 3, 1)) ∧ (decode cL_law 912 = .ok (.iadd, 1)) ∧ (decode cL_law 913 = .ok (.iaload, 1)) ∧ (decode cL_law 914 = .ok (.aload_n 0, 1)) ∧ (decode cL_law 915 = .ok (.iload_n 3, 1)) ∧ (decode cL_law 916 = .ok (.iconst 4, 1)) ∧ (decode cL_law 917 = .ok (.iadd, 1)) := by decide +kernel
theorem dL_law_910 : decode cL_law 910 = .ok (.iload_n 3, 1) := eL_law_910.1
theorem dL_law_911 : decode cL_law 911 = .ok (.iconst 3, 1) := eL_law_910.2.1
theorem dL_law_912 : decode cL_law 912 = .ok (.iadd, 1) := eL_law_910.2.2.1
theorem dL_law_913 : decode cL_law 913 = .ok (.iaload, 1) := eL_law_910.2.2.2.1
theorem dL_law_914 : decode cL_law 914 = .ok (.aload_n 0, 1) := eL_law_910.2.2.2.2.1
theorem dL_law_915 : decode cL_law 915 = .ok (.iload_n 3, 1) := eL_law_910.2.2.2.2.2.1
theorem dL_law_916 : decode cL_law 916 = .ok (.iconst 4, 1) := eL_law_910.2.2.2.2.2.2.1
theorem dL_law_917 : decode cL_law 917 = .ok (.iadd, 1) := eL_law_910.2.2.2.2.2.2.2
theorem eL_law_918 : (decode cL_law 918 = .ok (.iaload, 1)) ∧ (decode cL_law 919 = .ok (.invokevirtual 93, 3)) ∧ (decode cL_law 922 = .ok (.pop, 1)) ∧ (decode cL_law 923 = .ok (.goto 327, 3)) ∧ (decode cL_law 926 = .ok (.aload_n 1, 1)) ∧ (decode cL_law 927 = .ok (.aload_n 0, 1)) ∧ (decode cL_law 928 = .ok (.iload_n 3, 1)) ∧ (decode cL_law 929 = .ok (.iconst 1, 1)) := by decide +kernel
theorem dL_law_918 : decode cL_law 918 = .ok (.iaload, 1) := eL_law_918.1
theorem dL_law_919 : decode cL_law 919 = .ok (.invokevirtual 93, 3) := eL_law_918.2.1
theorem dL_law_922 : decode cL_law 922 = .ok (.pop, 1) := eL_law_918.2.2.1
theorem dL_law_923 : decode cL_law 923 = .ok (.goto 327, 3) := eL_law_918.2.2.2.1
theorem dL_law_926 : decode cL_law 926 = .ok (.aload_n 1, 1) := eL_law_918.2.2.2.2.1
theorem dL_law_927 : decode cL_law 927 = .ok (.aload_n 0, 1) := eL_law_918.2.2.2.2.2.1
theorem dL_law_928 : decode cL_law 928 = .ok (.iload_n 3, 1) := eL_law_918.2.2.2.2.2.2.1
theorem dL_law_929 : decode cL_law 929 = .ok (.iconst 1, 1) := eL_law_918.2.2.2.2.2.2.2
theorem eL_law_930 : (decode cL_law 930 = .ok (.iadd, 1)) ∧ (decode cL_law 931 = .ok (.iaload, 1)) ∧ (decode cL_law 932 = .ok (.aload_n 0, 1)) ∧ (decode cL_law 933 = .ok (.iload_n 3, 1)) ∧ (decode cL_law 934 = .ok (.iconst 2, 1)) ∧ (decode cL_law 935 = .ok (.iadd, 1)) ∧ (decode cL_law 936 = .ok (.iaload, 1)) ∧ (decode cL_law 937 = .ok (.aload_n 0, 1)) := by decide +kernel
theorem dL_law_930 : decode cL_law 930 = .ok (.iadd, 1) := eL_law_930.1
theorem dL_law_931 : decode cL_law 931 = .ok (.iaload, 1) := eL_law_930.2.1
theorem dL_law_932 : decode cL_law 932 = .ok (.aload_n 0, 1) := eL_law_930.2.2.1
theorem dL_law_933 : decode cL_law 933 = .ok (.iload_n 3, 1) := eL_law_930.2.2.2.1
theorem dL_law_934 : decode cL_law 934 = .ok (.iconst 2, 1) := eL_law_930.2.2.2.2.1
theorem dL_law_935 : decode cL_law 935 = .ok (.iadd, 1) := eL_law_930.2.2.2.2.2.1
theorem dL_law_936 : decode cL_law 936 = .ok (.iaload, 1) := eL_law_930.2.2.2.2.2.2.1
theorem dL_law_937 : decode cL_law 937 = .ok (.aload_n 0, 1) := eL_law_930.2.2.2.2.2.2.2
theorem eL_law_938 : (decode cL_law 938 = .ok (.iload_n 3, 1)) ∧ (decode cL_law 939 = .ok (.iconst 3, 1)) ∧ (decode cL_law 940 = .ok (.iadd, 1)) ∧ (decode cL_law 941 = .ok (.iaload, 1)) ∧ (decode cL_law 942 = .ok (.aload_n 0, 1)) ∧ (decode cL_law 943 = .ok (.iload_n 3, 1)) ∧ (decode cL_law 944 = .ok (.iconst 4, 1)) ∧ (decode cL_law 945 = .ok (.iadd, 1)) := by decide +kernel
theorem dL_law_938 : decode cL_law 938 = .ok (.iload_n 3, 1) := eL_law_938.1
theorem dL_law_939 : decode cL_law 939 = .ok (.iconst 3, 1) := eL_law_938.2.1
theorem dL_law_940 : decode cL_law 940 = .ok (.iadd, 1) := eL_law_938.2.2.1
theorem dL_law_941 : decode cL_law 941 = .ok (.iaload, 1) := eL_law_938.2.2.2.1
theorem dL_law_942 : decode cL_law 942 = .ok (.aload_n 0, 1) := eL_law_938.2.2.2.2.1
theorem dL_law_943 : decode cL_law 943 = .ok (.iload_n 3, 1) := eL_law_938.2.2.2.2.2.1
theorem dL_law_944 : decode cL_law 944 = .ok (.iconst 4, 1) := eL_law_938.2.2.2.2.2.2.1
theorem dL_law_945 : decode cL_law 945 = .ok (.iadd, 1) := eL_law_938.2.2.2.2.2.2.2
theorem eL_law_946 : (decode cL_law 946 = .ok (.iaload, 1)) ∧ (decode cL_law 947 = .ok (.invokevirtual 94, 3)) ∧ (decode cL_law 950 = .ok (.pop, 1)) ∧ (decode cL_law 951 = .ok (.aload_n 2, 1)) ∧ (decode cL_law 952 = .ok (.aload_n 0, 1)) ∧ (decode cL_law 953 = .ok (.iload_n 3, 1)) ∧ (decode cL_law 954 = .ok (.iconst 1, 1)) ∧ (decode cL_law 955 = .ok (.iadd, 1)) := by decide +kernel
theorem dL_law_946 : decode cL_law 946 = .ok (.iaload, 1) := eL_law_946.1
theorem dL_law_947 : decode cL_law 947 = .ok (.invokevirtual 94, 3) := eL_law_946.2.1
theorem dL_law_950 : decode cL_law 950 = .ok (.pop, 1) := eL_law_946.2.2.1
theorem dL_law_951 : decode cL_law 951 = .ok (.aload_n 2, 1) := eL_law_946.2.2.2.1
theorem dL_law_952 : decode cL_law 952 = .ok (.aload_n 0, 1) := eL_law_946.2.2.2.2.1
theorem dL_law_953 : decode cL_law 953 = .ok (.iload_n 3, 1) := eL_law_946.2.2.2.2.2.1
theorem dL_law_954 : decode cL_law 954 = .ok (.iconst 1, 1) := eL_law_946.2.2.2.2.2.2.1
theorem dL_law_955 : decode cL_law 955 = .ok (.iadd, 1) := eL_law_946.2.2.2.2.2.2.2
theorem eL_law_956 : (decode cL_law 956 = .ok (.iaload, 1)) ∧ (decode cL_law 957 = .ok (.aload_n 0, 1)) ∧ (decode cL_law 958 = .ok (.iload_n 3, 1)) ∧ (decode cL_law 959 = .ok (.iconst 2, 1)) ∧ (decode cL_law 960 = .ok (.iadd, 1)) ∧ (decode cL_law 961 = .ok (.iaload, 1)) ∧ (decode cL_law 962 = .ok (.aload_n 0, 1)) ∧ (decode cL_law 963 = .ok (.iload_n 3, 1)) := by decide +kernel
theorem dL_law_956 : decode cL_law 956 = .ok (.iaload, 1) := eL_law_956.1
theorem dL_law_957 : decode cL_law 957 = .ok (.aload_n 0, 1) := eL_law_956.2.1
theorem dL_law_958 : decode cL_law 958 = .ok (.iload_n 3, 1) := eL_law_956.2.2.1
theorem dL_law_959 : decode cL_law 959 = .ok (.iconst 2, 1) := eL_law_956.2.2.2.1
theorem dL_law_960 : decode cL_law 960 = .ok (.iadd, 1) := eL_law_956.2.2.2.2.1
theorem dL_law_961 : decode cL_law 961 = .ok (.iaload, 1) := eL_law_956.2.2.2.2.2.1
theorem dL_law_962 : decode cL_law 962 = .ok (.aload_n 0, 1) := eL_law_956.2.2.2.2.2.2.1
theorem dL_law_963 : decode cL_law 963 = .ok (.iload_n 3, 1) := eL_law_956.2.2.2.2.2.2.2
theorem eL_law_964 : (decode cL_law 964 = .ok (.iconst 3, 1)) ∧ (decode cL_law 965 = .ok (.iadd, 1)) ∧ (decode cL_law 966 = .ok (.iaload, 1)) ∧ (decode cL_law 967 = .ok (.aload_n 0, 1)) ∧ (decode cL_law 968 = .ok (.iload_n 3, 1)) ∧ (decode cL_law 969 = .ok (.iconst 4, 1)) ∧ (decode cL_law 970 = .ok (.iadd, 1)) ∧ (decode cL_law 971 = .ok (.iaload, 1)) := by decide +kernel
theorem dL_law_964 : decode cL_law 964 = .ok (.iconst 3, 1) := eL_law_964.1
theorem dL_law_965 : decode cL_law 965 = .ok (.iadd, 1) := eL_law_964.2.1
theorem dL_law_966 : decode cL_law 966 = .ok (.iaload, 1) := eL_law_964.2.2.1
theorem dL_law_967 : decode cL_law 967 = .ok (.aload_n 0, 1) := eL_law_964.2.2.2.1
theorem dL_law_968 : decode cL_law 968 = .ok (.iload_n 3, 1) := eL_law_964.2.2.2.2.1
theorem dL_law_969 : decode cL_law 969 = .ok (.iconst 4, 1) := eL_law_964.2.2.2.2.2.1
theorem dL_law_970 : decode cL_law 970 = .ok (.iadd, 1) := eL_law_964.2.2.2.2.2.2.1
theorem dL_law_971 : decode cL_law 971 = .ok (.iaload, 1) := eL_law_964.2.2.2.2.2.2.2
theorem eL_law_972 : (decode cL_law 972 = .ok (.invokevirtual 97, 3)) ∧ (decode cL_law 975 = .ok (.pop, 1)) ∧ (decode cL_law 976 = .ok (.goto 274, 3)) ∧ (decode cL_law 979 = .ok (.aload_n 1, 1)) ∧ (decode cL_law 980 = .ok (.aload_n 0, 1)) ∧ (decode cL_law 981 = .ok (.iload_n 3, 1)) ∧ (decode cL_law 982 = .ok (.iconst 1, 1)) ∧ (decode cL_law 983 = .ok (.iadd, 1)) := by decide +kernel
theorem dL_law_972 : decode cL_law 972 = .ok (.invokevirtual 97, 3) := eL_law_972.1
theorem dL_law_975 : decode cL_law 975 = .ok (.pop, 1) := eL_law_972.2.1
theorem dL_law_976 : decode cL_law 976 = .ok (.goto 274, 3) := eL_law_972.2.2.1
theorem dL_law_979 : decode cL_law 979 = .ok (.aload_n 1, 1) := eL_law_972.2.2.2.1
theorem dL_law_980 : decode cL_law 980 = .ok (.aload_n 0, 1) := eL_law_972.2.2.2.2.1
theorem dL_law_981 : decode cL_law 981 = .ok (.iload_n 3, 1) := eL_law_972.2.2.2.2.2.1
theorem dL_law_982 : decode cL_law 982 = .ok (.iconst 1, 1) := eL_law_972.2.2.2.2.2.2.1
theorem dL_law_983 : decode cL_law 983 = .ok (.iadd, 1) := eL_law_972.2.2.2.2.2.2.2
theorem eL_law_984 : (decode cL_law 984 = .ok (.iaload, 1)) ∧ (decode cL_law 985 = .ok (.aload_n 0, 1)) ∧ (decode cL_law 986 = .ok (.iload_n 3, 1)) ∧ (decode cL_law 987 = .ok (.iconst 2, 1)) ∧ (decode cL_law 988 = .ok (.iadd, 1)) ∧ (decode cL_law 989 = .ok (.iaload, 1)) ∧ (decode cL_law 990 = .ok (.invokevirtual 98, 3)) ∧ (decode cL_law 993 = .ok (.pop, 1)) := by decide +kernel
theorem dL_law_984 : decode cL_law 984 = .ok (.iaload, 1) := eL_law_984.1
theorem dL_law_985 : decode cL_law 985 = .ok (.aload_n 0, 1) := eL_law_984.2.1
theorem dL_law_986 : decode cL_law 986 = .ok (.iload_n 3, 1) := eL_law_984.2.2.1
theorem dL_law_987 : decode cL_law 987 = .ok (.iconst 2, 1) := eL_law_984.2.2.2.1
theorem dL_law_988 : decode cL_law 988 = .ok (.iadd, 1) := eL_law_984.2.2.2.2.1
theorem dL_law_989 : decode cL_law 989 = .ok (.iaload, 1) := eL_law_984.2.2.2.2.2.1
theorem dL_law_990 : decode cL_law 990 = .ok (.invokevirtual 98, 3) := eL_law_984.2.2.2.2.2.2.1
theorem dL_law_993 : decode cL_law 993 = .ok (.pop, 1) := eL_law_984.2.2.2.2.2.2.2
theorem eL_law_994 : (decode cL_law 994 = .ok (.aload_n 2, 1)) ∧ (decode cL_law 995 = .ok (.aload_n 0, 1)) ∧ (decode cL_law 996 = .ok (.iload_n 3, 1)) ∧ (decode cL_law 997 = .ok (.iconst 1, 1)) ∧ (decode cL_law 998 = .ok (.iadd, 1)) ∧ (decode cL_law 999 = .ok (.iaload, 1)) ∧ (decode cL_law 1000 = .ok (.aload_n 0, 1)) ∧ (decode cL_law 1001 = .ok (.iload_n 3, 1)) := by decide +kernel
theorem dL_law_994 : decode cL_law 994 = .ok (.aload_n 2, 1) := eL_law_994.1
theorem dL_law_995 : decode cL_law 995 = .ok (.aload_n 0, 1) := eL_law_994.2.1
theorem dL_law_996 : decode cL_law 996 = .ok (.iload_n 3, 1) := eL_law_994.2.2.1
theorem dL_law_997 : decode cL_law 997 = .ok (.iconst 1, 1) := eL_law_994.2.2.2.1
theorem dL_law_998 : decode cL_law 998 = .ok (.iadd, 1) := eL_law_994.2.2.2.2.1
theorem dL_law_999 : decode cL_law 999 = .ok (.iaload, 1) := eL_law_994.2.2.2.2.2.1
theorem dL_law_1000 : decode cL_law 1000 = .ok (.aload_n 0, 1) := eL_law_994.2.2.2.2.2.2.1
theorem dL_law_1001 : decode cL_law 1001 = .ok (.iload_n 3, 1) := eL_law_994.2.2.2.2.2.2.2
theorem eL_law_1002 : (decode cL_law 1002 = .ok (.iconst 2, 1)) ∧ (decode cL_law 1003 = .ok (.iadd, 1)) ∧ (decode cL_law 1004 = .ok (.iaload, 1)) ∧ (decode cL_law 1005 = .ok (.invokevirtual 101, 3)) ∧ (decode cL_law 1008 = .ok (.pop, 1)) ∧ (decode cL_law 1009 = .ok (.goto 241, 3)) ∧ (decode cL_law 1012 = .ok (.aload_n 1, 1)) ∧ (decode cL_law 1013 = .ok (.aload_n 0, 1)) := by decide +kernel
theorem dL_law_1002 : decode cL_law 1002 = .ok (.iconst 2, 1) := eL_law_1002.1
theorem dL_law_1003 : decode cL_law 1003 = .ok (.iadd, 1) := eL_law_1002.2.1
theorem dL_law_1004 : decode cL_law 1004 = .ok (.iaload, 1) := eL_law_1002.2.2.1
theorem dL_law_1005 : decode cL_law 1005 = .ok (.invokevirtual 101, 3) := eL_law_1002.2.2.2.1
theorem dL_law_1008 : decode cL_law 1008 = .ok (.pop, 1) := eL_law_1002.2.2.2.2.1
theorem dL_law_1009 : decode cL_law 1009 = .ok (.goto 241, 3) := eL_law_1002.2.2.2.2.2.1
theorem dL_law_1012 : decode cL_law 1012 = .ok (.aload_n 1, 1) := eL_law_1002.2.2.2.2.2.2.1
theorem dL_law_1013 : decode cL_law 1013 = .ok (.aload_n 0, 1) := eL_law_1002.2.2.2.2.2.2.2
theorem eL_law_1014 : (decode cL_law 1014 = .ok (.iload_n 3, 1)) ∧ (decode cL_law 1015 = .ok (.iconst 1, 1)) ∧ (decode cL_law 1016 = .ok (.iadd, 1)) ∧ (decode cL_law 1017 = .ok (.iaload, 1)) ∧ (decode cL_law 1018 = .ok (.aload_n 0, 1)) ∧ (decode cL_law 1019 = .ok (.iload_n 3, 1)) ∧ (decode cL_law 1020 = .ok (.iconst 2, 1)) ∧ (decode cL_law 1021 = .ok (.iadd, 1)) := by decide +kernel
theorem dL_law_1014 : decode cL_law 1014 = .ok (.iload_n 3, 1) := eL_law_1014.1
theorem dL_law_1015 : decode cL_law 1015 = .ok (.iconst 1, 1) := eL_law_1014.2.1
theorem dL_law_1016 : decode cL_law 1016 = .ok (.iadd, 1) := eL_law_1014.2.2.1
theorem dL_law_1017 : decode cL_law 1017 = .ok (.iaload, 1) := eL_law_1014.2.2.2.1
theorem dL_law_1018 : decode cL_law 1018 = .ok (.aload_n 0, 1) := eL_law_1014.2.2.2.2.1
theorem dL_law_1019 : decode cL_law 1019 = .ok (.iload_n 3, 1) := eL_law_1014.2.2.2.2.2.1
theorem dL_law_1020 : decode cL_law 1020 = .ok (.iconst 2, 1) := eL_law_1014.2.2.2.2.2.2.1
theorem dL_law_1021 : decode cL_law 1021 = .ok (.iadd, 1) := eL_law_1014.2.2.2.2.2.2.2
theorem eL_law_1022 : (decode cL_law 1022 = .ok (.iaload, 1)) ∧ (decode cL_law 1023 = .ok (.aload_n 0, 1)) ∧ (decode cL_law 1024 = .ok (.iload_n 3, 1)) ∧ (decode cL_law 1025 = .ok (.iconst 3, 1)) ∧ (decode cL_law 1026 = .ok (.iadd, 1)) ∧ (decode cL_law 1027 = .ok (.iaload, 1)) ∧ (decode cL_law 1028 = .ok (.aload_n 0, 1)) ∧ (decode cL_law 1029 = .ok (.iload_n 3, 1)) := by decide +kernel
theorem dL_law_1022 : decode cL_law 1022 = .ok (.iaload, 1) := eL_law_1022.1
theorem dL_law_1023 : decode cL_law 1023 = .ok (.aload_n 0, 1) := eL_law_1022.2.1
theorem dL_law_1024 : decode cL_law 1024 = .ok (.iload_n 3, 1) := eL_law_1022.2.2.1
theorem dL_law_1025 : decode cL_law 1025 = .ok (.iconst 3, 1) := eL_law_1022.2.2.2.1
theorem dL_law_1026 : decode cL_law 1026 = .ok (.iadd, 1) := eL_law_1022.2.2.2.2.1
theorem dL_law_1027 : decode cL_law 1027 = .ok (.iaload, 1) := eL_law_1022.2.2.2.2.2.1
theorem dL_law_1028 : decode cL_law 1028 = .ok (.aload_n 0, 1) := eL_law_1022.2.2.2.2.2.2.1
theorem dL_law_1029 : decode cL_law 1029 = .ok (.iload_n 3, 1) := eL_law_1022.2.2.2.2.2.2.2
theorem eL_law_1030 : (decode cL_law 1030 = .ok (.iconst 4, 1)) ∧ (decode cL_law 1031 = .ok (.iadd, 1)) ∧ (decode cL_law 1032 = .ok (.iaload, 1)) ∧ (decode cL_law 1033 = .ok (.invokevirtual 102, 3)) ∧ (decode cL_law 1036 = .ok (.pop, 1)) ∧ (decode cL_law 1037 = .ok (.aload_n 2, 1)) ∧ (decode cL_law 1038 = .ok (.aload_n 0, 1)) ∧ (decode cL_law 1039 = .ok (.iload_n 3, 1)) := by decide +kernel
theorem dL_law_1030 : decode cL_law 1030 = .ok (.iconst 4, 1) := eL_law_1030.1
theorem dL_law_1031 : decode cL_law 1031 = .ok (.iadd, 1) := eL_law_1030.2.1
theorem dL_law_1032 : decode cL_law 1032 = .ok (.iaload, 1) := eL_law_1030.2.2.1
theorem dL_law_1033 : decode cL_law 1033 = .ok (.invokevirtual 102, 3) := eL_law_1030.2.2.2.1
theorem dL_law_1036 : decode cL_law 1036 = .ok (.pop, 1) := eL_law_1030.2.2.2.2.1
theorem dL_law_1037 : decode cL_law 1037 = .ok (.aload_n 2, 1) := eL_law_1030.2.2.2.2.2.1
theorem dL_law_1038 : decode cL_law 1038 = .ok (.aload_n 0, 1) := eL_law_1030.2.2.2.2.2.2.1
theorem dL_law_1039 : decode cL_law 1039 = .ok (.iload_n 3, 1) := eL_law_1030.2.2.2.2.2.2.2
theorem eL_law_1040 : (decode cL_law 1040 = .ok (.iconst 1, 1)) ∧ (decode cL_law 1041 = .ok (.iadd, 1)) ∧ (decode cL_law 1042 = .ok (.iaload, 1)) ∧ (decode cL_law 1043 = .ok (.aload_n 0, 1)) ∧ (decode cL_law 1044 = .ok (.iload_n 3, 1)) ∧ (decode cL_law 1045 = .ok (.iconst 2, 1)) ∧ (decode cL_law 1046 = .ok (.iadd, 1)) ∧ (decode cL_law 1047 = .ok (.iaload, 1)) := by decide +kernel
theorem dL_law_1040 : decode cL_law 1040 = .ok (.iconst 1, 1) := eL_law_1040.1
theorem dL_law_1041 : decode cL_law 1041 = .ok (.iadd, 1) := eL_law_1040.2.1
theorem dL_law_1042 : decode cL_law 1042 = .ok (.iaload, 1) := eL_law_1040.2.2.1
theorem dL_law_1043 : decode cL_law 1043 = .ok (.aload_n 0, 1) := eL_law_1040.2.2.2.1
theorem dL_law_1044 : decode cL_law 1044 = .ok (.iload_n 3, 1) := eL_law_1040.2.2.2.2.1
theorem dL_law_1045 : decode cL_law 1045 = .ok (.iconst 2, 1) := eL_law_1040.2.2.2.2.2.1
theorem dL_law_1046 : decode cL_law 1046 = .ok (.iadd, 1) := eL_law_1040.2.2.2.2.2.2.1
theorem dL_law_1047 : decode cL_law 1047 = .ok (.iaload, 1) := eL_law_1040.2.2.2.2.2.2.2
theorem eL_law_1048 : (decode cL_law 1048 = .ok (.aload_n 0, 1)) ∧ (decode cL_law 1049 = .ok (.iload_n 3, 1)) ∧ (decode cL_law 1050 = .ok (.iconst 3, 1)) ∧ (decode cL_law 1051 = .ok (.iadd, 1)) ∧ (decode cL_law 1052 = .ok (.iaload, 1)) ∧ (decode cL_law 1053 = .ok (.aload_n 0, 1)) ∧ (decode cL_law 1054 = .ok (.iload_n 3, 1)) ∧ (decode cL_law 1055 = .ok (.iconst 4, 1)) := by decide +kernel
theorem dL_law_1048 : decode cL_law 1048 = .ok (.aload_n 0, 1) := eL_law_1048.1
theorem dL_law_1049 : decode cL_law 1049 = .ok (.iload_n 3, 1) := eL_law_1048.2.1
theorem dL_law_1050 : decode cL_law 1050 = .ok (.iconst 3, 1) := eL_law_1048.2.2.1
theorem dL_law_1051 : decode cL_law 1051 = .ok (.iadd, 1) := eL_law_1048.2.2.2.1
theorem dL_law_1052 : decode cL_law 1052 = .ok (.iaload, 1) := eL_law_1048.2.2.2.2.1
theorem dL_law_1053 : decode cL_law 1053 = .ok (.aload_n 0, 1) := eL_law_1048.2.2.2.2.2.1
theorem dL_law_1054 : decode cL_law 1054 = .ok (.iload_n 3, 1) := eL_law_1048.2.2.2.2.2.2.1
theorem dL_law_1055 : decode cL_law 1055 = .ok (.iconst 4, 1) := eL_law_1048.2.2.2.2.2.2.2
theorem eL_law_1056 : (decode cL_law 1056 = .ok (.iadd, 1)) ∧ (decode cL_law 1057 = .ok (.iaload, 1)) ∧ (decode cL_law 1058 = .ok (.invokevirtual 105, 3)) ∧ (decode cL_law 1061 = .ok (.pop, 1)) ∧ (decode cL_law 1062 = .ok (.goto 188, 3)) ∧ (decode cL_law 1065 = .ok (.aload_n 1, 1)) ∧ (decode cL_law 1066 = .ok (.aload_n 0, 1)) ∧ (decode cL_law 1067 = .ok (.iload_n 3, 1)) := by decide +kernel
theorem dL_law_1056 : decode cL_law 1056 = .ok (.iadd, 1) := eL_law_1056.1
theorem dL_law_1057 : decode cL_law 1057 = .ok (.iaload, 1) := eL_law_1056.2.1
theorem dL_law_1058 : decode cL_law 1058 = .ok (.invokevirtual 105, 3) := eL_law_1056.2.2.1
theorem dL_law_1061 : decode cL_law 1061 = .ok (.pop, 1) := eL_law_1056.2.2.2.1
theorem dL_law_1062 : decode cL_law 1062 = .ok (.goto 188, 3) := eL_law_1056.2.2.2.2.1
theorem dL_law_1065 : decode cL_law 1065 = .ok (.aload_n 1, 1) := eL_law_1056.2.2.2.2.2.1
theorem dL_law_1066 : decode cL_law 1066 = .ok (.aload_n 0, 1) := eL_law_1056.2.2.2.2.2.2.1
theorem dL_law_1067 : decode cL_law 1067 = .ok (.iload_n 3, 1) := eL_law_1056.2.2.2.2.2.2.2
theorem eL_law_1068 : (decode cL_law 1068 = .ok (.iconst 1, 1)) ∧ (decode cL_law 1069 = .ok (.iadd, 1)) ∧ (decode cL_law 1070 = .ok (.iaload, 1)) ∧ (decode cL_law 1071 = .ok (.aload_n 0, 1)) ∧ (decode cL_law 1072 = .ok (.iload_n 3, 1)) ∧ (decode cL_law 1073 = .ok (.iconst 2, 1)) ∧ (decode cL_law 1074 = .ok (.iadd, 1)) ∧ (decode cL_law 1075 = .ok (.iaload, 1)) := by decide +kernel
theorem dL_law_1068 : decode cL_law 1068 = .ok (.iconst 1, 1) := eL_law_1068.1
theorem dL_law_1069 : decode cL_law 1069 = .ok (.iadd, 1) := eL_law_1068.2.1
theorem dL_law_1070 : decode cL_law 1070 = .ok (.iaload, 1) := eL_law_1068.2.2.1
theorem dL_law_1071 : decode cL_law 1071 = .ok (.aload_n 0, 1) := eL_law_1068.2.2.2.1
theorem dL_law_1072 : decode cL_law 1072 = .ok (.iload_n 3, 1) := eL_law_1068.2.2.2.2.1
theorem dL_law_1073 : decode cL_law 1073 = .ok (.iconst 2, 1) := eL_law_1068.2.2.2.2.2.1
theorem dL_law_1074 : decode cL_law 1074 = .ok (.iadd, 1) := eL_law_1068.2.2.2.2.2.2.1
theorem dL_law_1075 : decode cL_law 1075 = .ok (.iaload, 1) := eL_law_1068.2.2.2.2.2.2.2
theorem eL_law_1076 : (decode cL_law 1076 = .ok (.aload_n 0, 1)) ∧ (decode cL_law 1077 = .ok (.iload_n 3, 1)) ∧ (decode cL_law 1078 = .ok (.iconst 3, 1)) ∧ (decode cL_law 1079 = .ok (.iadd, 1)) ∧ (decode cL_law 1080 = .ok (.iaload, 1)) ∧ (decode cL_law 1081 = .ok (.aload_n 0, 1)) ∧ (decode cL_law 1082 = .ok (.iload_n 3, 1)) ∧ (decode cL_law 1083 = .ok (.iconst 4, 1)) := by decide +kernel
theorem dL_law_1076 : decode cL_law 1076 = .ok (.aload_n 0, 1) := eL_law_1076.1
theorem dL_law_1077 : decode cL_law 1077 = .ok (.iload_n 3, 1) := eL_law_1076.2.1
theorem dL_law_1078 : decode cL_law 1078 = .ok (.iconst 3, 1) := eL_law_1076.2.2.1
theorem dL_law_1079 : decode cL_law 1079 = .ok (.iadd, 1) := eL_law_1076.2.2.2.1
theorem dL_law_1080 : decode cL_law 1080 = .ok (.iaload, 1) := eL_law_1076.2.2.2.2.1
theorem dL_law_1081 : decode cL_law 1081 = .ok (.aload_n 0, 1) := eL_law_1076.2.2.2.2.2.1
theorem dL_law_1082 : decode cL_law 1082 = .ok (.iload_n 3, 1) := eL_law_1076.2.2.2.2.2.2.1
theorem dL_law_1083 : decode cL_law 1083 = .ok (.iconst 4, 1) := eL_law_1076.2.2.2.2.2.2.2
theorem eL_law_1084 : (decode cL_law 1084 = .ok (.iadd, 1)) ∧ (decode cL_law 1085 = .ok (.iaload, 1)) ∧ (decode cL_law 1086 = .ok (.aload_n 0, 1)) ∧ (decode cL_law 1087 = .ok (.iload_n 3, 1)) ∧ (decode cL_law 1088 = .ok (.iconst 5, 1)) ∧ (decode cL_law 1089 = .ok (.iadd, 1)) ∧ (decode cL_law 1090 = .ok (.iaload, 1)) ∧ (decode cL_law 1091 = .ok (.invokevirtual 106, 3)) := by decide +kernel
theorem dL_law_1084 : decode cL_law 1084 = .ok (.iadd, 1) := eL_law_1084.1
theorem dL_law_1085 : decode cL_law 1085 = .ok (.iaload, 1) := eL_law_1084.2.1
theorem dL_law_1086 : decode cL_law 1086 = .ok (.aload_n 0, 1) := eL_law_1084.2.2.1
theorem dL_law_1087 : decode cL_law 1087 = .ok (.iload_n 3, 1) := eL_law_1084.2.2.2.1
theorem dL_law_1088 : decode cL_law 1088 = .ok (.iconst 5, 1) := eL_law_1084.2.2.2.2.1
theorem dL_law_1089 : decode cL_law 1089 = .ok (.iadd, 1) := eL_law_1084.2.2.2.2.2.1
theorem dL_law_1090 : decode cL_law 1090 = .ok (.iaload, 1) := eL_law_1084.2.2.2.2.2.2.1
theorem dL_law_1091 : decode cL_law 1091 = .ok (.invokevirtual 106, 3) := eL_law_1084.2.2.2.2.2.2.2
theorem eL_law_1094 : (decode cL_law 1094 = .ok (.pop, 1)) ∧ (decode cL_law 1095 = .ok (.aload_n 2, 1)) ∧ (decode cL_law 1096 = .ok (.aload_n 0, 1)) ∧ (decode cL_law 1097 = .ok (.iload_n 3, 1)) ∧ (decode cL_law 1098 = .ok (.iconst 1, 1)) ∧ (decode cL_law 1099 = .ok (.iadd, 1)) ∧ (decode cL_law 1100 = .ok (.iaload, 1)) ∧ (decode cL_law 1101 = .ok (.aload_n 0, 1)) := by decide +kernel
theorem dL_law_1094 : decode cL_law 1094 = .ok (.pop, 1) := eL_law_1094.1
theorem dL_law_1095 : decode cL_law 1095 = .ok (.aload_n 2, 1) := eL_law_1094.2.1
theorem dL_law_1096 : decode cL_law 1096 = .ok (.aload_n 0, 1) := eL_law_1094.2.2.1
theorem dL_law_1097 : decode cL_law 1097 = .ok (.iload_n 3, 1) := eL_law_1094.2.2.2.1
theorem dL_law_1098 : decode cL_law 1098 = .ok (.iconst 1, 1) := eL_law_1094.2.2.2.2.1
theorem dL_law_1099 : decode cL_law 1099 = .ok (.iadd, 1) := eL_law_1094.2.2.2.2.2.1
theorem dL_law_1100 : decode cL_law 1100 = .ok (.iaload, 1) := eL_law_1094.2.2.2.2.2.2.1
theorem dL_law_1101 : decode cL_law 1101 = .ok (.aload_n 0, 1) := eL_law_1094.2.2.2.2.2.2.2
theorem eL_law_1102 : (decode cL_law 1102 = .ok (.iload_n 3, 1)) ∧ (decode cL_law 1103 = .ok (.iconst 2, 1)) ∧ (decode cL_law 1104 = .ok (.iadd, 1)) ∧ (decode cL_law 1105 = .ok (.iaload, 1)) ∧ (decode cL_law 1106 = .ok (.aload_n 0, 1)) ∧ (decode cL_law 1107 = .ok (.iload_n 3, 1)) ∧ (decode cL_law 1108 = .ok (.iconst 3, 1)) ∧ (decode cL_law 1109 = .ok (.iadd, 1)) := by decide +kernel
theorem dL_law_1102 : decode cL_law 1102 = .ok (.iload_n 3, 1) := eL_law_1102.1
theorem dL_law_1103 : decode cL_law 1103 = .ok (.iconst 2, 1) := eL_law_1102.2.1
theorem dL_law_1104 : decode cL_law 1104 = .ok (.iadd, 1) := eL_law_1102.2.2.1
theorem dL_law_1105 : decode cL_law 1105 = .ok (.iaload, 1) := eL_law_1102.2.2.2.1
theorem dL_law_1106 : decode cL_law 1106 = .ok (.aload_n 0, 1) := eL_law_1102.2.2.2.2.1
theorem dL_law_1107 : decode cL_law 1107 = .ok (.iload_n 3, 1) := eL_law_1102.2.2.2.2.2.1
theorem dL_law_1108 : decode cL_law 1108 = .ok (.iconst 3, 1) := eL_law_1102.2.2.2.2.2.2.1
theorem dL_law_1109 : decode cL_law 1109 = .ok (.iadd, 1) := eL_law_1102.2.2.2.2.2.2.2
theorem eL_law_1110 : (decode cL_law 1110 = .ok (.iaload, 1)) ∧ (decode cL_law 1111 = .ok (.aload_n 0, 1)) ∧ (decode cL_law 1112 = .ok (.iload_n 3, 1)) ∧ (decode cL_law 1113 = .ok (.iconst 4, 1)) ∧ (decode cL_law 1114 = .ok (.iadd, 1)) ∧ (decode cL_law 1115 = .ok (.iaload, 1)) ∧ (decode cL_law 1116 = .ok (.aload_n 0, 1)) ∧ (decode cL_law 1117 = .ok (.iload_n 3, 1)) := by decide +kernel
theorem dL_law_1110 : decode cL_law 1110 = .ok (.iaload, 1) := eL_law_1110.1
theorem dL_law_1111 : decode cL_law 1111 = .ok (.aload_n 0, 1) := eL_law_1110.2.1
theorem dL_law_1112 : decode cL_law 1112 = .ok (.iload_n 3, 1) := eL_law_1110.2.2.1
theorem dL_law_1113 : decode cL_law 1113 = .ok (.iconst 4, 1) := eL_law_1110.2.2.2.1
theorem dL_law_1114 : decode cL_law 1114 = .ok (.iadd, 1) := eL_law_1110.2.2.2.2.1
theorem dL_law_1115 : decode cL_law 1115 = .ok (.iaload, 1) := eL_law_1110.2.2.2.2.2.1
theorem dL_law_1116 : decode cL_law 1116 = .ok (.aload_n 0, 1) := eL_law_1110.2.2.2.2.2.2.1
theorem dL_law_1117 : decode cL_law 1117 = .ok (.iload_n 3, 1) := eL_law_1110.2.2.2.2.2.2.2
theorem eL_law_1118 : (decode cL_law 1118 = .ok (.iconst 5, 1)) ∧ (decode cL_law 1119 = .ok (.iadd, 1)) ∧ (decode cL_law 1120 = .ok (.iaload, 1)) ∧ (decode cL_law 1121 = .ok (.invokevirtual 109, 3)) ∧ (decode cL_law 1124 = .ok (.pop, 1)) ∧ (decode cL_law 1125 = .ok (.goto 125, 3)) ∧ (decode cL_law 1128 = .ok (.aload_n 1, 1)) ∧ (decode cL_law 1129 = .ok (.aload_n 0, 1)) := by decide +kernel
theorem dL_law_1118 : decode cL_law 1118 = .ok (.iconst 5, 1) := eL_law_1118.1
theorem dL_law_1119 : decode cL_law 1119 = .ok (.iadd, 1) := eL_law_1118.2.1
theorem dL_law_1120 : decode cL_law 1120 = .ok (.iaload, 1) := eL_law_1118.2.2.1
theorem dL_law_1121 : decode cL_law 1121 = .ok (.invokevirtual 109, 3) := eL_law_1118.2.2.2.1
theorem dL_law_1124 : decode cL_law 1124 = .ok (.pop, 1) := eL_law_1118.2.2.2.2.1
theorem dL_law_1125 : decode cL_law 1125 = .ok (.goto 125, 3) := eL_law_1118.2.2.2.2.2.1
theorem dL_law_1128 : decode cL_law 1128 = .ok (.aload_n 1, 1) := eL_law_1118.2.2.2.2.2.2.1
theorem dL_law_1129 : decode cL_law 1129 = .ok (.aload_n 0, 1) := eL_law_1118.2.2.2.2.2.2.2
theorem eL_law_1130 : (decode cL_law 1130 = .ok (.iload_n 3, 1)) ∧ (decode cL_law 1131 = .ok (.iconst 1, 1)) ∧ (decode cL_law 1132 = .ok (.iadd, 1)) ∧ (decode cL_law 1133 = .ok (.iaload, 1)) ∧ (decode cL_law 1134 = .ok (.aload_n 0, 1)) ∧ (decode cL_law 1135 = .ok (.iload_n 3, 1)) ∧ (decode cL_law 1136 = .ok (.iconst 2, 1)) ∧ (decode cL_law 1137 = .ok (.iadd, 1)) := by decide +kernel
theorem dL_law_1130 : decode cL_law 1130 = .ok (.iload_n 3, 1) := eL_law_1130.1
theorem dL_law_1131 : decode cL_law 1131 = .ok (.iconst 1, 1) := eL_law_1130.2.1
theorem dL_law_1132 : decode cL_law 1132 = .ok (.iadd, 1) := eL_law_1130.2.2.1
theorem dL_law_1133 : decode cL_law 1133 = .ok (.iaload, 1) := eL_law_1130.2.2.2.1
theorem dL_law_1134 : decode cL_law 1134 = .ok (.aload_n 0, 1) := eL_law_1130.2.2.2.2.1
theorem dL_law_1135 : decode cL_law 1135 = .ok (.iload_n 3, 1) := eL_law_1130.2.2.2.2.2.1
theorem dL_law_1136 : decode cL_law 1136 = .ok (.iconst 2, 1) := eL_law_1130.2.2.2.2.2.2.1
theorem dL_law_1137 : decode cL_law 1137 = .ok (.iadd, 1) := eL_law_1130.2.2.2.2.2.2.2
theorem eL_law_1138 : (decode cL_law 1138 = .ok (.iaload, 1)) ∧ (decode cL_law 1139 = .ok (.aload_n 0, 1)) ∧ (decode cL_law 1140 = .ok (.iload_n 3, 1)) ∧ (decode cL_law 1141 = .ok (.iconst 3, 1)) ∧ (decode cL_law 1142 = .ok (.iadd, 1)) ∧ (decode cL_law 1143 = .ok (.iaload, 1)) ∧ (decode cL_law 1144 = .ok (.invokevirtual 110, 3)) ∧ (decode cL_law 1147 = .ok (.pop, 1)) := by decide +kernel
theorem dL_law_1138 : decode cL_law 1138 = .ok (.iaload, 1) := eL_law_1138.1
theorem dL_law_1139 : decode cL_law 1139 = .ok (.aload_n 0, 1) := eL_law_1138.2.1
theorem dL_law_1140 : decode cL_law 1140 = .ok (.iload_n 3, 1) := eL_law_1138.2.2.1
theorem dL_law_1141 : decode cL_law 1141 = .ok (.iconst 3, 1) := eL_law_1138.2.2.2.1
theorem dL_law_1142 : decode cL_law 1142 = .ok (.iadd, 1) := eL_law_1138.2.2.2.2.1
theorem dL_law_1143 : decode cL_law 1143 = .ok (.iaload, 1) := eL_law_1138.2.2.2.2.2.1
theorem dL_law_1144 : decode cL_law 1144 = .ok (.invokevirtual 110, 3) := eL_law_1138.2.2.2.2.2.2.1
theorem dL_law_1147 : decode cL_law 1147 = .ok (.pop, 1) := eL_law_1138.2.2.2.2.2.2.2
theorem eL_law_1148 : (decode cL_law 1148 = .ok (.aload_n 2, 1)) ∧ (decode cL_law 1149 = .ok (.aload_n 0, 1)) ∧ (decode cL_law 1150 = .ok (.iload_n 3, 1)) ∧ (decode cL_law 1151 = .ok (.iconst 1, 1)) ∧ (decode cL_law 1152 = .ok (.iadd, 1)) ∧ (decode cL_law 1153 = .ok (.iaload, 1)) ∧ (decode cL_law 1154 = .ok (.aload_n 0, 1)) ∧ (decode cL_law 1155 = .ok (.iload_n 3, 1)) := by decide +kernel
theorem dL_law_1148 : decode cL_law 1148 = .ok (.aload_n 2, 1) := eL_law_1148.1
theorem dL_law_1149 : decode cL_law 1149 = .ok (.aload_n 0, 1) := eL_law_1148.2.1
theorem dL_law_1150 : decode cL_law 1150 = .ok (.iload_n 3, 1) := eL_law_1148.2.2.1
theorem dL_law_1151 : decode cL_law 1151 = .ok (.iconst 1, 1) := eL_law_1148.2.2.2.1
theorem dL_law_1152 : decode cL_law 1152 = .ok (.iadd, 1) := eL_law_1148.2.2.2.2.1
theorem dL_law_1153 : decode cL_law 1153 = .ok (.iaload, 1) := eL_law_1148.2.2.2.2.2.1
theorem dL_law_1154 : decode cL_law 1154 = .ok (.aload_n 0, 1) := eL_law_1148.2.2.2.2.2.2.1
theorem dL_law_1155 : decode cL_law 1155 = .ok (.iload_n 3, 1) := eL_law_1148.2.2.2.2.2.2.2
theorem eL_law_1156 : (decode cL_law 1156 = .ok (.iconst 2, 1)) ∧ (decode cL_law 1157 = .ok (.iadd, 1)) ∧ (decode cL_law 1158 = .ok (.iaload, 1)) ∧ (decode cL_law 1159 = .ok (.aload_n 0, 1)) ∧ (decode cL_law 1160 = .ok (.iload_n 3, 1)) ∧ (decode cL_law 1161 = .ok (.iconst 3, 1)) ∧ (decode cL_law 1162 = .ok (.iadd, 1)) ∧ (decode cL_law 1163 = .ok (.iaload, 1)) := by decide +kernel
theorem dL_law_1156 : decode cL_law 1156 = .ok (.iconst 2, 1) := eL_law_1156.1
theorem dL_law_1157 : decode cL_law 1157 = .ok (.iadd, 1) := eL_law_1156.2.1
theorem dL_law_1158 : decode cL_law 1158 = .ok (.iaload, 1) := eL_law_1156.2.2.1
theorem dL_law_1159 : decode cL_law 1159 = .ok (.aload_n 0, 1) := eL_law_1156.2.2.2.1
theorem dL_law_1160 : decode cL_law 1160 = .ok (.iload_n 3, 1) := eL_law_1156.2.2.2.2.1
theorem dL_law_1161 : decode cL_law 1161 = .ok (.iconst 3, 1) := eL_law_1156.2.2.2.2.2.1
theorem dL_law_1162 : decode cL_law 1162 = .ok (.iadd, 1) := eL_law_1156.2.2.2.2.2.2.1
theorem dL_law_1163 : decode cL_law 1163 = .ok (.iaload, 1) := eL_law_1156.2.2.2.2.2.2.2
theorem eL_law_1164 : (decode cL_law 1164 = .ok (.invokevirtual 113, 3)) ∧ (decode cL_law 1167 = .ok (.pop, 1)) ∧ (decode cL_law 1168 = .ok (.goto 82, 3)) ∧ (decode cL_law 1171 = .ok (.aload_n 1, 1)) ∧ (decode cL_law 1172 = .ok (.aload_n 0, 1)) ∧ (decode cL_law 1173 = .ok (.iload_n 3, 1)) ∧ (decode cL_law 1174 = .ok (.iconst 1, 1)) ∧ (decode cL_law 1175 = .ok (.iadd, 1)) := by decide +kernel
theorem dL_law_1164 : decode cL_law 1164 = .ok (.invokevirtual 113, 3) := eL_law_1164.1
theorem dL_law_1167 : decode cL_law 1167 = .ok (.pop, 1) := eL_law_1164.2.1
theorem dL_law_1168 : decode cL_law 1168 = .ok (.goto 82, 3) := eL_law_1164.2.2.1
theorem dL_law_1171 : decode cL_law 1171 = .ok (.aload_n 1, 1) := eL_law_1164.2.2.2.1
theorem dL_law_1172 : decode cL_law 1172 = .ok (.aload_n 0, 1) := eL_law_1164.2.2.2.2.1
theorem dL_law_1173 : decode cL_law 1173 = .ok (.iload_n 3, 1) := eL_law_1164.2.2.2.2.2.1
theorem dL_law_1174 : decode cL_law 1174 = .ok (.iconst 1, 1) := eL_law_1164.2.2.2.2.2.2.1
theorem dL_law_1175 : decode cL_law 1175 = .ok (.iadd, 1) := eL_law_1164.2.2.2.2.2.2.2
theorem eL_law_1176 : (decode cL_law 1176 = .ok (.iaload, 1)) ∧ (decode cL_law 1177 = .ok (.aload_n 0, 1)) ∧ (decode cL_law 1178 = .ok (.iload_n 3, 1)) ∧ (decode cL_law 1179 = .ok (.iconst 2, 1)) ∧ (decode cL_law 1180 = .ok (.iadd, 1)) ∧ (decode cL_law 1181 = .ok (.iaload, 1)) ∧ (decode cL_law 1182 = .ok (.invokevirtual 114, 3)) ∧ (decode cL_law 1185 = .ok (.aload_n 2, 1)) := by decide +kernel
theorem dL_law_1176 : decode cL_law 1176 = .ok (.iaload, 1) := eL_law_1176.1
theorem dL_law_1177 : decode cL_law 1177 = .ok (.aload_n 0, 1) := eL_law_1176.2.1
theorem dL_law_1178 : decode cL_law 1178 = .ok (.iload_n 3, 1) := eL_law_1176.2.2.1
theorem dL_law_1179 : decode cL_law 1179 = .ok (.iconst 2, 1) := eL_law_1176.2.2.2.1
theorem dL_law_1180 : decode cL_law 1180 = .ok (.iadd, 1) := eL_law_1176.2.2.2.2.1
theorem dL_law_1181 : decode cL_law 1181 = .ok (.iaload, 1) := eL_law_1176.2.2.2.2.2.1
theorem dL_law_1182 : decode cL_law 1182 = .ok (.invokevirtual 114, 3) := eL_law_1176.2.2.2.2.2.2.1
theorem dL_law_1185 : decode cL_law 1185 = .ok (.aload_n 2, 1) := eL_law_1176.2.2.2.2.2.2.2
theorem eL_law_1186 : (decode cL_law 1186 = .ok (.aload_n 0, 1)) ∧ (decode cL_law 1187 = .ok (.iload_n 3, 1)) ∧ (decode cL_law 1188 = .ok (.iconst 1, 1)) ∧ (decode cL_law 1189 = .ok (.iadd, 1)) ∧ (decode cL_law 1190 = .ok (.iaload, 1)) ∧ (decode cL_law 1191 = .ok (.aload_n 0, 1)) ∧ (decode cL_law 1192 = .ok (.iload_n 3, 1)) ∧ (decode cL_law 1193 = .ok (.iconst 2, 1)) := by decide +kernel
theorem dL_law_1186 : decode cL_law 1186 = .ok (.aload_n 0, 1) := eL_law_1186.1
theorem dL_law_1187 : decode cL_law 1187 = .ok (.iload_n 3, 1) := eL_law_1186.2.1
theorem dL_law_1188 : decode cL_law 1188 = .ok (.iconst 1, 1) := eL_law_1186.2.2.1
theorem dL_law_1189 : decode cL_law 1189 = .ok (.iadd, 1) := eL_law_1186.2.2.2.1
theorem dL_law_1190 : decode cL_law 1190 = .ok (.iaload, 1) := eL_law_1186.2.2.2.2.1
theorem dL_law_1191 : decode cL_law 1191 = .ok (.aload_n 0, 1) := eL_law_1186.2.2.2.2.2.1
theorem dL_law_1192 : decode cL_law 1192 = .ok (.iload_n 3, 1) := eL_law_1186.2.2.2.2.2.2.1
theorem dL_law_1193 : decode cL_law 1193 = .ok (.iconst 2, 1) := eL_law_1186.2.2.2.2.2.2.2
theorem eL_law_1194 : (decode cL_law 1194 = .ok (.iadd, 1)) ∧ (decode cL_law 1195 = .ok (.iaload, 1)) ∧ (decode cL_law 1196 = .ok (.invokevirtual 117, 3)) ∧ (decode cL_law 1199 = .ok (.if_icmp .eq 51, 3)) ∧ (decode cL_law 1202 = .ok (.iconst 0, 1)) ∧ (decode cL_law 1203 = .ok (.ireturn, 1)) ∧ (decode cL_law 1204 = .ok (.aload_n 1, 1)) ∧ (decode cL_law 1205 = .ok (.aload_n 0, 1)) := by decide +kernel
theorem dL_law_1194 : decode cL_law 1194 = .ok (.iadd, 1) := eL_law_1194.1
theorem dL_law_1195 : decode cL_law 1195 = .ok (.iaload, 1) := eL_law_1194.2.1
theorem dL_law_1196 : decode cL_law 1196 = .ok (.invokevirtual 117, 3) := eL_law_1194.2.2.1
theorem dL_law_1199 : decode cL_law 1199 = .ok (.if_icmp .eq 51, 3) := eL_law_1194.2.2.2.1
theorem dL_law_1202 : decode cL_law 1202 = .ok (.iconst 0, 1) := eL_law_1194.2.2.2.2.1
theorem dL_law_1203 : decode cL_law 1203 = .ok (.ireturn, 1) := eL_law_1194.2.2.2.2.2.1
theorem dL_law_1204 : decode cL_law 1204 = .ok (.aload_n 1, 1) := eL_law_1194.2.2.2.2.2.2.1
theorem dL_law_1205 : decode cL_law 1205 = .ok (.aload_n 0, 1) := eL_law_1194.2.2.2.2.2.2.2
theorem eL_law_1206 : (decode cL_law 1206 = .ok (.iload_n 3, 1)) ∧ (decode cL_law 1207 = .ok (.iconst 1, 1)) ∧ (decode cL_law 1208 = .ok (.iadd, 1)) ∧ (decode cL_law 1209 = .ok (.iaload, 1)) ∧ (decode cL_law 1210 = .ok (.invokevirtual 118, 3)) ∧ (decode cL_law 1213 = .ok (.pop2, 1)) ∧ (decode cL_law 1214 = .ok (.aload_n 2, 1)) ∧ (decode cL_law 1215 = .ok (.aload_n 0, 1)) := by decide +kernel
theorem dL_law_1206 : decode cL_law 1206 = .ok (.iload_n 3, 1) := eL_law_1206.1
theorem dL_law_1207 : decode cL_law 1207 = .ok (.iconst 1, 1) := eL_law_1206.2.1
theorem dL_law_1208 : decode cL_law 1208 = .ok (.iadd, 1) := eL_law_1206.2.2.1
theorem dL_law_1209 : decode cL_law 1209 = .ok (.iaload, 1) := eL_law_1206.2.2.2.1
theorem dL_law_1210 : decode cL_law 1210 = .ok (.invokevirtual 118, 3) := eL_law_1206.2.2.2.2.1
theorem dL_law_1213 : decode cL_law 1213 = .ok (.pop2, 1) := eL_law_1206.2.2.2.2.2.1
theorem dL_law_1214 : decode cL_law 1214 = .ok (.aload_n 2, 1) := eL_law_1206.2.2.2.2.2.2.1
theorem dL_law_1215 : decode cL_law 1215 = .ok (.aload_n 0, 1) := eL_law_1206.2.2.2.2.2.2.2
theorem eL_law_1216 : (decode cL_law 1216 = .ok (.iload_n 3, 1)) ∧ (decode cL_law 1217 = .ok (.iconst 1, 1)) ∧ (decode cL_law 1218 = .ok (.iadd, 1)) ∧ (decode cL_law 1219 = .ok (.iaload, 1)) ∧ (decode cL_law 1220 = .ok (.invokevirtual 122, 3)) ∧ (decode cL_law 1223 = .ok (.pop2, 1)) ∧ (decode cL_law 1224 = .ok (.goto 26, 3)) ∧ (decode cL_law 1227 = .ok (.aload_n 1, 1)) := by decide +kernel
theorem dL_law_1216 : decode cL_law 1216 = .ok (.iload_n 3, 1) := eL_law_1216.1
theorem dL_law_1217 : decode cL_law 1217 = .ok (.iconst 1, 1) := eL_law_1216.2.1
theorem dL_law_1218 : decode cL_law 1218 = .ok (.iadd, 1) := eL_law_1216.2.2.1
theorem dL_law_1219 : decode cL_law 1219 = .ok (.iaload, 1) := eL_law_1216.2.2.2.1
theorem dL_law_1220 : decode cL_law 1220 = .ok (.invokevirtual 122, 3) := eL_law_1216.2.2.2.2.1
theorem dL_law_1223 : decode cL_law 1223 = .ok (.pop2, 1) := eL_law_1216.2.2.2.2.2.1
theorem dL_law_1224 : decode cL_law 1224 = .ok (.goto 26, 3) := eL_law_1216.2.2.2.2.2.2.1
theorem dL_law_1227 : decode cL_law 1227 = .ok (.aload_n 1, 1) := eL_law_1216.2.2.2.2.2.2.2
theorem eL_law_1228 : (decode cL_law 1228 = .ok (.aload_n 0, 1)) ∧ (decode cL_law 1229 = .ok (.iload_n 3, 1)) ∧ (decode cL_law 1230 = .ok (.iconst 1, 1)) ∧ (decode cL_law 1231 = .ok (.iadd, 1)) ∧ (decode cL_law 1232 = .ok (.iaload, 1)) ∧ (decode cL_law 1233 = .ok (.invokevirtual 123, 3)) ∧ (decode cL_law 1236 = .ok (.pop, 1)) ∧ (decode cL_law 1237 = .ok (.aload_n 2, 1)) := by decide +kernel
theorem dL_law_1228 : decode cL_law 1228 = .ok (.aload_n 0, 1) := eL_law_1228.1
theorem dL_law_1229 : decode cL_law 1229 = .ok (.iload_n 3, 1) := eL_law_1228.2.1
theorem dL_law_1230 : decode cL_law 1230 = .ok (.iconst 1, 1) := eL_law_1228.2.2.1
theorem dL_law_1231 : decode cL_law 1231 = .ok (.iadd, 1) := eL_law_1228.2.2.2.1
theorem dL_law_1232 : decode cL_law 1232 = .ok (.iaload, 1) := eL_law_1228.2.2.2.2.1
theorem dL_law_1233 : decode cL_law 1233 = .ok (.invokevirtual 123, 3) := eL_law_1228.2.2.2.2.2.1
theorem dL_law_1236 : decode cL_law 1236 = .ok (.pop, 1) := eL_law_1228.2.2.2.2.2.2.1
theorem dL_law_1237 : decode cL_law 1237 = .ok (.aload_n 2, 1) := eL_law_1228.2.2.2.2.2.2.2
theorem eL_law_1238 : (decode cL_law 1238 = .ok (.aload_n 0, 1)) ∧ (decode cL_law 1239 = .ok (.iload_n 3, 1)) ∧ (decode cL_law 1240 = .ok (.iconst 1, 1)) ∧ (decode cL_law 1241 = .ok (.iadd, 1)) ∧ (decode cL_law 1242 = .ok (.iaload, 1)) ∧ (decode cL_law 1243 = .ok (.invokevirtual 126, 3)) ∧ (decode cL_law 1246 = .ok (.pop, 1)) ∧ (decode cL_law 1247 = .ok (.goto 3, 3)) := by decide +kernel
theorem dL_law_1238 : decode cL_law 1238 = .ok (.aload_n 0, 1) := eL_law_1238.1
theorem dL_law_1239 : decode cL_law 1239 = .ok (.iload_n 3, 1) := eL_law_1238.2.1
theorem dL_law_1240 : decode cL_law 1240 = .ok (.iconst 1, 1) := eL_law_1238.2.2.1
theorem dL_law_1241 : decode cL_law 1241 = .ok (.iadd, 1) := eL_law_1238.2.2.2.1
theorem dL_law_1242 : decode cL_law 1242 = .ok (.iaload, 1) := eL_law_1238.2.2.2.2.1
theorem dL_law_1243 : decode cL_law 1243 = .ok (.invokevirtual 126, 3) := eL_law_1238.2.2.2.2.2.1
theorem dL_law_1246 : decode cL_law 1246 = .ok (.pop, 1) := eL_law_1238.2.2.2.2.2.2.1
theorem dL_law_1247 : decode cL_law 1247 = .ok (.goto 3, 3) := eL_law_1238.2.2.2.2.2.2.2
theorem eL_law_1250 : (decode cL_law 1250 = .ok (.iinc 3 6, 3)) ∧ (decode cL_law 1253 = .ok (.goto (-1235), 3)) ∧ (decode cL_law 1256 = .ok (.iconst 1, 1)) ∧ (decode cL_law 1257 = .ok (.ireturn, 1)) := by decide +kernel
theorem dL_law_1250 : decode cL_law 1250 = .ok (.iinc 3 6, 3) := eL_law_1250.1
theorem dL_law_1253 : decode cL_law 1253 = .ok (.goto (-1235), 3) := eL_law_1250.2.1
theorem dL_law_1256 : decode cL_law 1256 = .ok (.iconst 1, 1) := eL_law_1250.2.2.1
theorem dL_law_1257 : decode cL_law 1257 = .ok (.ireturn, 1) := eL_law_1250.2.2.2
