/-! decode rows (claim/NAMES.whole.lean.txt) -/
theorem dX0_init_0 : decode cX0_init 0 = .ok (.aload_n 0, 1) := by decide +kernel
theorem dX0_init_1 : decode cX0_init 1 = .ok (.invokespecial 3, 3) := by decide +kernel
theorem dX0_init_4 : decode cX0_init 4 = .ok (.aload_n 0, 1) := by decide +kernel
theorem dX0_init_5 : decode cX0_init 5 = .ok (.bipush 64, 2) := by decide +kernel
theorem dX0_init_7 : decode cX0_init 7 = .ok (.newarray .long, 2) := by decide +kernel
theorem dX0_init_9 : decode cX0_init 9 = .ok (.putfield 9, 3) := by decide +kernel
theorem dX0_init_12 : decode cX0_init 12 = .ok (.aload_n 0, 1) := by decide +kernel
theorem dX0_init_13 : decode cX0_init 13 = .ok (.iconst 0, 1) := by decide +kernel
theorem dX0_init_14 : decode cX0_init 14 = .ok (.putfield 15, 3) := by decide +kernel
theorem dX0_init_17 : decode cX0_init 17 = .ok (.return_, 1) := by decide +kernel
theorem dX0_findPeak_0 : decode cX0_findPeak 0 = .ok (.aload_n 0, 1) := by decide +kernel
theorem dX0_findPeak_1 : decode cX0_findPeak 1 = .ok (.iconst 0, 1) := by decide +kernel
theorem dX0_findPeak_2 : decode cX0_findPeak 2 = .ok (.putfield 15, 3) := by decide +kernel
theorem dX0_findPeak_5 : decode cX0_findPeak 5 = .ok (.aload_n 1, 1) := by decide +kernel
theorem dX0_findPeak_6 : decode cX0_findPeak 6 = .ok (.iload_n 2, 1) := by decide +kernel
theorem dX0_findPeak_7 : decode cX0_findPeak 7 = .ok (.invokevirtual 19, 3) := by decide +kernel
theorem dX0_findPeak_10 : decode cX0_findPeak 10 = .ok (.ifCond .eq 7, 3) := by decide +kernel
theorem dX0_findPeak_13 : decode cX0_findPeak 13 = .ok (.lconst 0, 1) := by decide +kernel
theorem dX0_findPeak_14 : decode cX0_findPeak 14 = .ok (.goto 7, 3) := by decide +kernel
theorem dX0_findPeak_17 : decode cX0_findPeak 17 = .ok (.iload_n 2, 1) := by decide +kernel
theorem dX0_findPeak_18 : decode cX0_findPeak 18 = .ok (.invokestatic 25, 3) := by decide +kernel
theorem dX0_findPeak_21 : decode cX0_findPeak 21 = .ok (.lstore 4, 2) := by decide +kernel
theorem dX0_findPeak_23 : decode cX0_findPeak 23 = .ok (.lload 4, 2) := by decide +kernel
theorem dX0_findPeak_25 : decode cX0_findPeak 25 = .ok (.lstore 6, 2) := by decide +kernel
theorem dX0_findPeak_27 : decode cX0_findPeak 27 = .ok (.lload 4, 2) := by decide +kernel
theorem dX0_findPeak_29 : decode cX0_findPeak 29 = .ok (.lconst 0, 1) := by decide +kernel
theorem dX0_findPeak_30 : decode cX0_findPeak 30 = .ok (.lcmp, 1) := by decide +kernel
theorem dX0_findPeak_31 : decode cX0_findPeak 31 = .ok (.ifCond .eq 14, 3) := by decide +kernel
theorem dX0_findPeak_34 : decode cX0_findPeak 34 = .ok (.aload_n 0, 1) := by decide +kernel
theorem dX0_findPeak_35 : decode cX0_findPeak 35 = .ok (.aload_n 1, 1) := by decide +kernel
theorem dX0_findPeak_36 : decode cX0_findPeak 36 = .ok (.getfield 31, 3) := by decide +kernel
theorem dX0_findPeak_39 : decode cX0_findPeak 39 = .ok (.iload_n 2, 1) := by decide +kernel
theorem dX0_findPeak_40 : decode cX0_findPeak 40 = .ok (.iaload, 1) := by decide +kernel
theorem dX0_findPeak_41 : decode cX0_findPeak 41 = .ok (.iload_n 2, 1) := by decide +kernel
theorem dX0_findPeak_42 : decode cX0_findPeak 42 = .ok (.invokevirtual 35, 3) := by decide +kernel
theorem dX0_findPeak_45 : decode cX0_findPeak 45 = .ok (.iconst 0, 1) := by decide +kernel
theorem dX0_findPeak_46 : decode cX0_findPeak 46 = .ok (.istore 8, 2) := by decide +kernel
theorem dX0_findPeak_48 : decode cX0_findPeak 48 = .ok (.iload 8, 2) := by decide +kernel
theorem dX0_findPeak_50 : decode cX0_findPeak 50 = .ok (.bipush 64, 2) := by decide +kernel
theorem dX0_findPeak_52 : decode cX0_findPeak 52 = .ok (.if_icmp .ge 65, 3) := by decide +kernel
theorem dX0_findPeak_55 : decode cX0_findPeak 55 = .ok (.aload_n 0, 1) := by decide +kernel
theorem dX0_findPeak_56 : decode cX0_findPeak 56 = .ok (.invokevirtual 39, 3) := by decide +kernel
theorem dX0_findPeak_59 : decode cX0_findPeak 59 = .ok (.lstore 9, 2) := by decide +kernel
theorem dX0_findPeak_61 : decode cX0_findPeak 61 = .ok (.lload 9, 2) := by decide +kernel
theorem dX0_findPeak_63 : decode cX0_findPeak 63 = .ok (.ldc2_w 43, 3) := by decide +kernel
theorem dX0_findPeak_66 : decode cX0_findPeak 66 = .ok (.lcmp, 1) := by decide +kernel
theorem dX0_findPeak_67 : decode cX0_findPeak 67 = .ok (.ifCond .ne 5, 3) := by decide +kernel
theorem dX0_findPeak_70 : decode cX0_findPeak 70 = .ok (.iconst (-1), 1) := by decide +kernel
theorem dX0_findPeak_71 : decode cX0_findPeak 71 = .ok (.ireturn, 1) := by decide +kernel
theorem dX0_findPeak_72 : decode cX0_findPeak 72 = .ok (.lload 9, 2) := by decide +kernel
theorem dX0_findPeak_74 : decode cX0_findPeak 74 = .ok (.ldc2_w 45, 3) := by decide +kernel
theorem dX0_findPeak_77 : decode cX0_findPeak 77 = .ok (.land, 1) := by decide +kernel
theorem dX0_findPeak_78 : decode cX0_findPeak 78 = .ok (.l2i, 1) := by decide +kernel
theorem dX0_findPeak_79 : decode cX0_findPeak 79 = .ok (.istore 11, 2) := by decide +kernel
theorem dX0_findPeak_81 : decode cX0_findPeak 81 = .ok (.lload 9, 2) := by decide +kernel
theorem dX0_findPeak_83 : decode cX0_findPeak 83 = .ok (.bipush 6, 2) := by decide +kernel
theorem dX0_findPeak_85 : decode cX0_findPeak 85 = .ok (.lshr, 1) := by decide +kernel
theorem dX0_findPeak_86 : decode cX0_findPeak 86 = .ok (.l2i, 1) := by decide +kernel
theorem dX0_findPeak_87 : decode cX0_findPeak 87 = .ok (.istore 12, 2) := by decide +kernel
theorem dX0_findPeak_89 : decode cX0_findPeak 89 = .ok (.iload 11, 2) := by decide +kernel
theorem dX0_findPeak_91 : decode cX0_findPeak 91 = .ok (.iload_n 3, 1) := by decide +kernel
theorem dX0_findPeak_92 : decode cX0_findPeak 92 = .ok (.if_icmp .ne 6, 3) := by decide +kernel
theorem dX0_findPeak_95 : decode cX0_findPeak 95 = .ok (.iload 12, 2) := by decide +kernel
theorem dX0_findPeak_97 : decode cX0_findPeak 97 = .ok (.ireturn, 1) := by decide +kernel
theorem dX0_findPeak_98 : decode cX0_findPeak 98 = .ok (.aload_n 0, 1) := by decide +kernel
theorem dX0_findPeak_99 : decode cX0_findPeak 99 = .ok (.aload_n 1, 1) := by decide +kernel
theorem dX0_findPeak_100 : decode cX0_findPeak 100 = .ok (.iload 11, 2) := by decide +kernel
theorem dX0_findPeak_102 : decode cX0_findPeak 102 = .ok (.iload 12, 2) := by decide +kernel
theorem dX0_findPeak_104 : decode cX0_findPeak 104 = .ok (.lload 6, 2) := by decide +kernel
theorem dX0_findPeak_106 : decode cX0_findPeak 106 = .ok (.invokevirtual 47, 3) := by decide +kernel
theorem dX0_findPeak_109 : decode cX0_findPeak 109 = .ok (.lstore 6, 2) := by decide +kernel
theorem dX0_findPeak_111 : decode cX0_findPeak 111 = .ok (.iinc 8 1, 3) := by decide +kernel
theorem dX0_findPeak_114 : decode cX0_findPeak 114 = .ok (.goto (-66), 3) := by decide +kernel
theorem dX0_findPeak_117 : decode cX0_findPeak 117 = .ok (.iconst (-1), 1) := by decide +kernel
theorem dX0_findPeak_118 : decode cX0_findPeak 118 = .ok (.ireturn, 1) := by decide +kernel
theorem dX0_putNeighbours_0 : decode cX0_putNeighbours 0 = .ok (.lload 4, 2) := by decide +kernel
theorem dX0_putNeighbours_2 : decode cX0_putNeighbours 2 = .ok (.lstore 6, 2) := by decide +kernel
theorem dX0_putNeighbours_4 : decode cX0_putNeighbours 4 = .ok (.iconst 0, 1) := by decide +kernel
theorem dX0_putNeighbours_5 : decode cX0_putNeighbours 5 = .ok (.istore 8, 2) := by decide +kernel
theorem dX0_putNeighbours_7 : decode cX0_putNeighbours 7 = .ok (.iload 8, 2) := by decide +kernel
theorem dX0_putNeighbours_9 : decode cX0_putNeighbours 9 = .ok (.iconst 4, 1) := by decide +kernel
theorem dX0_putNeighbours_10 : decode cX0_putNeighbours 10 = .ok (.if_icmp .ge 69, 3) := by decide +kernel
theorem dX0_putNeighbours_13 : decode cX0_putNeighbours 13 = .ok (.iload_n 2, 1) := by decide +kernel
theorem dX0_putNeighbours_14 : decode cX0_putNeighbours 14 = .ok (.iload 8, 2) := by decide +kernel
theorem dX0_putNeighbours_16 : decode cX0_putNeighbours 16 = .ok (.invokestatic 51, 3) := by decide +kernel
theorem dX0_putNeighbours_19 : decode cX0_putNeighbours 19 = .ok (.istore 9, 2) := by decide +kernel
theorem dX0_putNeighbours_21 : decode cX0_putNeighbours 21 = .ok (.iload 9, 2) := by decide +kernel
theorem dX0_putNeighbours_23 : decode cX0_putNeighbours 23 = .ok (.iconst (-1), 1) := by decide +kernel
theorem dX0_putNeighbours_24 : decode cX0_putNeighbours 24 = .ok (.if_icmp .eq 49, 3) := by decide +kernel
theorem dX0_putNeighbours_27 : decode cX0_putNeighbours 27 = .ok (.aload_n 1, 1) := by decide +kernel
theorem dX0_putNeighbours_28 : decode cX0_putNeighbours 28 = .ok (.iload 9, 2) := by decide +kernel
theorem dX0_putNeighbours_30 : decode cX0_putNeighbours 30 = .ok (.invokevirtual 19, 3) := by decide +kernel
theorem dX0_putNeighbours_33 : decode cX0_putNeighbours 33 = .ok (.ifCond .ne 40, 3) := by decide +kernel
theorem dX0_putNeighbours_36 : decode cX0_putNeighbours 36 = .ok (.lload 6, 2) := by decide +kernel
theorem dX0_putNeighbours_38 : decode cX0_putNeighbours 38 = .ok (.iload 9, 2) := by decide +kernel
theorem dX0_putNeighbours_40 : decode cX0_putNeighbours 40 = .ok (.invokestatic 55, 3) := by decide +kernel
theorem dX0_putNeighbours_43 : decode cX0_putNeighbours 43 = .ok (.ifCond .ne 30, 3) := by decide +kernel
theorem dX0_putNeighbours_46 : decode cX0_putNeighbours 46 = .ok (.lload 6, 2) := by decide +kernel
theorem dX0_putNeighbours_48 : decode cX0_putNeighbours 48 = .ok (.iload 9, 2) := by decide +kernel
theorem dX0_putNeighbours_50 : decode cX0_putNeighbours 50 = .ok (.invokestatic 25, 3) := by decide +kernel
theorem dX0_putNeighbours_53 : decode cX0_putNeighbours 53 = .ok (.lor, 1) := by decide +kernel
theorem dX0_putNeighbours_54 : decode cX0_putNeighbours 54 = .ok (.lstore 6, 2) := by decide +kernel
theorem dX0_putNeighbours_56 : decode cX0_putNeighbours 56 = .ok (.aload_n 0, 1) := by decide +kernel
theorem dX0_putNeighbours_57 : decode cX0_putNeighbours 57 = .ok (.iload_n 3, 1) := by decide +kernel
theorem dX0_putNeighbours_58 : decode cX0_putNeighbours 58 = .ok (.aload_n 1, 1) := by decide +kernel
theorem dX0_putNeighbours_59 : decode cX0_putNeighbours 59 = .ok (.getfield 31, 3) := by decide +kernel
theorem dX0_putNeighbours_62 : decode cX0_putNeighbours 62 = .ok (.iload 9, 2) := by decide +kernel
theorem dX0_putNeighbours_64 : decode cX0_putNeighbours 64 = .ok (.iaload, 1) := by decide +kernel
theorem dX0_putNeighbours_65 : decode cX0_putNeighbours 65 = .ok (.invokestatic 59, 3) := by decide +kernel
theorem dX0_putNeighbours_68 : decode cX0_putNeighbours 68 = .ok (.iload 9, 2) := by decide +kernel
theorem dX0_putNeighbours_70 : decode cX0_putNeighbours 70 = .ok (.invokevirtual 35, 3) := by decide +kernel
theorem dX0_putNeighbours_73 : decode cX0_putNeighbours 73 = .ok (.iinc 8 1, 3) := by decide +kernel
theorem dX0_putNeighbours_76 : decode cX0_putNeighbours 76 = .ok (.goto (-69), 3) := by decide +kernel
theorem dX0_putNeighbours_79 : decode cX0_putNeighbours 79 = .ok (.lload 6, 2) := by decide +kernel
theorem dX0_putNeighbours_81 : decode cX0_putNeighbours 81 = .ok (.lreturn, 1) := by decide +kernel
theorem dX0_put_0 : decode cX0_put 0 = .ok (.aload_n 0, 1) := by decide +kernel
theorem dX0_put_1 : decode cX0_put 1 = .ok (.getfield 15, 3) := by decide +kernel
theorem dX0_put_4 : decode cX0_put 4 = .ok (.bipush 64, 2) := by decide +kernel
theorem dX0_put_6 : decode cX0_put 6 = .ok (.if_icmp .lt 4, 3) := by decide +kernel
theorem dX0_put_9 : decode cX0_put 9 = .ok (.return_, 1) := by decide +kernel
theorem dX0_put_10 : decode cX0_put 10 = .ok (.iload_n 1, 1) := by decide +kernel
theorem dX0_put_11 : decode cX0_put 11 = .ok (.i2l, 1) := by decide +kernel
theorem dX0_put_12 : decode cX0_put 12 = .ok (.bipush 6, 2) := by decide +kernel
theorem dX0_put_14 : decode cX0_put 14 = .ok (.lshl, 1) := by decide +kernel
theorem dX0_put_15 : decode cX0_put 15 = .ok (.iload_n 2, 1) := by decide +kernel
theorem dX0_put_16 : decode cX0_put 16 = .ok (.i2l, 1) := by decide +kernel
theorem dX0_put_17 : decode cX0_put 17 = .ok (.lor, 1) := by decide +kernel
theorem dX0_put_18 : decode cX0_put 18 = .ok (.lstore_n 3, 1) := by decide +kernel
theorem dX0_put_19 : decode cX0_put 19 = .ok (.aload_n 0, 1) := by decide +kernel
theorem dX0_put_20 : decode cX0_put 20 = .ok (.getfield 15, 3) := by decide +kernel
theorem dX0_put_23 : decode cX0_put 23 = .ok (.istore 5, 2) := by decide +kernel
theorem dX0_put_25 : decode cX0_put 25 = .ok (.iload 5, 2) := by decide +kernel
theorem dX0_put_27 : decode cX0_put 27 = .ok (.iconst 1, 1) := by decide +kernel
theorem dX0_put_28 : decode cX0_put 28 = .ok (.isub, 1) := by decide +kernel
theorem dX0_put_29 : decode cX0_put 29 = .ok (.iconst 2, 1) := by decide +kernel
theorem dX0_put_30 : decode cX0_put 30 = .ok (.idiv, 1) := by decide +kernel
theorem dX0_put_31 : decode cX0_put 31 = .ok (.istore 6, 2) := by decide +kernel
theorem dX0_put_33 : decode cX0_put 33 = .ok (.iload 5, 2) := by decide +kernel
theorem dX0_put_35 : decode cX0_put 35 = .ok (.ifCond .le 44, 3) := by decide +kernel
theorem dX0_put_38 : decode cX0_put 38 = .ok (.aload_n 0, 1) := by decide +kernel
theorem dX0_put_39 : decode cX0_put 39 = .ok (.getfield 9, 3) := by decide +kernel
theorem dX0_put_42 : decode cX0_put 42 = .ok (.iload 6, 2) := by decide +kernel
theorem dX0_put_44 : decode cX0_put 44 = .ok (.laload, 1) := by decide +kernel
theorem dX0_put_45 : decode cX0_put 45 = .ok (.lload_n 3, 1) := by decide +kernel
theorem dX0_put_46 : decode cX0_put 46 = .ok (.lcmp, 1) := by decide +kernel
theorem dX0_put_47 : decode cX0_put 47 = .ok (.ifCond .le 32, 3) := by decide +kernel
theorem dX0_put_50 : decode cX0_put 50 = .ok (.aload_n 0, 1) := by decide +kernel
theorem dX0_put_51 : decode cX0_put 51 = .ok (.getfield 9, 3) := by decide +kernel
theorem dX0_put_54 : decode cX0_put 54 = .ok (.iload 5, 2) := by decide +kernel
theorem dX0_put_56 : decode cX0_put 56 = .ok (.aload_n 0, 1) := by decide +kernel
theorem dX0_put_57 : decode cX0_put 57 = .ok (.getfield 9, 3) := by decide +kernel
theorem dX0_put_60 : decode cX0_put 60 = .ok (.iload 6, 2) := by decide +kernel
theorem dX0_put_62 : decode cX0_put 62 = .ok (.laload, 1) := by decide +kernel
theorem dX0_put_63 : decode cX0_put 63 = .ok (.lastore, 1) := by decide +kernel
theorem dX0_put_64 : decode cX0_put 64 = .ok (.iload 6, 2) := by decide +kernel
theorem dX0_put_66 : decode cX0_put 66 = .ok (.istore 5, 2) := by decide +kernel
theorem dX0_put_68 : decode cX0_put 68 = .ok (.iload 5, 2) := by decide +kernel
theorem dX0_put_70 : decode cX0_put 70 = .ok (.iconst 1, 1) := by decide +kernel
theorem dX0_put_71 : decode cX0_put 71 = .ok (.isub, 1) := by decide +kernel
theorem dX0_put_72 : decode cX0_put 72 = .ok (.iconst 2, 1) := by decide +kernel
theorem dX0_put_73 : decode cX0_put 73 = .ok (.idiv, 1) := by decide +kernel
theorem dX0_put_74 : decode cX0_put 74 = .ok (.istore 6, 2) := by decide +kernel
theorem dX0_put_76 : decode cX0_put 76 = .ok (.goto (-43), 3) := by decide +kernel
theorem dX0_put_79 : decode cX0_put 79 = .ok (.aload_n 0, 1) := by decide +kernel
theorem dX0_put_80 : decode cX0_put 80 = .ok (.getfield 9, 3) := by decide +kernel
theorem dX0_put_83 : decode cX0_put 83 = .ok (.iload 5, 2) := by decide +kernel
theorem dX0_put_85 : decode cX0_put 85 = .ok (.lload_n 3, 1) := by decide +kernel
theorem dX0_put_86 : decode cX0_put 86 = .ok (.lastore, 1) := by decide +kernel
theorem dX0_put_87 : decode cX0_put 87 = .ok (.aload_n 0, 1) := by decide +kernel
theorem dX0_put_88 : decode cX0_put 88 = .ok (.dup, 1) := by decide +kernel
theorem dX0_put_89 : decode cX0_put 89 = .ok (.getfield 15, 3) := by decide +kernel
theorem dX0_put_92 : decode cX0_put 92 = .ok (.iconst 1, 1) := by decide +kernel
theorem dX0_put_93 : decode cX0_put 93 = .ok (.iadd, 1) := by decide +kernel
theorem dX0_put_94 : decode cX0_put 94 = .ok (.putfield 15, 3) := by decide +kernel
theorem dX0_put_97 : decode cX0_put 97 = .ok (.return_, 1) := by decide +kernel
theorem dX0_takeLeast_0 : decode cX0_takeLeast 0 = .ok (.aload_n 0, 1) := by decide +kernel
theorem dX0_takeLeast_1 : decode cX0_takeLeast 1 = .ok (.getfield 15, 3) := by decide +kernel
theorem dX0_takeLeast_4 : decode cX0_takeLeast 4 = .ok (.ifCond .gt 7, 3) := by decide +kernel
theorem dX0_takeLeast_7 : decode cX0_takeLeast 7 = .ok (.ldc2_w 43, 3) := by decide +kernel
theorem dX0_takeLeast_10 : decode cX0_takeLeast 10 = .ok (.lreturn, 1) := by decide +kernel
theorem dX0_takeLeast_11 : decode cX0_takeLeast 11 = .ok (.aload_n 0, 1) := by decide +kernel
theorem dX0_takeLeast_12 : decode cX0_takeLeast 12 = .ok (.getfield 9, 3) := by decide +kernel
theorem dX0_takeLeast_15 : decode cX0_takeLeast 15 = .ok (.iconst 0, 1) := by decide +kernel
theorem dX0_takeLeast_16 : decode cX0_takeLeast 16 = .ok (.laload, 1) := by decide +kernel
theorem dX0_takeLeast_17 : decode cX0_takeLeast 17 = .ok (.lstore_n 1, 1) := by decide +kernel
theorem dX0_takeLeast_18 : decode cX0_takeLeast 18 = .ok (.aload_n 0, 1) := by decide +kernel
theorem dX0_takeLeast_19 : decode cX0_takeLeast 19 = .ok (.dup, 1) := by decide +kernel
theorem dX0_takeLeast_20 : decode cX0_takeLeast 20 = .ok (.getfield 15, 3) := by decide +kernel
theorem dX0_takeLeast_23 : decode cX0_takeLeast 23 = .ok (.iconst 1, 1) := by decide +kernel
theorem dX0_takeLeast_24 : decode cX0_takeLeast 24 = .ok (.isub, 1) := by decide +kernel
theorem dX0_takeLeast_25 : decode cX0_takeLeast 25 = .ok (.putfield 15, 3) := by decide +kernel
theorem dX0_takeLeast_28 : decode cX0_takeLeast 28 = .ok (.aload_n 0, 1) := by decide +kernel
theorem dX0_takeLeast_29 : decode cX0_takeLeast 29 = .ok (.getfield 9, 3) := by decide +kernel
theorem dX0_takeLeast_32 : decode cX0_takeLeast 32 = .ok (.aload_n 0, 1) := by decide +kernel
theorem dX0_takeLeast_33 : decode cX0_takeLeast 33 = .ok (.getfield 15, 3) := by decide +kernel
theorem dX0_takeLeast_36 : decode cX0_takeLeast 36 = .ok (.laload, 1) := by decide +kernel
theorem dX0_takeLeast_37 : decode cX0_takeLeast 37 = .ok (.lstore_n 3, 1) := by decide +kernel
theorem dX0_takeLeast_38 : decode cX0_takeLeast 38 = .ok (.iconst 0, 1) := by decide +kernel
theorem dX0_takeLeast_39 : decode cX0_takeLeast 39 = .ok (.istore 5, 2) := by decide +kernel
theorem dX0_takeLeast_41 : decode cX0_takeLeast 41 = .ok (.iconst 1, 1) := by decide +kernel
theorem dX0_takeLeast_42 : decode cX0_takeLeast 42 = .ok (.istore 6, 2) := by decide +kernel
theorem dX0_takeLeast_44 : decode cX0_takeLeast 44 = .ok (.iload 6, 2) := by decide +kernel
theorem dX0_takeLeast_46 : decode cX0_takeLeast 46 = .ok (.aload_n 0, 1) := by decide +kernel
theorem dX0_takeLeast_47 : decode cX0_takeLeast 47 = .ok (.getfield 15, 3) := by decide +kernel
theorem dX0_takeLeast_50 : decode cX0_takeLeast 50 = .ok (.if_icmp .ge 89, 3) := by decide +kernel
theorem dX0_takeLeast_53 : decode cX0_takeLeast 53 = .ok (.iload 6, 2) := by decide +kernel
theorem dX0_takeLeast_55 : decode cX0_takeLeast 55 = .ok (.iconst 1, 1) := by decide +kernel
theorem dX0_takeLeast_56 : decode cX0_takeLeast 56 = .ok (.iadd, 1) := by decide +kernel
theorem dX0_takeLeast_57 : decode cX0_takeLeast 57 = .ok (.aload_n 0, 1) := by decide +kernel
theorem dX0_takeLeast_58 : decode cX0_takeLeast 58 = .ok (.getfield 15, 3) := by decide +kernel
theorem dX0_takeLeast_61 : decode cX0_takeLeast 61 = .ok (.if_icmp .ge 30, 3) := by decide +kernel
theorem dX0_takeLeast_64 : decode cX0_takeLeast 64 = .ok (.aload_n 0, 1) := by decide +kernel
theorem dX0_takeLeast_65 : decode cX0_takeLeast 65 = .ok (.getfield 9, 3) := by decide +kernel
theorem dX0_takeLeast_68 : decode cX0_takeLeast 68 = .ok (.iload 6, 2) := by decide +kernel
theorem dX0_takeLeast_70 : decode cX0_takeLeast 70 = .ok (.iconst 1, 1) := by decide +kernel
theorem dX0_takeLeast_71 : decode cX0_takeLeast 71 = .ok (.iadd, 1) := by decide +kernel
theorem dX0_takeLeast_72 : decode cX0_takeLeast 72 = .ok (.laload, 1) := by decide +kernel
theorem dX0_takeLeast_73 : decode cX0_takeLeast 73 = .ok (.aload_n 0, 1) := by decide +kernel
theorem dX0_takeLeast_74 : decode cX0_takeLeast 74 = .ok (.getfield 9, 3) := by decide +kernel
theorem dX0_takeLeast_77 : decode cX0_takeLeast 77 = .ok (.iload 6, 2) := by decide +kernel
theorem dX0_takeLeast_79 : decode cX0_takeLeast 79 = .ok (.laload, 1) := by decide +kernel
theorem dX0_takeLeast_80 : decode cX0_takeLeast 80 = .ok (.lcmp, 1) := by decide +kernel
theorem dX0_takeLeast_81 : decode cX0_takeLeast 81 = .ok (.ifCond .ge 10, 3) := by decide +kernel
theorem dX0_takeLeast_84 : decode cX0_takeLeast 84 = .ok (.iload 6, 2) := by decide +kernel
theorem dX0_takeLeast_86 : decode cX0_takeLeast 86 = .ok (.iconst 1, 1) := by decide +kernel
theorem dX0_takeLeast_87 : decode cX0_takeLeast 87 = .ok (.iadd, 1) := by decide +kernel
theorem dX0_takeLeast_88 : decode cX0_takeLeast 88 = .ok (.goto 5, 3) := by decide +kernel
theorem dX0_takeLeast_91 : decode cX0_takeLeast 91 = .ok (.iload 6, 2) := by decide +kernel
theorem dX0_takeLeast_93 : decode cX0_takeLeast 93 = .ok (.istore 7, 2) := by decide +kernel
theorem dX0_takeLeast_95 : decode cX0_takeLeast 95 = .ok (.aload_n 0, 1) := by decide +kernel
theorem dX0_takeLeast_96 : decode cX0_takeLeast 96 = .ok (.getfield 9, 3) := by decide +kernel
theorem dX0_takeLeast_99 : decode cX0_takeLeast 99 = .ok (.iload 7, 2) := by decide +kernel
theorem dX0_takeLeast_101 : decode cX0_takeLeast 101 = .ok (.laload, 1) := by decide +kernel
theorem dX0_takeLeast_102 : decode cX0_takeLeast 102 = .ok (.lload_n 3, 1) := by decide +kernel
theorem dX0_takeLeast_103 : decode cX0_takeLeast 103 = .ok (.lcmp, 1) := by decide +kernel
theorem dX0_takeLeast_104 : decode cX0_takeLeast 104 = .ok (.ifCond .lt 6, 3) := by decide +kernel
theorem dX0_takeLeast_107 : decode cX0_takeLeast 107 = .ok (.goto 32, 3) := by decide +kernel
theorem dX0_takeLeast_110 : decode cX0_takeLeast 110 = .ok (.aload_n 0, 1) := by decide +kernel
theorem dX0_takeLeast_111 : decode cX0_takeLeast 111 = .ok (.getfield 9, 3) := by decide +kernel
theorem dX0_takeLeast_114 : decode cX0_takeLeast 114 = .ok (.iload 5, 2) := by decide +kernel
theorem dX0_takeLeast_116 : decode cX0_takeLeast 116 = .ok (.aload_n 0, 1) := by decide +kernel
theorem dX0_takeLeast_117 : decode cX0_takeLeast 117 = .ok (.getfield 9, 3) := by decide +kernel
theorem dX0_takeLeast_120 : decode cX0_takeLeast 120 = .ok (.iload 7, 2) := by decide +kernel
theorem dX0_takeLeast_122 : decode cX0_takeLeast 122 = .ok (.laload, 1) := by decide +kernel
theorem dX0_takeLeast_123 : decode cX0_takeLeast 123 = .ok (.lastore, 1) := by decide +kernel
theorem dX0_takeLeast_124 : decode cX0_takeLeast 124 = .ok (.iload 7, 2) := by decide +kernel
theorem dX0_takeLeast_126 : decode cX0_takeLeast 126 = .ok (.istore 5, 2) := by decide +kernel
theorem dX0_takeLeast_128 : decode cX0_takeLeast 128 = .ok (.iconst 2, 1) := by decide +kernel
theorem dX0_takeLeast_129 : decode cX0_takeLeast 129 = .ok (.iload 5, 2) := by decide +kernel
theorem dX0_takeLeast_131 : decode cX0_takeLeast 131 = .ok (.imul, 1) := by decide +kernel
theorem dX0_takeLeast_132 : decode cX0_takeLeast 132 = .ok (.iconst 1, 1) := by decide +kernel
theorem dX0_takeLeast_133 : decode cX0_takeLeast 133 = .ok (.iadd, 1) := by decide +kernel
theorem dX0_takeLeast_134 : decode cX0_takeLeast 134 = .ok (.istore 6, 2) := by decide +kernel
theorem dX0_takeLeast_136 : decode cX0_takeLeast 136 = .ok (.goto (-92), 3) := by decide +kernel
theorem dX0_takeLeast_139 : decode cX0_takeLeast 139 = .ok (.aload_n 0, 1) := by decide +kernel
theorem dX0_takeLeast_140 : decode cX0_takeLeast 140 = .ok (.getfield 9, 3) := by decide +kernel
theorem dX0_takeLeast_143 : decode cX0_takeLeast 143 = .ok (.iload 5, 2) := by decide +kernel
theorem dX0_takeLeast_145 : decode cX0_takeLeast 145 = .ok (.lload_n 3, 1) := by decide +kernel
theorem dX0_takeLeast_146 : decode cX0_takeLeast 146 = .ok (.lastore, 1) := by decide +kernel
theorem dX0_takeLeast_147 : decode cX0_takeLeast 147 = .ok (.lload_n 1, 1) := by decide +kernel
theorem dX0_takeLeast_148 : decode cX0_takeLeast 148 = .ok (.lreturn, 1) := by decide +kernel
theorem dX1_init_0 : decode cX1_init 0 = .ok (.aload_n 0, 1) := by decide +kernel
theorem dX1_init_1 : decode cX1_init 1 = .ok (.invokespecial 3, 3) := by decide +kernel
theorem dX1_init_4 : decode cX1_init 4 = .ok (.aload_n 0, 1) := by decide +kernel
theorem dX1_init_5 : decode cX1_init 5 = .ok (.iconst 0, 1) := by decide +kernel
theorem dX1_init_6 : decode cX1_init 6 = .ok (.putfield 9, 3) := by decide +kernel
theorem dX1_init_9 : decode cX1_init 9 = .ok (.aload_n 0, 1) := by decide +kernel
theorem dX1_init_10 : decode cX1_init 10 = .ok (.iconst 0, 1) := by decide +kernel
theorem dX1_init_11 : decode cX1_init 11 = .ok (.putfield 15, 3) := by decide +kernel
theorem dX1_init_14 : decode cX1_init 14 = .ok (.aload_n 0, 1) := by decide +kernel
theorem dX1_init_15 : decode cX1_init 15 = .ok (.iconst 0, 1) := by decide +kernel
theorem dX1_init_16 : decode cX1_init 16 = .ok (.putfield 18, 3) := by decide +kernel
theorem dX1_init_19 : decode cX1_init 19 = .ok (.aload_n 0, 1) := by decide +kernel
theorem dX1_init_20 : decode cX1_init 20 = .ok (.iconst 0, 1) := by decide +kernel
theorem dX1_init_21 : decode cX1_init 21 = .ok (.putfield 21, 3) := by decide +kernel
theorem dX1_init_24 : decode cX1_init 24 = .ok (.return_, 1) := by decide +kernel
theorem dX2_init_0 : decode cX2_init 0 = .ok (.aload_n 0, 1) := by decide +kernel
theorem dX2_init_1 : decode cX2_init 1 = .ok (.invokespecial 3, 3) := by decide +kernel
theorem dX2_init_4 : decode cX2_init 4 = .ok (.aload_n 0, 1) := by decide +kernel
theorem dX2_init_5 : decode cX2_init 5 = .ok (.new 9, 3) := by decide +kernel
theorem dX2_init_8 : decode cX2_init 8 = .ok (.dup, 1) := by decide +kernel
theorem dX2_init_9 : decode cX2_init 9 = .ok (.invokespecial 11, 3) := by decide +kernel
theorem dX2_init_12 : decode cX2_init 12 = .ok (.putfield 12, 3) := by decide +kernel
theorem dX2_init_15 : decode cX2_init 15 = .ok (.aload_n 0, 1) := by decide +kernel
theorem dX2_init_16 : decode cX2_init 16 = .ok (.bipush 10, 2) := by decide +kernel
theorem dX2_init_18 : decode cX2_init 18 = .ok (.anewarray 18, 3) := by decide +kernel
theorem dX2_init_21 : decode cX2_init 21 = .ok (.putfield 20, 3) := by decide +kernel
theorem dX2_init_24 : decode cX2_init 24 = .ok (.aload_n 0, 1) := by decide +kernel
theorem dX2_init_25 : decode cX2_init 25 = .ok (.iconst 0, 1) := by decide +kernel
theorem dX2_init_26 : decode cX2_init 26 = .ok (.putfield 24, 3) := by decide +kernel
theorem dX2_init_29 : decode cX2_init 29 = .ok (.aload_n 0, 1) := by decide +kernel
theorem dX2_init_30 : decode cX2_init 30 = .ok (.iconst 0, 1) := by decide +kernel
theorem dX2_init_31 : decode cX2_init 31 = .ok (.putfield 28, 3) := by decide +kernel
theorem dX2_init_34 : decode cX2_init 34 = .ok (.iconst 0, 1) := by decide +kernel
theorem dX2_init_35 : decode cX2_init 35 = .ok (.istore_n 1, 1) := by decide +kernel
theorem dX2_init_36 : decode cX2_init 36 = .ok (.iload_n 1, 1) := by decide +kernel
theorem dX2_init_37 : decode cX2_init 37 = .ok (.aload_n 0, 1) := by decide +kernel
theorem dX2_init_38 : decode cX2_init 38 = .ok (.getfield 20, 3) := by decide +kernel
theorem dX2_init_41 : decode cX2_init 41 = .ok (.arraylength, 1) := by decide +kernel
theorem dX2_init_42 : decode cX2_init 42 = .ok (.if_icmp .ge 22, 3) := by decide +kernel
theorem dX2_init_45 : decode cX2_init 45 = .ok (.aload_n 0, 1) := by decide +kernel
theorem dX2_init_46 : decode cX2_init 46 = .ok (.getfield 20, 3) := by decide +kernel
theorem dX2_init_49 : decode cX2_init 49 = .ok (.iload_n 1, 1) := by decide +kernel
theorem dX2_init_50 : decode cX2_init 50 = .ok (.new 18, 3) := by decide +kernel
theorem dX2_init_53 : decode cX2_init 53 = .ok (.dup, 1) := by decide +kernel
theorem dX2_init_54 : decode cX2_init 54 = .ok (.invokespecial 31, 3) := by decide +kernel
theorem dX2_init_57 : decode cX2_init 57 = .ok (.aastore, 1) := by decide +kernel
theorem dX2_init_58 : decode cX2_init 58 = .ok (.iinc 1 1, 3) := by decide +kernel
theorem dX2_init_61 : decode cX2_init 61 = .ok (.goto (-25), 3) := by decide +kernel
theorem dX2_init_64 : decode cX2_init 64 = .ok (.return_, 1) := by decide +kernel
theorem dX2_isFull_0 : decode cX2_isFull 0 = .ok (.aload_n 0, 1) := by decide +kernel
theorem dX2_isFull_1 : decode cX2_isFull 1 = .ok (.getfield 12, 3) := by decide +kernel
theorem dX2_isFull_4 : decode cX2_isFull 4 = .ok (.invokevirtual 32, 3) := by decide +kernel
theorem dX2_isFull_7 : decode cX2_isFull 7 = .ok (.bipush 60, 2) := by decide +kernel
theorem dX2_isFull_9 : decode cX2_isFull 9 = .ok (.if_icmp .lt 7, 3) := by decide +kernel
theorem dX2_isFull_12 : decode cX2_isFull 12 = .ok (.iconst 1, 1) := by decide +kernel
theorem dX2_isFull_13 : decode cX2_isFull 13 = .ok (.goto 4, 3) := by decide +kernel
theorem dX2_isFull_16 : decode cX2_isFull 16 = .ok (.iconst 0, 1) := by decide +kernel
theorem dX2_isFull_17 : decode cX2_isFull 17 = .ok (.ireturn, 1) := by decide +kernel
theorem dX2_addCharacter_0 : decode cX2_addCharacter 0 = .ok (.aload_n 0, 1) := by decide +kernel
theorem dX2_addCharacter_1 : decode cX2_addCharacter 1 = .ok (.getfield 12, 3) := by decide +kernel
theorem dX2_addCharacter_4 : decode cX2_addCharacter 4 = .ok (.iload_n 1, 1) := by decide +kernel
theorem dX2_addCharacter_5 : decode cX2_addCharacter 5 = .ok (.invokevirtual 36, 3) := by decide +kernel
theorem dX2_addCharacter_8 : decode cX2_addCharacter 8 = .ok (.pop, 1) := by decide +kernel
theorem dX2_addCharacter_9 : decode cX2_addCharacter 9 = .ok (.aload_n 0, 1) := by decide +kernel
theorem dX2_addCharacter_10 : decode cX2_addCharacter 10 = .ok (.getfield 12, 3) := by decide +kernel
theorem dX2_addCharacter_13 : decode cX2_addCharacter 13 = .ok (.invokevirtual 32, 3) := by decide +kernel
theorem dX2_addCharacter_16 : decode cX2_addCharacter 16 = .ok (.ireturn, 1) := by decide +kernel
theorem dX2_clear_0 : decode cX2_clear 0 = .ok (.aload_n 0, 1) := by decide +kernel
theorem dX2_clear_1 : decode cX2_clear 1 = .ok (.getfield 12, 3) := by decide +kernel
theorem dX2_clear_4 : decode cX2_clear 4 = .ok (.iconst 0, 1) := by decide +kernel
theorem dX2_clear_5 : decode cX2_clear 5 = .ok (.invokevirtual 40, 3) := by decide +kernel
theorem dX2_clear_8 : decode cX2_clear 8 = .ok (.return_, 1) := by decide +kernel
theorem dX2_commandCount_0 : decode cX2_commandCount 0 = .ok (.aload_n 0, 1) := by decide +kernel
theorem dX2_commandCount_1 : decode cX2_commandCount 1 = .ok (.getfield 24, 3) := by decide +kernel
theorem dX2_commandCount_4 : decode cX2_commandCount 4 = .ok (.ireturn, 1) := by decide +kernel
theorem dX2_commandAt_0 : decode cX2_commandAt 0 = .ok (.aload_n 0, 1) := by decide +kernel
theorem dX2_commandAt_1 : decode cX2_commandAt 1 = .ok (.getfield 20, 3) := by decide +kernel
theorem dX2_commandAt_4 : decode cX2_commandAt 4 = .ok (.iload_n 1, 1) := by decide +kernel
theorem dX2_commandAt_5 : decode cX2_commandAt 5 = .ok (.aaload, 1) := by decide +kernel
theorem dX2_commandAt_6 : decode cX2_commandAt 6 = .ok (.areturn, 1) := by decide +kernel
theorem dX2_position_0 : decode cX2_position 0 = .ok (.aload_n 0, 1) := by decide +kernel
theorem dX2_position_1 : decode cX2_position 1 = .ok (.getfield 28, 3) := by decide +kernel
theorem dX2_position_4 : decode cX2_position 4 = .ok (.ireturn, 1) := by decide +kernel
theorem dX2_readText_0 : decode cX2_readText 0 = .ok (.aload_n 0, 1) := by decide +kernel
theorem dX2_readText_1 : decode cX2_readText 1 = .ok (.iconst 0, 1) := by decide +kernel
theorem dX2_readText_2 : decode cX2_readText 2 = .ok (.putfield 28, 3) := by decide +kernel
theorem dX2_readText_5 : decode cX2_readText 5 = .ok (.aload_n 0, 1) := by decide +kernel
theorem dX2_readText_6 : decode cX2_readText 6 = .ok (.iconst 0, 1) := by decide +kernel
theorem dX2_readText_7 : decode cX2_readText 7 = .ok (.putfield 24, 3) := by decide +kernel
theorem dX2_readText_10 : decode cX2_readText 10 = .ok (.aload_n 0, 1) := by decide +kernel
theorem dX2_readText_11 : decode cX2_readText 11 = .ok (.getfield 24, 3) := by decide +kernel
theorem dX2_readText_14 : decode cX2_readText 14 = .ok (.aload_n 0, 1) := by decide +kernel
theorem dX2_readText_15 : decode cX2_readText 15 = .ok (.getfield 20, 3) := by decide +kernel
theorem dX2_readText_18 : decode cX2_readText 18 = .ok (.arraylength, 1) := by decide +kernel
theorem dX2_readText_19 : decode cX2_readText 19 = .ok (.if_icmp .ge 60, 3) := by decide +kernel
theorem dX2_readText_22 : decode cX2_readText 22 = .ok (.aload_n 0, 1) := by decide +kernel
theorem dX2_readText_23 : decode cX2_readText 23 = .ok (.aload_n 0, 1) := by decide +kernel
theorem dX2_readText_24 : decode cX2_readText 24 = .ok (.getfield 20, 3) := by decide +kernel
theorem dX2_readText_27 : decode cX2_readText 27 = .ok (.aload_n 0, 1) := by decide +kernel
theorem dX2_readText_28 : decode cX2_readText 28 = .ok (.getfield 24, 3) := by decide +kernel
theorem dX2_readText_31 : decode cX2_readText 31 = .ok (.aaload, 1) := by decide +kernel
theorem dX2_readText_32 : decode cX2_readText 32 = .ok (.invokevirtual 44, 3) := by decide +kernel
theorem dX2_readText_35 : decode cX2_readText 35 = .ok (.ifCond .ne 5, 3) := by decide +kernel
theorem dX2_readText_38 : decode cX2_readText 38 = .ok (.iconst 0, 1) := by decide +kernel
theorem dX2_readText_39 : decode cX2_readText 39 = .ok (.ireturn, 1) := by decide +kernel
theorem dX2_readText_40 : decode cX2_readText 40 = .ok (.aload_n 0, 1) := by decide +kernel
theorem dX2_readText_41 : decode cX2_readText 41 = .ok (.dup, 1) := by decide +kernel
theorem dX2_readText_42 : decode cX2_readText 42 = .ok (.getfield 24, 3) := by decide +kernel
theorem dX2_readText_45 : decode cX2_readText 45 = .ok (.iconst 1, 1) := by decide +kernel
theorem dX2_readText_46 : decode cX2_readText 46 = .ok (.iadd, 1) := by decide +kernel
theorem dX2_readText_47 : decode cX2_readText 47 = .ok (.putfield 24, 3) := by decide +kernel
theorem dX2_readText_50 : decode cX2_readText 50 = .ok (.aload_n 0, 1) := by decide +kernel
theorem dX2_readText_51 : decode cX2_readText 51 = .ok (.bipush 59, 2) := by decide +kernel
theorem dX2_readText_53 : decode cX2_readText 53 = .ok (.invokevirtual 48, 3) := by decide +kernel
theorem dX2_readText_56 : decode cX2_readText 56 = .ok (.ifCond .ne (-46), 3) := by decide +kernel
theorem dX2_readText_59 : decode cX2_readText 59 = .ok (.aload_n 0, 1) := by decide +kernel
theorem dX2_readText_60 : decode cX2_readText 60 = .ok (.getfield 28, 3) := by decide +kernel
theorem dX2_readText_63 : decode cX2_readText 63 = .ok (.aload_n 0, 1) := by decide +kernel
theorem dX2_readText_64 : decode cX2_readText 64 = .ok (.getfield 12, 3) := by decide +kernel
theorem dX2_readText_67 : decode cX2_readText 67 = .ok (.invokevirtual 32, 3) := by decide +kernel
theorem dX2_readText_70 : decode cX2_readText 70 = .ok (.if_icmp .ne 7, 3) := by decide +kernel
theorem dX2_readText_73 : decode cX2_readText 73 = .ok (.iconst 1, 1) := by decide +kernel
theorem dX2_readText_74 : decode cX2_readText 74 = .ok (.goto 4, 3) := by decide +kernel
theorem dX2_readText_77 : decode cX2_readText 77 = .ok (.iconst 0, 1) := by decide +kernel
theorem dX2_readText_78 : decode cX2_readText 78 = .ok (.ireturn, 1) := by decide +kernel
theorem dX2_readText_79 : decode cX2_readText 79 = .ok (.iconst 0, 1) := by decide +kernel
theorem dX2_readText_80 : decode cX2_readText 80 = .ok (.ireturn, 1) := by decide +kernel
theorem dX2_readCommand_0 : decode cX2_readCommand 0 = .ok (.aload_n 0, 1) := by decide +kernel
theorem dX2_readCommand_1 : decode cX2_readCommand 1 = .ok (.bipush 104, 2) := by decide +kernel
theorem dX2_readCommand_3 : decode cX2_readCommand 3 = .ok (.invokevirtual 52, 3) := by decide +kernel
theorem dX2_readCommand_6 : decode cX2_readCommand 6 = .ok (.ifCond .eq 48, 3) := by decide +kernel
theorem dX2_readCommand_9 : decode cX2_readCommand 9 = .ok (.aload_n 1, 1) := by decide +kernel
theorem dX2_readCommand_10 : decode cX2_readCommand 10 = .ok (.iconst 0, 1) := by decide +kernel
theorem dX2_readCommand_11 : decode cX2_readCommand 11 = .ok (.putfield 55, 3) := by decide +kernel
theorem dX2_readCommand_14 : decode cX2_readCommand 14 = .ok (.aload_n 0, 1) := by decide +kernel
theorem dX2_readCommand_15 : decode cX2_readCommand 15 = .ok (.ldc 58, 2) := by decide +kernel
theorem dX2_readCommand_17 : decode cX2_readCommand 17 = .ok (.invokevirtual 60, 3) := by decide +kernel
theorem dX2_readCommand_20 : decode cX2_readCommand 20 = .ok (.ifCond .eq 32, 3) := by decide +kernel
theorem dX2_readCommand_23 : decode cX2_readCommand 23 = .ok (.aload_n 0, 1) := by decide +kernel
theorem dX2_readCommand_24 : decode cX2_readCommand 24 = .ok (.aload_n 1, 1) := by decide +kernel
theorem dX2_readCommand_25 : decode cX2_readCommand 25 = .ok (.invokevirtual 64, 3) := by decide +kernel
theorem dX2_readCommand_28 : decode cX2_readCommand 28 = .ok (.ifCond .eq 24, 3) := by decide +kernel
theorem dX2_readCommand_31 : decode cX2_readCommand 31 = .ok (.aload_n 0, 1) := by decide +kernel
theorem dX2_readCommand_32 : decode cX2_readCommand 32 = .ok (.bipush 43, 2) := by decide +kernel
theorem dX2_readCommand_34 : decode cX2_readCommand 34 = .ok (.invokevirtual 48, 3) := by decide +kernel
theorem dX2_readCommand_37 : decode cX2_readCommand 37 = .ok (.ifCond .eq 15, 3) := by decide +kernel
theorem dX2_readCommand_40 : decode cX2_readCommand 40 = .ok (.aload_n 0, 1) := by decide +kernel
theorem dX2_readCommand_41 : decode cX2_readCommand 41 = .ok (.aload_n 1, 1) := by decide +kernel
theorem dX2_readCommand_42 : decode cX2_readCommand 42 = .ok (.invokevirtual 67, 3) := by decide +kernel
theorem dX2_readCommand_45 : decode cX2_readCommand 45 = .ok (.ifCond .eq 7, 3) := by decide +kernel
theorem dX2_readCommand_48 : decode cX2_readCommand 48 = .ok (.iconst 1, 1) := by decide +kernel
theorem dX2_readCommand_49 : decode cX2_readCommand 49 = .ok (.goto 4, 3) := by decide +kernel
theorem dX2_readCommand_52 : decode cX2_readCommand 52 = .ok (.iconst 0, 1) := by decide +kernel
theorem dX2_readCommand_53 : decode cX2_readCommand 53 = .ok (.ireturn, 1) := by decide +kernel
theorem dX2_readCommand_54 : decode cX2_readCommand 54 = .ok (.aload_n 0, 1) := by decide +kernel
theorem dX2_readCommand_55 : decode cX2_readCommand 55 = .ok (.bipush 103, 2) := by decide +kernel
theorem dX2_readCommand_57 : decode cX2_readCommand 57 = .ok (.invokevirtual 52, 3) := by decide +kernel
theorem dX2_readCommand_60 : decode cX2_readCommand 60 = .ok (.ifCond .eq 39, 3) := by decide +kernel
theorem dX2_readCommand_63 : decode cX2_readCommand 63 = .ok (.aload_n 1, 1) := by decide +kernel
theorem dX2_readCommand_64 : decode cX2_readCommand 64 = .ok (.iconst 1, 1) := by decide +kernel
theorem dX2_readCommand_65 : decode cX2_readCommand 65 = .ok (.putfield 55, 3) := by decide +kernel
theorem dX2_readCommand_68 : decode cX2_readCommand 68 = .ok (.aload_n 0, 1) := by decide +kernel
theorem dX2_readCommand_69 : decode cX2_readCommand 69 = .ok (.ldc 70, 2) := by decide +kernel
theorem dX2_readCommand_71 : decode cX2_readCommand 71 = .ok (.invokevirtual 60, 3) := by decide +kernel
theorem dX2_readCommand_74 : decode cX2_readCommand 74 = .ok (.ifCond .eq 23, 3) := by decide +kernel
theorem dX2_readCommand_77 : decode cX2_readCommand 77 = .ok (.aload_n 0, 1) := by decide +kernel
theorem dX2_readCommand_78 : decode cX2_readCommand 78 = .ok (.aload_n 1, 1) := by decide +kernel
theorem dX2_readCommand_79 : decode cX2_readCommand 79 = .ok (.invokevirtual 64, 3) := by decide +kernel
theorem dX2_readCommand_82 : decode cX2_readCommand 82 = .ok (.ifCond .eq 15, 3) := by decide +kernel
theorem dX2_readCommand_85 : decode cX2_readCommand 85 = .ok (.aload_n 0, 1) := by decide +kernel
theorem dX2_readCommand_86 : decode cX2_readCommand 86 = .ok (.aload_n 1, 1) := by decide +kernel
theorem dX2_readCommand_87 : decode cX2_readCommand 87 = .ok (.invokevirtual 72, 3) := by decide +kernel
theorem dX2_readCommand_90 : decode cX2_readCommand 90 = .ok (.ifCond .eq 7, 3) := by decide +kernel
theorem dX2_readCommand_93 : decode cX2_readCommand 93 = .ok (.iconst 1, 1) := by decide +kernel
theorem dX2_readCommand_94 : decode cX2_readCommand 94 = .ok (.goto 4, 3) := by decide +kernel
theorem dX2_readCommand_97 : decode cX2_readCommand 97 = .ok (.iconst 0, 1) := by decide +kernel
theorem dX2_readCommand_98 : decode cX2_readCommand 98 = .ok (.ireturn, 1) := by decide +kernel
theorem dX2_readCommand_99 : decode cX2_readCommand 99 = .ok (.aload_n 0, 1) := by decide +kernel
theorem dX2_readCommand_100 : decode cX2_readCommand 100 = .ok (.bipush 98, 2) := by decide +kernel
theorem dX2_readCommand_102 : decode cX2_readCommand 102 = .ok (.invokevirtual 52, 3) := by decide +kernel
theorem dX2_readCommand_105 : decode cX2_readCommand 105 = .ok (.ifCond .eq 48, 3) := by decide +kernel
theorem dX2_readCommand_108 : decode cX2_readCommand 108 = .ok (.aload_n 1, 1) := by decide +kernel
theorem dX2_readCommand_109 : decode cX2_readCommand 109 = .ok (.iconst 2, 1) := by decide +kernel
theorem dX2_readCommand_110 : decode cX2_readCommand 110 = .ok (.putfield 55, 3) := by decide +kernel
theorem dX2_readCommand_113 : decode cX2_readCommand 113 = .ok (.aload_n 0, 1) := by decide +kernel
theorem dX2_readCommand_114 : decode cX2_readCommand 114 = .ok (.ldc 75, 2) := by decide +kernel
theorem dX2_readCommand_116 : decode cX2_readCommand 116 = .ok (.invokevirtual 60, 3) := by decide +kernel
theorem dX2_readCommand_119 : decode cX2_readCommand 119 = .ok (.ifCond .eq 32, 3) := by decide +kernel
theorem dX2_readCommand_122 : decode cX2_readCommand 122 = .ok (.aload_n 0, 1) := by decide +kernel
theorem dX2_readCommand_123 : decode cX2_readCommand 123 = .ok (.aload_n 1, 1) := by decide +kernel
theorem dX2_readCommand_124 : decode cX2_readCommand 124 = .ok (.invokevirtual 77, 3) := by decide +kernel
theorem dX2_readCommand_127 : decode cX2_readCommand 127 = .ok (.ifCond .eq 24, 3) := by decide +kernel
theorem dX2_readCommand_130 : decode cX2_readCommand 130 = .ok (.aload_n 0, 1) := by decide +kernel
theorem dX2_readCommand_131 : decode cX2_readCommand 131 = .ok (.bipush 61, 2) := by decide +kernel
theorem dX2_readCommand_133 : decode cX2_readCommand 133 = .ok (.invokevirtual 48, 3) := by decide +kernel
theorem dX2_readCommand_136 : decode cX2_readCommand 136 = .ok (.ifCond .eq 15, 3) := by decide +kernel
theorem dX2_readCommand_139 : decode cX2_readCommand 139 = .ok (.aload_n 0, 1) := by decide +kernel
theorem dX2_readCommand_140 : decode cX2_readCommand 140 = .ok (.aload_n 1, 1) := by decide +kernel
theorem dX2_readCommand_141 : decode cX2_readCommand 141 = .ok (.invokevirtual 80, 3) := by decide +kernel
theorem dX2_readCommand_144 : decode cX2_readCommand 144 = .ok (.ifCond .eq 7, 3) := by decide +kernel
theorem dX2_readCommand_147 : decode cX2_readCommand 147 = .ok (.iconst 1, 1) := by decide +kernel
theorem dX2_readCommand_148 : decode cX2_readCommand 148 = .ok (.goto 4, 3) := by decide +kernel
theorem dX2_readCommand_151 : decode cX2_readCommand 151 = .ok (.iconst 0, 1) := by decide +kernel
theorem dX2_readCommand_152 : decode cX2_readCommand 152 = .ok (.ireturn, 1) := by decide +kernel
theorem dX2_readCommand_153 : decode cX2_readCommand 153 = .ok (.aload_n 1, 1) := by decide +kernel
theorem dX2_readCommand_154 : decode cX2_readCommand 154 = .ok (.iconst 3, 1) := by decide +kernel
theorem dX2_readCommand_155 : decode cX2_readCommand 155 = .ok (.putfield 55, 3) := by decide +kernel
theorem dX2_readCommand_158 : decode cX2_readCommand 158 = .ok (.aload_n 0, 1) := by decide +kernel
theorem dX2_readCommand_159 : decode cX2_readCommand 159 = .ok (.ldc 83, 2) := by decide +kernel
theorem dX2_readCommand_161 : decode cX2_readCommand 161 = .ok (.invokevirtual 60, 3) := by decide +kernel
theorem dX2_readCommand_164 : decode cX2_readCommand 164 = .ok (.ifCond .eq 15, 3) := by decide +kernel
theorem dX2_readCommand_167 : decode cX2_readCommand 167 = .ok (.aload_n 0, 1) := by decide +kernel
theorem dX2_readCommand_168 : decode cX2_readCommand 168 = .ok (.aload_n 1, 1) := by decide +kernel
theorem dX2_readCommand_169 : decode cX2_readCommand 169 = .ok (.invokevirtual 85, 3) := by decide +kernel
theorem dX2_readCommand_172 : decode cX2_readCommand 172 = .ok (.ifCond .eq 7, 3) := by decide +kernel
theorem dX2_readCommand_175 : decode cX2_readCommand 175 = .ok (.iconst 1, 1) := by decide +kernel
theorem dX2_readCommand_176 : decode cX2_readCommand 176 = .ok (.goto 4, 3) := by decide +kernel
theorem dX2_readCommand_179 : decode cX2_readCommand 179 = .ok (.iconst 0, 1) := by decide +kernel
theorem dX2_readCommand_180 : decode cX2_readCommand 180 = .ok (.ireturn, 1) := by decide +kernel
theorem dX2_readCell_0 : decode cX2_readCell 0 = .ok (.aload_n 1, 1) := by decide +kernel
theorem dX2_readCell_1 : decode cX2_readCell 1 = .ok (.aload_n 0, 1) := by decide +kernel
theorem dX2_readCell_2 : decode cX2_readCell 2 = .ok (.invokevirtual 88, 3) := by decide +kernel
theorem dX2_readCell_5 : decode cX2_readCell 5 = .ok (.putfield 91, 3) := by decide +kernel
theorem dX2_readCell_8 : decode cX2_readCell 8 = .ok (.aload_n 1, 1) := by decide +kernel
theorem dX2_readCell_9 : decode cX2_readCell 9 = .ok (.getfield 91, 3) := by decide +kernel
theorem dX2_readCell_12 : decode cX2_readCell 12 = .ok (.iconst (-1), 1) := by decide +kernel
theorem dX2_readCell_13 : decode cX2_readCell 13 = .ok (.if_icmp .ne 5, 3) := by decide +kernel
theorem dX2_readCell_16 : decode cX2_readCell 16 = .ok (.iconst 0, 1) := by decide +kernel
theorem dX2_readCell_17 : decode cX2_readCell 17 = .ok (.ireturn, 1) := by decide +kernel
theorem dX2_readCell_18 : decode cX2_readCell 18 = .ok (.aload_n 1, 1) := by decide +kernel
theorem dX2_readCell_19 : decode cX2_readCell 19 = .ok (.aload_n 0, 1) := by decide +kernel
theorem dX2_readCell_20 : decode cX2_readCell 20 = .ok (.invokevirtual 88, 3) := by decide +kernel
theorem dX2_readCell_23 : decode cX2_readCell 23 = .ok (.putfield 94, 3) := by decide +kernel
theorem dX2_readCell_26 : decode cX2_readCell 26 = .ok (.aload_n 1, 1) := by decide +kernel
theorem dX2_readCell_27 : decode cX2_readCell 27 = .ok (.getfield 94, 3) := by decide +kernel
theorem dX2_readCell_30 : decode cX2_readCell 30 = .ok (.iconst (-1), 1) := by decide +kernel
theorem dX2_readCell_31 : decode cX2_readCell 31 = .ok (.if_icmp .eq 7, 3) := by decide +kernel
theorem dX2_readCell_34 : decode cX2_readCell 34 = .ok (.iconst 1, 1) := by decide +kernel
theorem dX2_readCell_35 : decode cX2_readCell 35 = .ok (.goto 4, 3) := by decide +kernel
theorem dX2_readCell_38 : decode cX2_readCell 38 = .ok (.iconst 0, 1) := by decide +kernel
theorem dX2_readCell_39 : decode cX2_readCell 39 = .ok (.ireturn, 1) := by decide +kernel
theorem dX2_readSide_0 : decode cX2_readSide 0 = .ok (.aload_n 1, 1) := by decide +kernel
theorem dX2_readSide_1 : decode cX2_readSide 1 = .ok (.aload_n 0, 1) := by decide +kernel
theorem dX2_readSide_2 : decode cX2_readSide 2 = .ok (.invokevirtual 88, 3) := by decide +kernel
theorem dX2_readSide_5 : decode cX2_readSide 5 = .ok (.putfield 91, 3) := by decide +kernel
theorem dX2_readSide_8 : decode cX2_readSide 8 = .ok (.aload_n 1, 1) := by decide +kernel
theorem dX2_readSide_9 : decode cX2_readSide 9 = .ok (.getfield 91, 3) := by decide +kernel
theorem dX2_readSide_12 : decode cX2_readSide 12 = .ok (.iconst (-1), 1) := by decide +kernel
theorem dX2_readSide_13 : decode cX2_readSide 13 = .ok (.if_icmp .eq 7, 3) := by decide +kernel
theorem dX2_readSide_16 : decode cX2_readSide 16 = .ok (.iconst 1, 1) := by decide +kernel
theorem dX2_readSide_17 : decode cX2_readSide 17 = .ok (.goto 4, 3) := by decide +kernel
theorem dX2_readSide_20 : decode cX2_readSide 20 = .ok (.iconst 0, 1) := by decide +kernel
theorem dX2_readSide_21 : decode cX2_readSide 21 = .ok (.ireturn, 1) := by decide +kernel
theorem dX2_readGround_0 : decode cX2_readGround 0 = .ok (.aload_n 0, 1) := by decide +kernel
theorem dX2_readGround_1 : decode cX2_readGround 1 = .ok (.getfield 28, 3) := by decide +kernel
theorem dX2_readGround_4 : decode cX2_readGround 4 = .ok (.aload_n 0, 1) := by decide +kernel
theorem dX2_readGround_5 : decode cX2_readGround 5 = .ok (.getfield 12, 3) := by decide +kernel
theorem dX2_readGround_8 : decode cX2_readGround 8 = .ok (.invokevirtual 32, 3) := by decide +kernel
theorem dX2_readGround_11 : decode cX2_readGround 11 = .ok (.if_icmp .ge 20, 3) := by decide +kernel
theorem dX2_readGround_14 : decode cX2_readGround 14 = .ok (.aload_n 0, 1) := by decide +kernel
theorem dX2_readGround_15 : decode cX2_readGround 15 = .ok (.getfield 12, 3) := by decide +kernel
theorem dX2_readGround_18 : decode cX2_readGround 18 = .ok (.aload_n 0, 1) := by decide +kernel
theorem dX2_readGround_19 : decode cX2_readGround 19 = .ok (.getfield 28, 3) := by decide +kernel
theorem dX2_readGround_22 : decode cX2_readGround 22 = .ok (.invokevirtual 97, 3) := by decide +kernel
theorem dX2_readGround_25 : decode cX2_readGround 25 = .ok (.invokestatic 101, 3) := by decide +kernel
theorem dX2_readGround_28 : decode cX2_readGround 28 = .ok (.ifCond .ne 5, 3) := by decide +kernel
theorem dX2_readGround_31 : decode cX2_readGround 31 = .ok (.iconst 0, 1) := by decide +kernel
theorem dX2_readGround_32 : decode cX2_readGround 32 = .ok (.ireturn, 1) := by decide +kernel
theorem dX2_readGround_33 : decode cX2_readGround 33 = .ok (.aload_n 1, 1) := by decide +kernel
theorem dX2_readGround_34 : decode cX2_readGround 34 = .ok (.aload_n 0, 1) := by decide +kernel
theorem dX2_readGround_35 : decode cX2_readGround 35 = .ok (.getfield 12, 3) := by decide +kernel
theorem dX2_readGround_38 : decode cX2_readGround 38 = .ok (.aload_n 0, 1) := by decide +kernel
theorem dX2_readGround_39 : decode cX2_readGround 39 = .ok (.getfield 28, 3) := by decide +kernel
theorem dX2_readGround_42 : decode cX2_readGround 42 = .ok (.invokevirtual 97, 3) := by decide +kernel
theorem dX2_readGround_45 : decode cX2_readGround 45 = .ok (.putfield 105, 3) := by decide +kernel
theorem dX2_readGround_48 : decode cX2_readGround 48 = .ok (.aload_n 0, 1) := by decide +kernel
theorem dX2_readGround_49 : decode cX2_readGround 49 = .ok (.dup, 1) := by decide +kernel
theorem dX2_readGround_50 : decode cX2_readGround 50 = .ok (.getfield 28, 3) := by decide +kernel
theorem dX2_readGround_53 : decode cX2_readGround 53 = .ok (.iconst 1, 1) := by decide +kernel
theorem dX2_readGround_54 : decode cX2_readGround 54 = .ok (.iadd, 1) := by decide +kernel
theorem dX2_readGround_55 : decode cX2_readGround 55 = .ok (.putfield 28, 3) := by decide +kernel
theorem dX2_readGround_58 : decode cX2_readGround 58 = .ok (.iconst 1, 1) := by decide +kernel
theorem dX2_readGround_59 : decode cX2_readGround 59 = .ok (.ireturn, 1) := by decide +kernel
theorem dX2_readFirst_0 : decode cX2_readFirst 0 = .ok (.aload_n 1, 1) := by decide +kernel
theorem dX2_readFirst_1 : decode cX2_readFirst 1 = .ok (.aload_n 0, 1) := by decide +kernel
theorem dX2_readFirst_2 : decode cX2_readFirst 2 = .ok (.invokevirtual 108, 3) := by decide +kernel
theorem dX2_readFirst_5 : decode cX2_readFirst 5 = .ok (.putfield 91, 3) := by decide +kernel
theorem dX2_readFirst_8 : decode cX2_readFirst 8 = .ok (.aload_n 1, 1) := by decide +kernel
theorem dX2_readFirst_9 : decode cX2_readFirst 9 = .ok (.getfield 91, 3) := by decide +kernel
theorem dX2_readFirst_12 : decode cX2_readFirst 12 = .ok (.iconst (-1), 1) := by decide +kernel
theorem dX2_readFirst_13 : decode cX2_readFirst 13 = .ok (.if_icmp .eq 7, 3) := by decide +kernel
theorem dX2_readFirst_16 : decode cX2_readFirst 16 = .ok (.iconst 1, 1) := by decide +kernel
theorem dX2_readFirst_17 : decode cX2_readFirst 17 = .ok (.goto 4, 3) := by decide +kernel
theorem dX2_readFirst_20 : decode cX2_readFirst 20 = .ok (.iconst 0, 1) := by decide +kernel
theorem dX2_readFirst_21 : decode cX2_readFirst 21 = .ok (.ireturn, 1) := by decide +kernel
theorem dX2_readSecond_0 : decode cX2_readSecond 0 = .ok (.aload_n 1, 1) := by decide +kernel
theorem dX2_readSecond_1 : decode cX2_readSecond 1 = .ok (.aload_n 0, 1) := by decide +kernel
theorem dX2_readSecond_2 : decode cX2_readSecond 2 = .ok (.invokevirtual 108, 3) := by decide +kernel
theorem dX2_readSecond_5 : decode cX2_readSecond 5 = .ok (.putfield 94, 3) := by decide +kernel
theorem dX2_readSecond_8 : decode cX2_readSecond 8 = .ok (.aload_n 1, 1) := by decide +kernel
theorem dX2_readSecond_9 : decode cX2_readSecond 9 = .ok (.getfield 94, 3) := by decide +kernel
theorem dX2_readSecond_12 : decode cX2_readSecond 12 = .ok (.iconst (-1), 1) := by decide +kernel
theorem dX2_readSecond_13 : decode cX2_readSecond 13 = .ok (.if_icmp .eq 7, 3) := by decide +kernel
theorem dX2_readSecond_16 : decode cX2_readSecond 16 = .ok (.iconst 1, 1) := by decide +kernel
theorem dX2_readSecond_17 : decode cX2_readSecond 17 = .ok (.goto 4, 3) := by decide +kernel
theorem dX2_readSecond_20 : decode cX2_readSecond 20 = .ok (.iconst 0, 1) := by decide +kernel
theorem dX2_readSecond_21 : decode cX2_readSecond 21 = .ok (.ireturn, 1) := by decide +kernel
theorem dX2_readThird_0 : decode cX2_readThird 0 = .ok (.aload_n 1, 1) := by decide +kernel
theorem dX2_readThird_1 : decode cX2_readThird 1 = .ok (.aload_n 0, 1) := by decide +kernel
theorem dX2_readThird_2 : decode cX2_readThird 2 = .ok (.invokevirtual 108, 3) := by decide +kernel
theorem dX2_readThird_5 : decode cX2_readThird 5 = .ok (.putfield 105, 3) := by decide +kernel
theorem dX2_readThird_8 : decode cX2_readThird 8 = .ok (.aload_n 1, 1) := by decide +kernel
theorem dX2_readThird_9 : decode cX2_readThird 9 = .ok (.getfield 105, 3) := by decide +kernel
theorem dX2_readThird_12 : decode cX2_readThird 12 = .ok (.iconst (-1), 1) := by decide +kernel
theorem dX2_readThird_13 : decode cX2_readThird 13 = .ok (.if_icmp .eq 7, 3) := by decide +kernel
theorem dX2_readThird_16 : decode cX2_readThird 16 = .ok (.iconst 1, 1) := by decide +kernel
theorem dX2_readThird_17 : decode cX2_readThird 17 = .ok (.goto 4, 3) := by decide +kernel
theorem dX2_readThird_20 : decode cX2_readThird 20 = .ok (.iconst 0, 1) := by decide +kernel
theorem dX2_readThird_21 : decode cX2_readThird 21 = .ok (.ireturn, 1) := by decide +kernel
theorem dX2_readNumber_0 : decode cX2_readNumber 0 = .ok (.aload_n 0, 1) := by decide +kernel
theorem dX2_readNumber_1 : decode cX2_readNumber 1 = .ok (.invokevirtual 88, 3) := by decide +kernel
theorem dX2_readNumber_4 : decode cX2_readNumber 4 = .ok (.istore_n 1, 1) := by decide +kernel
theorem dX2_readNumber_5 : decode cX2_readNumber 5 = .ok (.iconst 0, 1) := by decide +kernel
theorem dX2_readNumber_6 : decode cX2_readNumber 6 = .ok (.istore_n 2, 1) := by decide +kernel
theorem dX2_readNumber_7 : decode cX2_readNumber 7 = .ok (.iload_n 2, 1) := by decide +kernel
theorem dX2_readNumber_8 : decode cX2_readNumber 8 = .ok (.iconst 3, 1) := by decide +kernel
theorem dX2_readNumber_9 : decode cX2_readNumber 9 = .ok (.if_icmp .ge 33, 3) := by decide +kernel
theorem dX2_readNumber_12 : decode cX2_readNumber 12 = .ok (.iload_n 1, 1) := by decide +kernel
theorem dX2_readNumber_13 : decode cX2_readNumber 13 = .ok (.iconst (-1), 1) := by decide +kernel
theorem dX2_readNumber_14 : decode cX2_readNumber 14 = .ok (.if_icmp .eq 28, 3) := by decide +kernel
theorem dX2_readNumber_17 : decode cX2_readNumber 17 = .ok (.aload_n 0, 1) := by decide +kernel
theorem dX2_readNumber_18 : decode cX2_readNumber 18 = .ok (.invokevirtual 88, 3) := by decide +kernel
theorem dX2_readNumber_21 : decode cX2_readNumber 21 = .ok (.istore_n 3, 1) := by decide +kernel
theorem dX2_readNumber_22 : decode cX2_readNumber 22 = .ok (.iload_n 3, 1) := by decide +kernel
theorem dX2_readNumber_23 : decode cX2_readNumber 23 = .ok (.iconst (-1), 1) := by decide +kernel
theorem dX2_readNumber_24 : decode cX2_readNumber 24 = .ok (.if_icmp .ne 5, 3) := by decide +kernel
theorem dX2_readNumber_27 : decode cX2_readNumber 27 = .ok (.iload_n 1, 1) := by decide +kernel
theorem dX2_readNumber_28 : decode cX2_readNumber 28 = .ok (.ireturn, 1) := by decide +kernel
theorem dX2_readNumber_29 : decode cX2_readNumber 29 = .ok (.bipush 10, 2) := by decide +kernel
theorem dX2_readNumber_31 : decode cX2_readNumber 31 = .ok (.iload_n 1, 1) := by decide +kernel
theorem dX2_readNumber_32 : decode cX2_readNumber 32 = .ok (.imul, 1) := by decide +kernel
theorem dX2_readNumber_33 : decode cX2_readNumber 33 = .ok (.iload_n 3, 1) := by decide +kernel
theorem dX2_readNumber_34 : decode cX2_readNumber 34 = .ok (.iadd, 1) := by decide +kernel
theorem dX2_readNumber_35 : decode cX2_readNumber 35 = .ok (.istore_n 1, 1) := by decide +kernel
theorem dX2_readNumber_36 : decode cX2_readNumber 36 = .ok (.iinc 2 1, 3) := by decide +kernel
theorem dX2_readNumber_39 : decode cX2_readNumber 39 = .ok (.goto (-32), 3) := by decide +kernel
theorem dX2_readNumber_42 : decode cX2_readNumber 42 = .ok (.iload_n 1, 1) := by decide +kernel
theorem dX2_readNumber_43 : decode cX2_readNumber 43 = .ok (.ireturn, 1) := by decide +kernel
theorem dX2_readDigit_0 : decode cX2_readDigit 0 = .ok (.aload_n 0, 1) := by decide +kernel
theorem dX2_readDigit_1 : decode cX2_readDigit 1 = .ok (.getfield 28, 3) := by decide +kernel
theorem dX2_readDigit_4 : decode cX2_readDigit 4 = .ok (.aload_n 0, 1) := by decide +kernel
theorem dX2_readDigit_5 : decode cX2_readDigit 5 = .ok (.getfield 12, 3) := by decide +kernel
theorem dX2_readDigit_8 : decode cX2_readDigit 8 = .ok (.invokevirtual 32, 3) := by decide +kernel
theorem dX2_readDigit_11 : decode cX2_readDigit 11 = .ok (.if_icmp .lt 5, 3) := by decide +kernel
theorem dX2_readDigit_14 : decode cX2_readDigit 14 = .ok (.iconst (-1), 1) := by decide +kernel
theorem dX2_readDigit_15 : decode cX2_readDigit 15 = .ok (.ireturn, 1) := by decide +kernel
theorem dX2_readDigit_16 : decode cX2_readDigit 16 = .ok (.aload_n 0, 1) := by decide +kernel
theorem dX2_readDigit_17 : decode cX2_readDigit 17 = .ok (.getfield 12, 3) := by decide +kernel
theorem dX2_readDigit_20 : decode cX2_readDigit 20 = .ok (.aload_n 0, 1) := by decide +kernel
theorem dX2_readDigit_21 : decode cX2_readDigit 21 = .ok (.getfield 28, 3) := by decide +kernel
theorem dX2_readDigit_24 : decode cX2_readDigit 24 = .ok (.invokevirtual 97, 3) := by decide +kernel
theorem dX2_readDigit_27 : decode cX2_readDigit 27 = .ok (.istore_n 1, 1) := by decide +kernel
theorem dX2_readDigit_28 : decode cX2_readDigit 28 = .ok (.iload_n 1, 1) := by decide +kernel
theorem dX2_readDigit_29 : decode cX2_readDigit 29 = .ok (.bipush 48, 2) := by decide +kernel
theorem dX2_readDigit_31 : decode cX2_readDigit 31 = .ok (.if_icmp .lt 9, 3) := by decide +kernel
theorem dX2_readDigit_34 : decode cX2_readDigit 34 = .ok (.iload_n 1, 1) := by decide +kernel
theorem dX2_readDigit_35 : decode cX2_readDigit 35 = .ok (.bipush 57, 2) := by decide +kernel
theorem dX2_readDigit_37 : decode cX2_readDigit 37 = .ok (.if_icmp .le 5, 3) := by decide +kernel
theorem dX2_readDigit_40 : decode cX2_readDigit 40 = .ok (.iconst (-1), 1) := by decide +kernel
theorem dX2_readDigit_41 : decode cX2_readDigit 41 = .ok (.ireturn, 1) := by decide +kernel
theorem dX2_readDigit_42 : decode cX2_readDigit 42 = .ok (.aload_n 0, 1) := by decide +kernel
theorem dX2_readDigit_43 : decode cX2_readDigit 43 = .ok (.dup, 1) := by decide +kernel
theorem dX2_readDigit_44 : decode cX2_readDigit 44 = .ok (.getfield 28, 3) := by decide +kernel
theorem dX2_readDigit_47 : decode cX2_readDigit 47 = .ok (.iconst 1, 1) := by decide +kernel
theorem dX2_readDigit_48 : decode cX2_readDigit 48 = .ok (.iadd, 1) := by decide +kernel
theorem dX2_readDigit_49 : decode cX2_readDigit 49 = .ok (.putfield 28, 3) := by decide +kernel
theorem dX2_readDigit_52 : decode cX2_readDigit 52 = .ok (.iload_n 1, 1) := by decide +kernel
theorem dX2_readDigit_53 : decode cX2_readDigit 53 = .ok (.bipush 48, 2) := by decide +kernel
theorem dX2_readDigit_55 : decode cX2_readDigit 55 = .ok (.isub, 1) := by decide +kernel
theorem dX2_readDigit_56 : decode cX2_readDigit 56 = .ok (.ireturn, 1) := by decide +kernel
theorem dX2_readWord_0 : decode cX2_readWord 0 = .ok (.iconst 0, 1) := by decide +kernel
theorem dX2_readWord_1 : decode cX2_readWord 1 = .ok (.istore_n 2, 1) := by decide +kernel
theorem dX2_readWord_2 : decode cX2_readWord 2 = .ok (.iload_n 2, 1) := by decide +kernel
theorem dX2_readWord_3 : decode cX2_readWord 3 = .ok (.aload_n 1, 1) := by decide +kernel
theorem dX2_readWord_4 : decode cX2_readWord 4 = .ok (.invokevirtual 111, 3) := by decide +kernel
theorem dX2_readWord_7 : decode cX2_readWord 7 = .ok (.if_icmp .ge 23, 3) := by decide +kernel
theorem dX2_readWord_10 : decode cX2_readWord 10 = .ok (.aload_n 0, 1) := by decide +kernel
theorem dX2_readWord_11 : decode cX2_readWord 11 = .ok (.aload_n 1, 1) := by decide +kernel
theorem dX2_readWord_12 : decode cX2_readWord 12 = .ok (.iload_n 2, 1) := by decide +kernel
theorem dX2_readWord_13 : decode cX2_readWord 13 = .ok (.invokevirtual 114, 3) := by decide +kernel
theorem dX2_readWord_16 : decode cX2_readWord 16 = .ok (.invokevirtual 48, 3) := by decide +kernel
theorem dX2_readWord_19 : decode cX2_readWord 19 = .ok (.ifCond .ne 5, 3) := by decide +kernel
theorem dX2_readWord_22 : decode cX2_readWord 22 = .ok (.iconst 0, 1) := by decide +kernel
theorem dX2_readWord_23 : decode cX2_readWord 23 = .ok (.ireturn, 1) := by decide +kernel
theorem dX2_readWord_24 : decode cX2_readWord 24 = .ok (.iinc 2 1, 3) := by decide +kernel
theorem dX2_readWord_27 : decode cX2_readWord 27 = .ok (.goto (-25), 3) := by decide +kernel
theorem dX2_readWord_30 : decode cX2_readWord 30 = .ok (.iconst 1, 1) := by decide +kernel
theorem dX2_readWord_31 : decode cX2_readWord 31 = .ok (.ireturn, 1) := by decide +kernel
theorem dX2_readSign_0 : decode cX2_readSign 0 = .ok (.aload_n 0, 1) := by decide +kernel
theorem dX2_readSign_1 : decode cX2_readSign 1 = .ok (.iload_n 1, 1) := by decide +kernel
theorem dX2_readSign_2 : decode cX2_readSign 2 = .ok (.invokevirtual 52, 3) := by decide +kernel
theorem dX2_readSign_5 : decode cX2_readSign 5 = .ok (.ifCond .ne 5, 3) := by decide +kernel
theorem dX2_readSign_8 : decode cX2_readSign 8 = .ok (.iconst 0, 1) := by decide +kernel
theorem dX2_readSign_9 : decode cX2_readSign 9 = .ok (.ireturn, 1) := by decide +kernel
theorem dX2_readSign_10 : decode cX2_readSign 10 = .ok (.aload_n 0, 1) := by decide +kernel
theorem dX2_readSign_11 : decode cX2_readSign 11 = .ok (.dup, 1) := by decide +kernel
theorem dX2_readSign_12 : decode cX2_readSign 12 = .ok (.getfield 28, 3) := by decide +kernel
theorem dX2_readSign_15 : decode cX2_readSign 15 = .ok (.iconst 1, 1) := by decide +kernel
theorem dX2_readSign_16 : decode cX2_readSign 16 = .ok (.iadd, 1) := by decide +kernel
theorem dX2_readSign_17 : decode cX2_readSign 17 = .ok (.putfield 28, 3) := by decide +kernel
theorem dX2_readSign_20 : decode cX2_readSign 20 = .ok (.iconst 1, 1) := by decide +kernel
theorem dX2_readSign_21 : decode cX2_readSign 21 = .ok (.ireturn, 1) := by decide +kernel
theorem dX2_isNext_0 : decode cX2_isNext 0 = .ok (.aload_n 0, 1) := by decide +kernel
theorem dX2_isNext_1 : decode cX2_isNext 1 = .ok (.getfield 28, 3) := by decide +kernel
theorem dX2_isNext_4 : decode cX2_isNext 4 = .ok (.aload_n 0, 1) := by decide +kernel
theorem dX2_isNext_5 : decode cX2_isNext 5 = .ok (.getfield 12, 3) := by decide +kernel
theorem dX2_isNext_8 : decode cX2_isNext 8 = .ok (.invokevirtual 32, 3) := by decide +kernel
theorem dX2_isNext_11 : decode cX2_isNext 11 = .ok (.if_icmp .ge 22, 3) := by decide +kernel
theorem dX2_isNext_14 : decode cX2_isNext 14 = .ok (.aload_n 0, 1) := by decide +kernel
theorem dX2_isNext_15 : decode cX2_isNext 15 = .ok (.getfield 12, 3) := by decide +kernel
theorem dX2_isNext_18 : decode cX2_isNext 18 = .ok (.aload_n 0, 1) := by decide +kernel
theorem dX2_isNext_19 : decode cX2_isNext 19 = .ok (.getfield 28, 3) := by decide +kernel
theorem dX2_isNext_22 : decode cX2_isNext 22 = .ok (.invokevirtual 97, 3) := by decide +kernel
theorem dX2_isNext_25 : decode cX2_isNext 25 = .ok (.iload_n 1, 1) := by decide +kernel
theorem dX2_isNext_26 : decode cX2_isNext 26 = .ok (.if_icmp .ne 7, 3) := by decide +kernel
theorem dX2_isNext_29 : decode cX2_isNext 29 = .ok (.iconst 1, 1) := by decide +kernel
theorem dX2_isNext_30 : decode cX2_isNext 30 = .ok (.goto 4, 3) := by decide +kernel
theorem dX2_isNext_33 : decode cX2_isNext 33 = .ok (.iconst 0, 1) := by decide +kernel
theorem dX2_isNext_34 : decode cX2_isNext 34 = .ok (.ireturn, 1) := by decide +kernel
theorem dX3_init_0 : decode cX3_init 0 = .ok (.aload_n 0, 1) := by decide +kernel
theorem dX3_init_1 : decode cX3_init 1 = .ok (.invokespecial 3, 3) := by decide +kernel
theorem dX3_init_4 : decode cX3_init 4 = .ok (.aload_n 0, 1) := by decide +kernel
theorem dX3_init_5 : decode cX3_init 5 = .ok (.bipush 64, 2) := by decide +kernel
theorem dX3_init_7 : decode cX3_init 7 = .ok (.newarray .char, 2) := by decide +kernel
theorem dX3_init_9 : decode cX3_init 9 = .ok (.putfield 9, 3) := by decide +kernel
theorem dX3_init_12 : decode cX3_init 12 = .ok (.aload_n 0, 1) := by decide +kernel
theorem dX3_init_13 : decode cX3_init 13 = .ok (.bipush 64, 2) := by decide +kernel
theorem dX3_init_15 : decode cX3_init 15 = .ok (.newarray .int, 2) := by decide +kernel
theorem dX3_init_17 : decode cX3_init 17 = .ok (.putfield 15, 3) := by decide +kernel
theorem dX3_init_20 : decode cX3_init 20 = .ok (.aload_n 0, 1) := by decide +kernel
theorem dX3_init_21 : decode cX3_init 21 = .ok (.bipush 64, 2) := by decide +kernel
theorem dX3_init_23 : decode cX3_init 23 = .ok (.newarray .int, 2) := by decide +kernel
theorem dX3_init_25 : decode cX3_init 25 = .ok (.putfield 19, 3) := by decide +kernel
theorem dX3_init_28 : decode cX3_init 28 = .ok (.aload_n 0, 1) := by decide +kernel
theorem dX3_init_29 : decode cX3_init 29 = .ok (.iconst 4, 1) := by decide +kernel
theorem dX3_init_30 : decode cX3_init 30 = .ok (.newarray .int, 2) := by decide +kernel
theorem dX3_init_32 : decode cX3_init 32 = .ok (.putfield 22, 3) := by decide +kernel
theorem dX3_init_35 : decode cX3_init 35 = .ok (.aload_n 0, 1) := by decide +kernel
theorem dX3_init_36 : decode cX3_init 36 = .ok (.iconst 4, 1) := by decide +kernel
theorem dX3_init_37 : decode cX3_init 37 = .ok (.newarray .int, 2) := by decide +kernel
theorem dX3_init_39 : decode cX3_init 39 = .ok (.putfield 25, 3) := by decide +kernel
theorem dX3_init_42 : decode cX3_init 42 = .ok (.aload_n 0, 1) := by decide +kernel
theorem dX3_init_43 : decode cX3_init 43 = .ok (.iconst 0, 1) := by decide +kernel
theorem dX3_init_44 : decode cX3_init 44 = .ok (.putfield 28, 3) := by decide +kernel
theorem dX3_init_47 : decode cX3_init 47 = .ok (.aload_n 0, 1) := by decide +kernel
theorem dX3_init_48 : decode cX3_init 48 = .ok (.iconst 0, 1) := by decide +kernel
theorem dX3_init_49 : decode cX3_init 49 = .ok (.putfield 32, 3) := by decide +kernel
theorem dX3_init_52 : decode cX3_init 52 = .ok (.aload_n 0, 1) := by decide +kernel
theorem dX3_init_53 : decode cX3_init 53 = .ok (.iconst 0, 1) := by decide +kernel
theorem dX3_init_54 : decode cX3_init 54 = .ok (.putfield 35, 3) := by decide +kernel
theorem dX3_init_57 : decode cX3_init 57 = .ok (.iconst 0, 1) := by decide +kernel
theorem dX3_init_58 : decode cX3_init 58 = .ok (.istore_n 1, 1) := by decide +kernel
theorem dX3_init_59 : decode cX3_init 59 = .ok (.iload_n 1, 1) := by decide +kernel
theorem dX3_init_60 : decode cX3_init 60 = .ok (.bipush 64, 2) := by decide +kernel
theorem dX3_init_62 : decode cX3_init 62 = .ok (.if_icmp .ge 17, 3) := by decide +kernel
theorem dX3_init_65 : decode cX3_init 65 = .ok (.aload_n 0, 1) := by decide +kernel
theorem dX3_init_66 : decode cX3_init 66 = .ok (.getfield 9, 3) := by decide +kernel
theorem dX3_init_69 : decode cX3_init 69 = .ok (.iload_n 1, 1) := by decide +kernel
theorem dX3_init_70 : decode cX3_init 70 = .ok (.bipush 46, 2) := by decide +kernel
theorem dX3_init_72 : decode cX3_init 72 = .ok (.castore, 1) := by decide +kernel
theorem dX3_init_73 : decode cX3_init 73 = .ok (.iinc 1 1, 3) := by decide +kernel
theorem dX3_init_76 : decode cX3_init 76 = .ok (.goto (-17), 3) := by decide +kernel
theorem dX3_init_79 : decode cX3_init 79 = .ok (.return_, 1) := by decide +kernel
theorem dX3_copyFrom_0 : decode cX3_copyFrom 0 = .ok (.aload_n 1, 1) := by decide +kernel
theorem dX3_copyFrom_1 : decode cX3_copyFrom 1 = .ok (.getfield 9, 3) := by decide +kernel
theorem dX3_copyFrom_4 : decode cX3_copyFrom 4 = .ok (.iconst 0, 1) := by decide +kernel
theorem dX3_copyFrom_5 : decode cX3_copyFrom 5 = .ok (.aload_n 0, 1) := by decide +kernel
theorem dX3_copyFrom_6 : decode cX3_copyFrom 6 = .ok (.getfield 9, 3) := by decide +kernel
theorem dX3_copyFrom_9 : decode cX3_copyFrom 9 = .ok (.iconst 0, 1) := by decide +kernel
theorem dX3_copyFrom_10 : decode cX3_copyFrom 10 = .ok (.bipush 64, 2) := by decide +kernel
theorem dX3_copyFrom_12 : decode cX3_copyFrom 12 = .ok (.invokestatic 38, 3) := by decide +kernel
theorem dX3_copyFrom_15 : decode cX3_copyFrom 15 = .ok (.aload_n 1, 1) := by decide +kernel
theorem dX3_copyFrom_16 : decode cX3_copyFrom 16 = .ok (.getfield 15, 3) := by decide +kernel
theorem dX3_copyFrom_19 : decode cX3_copyFrom 19 = .ok (.iconst 0, 1) := by decide +kernel
theorem dX3_copyFrom_20 : decode cX3_copyFrom 20 = .ok (.aload_n 0, 1) := by decide +kernel
theorem dX3_copyFrom_21 : decode cX3_copyFrom 21 = .ok (.getfield 15, 3) := by decide +kernel
theorem dX3_copyFrom_24 : decode cX3_copyFrom 24 = .ok (.iconst 0, 1) := by decide +kernel
theorem dX3_copyFrom_25 : decode cX3_copyFrom 25 = .ok (.bipush 64, 2) := by decide +kernel
theorem dX3_copyFrom_27 : decode cX3_copyFrom 27 = .ok (.invokestatic 38, 3) := by decide +kernel
theorem dX3_copyFrom_30 : decode cX3_copyFrom 30 = .ok (.aload_n 1, 1) := by decide +kernel
theorem dX3_copyFrom_31 : decode cX3_copyFrom 31 = .ok (.getfield 19, 3) := by decide +kernel
theorem dX3_copyFrom_34 : decode cX3_copyFrom 34 = .ok (.iconst 0, 1) := by decide +kernel
theorem dX3_copyFrom_35 : decode cX3_copyFrom 35 = .ok (.aload_n 0, 1) := by decide +kernel
theorem dX3_copyFrom_36 : decode cX3_copyFrom 36 = .ok (.getfield 19, 3) := by decide +kernel
theorem dX3_copyFrom_39 : decode cX3_copyFrom 39 = .ok (.iconst 0, 1) := by decide +kernel
theorem dX3_copyFrom_40 : decode cX3_copyFrom 40 = .ok (.bipush 64, 2) := by decide +kernel
theorem dX3_copyFrom_42 : decode cX3_copyFrom 42 = .ok (.invokestatic 38, 3) := by decide +kernel
theorem dX3_copyFrom_45 : decode cX3_copyFrom 45 = .ok (.aload_n 1, 1) := by decide +kernel
theorem dX3_copyFrom_46 : decode cX3_copyFrom 46 = .ok (.getfield 22, 3) := by decide +kernel
theorem dX3_copyFrom_49 : decode cX3_copyFrom 49 = .ok (.iconst 0, 1) := by decide +kernel
theorem dX3_copyFrom_50 : decode cX3_copyFrom 50 = .ok (.aload_n 0, 1) := by decide +kernel
theorem dX3_copyFrom_51 : decode cX3_copyFrom 51 = .ok (.getfield 22, 3) := by decide +kernel
theorem dX3_copyFrom_54 : decode cX3_copyFrom 54 = .ok (.iconst 0, 1) := by decide +kernel
theorem dX3_copyFrom_55 : decode cX3_copyFrom 55 = .ok (.iconst 4, 1) := by decide +kernel
theorem dX3_copyFrom_56 : decode cX3_copyFrom 56 = .ok (.invokestatic 38, 3) := by decide +kernel
theorem dX3_copyFrom_59 : decode cX3_copyFrom 59 = .ok (.aload_n 1, 1) := by decide +kernel
theorem dX3_copyFrom_60 : decode cX3_copyFrom 60 = .ok (.getfield 25, 3) := by decide +kernel
theorem dX3_copyFrom_63 : decode cX3_copyFrom 63 = .ok (.iconst 0, 1) := by decide +kernel
theorem dX3_copyFrom_64 : decode cX3_copyFrom 64 = .ok (.aload_n 0, 1) := by decide +kernel
theorem dX3_copyFrom_65 : decode cX3_copyFrom 65 = .ok (.getfield 25, 3) := by decide +kernel
theorem dX3_copyFrom_68 : decode cX3_copyFrom 68 = .ok (.iconst 0, 1) := by decide +kernel
theorem dX3_copyFrom_69 : decode cX3_copyFrom 69 = .ok (.iconst 4, 1) := by decide +kernel
theorem dX3_copyFrom_70 : decode cX3_copyFrom 70 = .ok (.invokestatic 38, 3) := by decide +kernel
theorem dX3_copyFrom_73 : decode cX3_copyFrom 73 = .ok (.aload_n 0, 1) := by decide +kernel
theorem dX3_copyFrom_74 : decode cX3_copyFrom 74 = .ok (.aload_n 1, 1) := by decide +kernel
theorem dX3_copyFrom_75 : decode cX3_copyFrom 75 = .ok (.getfield 28, 3) := by decide +kernel
theorem dX3_copyFrom_78 : decode cX3_copyFrom 78 = .ok (.putfield 28, 3) := by decide +kernel
theorem dX3_copyFrom_81 : decode cX3_copyFrom 81 = .ok (.aload_n 0, 1) := by decide +kernel
theorem dX3_copyFrom_82 : decode cX3_copyFrom 82 = .ok (.aload_n 1, 1) := by decide +kernel
theorem dX3_copyFrom_83 : decode cX3_copyFrom 83 = .ok (.getfield 32, 3) := by decide +kernel
theorem dX3_copyFrom_86 : decode cX3_copyFrom 86 = .ok (.putfield 32, 3) := by decide +kernel
theorem dX3_copyFrom_89 : decode cX3_copyFrom 89 = .ok (.aload_n 0, 1) := by decide +kernel
theorem dX3_copyFrom_90 : decode cX3_copyFrom 90 = .ok (.aload_n 1, 1) := by decide +kernel
theorem dX3_copyFrom_91 : decode cX3_copyFrom 91 = .ok (.getfield 35, 3) := by decide +kernel
theorem dX3_copyFrom_94 : decode cX3_copyFrom 94 = .ok (.putfield 35, 3) := by decide +kernel
theorem dX3_copyFrom_97 : decode cX3_copyFrom 97 = .ok (.return_, 1) := by decide +kernel
theorem dX3_addHeat_0 : decode cX3_addHeat 0 = .ok (.aload_n 0, 1) := by decide +kernel
theorem dX3_addHeat_1 : decode cX3_addHeat 1 = .ok (.getfield 15, 3) := by decide +kernel
theorem dX3_addHeat_4 : decode cX3_addHeat 4 = .ok (.iload_n 1, 1) := by decide +kernel
theorem dX3_addHeat_5 : decode cX3_addHeat 5 = .ok (.dup2, 1) := by decide +kernel
theorem dX3_addHeat_6 : decode cX3_addHeat 6 = .ok (.iaload, 1) := by decide +kernel
theorem dX3_addHeat_7 : decode cX3_addHeat 7 = .ok (.iload_n 2, 1) := by decide +kernel
theorem dX3_addHeat_8 : decode cX3_addHeat 8 = .ok (.iadd, 1) := by decide +kernel
theorem dX3_addHeat_9 : decode cX3_addHeat 9 = .ok (.iastore, 1) := by decide +kernel
theorem dX3_addHeat_10 : decode cX3_addHeat 10 = .ok (.aload_n 0, 1) := by decide +kernel
theorem dX3_addHeat_11 : decode cX3_addHeat 11 = .ok (.dup, 1) := by decide +kernel
theorem dX3_addHeat_12 : decode cX3_addHeat 12 = .ok (.getfield 35, 3) := by decide +kernel
theorem dX3_addHeat_15 : decode cX3_addHeat 15 = .ok (.iload_n 2, 1) := by decide +kernel
theorem dX3_addHeat_16 : decode cX3_addHeat 16 = .ok (.iadd, 1) := by decide +kernel
theorem dX3_addHeat_17 : decode cX3_addHeat 17 = .ok (.putfield 35, 3) := by decide +kernel
theorem dX3_addHeat_20 : decode cX3_addHeat 20 = .ok (.return_, 1) := by decide +kernel
theorem dX3_isRock_0 : decode cX3_isRock 0 = .ok (.aload_n 0, 1) := by decide +kernel
theorem dX3_isRock_1 : decode cX3_isRock 1 = .ok (.getfield 9, 3) := by decide +kernel
theorem dX3_isRock_4 : decode cX3_isRock 4 = .ok (.iload_n 1, 1) := by decide +kernel
theorem dX3_isRock_5 : decode cX3_isRock 5 = .ok (.caload, 1) := by decide +kernel
theorem dX3_isRock_6 : decode cX3_isRock 6 = .ok (.bipush 35, 2) := by decide +kernel
theorem dX3_isRock_8 : decode cX3_isRock 8 = .ok (.if_icmp .ne 7, 3) := by decide +kernel
theorem dX3_isRock_11 : decode cX3_isRock 11 = .ok (.iconst 1, 1) := by decide +kernel
theorem dX3_isRock_12 : decode cX3_isRock 12 = .ok (.goto 4, 3) := by decide +kernel
theorem dX3_isRock_15 : decode cX3_isRock 15 = .ok (.iconst 0, 1) := by decide +kernel
theorem dX3_isRock_16 : decode cX3_isRock 16 = .ok (.ireturn, 1) := by decide +kernel
theorem dX3_slownessOf_0 : decode cX3_slownessOf 0 = .ok (.aload_n 0, 1) := by decide +kernel
theorem dX3_slownessOf_1 : decode cX3_slownessOf 1 = .ok (.getfield 9, 3) := by decide +kernel
theorem dX3_slownessOf_4 : decode cX3_slownessOf 4 = .ok (.iload_n 1, 1) := by decide +kernel
theorem dX3_slownessOf_5 : decode cX3_slownessOf 5 = .ok (.caload, 1) := by decide +kernel
theorem dX3_slownessOf_6 : decode cX3_slownessOf 6 = .ok (.bipush 58, 2) := by decide +kernel
theorem dX3_slownessOf_8 : decode cX3_slownessOf 8 = .ok (.if_icmp .ne 6, 3) := by decide +kernel
theorem dX3_slownessOf_11 : decode cX3_slownessOf 11 = .ok (.bipush 8, 2) := by decide +kernel
theorem dX3_slownessOf_13 : decode cX3_slownessOf 13 = .ok (.ireturn, 1) := by decide +kernel
theorem dX3_slownessOf_14 : decode cX3_slownessOf 14 = .ok (.aload_n 0, 1) := by decide +kernel
theorem dX3_slownessOf_15 : decode cX3_slownessOf 15 = .ok (.getfield 9, 3) := by decide +kernel
theorem dX3_slownessOf_18 : decode cX3_slownessOf 18 = .ok (.iload_n 1, 1) := by decide +kernel
theorem dX3_slownessOf_19 : decode cX3_slownessOf 19 = .ok (.caload, 1) := by decide +kernel
theorem dX3_slownessOf_20 : decode cX3_slownessOf 20 = .ok (.bipush 126, 2) := by decide +kernel
theorem dX3_slownessOf_22 : decode cX3_slownessOf 22 = .ok (.if_icmp .ne 7, 3) := by decide +kernel
theorem dX3_slownessOf_25 : decode cX3_slownessOf 25 = .ok (.iconst 2, 1) := by decide +kernel
theorem dX3_slownessOf_26 : decode cX3_slownessOf 26 = .ok (.goto 4, 3) := by decide +kernel
theorem dX3_slownessOf_29 : decode cX3_slownessOf 29 = .ok (.iconst 4, 1) := by decide +kernel
theorem dX3_slownessOf_30 : decode cX3_slownessOf 30 = .ok (.ireturn, 1) := by decide +kernel
theorem dX3_heatOfCells_0 : decode cX3_heatOfCells 0 = .ok (.iconst 0, 1) := by decide +kernel
theorem dX3_heatOfCells_1 : decode cX3_heatOfCells 1 = .ok (.istore_n 1, 1) := by decide +kernel
theorem dX3_heatOfCells_2 : decode cX3_heatOfCells 2 = .ok (.iconst 0, 1) := by decide +kernel
theorem dX3_heatOfCells_3 : decode cX3_heatOfCells 3 = .ok (.istore_n 2, 1) := by decide +kernel
theorem dX3_heatOfCells_4 : decode cX3_heatOfCells 4 = .ok (.iload_n 2, 1) := by decide +kernel
theorem dX3_heatOfCells_5 : decode cX3_heatOfCells 5 = .ok (.bipush 64, 2) := by decide +kernel
theorem dX3_heatOfCells_7 : decode cX3_heatOfCells 7 = .ok (.if_icmp .ge 18, 3) := by decide +kernel
theorem dX3_heatOfCells_10 : decode cX3_heatOfCells 10 = .ok (.iload_n 1, 1) := by decide +kernel
theorem dX3_heatOfCells_11 : decode cX3_heatOfCells 11 = .ok (.aload_n 0, 1) := by decide +kernel
theorem dX3_heatOfCells_12 : decode cX3_heatOfCells 12 = .ok (.getfield 15, 3) := by decide +kernel
theorem dX3_heatOfCells_15 : decode cX3_heatOfCells 15 = .ok (.iload_n 2, 1) := by decide +kernel
theorem dX3_heatOfCells_16 : decode cX3_heatOfCells 16 = .ok (.iaload, 1) := by decide +kernel
theorem dX3_heatOfCells_17 : decode cX3_heatOfCells 17 = .ok (.iadd, 1) := by decide +kernel
theorem dX3_heatOfCells_18 : decode cX3_heatOfCells 18 = .ok (.istore_n 1, 1) := by decide +kernel
theorem dX3_heatOfCells_19 : decode cX3_heatOfCells 19 = .ok (.iinc 2 1, 3) := by decide +kernel
theorem dX3_heatOfCells_22 : decode cX3_heatOfCells 22 = .ok (.goto (-18), 3) := by decide +kernel
theorem dX3_heatOfCells_25 : decode cX3_heatOfCells 25 = .ok (.iload_n 1, 1) := by decide +kernel
theorem dX3_heatOfCells_26 : decode cX3_heatOfCells 26 = .ok (.ireturn, 1) := by decide +kernel
theorem dX3_embersOfCells_0 : decode cX3_embersOfCells 0 = .ok (.iconst 0, 1) := by decide +kernel
theorem dX3_embersOfCells_1 : decode cX3_embersOfCells 1 = .ok (.istore_n 1, 1) := by decide +kernel
theorem dX3_embersOfCells_2 : decode cX3_embersOfCells 2 = .ok (.iconst 0, 1) := by decide +kernel
theorem dX3_embersOfCells_3 : decode cX3_embersOfCells 3 = .ok (.istore_n 2, 1) := by decide +kernel
theorem dX3_embersOfCells_4 : decode cX3_embersOfCells 4 = .ok (.iload_n 2, 1) := by decide +kernel
theorem dX3_embersOfCells_5 : decode cX3_embersOfCells 5 = .ok (.bipush 64, 2) := by decide +kernel
theorem dX3_embersOfCells_7 : decode cX3_embersOfCells 7 = .ok (.if_icmp .ge 18, 3) := by decide +kernel
theorem dX3_embersOfCells_10 : decode cX3_embersOfCells 10 = .ok (.iload_n 1, 1) := by decide +kernel
theorem dX3_embersOfCells_11 : decode cX3_embersOfCells 11 = .ok (.aload_n 0, 1) := by decide +kernel
theorem dX3_embersOfCells_12 : decode cX3_embersOfCells 12 = .ok (.getfield 19, 3) := by decide +kernel
theorem dX3_embersOfCells_15 : decode cX3_embersOfCells 15 = .ok (.iload_n 2, 1) := by decide +kernel
theorem dX3_embersOfCells_16 : decode cX3_embersOfCells 16 = .ok (.iaload, 1) := by decide +kernel
theorem dX3_embersOfCells_17 : decode cX3_embersOfCells 17 = .ok (.iadd, 1) := by decide +kernel
theorem dX3_embersOfCells_18 : decode cX3_embersOfCells 18 = .ok (.istore_n 1, 1) := by decide +kernel
theorem dX3_embersOfCells_19 : decode cX3_embersOfCells 19 = .ok (.iinc 2 1, 3) := by decide +kernel
theorem dX3_embersOfCells_22 : decode cX3_embersOfCells 22 = .ok (.goto (-18), 3) := by decide +kernel
theorem dX3_embersOfCells_25 : decode cX3_embersOfCells 25 = .ok (.iload_n 1, 1) := by decide +kernel
theorem dX3_embersOfCells_26 : decode cX3_embersOfCells 26 = .ok (.ireturn, 1) := by decide +kernel
theorem dX3_lostHeat_0 : decode cX3_lostHeat 0 = .ok (.iconst 0, 1) := by decide +kernel
theorem dX3_lostHeat_1 : decode cX3_lostHeat 1 = .ok (.istore_n 1, 1) := by decide +kernel
theorem dX3_lostHeat_2 : decode cX3_lostHeat 2 = .ok (.iconst 0, 1) := by decide +kernel
theorem dX3_lostHeat_3 : decode cX3_lostHeat 3 = .ok (.istore_n 2, 1) := by decide +kernel
theorem dX3_lostHeat_4 : decode cX3_lostHeat 4 = .ok (.iload_n 2, 1) := by decide +kernel
theorem dX3_lostHeat_5 : decode cX3_lostHeat 5 = .ok (.iconst 4, 1) := by decide +kernel
theorem dX3_lostHeat_6 : decode cX3_lostHeat 6 = .ok (.if_icmp .ge 18, 3) := by decide +kernel
theorem dX3_lostHeat_9 : decode cX3_lostHeat 9 = .ok (.iload_n 1, 1) := by decide +kernel
theorem dX3_lostHeat_10 : decode cX3_lostHeat 10 = .ok (.aload_n 0, 1) := by decide +kernel
theorem dX3_lostHeat_11 : decode cX3_lostHeat 11 = .ok (.getfield 25, 3) := by decide +kernel
theorem dX3_lostHeat_14 : decode cX3_lostHeat 14 = .ok (.iload_n 2, 1) := by decide +kernel
theorem dX3_lostHeat_15 : decode cX3_lostHeat 15 = .ok (.iaload, 1) := by decide +kernel
theorem dX3_lostHeat_16 : decode cX3_lostHeat 16 = .ok (.iadd, 1) := by decide +kernel
theorem dX3_lostHeat_17 : decode cX3_lostHeat 17 = .ok (.istore_n 1, 1) := by decide +kernel
theorem dX3_lostHeat_18 : decode cX3_lostHeat 18 = .ok (.iinc 2 1, 3) := by decide +kernel
theorem dX3_lostHeat_21 : decode cX3_lostHeat 21 = .ok (.goto (-17), 3) := by decide +kernel
theorem dX3_lostHeat_24 : decode cX3_lostHeat 24 = .ok (.iload_n 1, 1) := by decide +kernel
theorem dX3_lostHeat_25 : decode cX3_lostHeat 25 = .ok (.ireturn, 1) := by decide +kernel
theorem dX3_countOpenCells_0 : decode cX3_countOpenCells 0 = .ok (.iconst 0, 1) := by decide +kernel
theorem dX3_countOpenCells_1 : decode cX3_countOpenCells 1 = .ok (.istore_n 1, 1) := by decide +kernel
theorem dX3_countOpenCells_2 : decode cX3_countOpenCells 2 = .ok (.iconst 0, 1) := by decide +kernel
theorem dX3_countOpenCells_3 : decode cX3_countOpenCells 3 = .ok (.istore_n 2, 1) := by decide +kernel
theorem dX3_countOpenCells_4 : decode cX3_countOpenCells 4 = .ok (.iload_n 2, 1) := by decide +kernel
theorem dX3_countOpenCells_5 : decode cX3_countOpenCells 5 = .ok (.bipush 64, 2) := by decide +kernel
theorem dX3_countOpenCells_7 : decode cX3_countOpenCells 7 = .ok (.if_icmp .ge 20, 3) := by decide +kernel
theorem dX3_countOpenCells_10 : decode cX3_countOpenCells 10 = .ok (.aload_n 0, 1) := by decide +kernel
theorem dX3_countOpenCells_11 : decode cX3_countOpenCells 11 = .ok (.iload_n 2, 1) := by decide +kernel
theorem dX3_countOpenCells_12 : decode cX3_countOpenCells 12 = .ok (.invokevirtual 44, 3) := by decide +kernel
theorem dX3_countOpenCells_15 : decode cX3_countOpenCells 15 = .ok (.ifCond .ne 6, 3) := by decide +kernel
theorem dX3_countOpenCells_18 : decode cX3_countOpenCells 18 = .ok (.iinc 1 1, 3) := by decide +kernel
theorem dX3_countOpenCells_21 : decode cX3_countOpenCells 21 = .ok (.iinc 2 1, 3) := by decide +kernel
theorem dX3_countOpenCells_24 : decode cX3_countOpenCells 24 = .ok (.goto (-20), 3) := by decide +kernel
theorem dX3_countOpenCells_27 : decode cX3_countOpenCells 27 = .ok (.iload_n 1, 1) := by decide +kernel
theorem dX3_countOpenCells_28 : decode cX3_countOpenCells 28 = .ok (.ireturn, 1) := by decide +kernel
theorem dX3_rankOf_0 : decode cX3_rankOf 0 = .ok (.iconst 0, 1) := by decide +kernel
theorem dX3_rankOf_1 : decode cX3_rankOf 1 = .ok (.istore_n 2, 1) := by decide +kernel
theorem dX3_rankOf_2 : decode cX3_rankOf 2 = .ok (.iconst 0, 1) := by decide +kernel
theorem dX3_rankOf_3 : decode cX3_rankOf 3 = .ok (.istore_n 3, 1) := by decide +kernel
theorem dX3_rankOf_4 : decode cX3_rankOf 4 = .ok (.iload_n 3, 1) := by decide +kernel
theorem dX3_rankOf_5 : decode cX3_rankOf 5 = .ok (.bipush 64, 2) := by decide +kernel
theorem dX3_rankOf_7 : decode cX3_rankOf 7 = .ok (.if_icmp .ge 47, 3) := by decide +kernel
theorem dX3_rankOf_10 : decode cX3_rankOf 10 = .ok (.aload_n 0, 1) := by decide +kernel
theorem dX3_rankOf_11 : decode cX3_rankOf 11 = .ok (.getfield 15, 3) := by decide +kernel
theorem dX3_rankOf_14 : decode cX3_rankOf 14 = .ok (.iload_n 3, 1) := by decide +kernel
theorem dX3_rankOf_15 : decode cX3_rankOf 15 = .ok (.iaload, 1) := by decide +kernel
theorem dX3_rankOf_16 : decode cX3_rankOf 16 = .ok (.aload_n 0, 1) := by decide +kernel
theorem dX3_rankOf_17 : decode cX3_rankOf 17 = .ok (.getfield 15, 3) := by decide +kernel
theorem dX3_rankOf_20 : decode cX3_rankOf 20 = .ok (.iload_n 1, 1) := by decide +kernel
theorem dX3_rankOf_21 : decode cX3_rankOf 21 = .ok (.iaload, 1) := by decide +kernel
theorem dX3_rankOf_22 : decode cX3_rankOf 22 = .ok (.if_icmp .gt 23, 3) := by decide +kernel
theorem dX3_rankOf_25 : decode cX3_rankOf 25 = .ok (.aload_n 0, 1) := by decide +kernel
theorem dX3_rankOf_26 : decode cX3_rankOf 26 = .ok (.getfield 15, 3) := by decide +kernel
theorem dX3_rankOf_29 : decode cX3_rankOf 29 = .ok (.iload_n 3, 1) := by decide +kernel
theorem dX3_rankOf_30 : decode cX3_rankOf 30 = .ok (.iaload, 1) := by decide +kernel
theorem dX3_rankOf_31 : decode cX3_rankOf 31 = .ok (.aload_n 0, 1) := by decide +kernel
theorem dX3_rankOf_32 : decode cX3_rankOf 32 = .ok (.getfield 15, 3) := by decide +kernel
theorem dX3_rankOf_35 : decode cX3_rankOf 35 = .ok (.iload_n 1, 1) := by decide +kernel
theorem dX3_rankOf_36 : decode cX3_rankOf 36 = .ok (.iaload, 1) := by decide +kernel
theorem dX3_rankOf_37 : decode cX3_rankOf 37 = .ok (.if_icmp .ne 11, 3) := by decide +kernel
theorem dX3_rankOf_40 : decode cX3_rankOf 40 = .ok (.iload_n 3, 1) := by decide +kernel
theorem dX3_rankOf_41 : decode cX3_rankOf 41 = .ok (.iload_n 1, 1) := by decide +kernel
theorem dX3_rankOf_42 : decode cX3_rankOf 42 = .ok (.if_icmp .ge 6, 3) := by decide +kernel
theorem dX3_rankOf_45 : decode cX3_rankOf 45 = .ok (.iinc 2 1, 3) := by decide +kernel
theorem dX3_rankOf_48 : decode cX3_rankOf 48 = .ok (.iinc 3 1, 3) := by decide +kernel
theorem dX3_rankOf_51 : decode cX3_rankOf 51 = .ok (.goto (-47), 3) := by decide +kernel
theorem dX3_rankOf_54 : decode cX3_rankOf 54 = .ok (.iload_n 2, 1) := by decide +kernel
theorem dX3_rankOf_55 : decode cX3_rankOf 55 = .ok (.ireturn, 1) := by decide +kernel
theorem dX3_cellsOfLevel_0 : decode cX3_cellsOfLevel 0 = .ok (.lconst 0, 1) := by decide +kernel
theorem dX3_cellsOfLevel_1 : decode cX3_cellsOfLevel 1 = .ok (.lstore_n 2, 1) := by decide +kernel
theorem dX3_cellsOfLevel_2 : decode cX3_cellsOfLevel 2 = .ok (.iconst 0, 1) := by decide +kernel
theorem dX3_cellsOfLevel_3 : decode cX3_cellsOfLevel 3 = .ok (.istore 4, 2) := by decide +kernel
theorem dX3_cellsOfLevel_5 : decode cX3_cellsOfLevel 5 = .ok (.iload 4, 2) := by decide +kernel
theorem dX3_cellsOfLevel_7 : decode cX3_cellsOfLevel 7 = .ok (.bipush 64, 2) := by decide +kernel
theorem dX3_cellsOfLevel_9 : decode cX3_cellsOfLevel 9 = .ok (.if_icmp .ge 28, 3) := by decide +kernel
theorem dX3_cellsOfLevel_12 : decode cX3_cellsOfLevel 12 = .ok (.aload_n 0, 1) := by decide +kernel
theorem dX3_cellsOfLevel_13 : decode cX3_cellsOfLevel 13 = .ok (.getfield 15, 3) := by decide +kernel
theorem dX3_cellsOfLevel_16 : decode cX3_cellsOfLevel 16 = .ok (.iload 4, 2) := by decide +kernel
theorem dX3_cellsOfLevel_18 : decode cX3_cellsOfLevel 18 = .ok (.iaload, 1) := by decide +kernel
theorem dX3_cellsOfLevel_19 : decode cX3_cellsOfLevel 19 = .ok (.iload_n 1, 1) := by decide +kernel
theorem dX3_cellsOfLevel_20 : decode cX3_cellsOfLevel 20 = .ok (.if_icmp .lt 11, 3) := by decide +kernel
theorem dX3_cellsOfLevel_23 : decode cX3_cellsOfLevel 23 = .ok (.lload_n 2, 1) := by decide +kernel
theorem dX3_cellsOfLevel_24 : decode cX3_cellsOfLevel 24 = .ok (.iload 4, 2) := by decide +kernel
theorem dX3_cellsOfLevel_26 : decode cX3_cellsOfLevel 26 = .ok (.invokestatic 48, 3) := by decide +kernel
theorem dX3_cellsOfLevel_29 : decode cX3_cellsOfLevel 29 = .ok (.lor, 1) := by decide +kernel
theorem dX3_cellsOfLevel_30 : decode cX3_cellsOfLevel 30 = .ok (.lstore_n 2, 1) := by decide +kernel
theorem dX3_cellsOfLevel_31 : decode cX3_cellsOfLevel 31 = .ok (.iinc 4 1, 3) := by decide +kernel
theorem dX3_cellsOfLevel_34 : decode cX3_cellsOfLevel 34 = .ok (.goto (-29), 3) := by decide +kernel
theorem dX3_cellsOfLevel_37 : decode cX3_cellsOfLevel 37 = .ok (.lload_n 2, 1) := by decide +kernel
theorem dX3_cellsOfLevel_38 : decode cX3_cellsOfLevel 38 = .ok (.lreturn, 1) := by decide +kernel
theorem dX3_openCellsUpTo_0 : decode cX3_openCellsUpTo 0 = .ok (.lconst 0, 1) := by decide +kernel
theorem dX3_openCellsUpTo_1 : decode cX3_openCellsUpTo 1 = .ok (.lstore_n 2, 1) := by decide +kernel
theorem dX3_openCellsUpTo_2 : decode cX3_openCellsUpTo 2 = .ok (.iconst 0, 1) := by decide +kernel
theorem dX3_openCellsUpTo_3 : decode cX3_openCellsUpTo 3 = .ok (.istore 4, 2) := by decide +kernel
theorem dX3_openCellsUpTo_5 : decode cX3_openCellsUpTo 5 = .ok (.iload 4, 2) := by decide +kernel
theorem dX3_openCellsUpTo_7 : decode cX3_openCellsUpTo 7 = .ok (.bipush 64, 2) := by decide +kernel
theorem dX3_openCellsUpTo_9 : decode cX3_openCellsUpTo 9 = .ok (.if_icmp .ge 37, 3) := by decide +kernel
theorem dX3_openCellsUpTo_12 : decode cX3_openCellsUpTo 12 = .ok (.aload_n 0, 1) := by decide +kernel
theorem dX3_openCellsUpTo_13 : decode cX3_openCellsUpTo 13 = .ok (.iload 4, 2) := by decide +kernel
theorem dX3_openCellsUpTo_15 : decode cX3_openCellsUpTo 15 = .ok (.invokevirtual 44, 3) := by decide +kernel
theorem dX3_openCellsUpTo_18 : decode cX3_openCellsUpTo 18 = .ok (.ifCond .ne 22, 3) := by decide +kernel
theorem dX3_openCellsUpTo_21 : decode cX3_openCellsUpTo 21 = .ok (.aload_n 0, 1) := by decide +kernel
theorem dX3_openCellsUpTo_22 : decode cX3_openCellsUpTo 22 = .ok (.getfield 15, 3) := by decide +kernel
theorem dX3_openCellsUpTo_25 : decode cX3_openCellsUpTo 25 = .ok (.iload 4, 2) := by decide +kernel
theorem dX3_openCellsUpTo_27 : decode cX3_openCellsUpTo 27 = .ok (.iaload, 1) := by decide +kernel
theorem dX3_openCellsUpTo_28 : decode cX3_openCellsUpTo 28 = .ok (.iload_n 1, 1) := by decide +kernel
theorem dX3_openCellsUpTo_29 : decode cX3_openCellsUpTo 29 = .ok (.if_icmp .gt 11, 3) := by decide +kernel
theorem dX3_openCellsUpTo_32 : decode cX3_openCellsUpTo 32 = .ok (.lload_n 2, 1) := by decide +kernel
theorem dX3_openCellsUpTo_33 : decode cX3_openCellsUpTo 33 = .ok (.iload 4, 2) := by decide +kernel
theorem dX3_openCellsUpTo_35 : decode cX3_openCellsUpTo 35 = .ok (.invokestatic 48, 3) := by decide +kernel
theorem dX3_openCellsUpTo_38 : decode cX3_openCellsUpTo 38 = .ok (.lor, 1) := by decide +kernel
theorem dX3_openCellsUpTo_39 : decode cX3_openCellsUpTo 39 = .ok (.lstore_n 2, 1) := by decide +kernel
theorem dX3_openCellsUpTo_40 : decode cX3_openCellsUpTo 40 = .ok (.iinc 4 1, 3) := by decide +kernel
theorem dX3_openCellsUpTo_43 : decode cX3_openCellsUpTo 43 = .ok (.goto (-38), 3) := by decide +kernel
theorem dX3_openCellsUpTo_46 : decode cX3_openCellsUpTo 46 = .ok (.lload_n 2, 1) := by decide +kernel
theorem dX3_openCellsUpTo_47 : decode cX3_openCellsUpTo 47 = .ok (.lreturn, 1) := by decide +kernel
theorem dX3_signOf_0 : decode cX3_signOf 0 = .ok (.aload_n 0, 1) := by decide +kernel
theorem dX3_signOf_1 : decode cX3_signOf 1 = .ok (.getfield 15, 3) := by decide +kernel
theorem dX3_signOf_4 : decode cX3_signOf 4 = .ok (.iload_n 1, 1) := by decide +kernel
theorem dX3_signOf_5 : decode cX3_signOf 5 = .ok (.iaload, 1) := by decide +kernel
theorem dX3_signOf_6 : decode cX3_signOf 6 = .ok (.ifCond .ne 24, 3) := by decide +kernel
theorem dX3_signOf_9 : decode cX3_signOf 9 = .ok (.aload_n 0, 1) := by decide +kernel
theorem dX3_signOf_10 : decode cX3_signOf 10 = .ok (.getfield 19, 3) := by decide +kernel
theorem dX3_signOf_13 : decode cX3_signOf 13 = .ok (.iload_n 1, 1) := by decide +kernel
theorem dX3_signOf_14 : decode cX3_signOf 14 = .ok (.iaload, 1) := by decide +kernel
theorem dX3_signOf_15 : decode cX3_signOf 15 = .ok (.ifCond .ne 12, 3) := by decide +kernel
theorem dX3_signOf_18 : decode cX3_signOf 18 = .ok (.aload_n 0, 1) := by decide +kernel
theorem dX3_signOf_19 : decode cX3_signOf 19 = .ok (.getfield 9, 3) := by decide +kernel
theorem dX3_signOf_22 : decode cX3_signOf 22 = .ok (.iload_n 1, 1) := by decide +kernel
theorem dX3_signOf_23 : decode cX3_signOf 23 = .ok (.caload, 1) := by decide +kernel
theorem dX3_signOf_24 : decode cX3_signOf 24 = .ok (.goto 5, 3) := by decide +kernel
theorem dX3_signOf_27 : decode cX3_signOf 27 = .ok (.bipush 101, 2) := by decide +kernel
theorem dX3_signOf_29 : decode cX3_signOf 29 = .ok (.ireturn, 1) := by decide +kernel
theorem dX3_signOf_30 : decode cX3_signOf 30 = .ok (.bipush 48, 2) := by decide +kernel
theorem dX3_signOf_32 : decode cX3_signOf 32 = .ok (.bipush 9, 2) := by decide +kernel
theorem dX3_signOf_34 : decode cX3_signOf 34 = .ok (.aload_n 0, 1) := by decide +kernel
theorem dX3_signOf_35 : decode cX3_signOf 35 = .ok (.getfield 15, 3) := by decide +kernel
theorem dX3_signOf_38 : decode cX3_signOf 38 = .ok (.iload_n 1, 1) := by decide +kernel
theorem dX3_signOf_39 : decode cX3_signOf 39 = .ok (.iaload, 1) := by decide +kernel
theorem dX3_signOf_40 : decode cX3_signOf 40 = .ok (.bipush 100, 2) := by decide +kernel
theorem dX3_signOf_42 : decode cX3_signOf 42 = .ok (.idiv, 1) := by decide +kernel
theorem dX3_signOf_43 : decode cX3_signOf 43 = .ok (.invokestatic 54, 3) := by decide +kernel
theorem dX3_signOf_46 : decode cX3_signOf 46 = .ok (.iadd, 1) := by decide +kernel
theorem dX3_signOf_47 : decode cX3_signOf 47 = .ok (.i2c, 1) := by decide +kernel
theorem dX3_signOf_48 : decode cX3_signOf 48 = .ok (.ireturn, 1) := by decide +kernel
theorem dX4_init_0 : decode cX4_init 0 = .ok (.aload_n 0, 1) := by decide +kernel
theorem dX4_init_1 : decode cX4_init 1 = .ok (.invokespecial 3, 3) := by decide +kernel
theorem dX4_init_4 : decode cX4_init 4 = .ok (.aload_n 0, 1) := by decide +kernel
theorem dX4_init_5 : decode cX4_init 5 = .ok (.bipush 8, 2) := by decide +kernel
theorem dX4_init_7 : decode cX4_init 7 = .ok (.anewarray 9, 3) := by decide +kernel
theorem dX4_init_10 : decode cX4_init 10 = .ok (.putfield 11, 3) := by decide +kernel
theorem dX4_init_13 : decode cX4_init 13 = .ok (.aload_n 0, 1) := by decide +kernel
theorem dX4_init_14 : decode cX4_init 14 = .ok (.iconst 0, 1) := by decide +kernel
theorem dX4_init_15 : decode cX4_init 15 = .ok (.putfield 17, 3) := by decide +kernel
theorem dX4_init_18 : decode cX4_init 18 = .ok (.aload_n 0, 1) := by decide +kernel
theorem dX4_init_19 : decode cX4_init 19 = .ok (.iconst 0, 1) := by decide +kernel
theorem dX4_init_20 : decode cX4_init 20 = .ok (.putfield 21, 3) := by decide +kernel
theorem dX4_init_23 : decode cX4_init 23 = .ok (.iconst 0, 1) := by decide +kernel
theorem dX4_init_24 : decode cX4_init 24 = .ok (.istore_n 1, 1) := by decide +kernel
theorem dX4_init_25 : decode cX4_init 25 = .ok (.iload_n 1, 1) := by decide +kernel
theorem dX4_init_26 : decode cX4_init 26 = .ok (.bipush 8, 2) := by decide +kernel
theorem dX4_init_28 : decode cX4_init 28 = .ok (.if_icmp .ge 22, 3) := by decide +kernel
theorem dX4_init_31 : decode cX4_init 31 = .ok (.aload_n 0, 1) := by decide +kernel
theorem dX4_init_32 : decode cX4_init 32 = .ok (.getfield 11, 3) := by decide +kernel
theorem dX4_init_35 : decode cX4_init 35 = .ok (.iload_n 1, 1) := by decide +kernel
theorem dX4_init_36 : decode cX4_init 36 = .ok (.new 9, 3) := by decide +kernel
theorem dX4_init_39 : decode cX4_init 39 = .ok (.dup, 1) := by decide +kernel
theorem dX4_init_40 : decode cX4_init 40 = .ok (.invokespecial 24, 3) := by decide +kernel
theorem dX4_init_43 : decode cX4_init 43 = .ok (.aastore, 1) := by decide +kernel
theorem dX4_init_44 : decode cX4_init 44 = .ok (.iinc 1 1, 3) := by decide +kernel
theorem dX4_init_47 : decode cX4_init 47 = .ok (.goto (-22), 3) := by decide +kernel
theorem dX4_init_50 : decode cX4_init 50 = .ok (.return_, 1) := by decide +kernel
theorem dX4_size_0 : decode cX4_size 0 = .ok (.aload_n 0, 1) := by decide +kernel
theorem dX4_size_1 : decode cX4_size 1 = .ok (.getfield 21, 3) := by decide +kernel
theorem dX4_size_4 : decode cX4_size 4 = .ok (.ireturn, 1) := by decide +kernel
theorem dX4_keep_0 : decode cX4_keep 0 = .ok (.aload_n 0, 1) := by decide +kernel
theorem dX4_keep_1 : decode cX4_keep 1 = .ok (.getfield 11, 3) := by decide +kernel
theorem dX4_keep_4 : decode cX4_keep 4 = .ok (.aload_n 0, 1) := by decide +kernel
theorem dX4_keep_5 : decode cX4_keep 5 = .ok (.getfield 17, 3) := by decide +kernel
theorem dX4_keep_8 : decode cX4_keep 8 = .ok (.aaload, 1) := by decide +kernel
theorem dX4_keep_9 : decode cX4_keep 9 = .ok (.aload_n 1, 1) := by decide +kernel
theorem dX4_keep_10 : decode cX4_keep 10 = .ok (.invokevirtual 25, 3) := by decide +kernel
theorem dX4_keep_13 : decode cX4_keep 13 = .ok (.aload_n 0, 1) := by decide +kernel
theorem dX4_keep_14 : decode cX4_keep 14 = .ok (.aload_n 0, 1) := by decide +kernel
theorem dX4_keep_15 : decode cX4_keep 15 = .ok (.getfield 17, 3) := by decide +kernel
theorem dX4_keep_18 : decode cX4_keep 18 = .ok (.iconst 1, 1) := by decide +kernel
theorem dX4_keep_19 : decode cX4_keep 19 = .ok (.iadd, 1) := by decide +kernel
theorem dX4_keep_20 : decode cX4_keep 20 = .ok (.bipush 8, 2) := by decide +kernel
theorem dX4_keep_22 : decode cX4_keep 22 = .ok (.irem, 1) := by decide +kernel
theorem dX4_keep_23 : decode cX4_keep 23 = .ok (.putfield 17, 3) := by decide +kernel
theorem dX4_keep_26 : decode cX4_keep 26 = .ok (.aload_n 0, 1) := by decide +kernel
theorem dX4_keep_27 : decode cX4_keep 27 = .ok (.aload_n 0, 1) := by decide +kernel
theorem dX4_keep_28 : decode cX4_keep 28 = .ok (.getfield 21, 3) := by decide +kernel
theorem dX4_keep_31 : decode cX4_keep 31 = .ok (.iconst 1, 1) := by decide +kernel
theorem dX4_keep_32 : decode cX4_keep 32 = .ok (.iadd, 1) := by decide +kernel
theorem dX4_keep_33 : decode cX4_keep 33 = .ok (.bipush 8, 2) := by decide +kernel
theorem dX4_keep_35 : decode cX4_keep 35 = .ok (.invokestatic 29, 3) := by decide +kernel
theorem dX4_keep_38 : decode cX4_keep 38 = .ok (.putfield 21, 3) := by decide +kernel
theorem dX4_keep_41 : decode cX4_keep 41 = .ok (.return_, 1) := by decide +kernel
theorem dX4_takeBack_0 : decode cX4_takeBack 0 = .ok (.aload_n 0, 1) := by decide +kernel
theorem dX4_takeBack_1 : decode cX4_takeBack 1 = .ok (.aload_n 0, 1) := by decide +kernel
theorem dX4_takeBack_2 : decode cX4_takeBack 2 = .ok (.getfield 17, 3) := by decide +kernel
theorem dX4_takeBack_5 : decode cX4_takeBack 5 = .ok (.bipush 8, 2) := by decide +kernel
theorem dX4_takeBack_7 : decode cX4_takeBack 7 = .ok (.iadd, 1) := by decide +kernel
theorem dX4_takeBack_8 : decode cX4_takeBack 8 = .ok (.iconst 1, 1) := by decide +kernel
theorem dX4_takeBack_9 : decode cX4_takeBack 9 = .ok (.isub, 1) := by decide +kernel
theorem dX4_takeBack_10 : decode cX4_takeBack 10 = .ok (.bipush 8, 2) := by decide +kernel
theorem dX4_takeBack_12 : decode cX4_takeBack 12 = .ok (.irem, 1) := by decide +kernel
theorem dX4_takeBack_13 : decode cX4_takeBack 13 = .ok (.putfield 17, 3) := by decide +kernel
theorem dX4_takeBack_16 : decode cX4_takeBack 16 = .ok (.aload_n 0, 1) := by decide +kernel
theorem dX4_takeBack_17 : decode cX4_takeBack 17 = .ok (.dup, 1) := by decide +kernel
theorem dX4_takeBack_18 : decode cX4_takeBack 18 = .ok (.getfield 21, 3) := by decide +kernel
theorem dX4_takeBack_21 : decode cX4_takeBack 21 = .ok (.iconst 1, 1) := by decide +kernel
theorem dX4_takeBack_22 : decode cX4_takeBack 22 = .ok (.isub, 1) := by decide +kernel
theorem dX4_takeBack_23 : decode cX4_takeBack 23 = .ok (.putfield 21, 3) := by decide +kernel
theorem dX4_takeBack_26 : decode cX4_takeBack 26 = .ok (.aload_n 1, 1) := by decide +kernel
theorem dX4_takeBack_27 : decode cX4_takeBack 27 = .ok (.aload_n 0, 1) := by decide +kernel
theorem dX4_takeBack_28 : decode cX4_takeBack 28 = .ok (.getfield 11, 3) := by decide +kernel
theorem dX4_takeBack_31 : decode cX4_takeBack 31 = .ok (.aload_n 0, 1) := by decide +kernel
theorem dX4_takeBack_32 : decode cX4_takeBack 32 = .ok (.getfield 17, 3) := by decide +kernel
theorem dX4_takeBack_35 : decode cX4_takeBack 35 = .ok (.aaload, 1) := by decide +kernel
theorem dX4_takeBack_36 : decode cX4_takeBack 36 = .ok (.invokevirtual 25, 3) := by decide +kernel
theorem dX4_takeBack_39 : decode cX4_takeBack 39 = .ok (.return_, 1) := by decide +kernel
theorem dX4_forget_0 : decode cX4_forget 0 = .ok (.aload_n 0, 1) := by decide +kernel
theorem dX4_forget_1 : decode cX4_forget 1 = .ok (.iconst 0, 1) := by decide +kernel
theorem dX4_forget_2 : decode cX4_forget 2 = .ok (.putfield 21, 3) := by decide +kernel
theorem dX4_forget_5 : decode cX4_forget 5 = .ok (.return_, 1) := by decide +kernel
theorem dX5_init_0 : decode cX5_init 0 = .ok (.aload_n 0, 1) := by decide +kernel
theorem dX5_init_1 : decode cX5_init 1 = .ok (.invokespecial 3, 3) := by decide +kernel
theorem dX5_init_4 : decode cX5_init 4 = .ok (.aload_n 0, 1) := by decide +kernel
theorem dX5_init_5 : decode cX5_init 5 = .ok (.bipush 64, 2) := by decide +kernel
theorem dX5_init_7 : decode cX5_init 7 = .ok (.newarray .int, 2) := by decide +kernel
theorem dX5_init_9 : decode cX5_init 9 = .ok (.putfield 9, 3) := by decide +kernel
theorem dX5_init_12 : decode cX5_init 12 = .ok (.aload_n 0, 1) := by decide +kernel
theorem dX5_init_13 : decode cX5_init 13 = .ok (.bipush 64, 2) := by decide +kernel
theorem dX5_init_15 : decode cX5_init 15 = .ok (.newarray .int, 2) := by decide +kernel
theorem dX5_init_17 : decode cX5_init 17 = .ok (.putfield 15, 3) := by decide +kernel
theorem dX5_init_20 : decode cX5_init 20 = .ok (.aload_n 0, 1) := by decide +kernel
theorem dX5_init_21 : decode cX5_init 21 = .ok (.bipush 7, 2) := by decide +kernel
theorem dX5_init_23 : decode cX5_init 23 = .ok (.newarray .int, 2) := by decide +kernel
theorem dX5_init_25 : decode cX5_init 25 = .ok (.putfield 18, 3) := by decide +kernel
theorem dX5_init_28 : decode cX5_init 28 = .ok (.aload_n 0, 1) := by decide +kernel
theorem dX5_init_29 : decode cX5_init 29 = .ok (.bipush 7, 2) := by decide +kernel
theorem dX5_init_31 : decode cX5_init 31 = .ok (.bipush 65, 2) := by decide +kernel
theorem dX5_init_33 : decode cX5_init 33 = .ok (.multianewarray 21 2, 4) := by decide +kernel
theorem dX5_init_37 : decode cX5_init 37 = .ok (.putfield 23, 3) := by decide +kernel
theorem dX5_init_40 : decode cX5_init 40 = .ok (.aload_n 0, 1) := by decide +kernel
theorem dX5_init_41 : decode cX5_init 41 = .ok (.iconst 0, 1) := by decide +kernel
theorem dX5_init_42 : decode cX5_init 42 = .ok (.putfield 26, 3) := by decide +kernel
theorem dX5_init_45 : decode cX5_init 45 = .ok (.aload_n 0, 1) := by decide +kernel
theorem dX5_init_46 : decode cX5_init 46 = .ok (.iconst 0, 1) := by decide +kernel
theorem dX5_init_47 : decode cX5_init 47 = .ok (.putfield 30, 3) := by decide +kernel
theorem dX5_init_50 : decode cX5_init 50 = .ok (.return_, 1) := by decide +kernel
theorem dX5_draw_0 : decode cX5_draw 0 = .ok (.aload_n 0, 1) := by decide +kernel
theorem dX5_draw_1 : decode cX5_draw 1 = .ok (.aload_n 1, 1) := by decide +kernel
theorem dX5_draw_2 : decode cX5_draw 2 = .ok (.invokevirtual 33, 3) := by decide +kernel
theorem dX5_draw_5 : decode cX5_draw 5 = .ok (.iconst 0, 1) := by decide +kernel
theorem dX5_draw_6 : decode cX5_draw 6 = .ok (.invokestatic 37, 3) := by decide +kernel
theorem dX5_draw_9 : decode cX5_draw 9 = .ok (.lstore_n 3, 1) := by decide +kernel
theorem dX5_draw_10 : decode cX5_draw 10 = .ok (.iconst 1, 1) := by decide +kernel
theorem dX5_draw_11 : decode cX5_draw 11 = .ok (.istore 5, 2) := by decide +kernel
theorem dX5_draw_13 : decode cX5_draw 13 = .ok (.iload 5, 2) := by decide +kernel
theorem dX5_draw_15 : decode cX5_draw 15 = .ok (.iload_n 2, 1) := by decide +kernel
theorem dX5_draw_16 : decode cX5_draw 16 = .ok (.if_icmp .ge 20, 3) := by decide +kernel
theorem dX5_draw_19 : decode cX5_draw 19 = .ok (.lload_n 3, 1) := by decide +kernel
theorem dX5_draw_20 : decode cX5_draw 20 = .ok (.aload_n 0, 1) := by decide +kernel
theorem dX5_draw_21 : decode cX5_draw 21 = .ok (.lload_n 3, 1) := by decide +kernel
theorem dX5_draw_22 : decode cX5_draw 22 = .ok (.invokevirtual 43, 3) := by decide +kernel
theorem dX5_draw_25 : decode cX5_draw 25 = .ok (.invokestatic 37, 3) := by decide +kernel
theorem dX5_draw_28 : decode cX5_draw 28 = .ok (.lor, 1) := by decide +kernel
theorem dX5_draw_29 : decode cX5_draw 29 = .ok (.lstore_n 3, 1) := by decide +kernel
theorem dX5_draw_30 : decode cX5_draw 30 = .ok (.iinc 5 1, 3) := by decide +kernel
theorem dX5_draw_33 : decode cX5_draw 33 = .ok (.goto (-20), 3) := by decide +kernel
theorem dX5_draw_36 : decode cX5_draw 36 = .ok (.aload_n 0, 1) := by decide +kernel
theorem dX5_draw_37 : decode cX5_draw 37 = .ok (.iconst 0, 1) := by decide +kernel
theorem dX5_draw_38 : decode cX5_draw 38 = .ok (.putfield 30, 3) := by decide +kernel
theorem dX5_draw_41 : decode cX5_draw 41 = .ok (.iconst 0, 1) := by decide +kernel
theorem dX5_draw_42 : decode cX5_draw 42 = .ok (.istore 5, 2) := by decide +kernel
theorem dX5_draw_44 : decode cX5_draw 44 = .ok (.iload 5, 2) := by decide +kernel
theorem dX5_draw_46 : decode cX5_draw 46 = .ok (.aload_n 0, 1) := by decide +kernel
theorem dX5_draw_47 : decode cX5_draw 47 = .ok (.getfield 26, 3) := by decide +kernel
theorem dX5_draw_50 : decode cX5_draw 50 = .ok (.if_icmp .ge 48, 3) := by decide +kernel
theorem dX5_draw_53 : decode cX5_draw 53 = .ok (.aload_n 0, 1) := by decide +kernel
theorem dX5_draw_54 : decode cX5_draw 54 = .ok (.getfield 30, 3) := by decide +kernel
theorem dX5_draw_57 : decode cX5_draw 57 = .ok (.bipush 6, 2) := by decide +kernel
theorem dX5_draw_59 : decode cX5_draw 59 = .ok (.if_icmp .ge 39, 3) := by decide +kernel
theorem dX5_draw_62 : decode cX5_draw 62 = .ok (.lload_n 3, 1) := by decide +kernel
theorem dX5_draw_63 : decode cX5_draw 63 = .ok (.iload 5, 2) := by decide +kernel
theorem dX5_draw_65 : decode cX5_draw 65 = .ok (.invokestatic 47, 3) := by decide +kernel
theorem dX5_draw_68 : decode cX5_draw 68 = .ok (.ifCond .eq 24, 3) := by decide +kernel
theorem dX5_draw_71 : decode cX5_draw 71 = .ok (.aload_n 0, 1) := by decide +kernel
theorem dX5_draw_72 : decode cX5_draw 72 = .ok (.getfield 18, 3) := by decide +kernel
theorem dX5_draw_75 : decode cX5_draw 75 = .ok (.aload_n 0, 1) := by decide +kernel
theorem dX5_draw_76 : decode cX5_draw 76 = .ok (.getfield 30, 3) := by decide +kernel
theorem dX5_draw_79 : decode cX5_draw 79 = .ok (.iload 5, 2) := by decide +kernel
theorem dX5_draw_81 : decode cX5_draw 81 = .ok (.iastore, 1) := by decide +kernel
theorem dX5_draw_82 : decode cX5_draw 82 = .ok (.aload_n 0, 1) := by decide +kernel
theorem dX5_draw_83 : decode cX5_draw 83 = .ok (.dup, 1) := by decide +kernel
theorem dX5_draw_84 : decode cX5_draw 84 = .ok (.getfield 30, 3) := by decide +kernel
theorem dX5_draw_87 : decode cX5_draw 87 = .ok (.iconst 1, 1) := by decide +kernel
theorem dX5_draw_88 : decode cX5_draw 88 = .ok (.iadd, 1) := by decide +kernel
theorem dX5_draw_89 : decode cX5_draw 89 = .ok (.putfield 30, 3) := by decide +kernel
theorem dX5_draw_92 : decode cX5_draw 92 = .ok (.iinc 5 1, 3) := by decide +kernel
theorem dX5_draw_95 : decode cX5_draw 95 = .ok (.goto (-51), 3) := by decide +kernel
theorem dX5_draw_98 : decode cX5_draw 98 = .ok (.aload_n 0, 1) := by decide +kernel
theorem dX5_draw_99 : decode cX5_draw 99 = .ok (.getfield 18, 3) := by decide +kernel
theorem dX5_draw_102 : decode cX5_draw 102 = .ok (.aload_n 0, 1) := by decide +kernel
theorem dX5_draw_103 : decode cX5_draw 103 = .ok (.getfield 30, 3) := by decide +kernel
theorem dX5_draw_106 : decode cX5_draw 106 = .ok (.aload_n 0, 1) := by decide +kernel
theorem dX5_draw_107 : decode cX5_draw 107 = .ok (.getfield 26, 3) := by decide +kernel
theorem dX5_draw_110 : decode cX5_draw 110 = .ok (.iastore, 1) := by decide +kernel
theorem dX5_draw_111 : decode cX5_draw 111 = .ok (.return_, 1) := by decide +kernel
theorem dX5_readHeats_0 : decode cX5_readHeats 0 = .ok (.aload_n 0, 1) := by decide +kernel
theorem dX5_readHeats_1 : decode cX5_readHeats 1 = .ok (.iconst 0, 1) := by decide +kernel
theorem dX5_readHeats_2 : decode cX5_readHeats 2 = .ok (.putfield 26, 3) := by decide +kernel
theorem dX5_readHeats_5 : decode cX5_readHeats 5 = .ok (.iconst 0, 1) := by decide +kernel
theorem dX5_readHeats_6 : decode cX5_readHeats 6 = .ok (.istore_n 2, 1) := by decide +kernel
theorem dX5_readHeats_7 : decode cX5_readHeats 7 = .ok (.iload_n 2, 1) := by decide +kernel
theorem dX5_readHeats_8 : decode cX5_readHeats 8 = .ok (.bipush 64, 2) := by decide +kernel
theorem dX5_readHeats_10 : decode cX5_readHeats 10 = .ok (.if_icmp .ge 28, 3) := by decide +kernel
theorem dX5_readHeats_13 : decode cX5_readHeats 13 = .ok (.aload_n 1, 1) := by decide +kernel
theorem dX5_readHeats_14 : decode cX5_readHeats 14 = .ok (.iload_n 2, 1) := by decide +kernel
theorem dX5_readHeats_15 : decode cX5_readHeats 15 = .ok (.invokevirtual 51, 3) := by decide +kernel
theorem dX5_readHeats_18 : decode cX5_readHeats 18 = .ok (.ifCond .ne 14, 3) := by decide +kernel
theorem dX5_readHeats_21 : decode cX5_readHeats 21 = .ok (.aload_n 0, 1) := by decide +kernel
theorem dX5_readHeats_22 : decode cX5_readHeats 22 = .ok (.iload_n 2, 1) := by decide +kernel
theorem dX5_readHeats_23 : decode cX5_readHeats 23 = .ok (.aload_n 1, 1) := by decide +kernel
theorem dX5_readHeats_24 : decode cX5_readHeats 24 = .ok (.getfield 57, 3) := by decide +kernel
theorem dX5_readHeats_27 : decode cX5_readHeats 27 = .ok (.iload_n 2, 1) := by decide +kernel
theorem dX5_readHeats_28 : decode cX5_readHeats 28 = .ok (.iaload, 1) := by decide +kernel
theorem dX5_readHeats_29 : decode cX5_readHeats 29 = .ok (.invokevirtual 60, 3) := by decide +kernel
theorem dX5_readHeats_32 : decode cX5_readHeats 32 = .ok (.iinc 2 1, 3) := by decide +kernel
theorem dX5_readHeats_35 : decode cX5_readHeats 35 = .ok (.goto (-28), 3) := by decide +kernel
theorem dX5_readHeats_38 : decode cX5_readHeats 38 = .ok (.return_, 1) := by decide +kernel
theorem dX5_insert_0 : decode cX5_insert 0 = .ok (.aload_n 0, 1) := by decide +kernel
theorem dX5_insert_1 : decode cX5_insert 1 = .ok (.getfield 26, 3) := by decide +kernel
theorem dX5_insert_4 : decode cX5_insert 4 = .ok (.bipush 64, 2) := by decide +kernel
theorem dX5_insert_6 : decode cX5_insert 6 = .ok (.if_icmp .lt 4, 3) := by decide +kernel
theorem dX5_insert_9 : decode cX5_insert 9 = .ok (.return_, 1) := by decide +kernel
theorem dX5_insert_10 : decode cX5_insert 10 = .ok (.aload_n 0, 1) := by decide +kernel
theorem dX5_insert_11 : decode cX5_insert 11 = .ok (.getfield 26, 3) := by decide +kernel
theorem dX5_insert_14 : decode cX5_insert 14 = .ok (.istore_n 3, 1) := by decide +kernel
theorem dX5_insert_15 : decode cX5_insert 15 = .ok (.iload_n 3, 1) := by decide +kernel
theorem dX5_insert_16 : decode cX5_insert 16 = .ok (.ifCond .le 49, 3) := by decide +kernel
theorem dX5_insert_19 : decode cX5_insert 19 = .ok (.aload_n 0, 1) := by decide +kernel
theorem dX5_insert_20 : decode cX5_insert 20 = .ok (.getfield 15, 3) := by decide +kernel
theorem dX5_insert_23 : decode cX5_insert 23 = .ok (.iload_n 3, 1) := by decide +kernel
theorem dX5_insert_24 : decode cX5_insert 24 = .ok (.iconst 1, 1) := by decide +kernel
theorem dX5_insert_25 : decode cX5_insert 25 = .ok (.isub, 1) := by decide +kernel
theorem dX5_insert_26 : decode cX5_insert 26 = .ok (.iaload, 1) := by decide +kernel
theorem dX5_insert_27 : decode cX5_insert 27 = .ok (.iload_n 2, 1) := by decide +kernel
theorem dX5_insert_28 : decode cX5_insert 28 = .ok (.if_icmp .le 37, 3) := by decide +kernel
theorem dX5_insert_31 : decode cX5_insert 31 = .ok (.aload_n 0, 1) := by decide +kernel
theorem dX5_insert_32 : decode cX5_insert 32 = .ok (.getfield 15, 3) := by decide +kernel
theorem dX5_insert_35 : decode cX5_insert 35 = .ok (.iload_n 3, 1) := by decide +kernel
theorem dX5_insert_36 : decode cX5_insert 36 = .ok (.aload_n 0, 1) := by decide +kernel
theorem dX5_insert_37 : decode cX5_insert 37 = .ok (.getfield 15, 3) := by decide +kernel
theorem dX5_insert_40 : decode cX5_insert 40 = .ok (.iload_n 3, 1) := by decide +kernel
theorem dX5_insert_41 : decode cX5_insert 41 = .ok (.iconst 1, 1) := by decide +kernel
theorem dX5_insert_42 : decode cX5_insert 42 = .ok (.isub, 1) := by decide +kernel
theorem dX5_insert_43 : decode cX5_insert 43 = .ok (.iaload, 1) := by decide +kernel
theorem dX5_insert_44 : decode cX5_insert 44 = .ok (.iastore, 1) := by decide +kernel
theorem dX5_insert_45 : decode cX5_insert 45 = .ok (.aload_n 0, 1) := by decide +kernel
theorem dX5_insert_46 : decode cX5_insert 46 = .ok (.getfield 9, 3) := by decide +kernel
theorem dX5_insert_49 : decode cX5_insert 49 = .ok (.iload_n 3, 1) := by decide +kernel
theorem dX5_insert_50 : decode cX5_insert 50 = .ok (.aload_n 0, 1) := by decide +kernel
theorem dX5_insert_51 : decode cX5_insert 51 = .ok (.getfield 9, 3) := by decide +kernel
theorem dX5_insert_54 : decode cX5_insert 54 = .ok (.iload_n 3, 1) := by decide +kernel
theorem dX5_insert_55 : decode cX5_insert 55 = .ok (.iconst 1, 1) := by decide +kernel
theorem dX5_insert_56 : decode cX5_insert 56 = .ok (.isub, 1) := by decide +kernel
theorem dX5_insert_57 : decode cX5_insert 57 = .ok (.iaload, 1) := by decide +kernel
theorem dX5_insert_58 : decode cX5_insert 58 = .ok (.iastore, 1) := by decide +kernel
theorem dX5_insert_59 : decode cX5_insert 59 = .ok (.iinc 3 (-1), 3) := by decide +kernel
theorem dX5_insert_62 : decode cX5_insert 62 = .ok (.goto (-47), 3) := by decide +kernel
theorem dX5_insert_65 : decode cX5_insert 65 = .ok (.aload_n 0, 1) := by decide +kernel
theorem dX5_insert_66 : decode cX5_insert 66 = .ok (.getfield 15, 3) := by decide +kernel
theorem dX5_insert_69 : decode cX5_insert 69 = .ok (.iload_n 3, 1) := by decide +kernel
theorem dX5_insert_70 : decode cX5_insert 70 = .ok (.iload_n 2, 1) := by decide +kernel
theorem dX5_insert_71 : decode cX5_insert 71 = .ok (.iastore, 1) := by decide +kernel
theorem dX5_insert_72 : decode cX5_insert 72 = .ok (.aload_n 0, 1) := by decide +kernel
theorem dX5_insert_73 : decode cX5_insert 73 = .ok (.getfield 9, 3) := by decide +kernel
theorem dX5_insert_76 : decode cX5_insert 76 = .ok (.iload_n 3, 1) := by decide +kernel
theorem dX5_insert_77 : decode cX5_insert 77 = .ok (.iload_n 1, 1) := by decide +kernel
theorem dX5_insert_78 : decode cX5_insert 78 = .ok (.iastore, 1) := by decide +kernel
theorem dX5_insert_79 : decode cX5_insert 79 = .ok (.aload_n 0, 1) := by decide +kernel
theorem dX5_insert_80 : decode cX5_insert 80 = .ok (.dup, 1) := by decide +kernel
theorem dX5_insert_81 : decode cX5_insert 81 = .ok (.getfield 26, 3) := by decide +kernel
theorem dX5_insert_84 : decode cX5_insert 84 = .ok (.iconst 1, 1) := by decide +kernel
theorem dX5_insert_85 : decode cX5_insert 85 = .ok (.iadd, 1) := by decide +kernel
theorem dX5_insert_86 : decode cX5_insert 86 = .ok (.putfield 26, 3) := by decide +kernel
theorem dX5_insert_89 : decode cX5_insert 89 = .ok (.return_, 1) := by decide +kernel
theorem dX5_placeOfGreatestGap_0 : decode cX5_placeOfGreatestGap 0 = .ok (.iconst 0, 1) := by decide +kernel
theorem dX5_placeOfGreatestGap_1 : decode cX5_placeOfGreatestGap 1 = .ok (.istore_n 3, 1) := by decide +kernel
theorem dX5_placeOfGreatestGap_2 : decode cX5_placeOfGreatestGap 2 = .ok (.iconst (-1), 1) := by decide +kernel
theorem dX5_placeOfGreatestGap_3 : decode cX5_placeOfGreatestGap 3 = .ok (.istore 4, 2) := by decide +kernel
theorem dX5_placeOfGreatestGap_5 : decode cX5_placeOfGreatestGap 5 = .ok (.iconst 1, 1) := by decide +kernel
theorem dX5_placeOfGreatestGap_6 : decode cX5_placeOfGreatestGap 6 = .ok (.istore 5, 2) := by decide +kernel
theorem dX5_placeOfGreatestGap_8 : decode cX5_placeOfGreatestGap 8 = .ok (.iload 5, 2) := by decide +kernel
theorem dX5_placeOfGreatestGap_10 : decode cX5_placeOfGreatestGap 10 = .ok (.aload_n 0, 1) := by decide +kernel
theorem dX5_placeOfGreatestGap_11 : decode cX5_placeOfGreatestGap 11 = .ok (.getfield 26, 3) := by decide +kernel
theorem dX5_placeOfGreatestGap_14 : decode cX5_placeOfGreatestGap 14 = .ok (.if_icmp .ge 51, 3) := by decide +kernel
theorem dX5_placeOfGreatestGap_17 : decode cX5_placeOfGreatestGap 17 = .ok (.aload_n 0, 1) := by decide +kernel
theorem dX5_placeOfGreatestGap_18 : decode cX5_placeOfGreatestGap 18 = .ok (.getfield 15, 3) := by decide +kernel
theorem dX5_placeOfGreatestGap_21 : decode cX5_placeOfGreatestGap 21 = .ok (.iload 5, 2) := by decide +kernel
theorem dX5_placeOfGreatestGap_23 : decode cX5_placeOfGreatestGap 23 = .ok (.iaload, 1) := by decide +kernel
theorem dX5_placeOfGreatestGap_24 : decode cX5_placeOfGreatestGap 24 = .ok (.aload_n 0, 1) := by decide +kernel
theorem dX5_placeOfGreatestGap_25 : decode cX5_placeOfGreatestGap 25 = .ok (.getfield 15, 3) := by decide +kernel
theorem dX5_placeOfGreatestGap_28 : decode cX5_placeOfGreatestGap 28 = .ok (.iload 5, 2) := by decide +kernel
theorem dX5_placeOfGreatestGap_30 : decode cX5_placeOfGreatestGap 30 = .ok (.iconst 1, 1) := by decide +kernel
theorem dX5_placeOfGreatestGap_31 : decode cX5_placeOfGreatestGap 31 = .ok (.isub, 1) := by decide +kernel
theorem dX5_placeOfGreatestGap_32 : decode cX5_placeOfGreatestGap 32 = .ok (.iaload, 1) := by decide +kernel
theorem dX5_placeOfGreatestGap_33 : decode cX5_placeOfGreatestGap 33 = .ok (.isub, 1) := by decide +kernel
theorem dX5_placeOfGreatestGap_34 : decode cX5_placeOfGreatestGap 34 = .ok (.istore 6, 2) := by decide +kernel
theorem dX5_placeOfGreatestGap_36 : decode cX5_placeOfGreatestGap 36 = .ok (.iload 6, 2) := by decide +kernel
theorem dX5_placeOfGreatestGap_38 : decode cX5_placeOfGreatestGap 38 = .ok (.iload 4, 2) := by decide +kernel
theorem dX5_placeOfGreatestGap_40 : decode cX5_placeOfGreatestGap 40 = .ok (.if_icmp .le 19, 3) := by decide +kernel
theorem dX5_placeOfGreatestGap_43 : decode cX5_placeOfGreatestGap 43 = .ok (.lload_n 1, 1) := by decide +kernel
theorem dX5_placeOfGreatestGap_44 : decode cX5_placeOfGreatestGap 44 = .ok (.iload 5, 2) := by decide +kernel
theorem dX5_placeOfGreatestGap_46 : decode cX5_placeOfGreatestGap 46 = .ok (.invokestatic 47, 3) := by decide +kernel
theorem dX5_placeOfGreatestGap_49 : decode cX5_placeOfGreatestGap 49 = .ok (.ifCond .ne 10, 3) := by decide +kernel
theorem dX5_placeOfGreatestGap_52 : decode cX5_placeOfGreatestGap 52 = .ok (.iload 5, 2) := by decide +kernel
theorem dX5_placeOfGreatestGap_54 : decode cX5_placeOfGreatestGap 54 = .ok (.istore_n 3, 1) := by decide +kernel
theorem dX5_placeOfGreatestGap_55 : decode cX5_placeOfGreatestGap 55 = .ok (.iload 6, 2) := by decide +kernel
theorem dX5_placeOfGreatestGap_57 : decode cX5_placeOfGreatestGap 57 = .ok (.istore 4, 2) := by decide +kernel
theorem dX5_placeOfGreatestGap_59 : decode cX5_placeOfGreatestGap 59 = .ok (.iinc 5 1, 3) := by decide +kernel
theorem dX5_placeOfGreatestGap_62 : decode cX5_placeOfGreatestGap 62 = .ok (.goto (-54), 3) := by decide +kernel
theorem dX5_placeOfGreatestGap_65 : decode cX5_placeOfGreatestGap 65 = .ok (.iload_n 3, 1) := by decide +kernel
theorem dX5_placeOfGreatestGap_66 : decode cX5_placeOfGreatestGap 66 = .ok (.ireturn, 1) := by decide +kernel
theorem dX5_smallestHeat_0 : decode cX5_smallestHeat 0 = .ok (.aload_n 0, 1) := by decide +kernel
theorem dX5_smallestHeat_1 : decode cX5_smallestHeat 1 = .ok (.iload_n 1, 1) := by decide +kernel
theorem dX5_smallestHeat_2 : decode cX5_smallestHeat 2 = .ok (.invokevirtual 64, 3) := by decide +kernel
theorem dX5_smallestHeat_5 : decode cX5_smallestHeat 5 = .ok (.ifCond .eq 17, 3) := by decide +kernel
theorem dX5_smallestHeat_8 : decode cX5_smallestHeat 8 = .ok (.aload_n 0, 1) := by decide +kernel
theorem dX5_smallestHeat_9 : decode cX5_smallestHeat 9 = .ok (.getfield 15, 3) := by decide +kernel
theorem dX5_smallestHeat_12 : decode cX5_smallestHeat 12 = .ok (.aload_n 0, 1) := by decide +kernel
theorem dX5_smallestHeat_13 : decode cX5_smallestHeat 13 = .ok (.getfield 18, 3) := by decide +kernel
theorem dX5_smallestHeat_16 : decode cX5_smallestHeat 16 = .ok (.iload_n 1, 1) := by decide +kernel
theorem dX5_smallestHeat_17 : decode cX5_smallestHeat 17 = .ok (.iaload, 1) := by decide +kernel
theorem dX5_smallestHeat_18 : decode cX5_smallestHeat 18 = .ok (.iaload, 1) := by decide +kernel
theorem dX5_smallestHeat_19 : decode cX5_smallestHeat 19 = .ok (.goto 4, 3) := by decide +kernel
theorem dX5_smallestHeat_22 : decode cX5_smallestHeat 22 = .ok (.iconst 0, 1) := by decide +kernel
theorem dX5_smallestHeat_23 : decode cX5_smallestHeat 23 = .ok (.ireturn, 1) := by decide +kernel
theorem dX5_greatestHeat_0 : decode cX5_greatestHeat 0 = .ok (.aload_n 0, 1) := by decide +kernel
theorem dX5_greatestHeat_1 : decode cX5_greatestHeat 1 = .ok (.iload_n 1, 1) := by decide +kernel
theorem dX5_greatestHeat_2 : decode cX5_greatestHeat 2 = .ok (.invokevirtual 64, 3) := by decide +kernel
theorem dX5_greatestHeat_5 : decode cX5_greatestHeat 5 = .ok (.ifCond .eq 21, 3) := by decide +kernel
theorem dX5_greatestHeat_8 : decode cX5_greatestHeat 8 = .ok (.aload_n 0, 1) := by decide +kernel
theorem dX5_greatestHeat_9 : decode cX5_greatestHeat 9 = .ok (.getfield 15, 3) := by decide +kernel
theorem dX5_greatestHeat_12 : decode cX5_greatestHeat 12 = .ok (.aload_n 0, 1) := by decide +kernel
theorem dX5_greatestHeat_13 : decode cX5_greatestHeat 13 = .ok (.getfield 18, 3) := by decide +kernel
theorem dX5_greatestHeat_16 : decode cX5_greatestHeat 16 = .ok (.iload_n 1, 1) := by decide +kernel
theorem dX5_greatestHeat_17 : decode cX5_greatestHeat 17 = .ok (.iconst 1, 1) := by decide +kernel
theorem dX5_greatestHeat_18 : decode cX5_greatestHeat 18 = .ok (.iadd, 1) := by decide +kernel
theorem dX5_greatestHeat_19 : decode cX5_greatestHeat 19 = .ok (.iaload, 1) := by decide +kernel
theorem dX5_greatestHeat_20 : decode cX5_greatestHeat 20 = .ok (.iconst 1, 1) := by decide +kernel
theorem dX5_greatestHeat_21 : decode cX5_greatestHeat 21 = .ok (.isub, 1) := by decide +kernel
theorem dX5_greatestHeat_22 : decode cX5_greatestHeat 22 = .ok (.iaload, 1) := by decide +kernel
theorem dX5_greatestHeat_23 : decode cX5_greatestHeat 23 = .ok (.goto 4, 3) := by decide +kernel
theorem dX5_greatestHeat_26 : decode cX5_greatestHeat 26 = .ok (.iconst 0, 1) := by decide +kernel
theorem dX5_greatestHeat_27 : decode cX5_greatestHeat 27 = .ok (.ireturn, 1) := by decide +kernel
theorem dX5_isDrawn_0 : decode cX5_isDrawn 0 = .ok (.iload_n 1, 1) := by decide +kernel
theorem dX5_isDrawn_1 : decode cX5_isDrawn 1 = .ok (.ifCond .lt 15, 3) := by decide +kernel
theorem dX5_isDrawn_4 : decode cX5_isDrawn 4 = .ok (.iload_n 1, 1) := by decide +kernel
theorem dX5_isDrawn_5 : decode cX5_isDrawn 5 = .ok (.aload_n 0, 1) := by decide +kernel
theorem dX5_isDrawn_6 : decode cX5_isDrawn 6 = .ok (.getfield 30, 3) := by decide +kernel
theorem dX5_isDrawn_9 : decode cX5_isDrawn 9 = .ok (.if_icmp .ge 7, 3) := by decide +kernel
theorem dX5_isDrawn_12 : decode cX5_isDrawn 12 = .ok (.iconst 1, 1) := by decide +kernel
theorem dX5_isDrawn_13 : decode cX5_isDrawn 13 = .ok (.goto 4, 3) := by decide +kernel
theorem dX5_isDrawn_16 : decode cX5_isDrawn 16 = .ok (.iconst 0, 1) := by decide +kernel
theorem dX5_isDrawn_17 : decode cX5_isDrawn 17 = .ok (.ireturn, 1) := by decide +kernel
theorem dX5_spread_0 : decode cX5_spread 0 = .ok (.iconst 0, 1) := by decide +kernel
theorem dX5_spread_1 : decode cX5_spread 1 = .ok (.istore_n 1, 1) := by decide +kernel
theorem dX5_spread_2 : decode cX5_spread 2 = .ok (.iconst 0, 1) := by decide +kernel
theorem dX5_spread_3 : decode cX5_spread 3 = .ok (.istore_n 2, 1) := by decide +kernel
theorem dX5_spread_4 : decode cX5_spread 4 = .ok (.iload_n 2, 1) := by decide +kernel
theorem dX5_spread_5 : decode cX5_spread 5 = .ok (.aload_n 0, 1) := by decide +kernel
theorem dX5_spread_6 : decode cX5_spread 6 = .ok (.getfield 30, 3) := by decide +kernel
theorem dX5_spread_9 : decode cX5_spread 9 = .ok (.if_icmp .ge 23, 3) := by decide +kernel
theorem dX5_spread_12 : decode cX5_spread 12 = .ok (.iload_n 1, 1) := by decide +kernel
theorem dX5_spread_13 : decode cX5_spread 13 = .ok (.aload_n 0, 1) := by decide +kernel
theorem dX5_spread_14 : decode cX5_spread 14 = .ok (.iload_n 2, 1) := by decide +kernel
theorem dX5_spread_15 : decode cX5_spread 15 = .ok (.invokevirtual 67, 3) := by decide +kernel
theorem dX5_spread_18 : decode cX5_spread 18 = .ok (.aload_n 0, 1) := by decide +kernel
theorem dX5_spread_19 : decode cX5_spread 19 = .ok (.iload_n 2, 1) := by decide +kernel
theorem dX5_spread_20 : decode cX5_spread 20 = .ok (.invokevirtual 71, 3) := by decide +kernel
theorem dX5_spread_23 : decode cX5_spread 23 = .ok (.isub, 1) := by decide +kernel
theorem dX5_spread_24 : decode cX5_spread 24 = .ok (.iadd, 1) := by decide +kernel
theorem dX5_spread_25 : decode cX5_spread 25 = .ok (.istore_n 1, 1) := by decide +kernel
theorem dX5_spread_26 : decode cX5_spread 26 = .ok (.iinc 2 1, 3) := by decide +kernel
theorem dX5_spread_29 : decode cX5_spread 29 = .ok (.goto (-25), 3) := by decide +kernel
theorem dX5_spread_32 : decode cX5_spread 32 = .ok (.iload_n 1, 1) := by decide +kernel
theorem dX5_spread_33 : decode cX5_spread 33 = .ok (.ireturn, 1) := by decide +kernel
theorem dX5_classOfCell_0 : decode cX5_classOfCell 0 = .ok (.iconst 0, 1) := by decide +kernel
theorem dX5_classOfCell_1 : decode cX5_classOfCell 1 = .ok (.istore_n 2, 1) := by decide +kernel
theorem dX5_classOfCell_2 : decode cX5_classOfCell 2 = .ok (.iload_n 2, 1) := by decide +kernel
theorem dX5_classOfCell_3 : decode cX5_classOfCell 3 = .ok (.aload_n 0, 1) := by decide +kernel
theorem dX5_classOfCell_4 : decode cX5_classOfCell 4 = .ok (.getfield 30, 3) := by decide +kernel
theorem dX5_classOfCell_7 : decode cX5_classOfCell 7 = .ok (.if_icmp .ge 46, 3) := by decide +kernel
theorem dX5_classOfCell_10 : decode cX5_classOfCell 10 = .ok (.aload_n 0, 1) := by decide +kernel
theorem dX5_classOfCell_11 : decode cX5_classOfCell 11 = .ok (.getfield 18, 3) := by decide +kernel
theorem dX5_classOfCell_14 : decode cX5_classOfCell 14 = .ok (.iload_n 2, 1) := by decide +kernel
theorem dX5_classOfCell_15 : decode cX5_classOfCell 15 = .ok (.iaload, 1) := by decide +kernel
theorem dX5_classOfCell_16 : decode cX5_classOfCell 16 = .ok (.istore_n 3, 1) := by decide +kernel
theorem dX5_classOfCell_17 : decode cX5_classOfCell 17 = .ok (.iload_n 3, 1) := by decide +kernel
theorem dX5_classOfCell_18 : decode cX5_classOfCell 18 = .ok (.aload_n 0, 1) := by decide +kernel
theorem dX5_classOfCell_19 : decode cX5_classOfCell 19 = .ok (.getfield 18, 3) := by decide +kernel
theorem dX5_classOfCell_22 : decode cX5_classOfCell 22 = .ok (.iload_n 2, 1) := by decide +kernel
theorem dX5_classOfCell_23 : decode cX5_classOfCell 23 = .ok (.iconst 1, 1) := by decide +kernel
theorem dX5_classOfCell_24 : decode cX5_classOfCell 24 = .ok (.iadd, 1) := by decide +kernel
theorem dX5_classOfCell_25 : decode cX5_classOfCell 25 = .ok (.iaload, 1) := by decide +kernel
theorem dX5_classOfCell_26 : decode cX5_classOfCell 26 = .ok (.if_icmp .ge 21, 3) := by decide +kernel
theorem dX5_classOfCell_29 : decode cX5_classOfCell 29 = .ok (.aload_n 0, 1) := by decide +kernel
theorem dX5_classOfCell_30 : decode cX5_classOfCell 30 = .ok (.getfield 9, 3) := by decide +kernel
theorem dX5_classOfCell_33 : decode cX5_classOfCell 33 = .ok (.iload_n 3, 1) := by decide +kernel
theorem dX5_classOfCell_34 : decode cX5_classOfCell 34 = .ok (.iaload, 1) := by decide +kernel
theorem dX5_classOfCell_35 : decode cX5_classOfCell 35 = .ok (.iload_n 1, 1) := by decide +kernel
theorem dX5_classOfCell_36 : decode cX5_classOfCell 36 = .ok (.if_icmp .ne 5, 3) := by decide +kernel
theorem dX5_classOfCell_39 : decode cX5_classOfCell 39 = .ok (.iload_n 2, 1) := by decide +kernel
theorem dX5_classOfCell_40 : decode cX5_classOfCell 40 = .ok (.ireturn, 1) := by decide +kernel
theorem dX5_classOfCell_41 : decode cX5_classOfCell 41 = .ok (.iinc 3 1, 3) := by decide +kernel
theorem dX5_classOfCell_44 : decode cX5_classOfCell 44 = .ok (.goto (-27), 3) := by decide +kernel
theorem dX5_classOfCell_47 : decode cX5_classOfCell 47 = .ok (.iinc 2 1, 3) := by decide +kernel
theorem dX5_classOfCell_50 : decode cX5_classOfCell 50 = .ok (.goto (-48), 3) := by decide +kernel
theorem dX5_classOfCell_53 : decode cX5_classOfCell 53 = .ok (.iconst 0, 1) := by decide +kernel
theorem dX5_classOfCell_54 : decode cX5_classOfCell 54 = .ok (.ireturn, 1) := by decide +kernel
theorem dX5_findSpreadByTable_0 : decode cX5_findSpreadByTable 0 = .ok (.aload_n 0, 1) := by decide +kernel
theorem dX5_findSpreadByTable_1 : decode cX5_findSpreadByTable 1 = .ok (.aload_n 1, 1) := by decide +kernel
theorem dX5_findSpreadByTable_2 : decode cX5_findSpreadByTable 2 = .ok (.invokevirtual 33, 3) := by decide +kernel
theorem dX5_findSpreadByTable_5 : decode cX5_findSpreadByTable 5 = .ok (.iconst 1, 1) := by decide +kernel
theorem dX5_findSpreadByTable_6 : decode cX5_findSpreadByTable 6 = .ok (.istore_n 3, 1) := by decide +kernel
theorem dX5_findSpreadByTable_7 : decode cX5_findSpreadByTable 7 = .ok (.iload_n 3, 1) := by decide +kernel
theorem dX5_findSpreadByTable_8 : decode cX5_findSpreadByTable 8 = .ok (.aload_n 0, 1) := by decide +kernel
theorem dX5_findSpreadByTable_9 : decode cX5_findSpreadByTable 9 = .ok (.getfield 26, 3) := by decide +kernel
theorem dX5_findSpreadByTable_12 : decode cX5_findSpreadByTable 12 = .ok (.if_icmp .gt 32, 3) := by decide +kernel
theorem dX5_findSpreadByTable_15 : decode cX5_findSpreadByTable 15 = .ok (.aload_n 0, 1) := by decide +kernel
theorem dX5_findSpreadByTable_16 : decode cX5_findSpreadByTable 16 = .ok (.getfield 23, 3) := by decide +kernel
theorem dX5_findSpreadByTable_19 : decode cX5_findSpreadByTable 19 = .ok (.iconst 1, 1) := by decide +kernel
theorem dX5_findSpreadByTable_20 : decode cX5_findSpreadByTable 20 = .ok (.aaload, 1) := by decide +kernel
theorem dX5_findSpreadByTable_21 : decode cX5_findSpreadByTable 21 = .ok (.iload_n 3, 1) := by decide +kernel
theorem dX5_findSpreadByTable_22 : decode cX5_findSpreadByTable 22 = .ok (.aload_n 0, 1) := by decide +kernel
theorem dX5_findSpreadByTable_23 : decode cX5_findSpreadByTable 23 = .ok (.getfield 15, 3) := by decide +kernel
theorem dX5_findSpreadByTable_26 : decode cX5_findSpreadByTable 26 = .ok (.iload_n 3, 1) := by decide +kernel
theorem dX5_findSpreadByTable_27 : decode cX5_findSpreadByTable 27 = .ok (.iconst 1, 1) := by decide +kernel
theorem dX5_findSpreadByTable_28 : decode cX5_findSpreadByTable 28 = .ok (.isub, 1) := by decide +kernel
theorem dX5_findSpreadByTable_29 : decode cX5_findSpreadByTable 29 = .ok (.iaload, 1) := by decide +kernel
theorem dX5_findSpreadByTable_30 : decode cX5_findSpreadByTable 30 = .ok (.aload_n 0, 1) := by decide +kernel
theorem dX5_findSpreadByTable_31 : decode cX5_findSpreadByTable 31 = .ok (.getfield 15, 3) := by decide +kernel
theorem dX5_findSpreadByTable_34 : decode cX5_findSpreadByTable 34 = .ok (.iconst 0, 1) := by decide +kernel
theorem dX5_findSpreadByTable_35 : decode cX5_findSpreadByTable 35 = .ok (.iaload, 1) := by decide +kernel
theorem dX5_findSpreadByTable_36 : decode cX5_findSpreadByTable 36 = .ok (.isub, 1) := by decide +kernel
theorem dX5_findSpreadByTable_37 : decode cX5_findSpreadByTable 37 = .ok (.iastore, 1) := by decide +kernel
theorem dX5_findSpreadByTable_38 : decode cX5_findSpreadByTable 38 = .ok (.iinc 3 1, 3) := by decide +kernel
theorem dX5_findSpreadByTable_41 : decode cX5_findSpreadByTable 41 = .ok (.goto (-34), 3) := by decide +kernel
theorem dX5_findSpreadByTable_44 : decode cX5_findSpreadByTable 44 = .ok (.iconst 2, 1) := by decide +kernel
theorem dX5_findSpreadByTable_45 : decode cX5_findSpreadByTable 45 = .ok (.istore_n 3, 1) := by decide +kernel
theorem dX5_findSpreadByTable_46 : decode cX5_findSpreadByTable 46 = .ok (.iload_n 3, 1) := by decide +kernel
theorem dX5_findSpreadByTable_47 : decode cX5_findSpreadByTable 47 = .ok (.iload_n 2, 1) := by decide +kernel
theorem dX5_findSpreadByTable_48 : decode cX5_findSpreadByTable 48 = .ok (.if_icmp .gt 43, 3) := by decide +kernel
theorem dX5_findSpreadByTable_51 : decode cX5_findSpreadByTable 51 = .ok (.iload_n 3, 1) := by decide +kernel
theorem dX5_findSpreadByTable_52 : decode cX5_findSpreadByTable 52 = .ok (.istore 4, 2) := by decide +kernel
theorem dX5_findSpreadByTable_54 : decode cX5_findSpreadByTable 54 = .ok (.iload 4, 2) := by decide +kernel
theorem dX5_findSpreadByTable_56 : decode cX5_findSpreadByTable 56 = .ok (.aload_n 0, 1) := by decide +kernel
theorem dX5_findSpreadByTable_57 : decode cX5_findSpreadByTable 57 = .ok (.getfield 26, 3) := by decide +kernel
theorem dX5_findSpreadByTable_60 : decode cX5_findSpreadByTable 60 = .ok (.if_icmp .gt 25, 3) := by decide +kernel
theorem dX5_findSpreadByTable_63 : decode cX5_findSpreadByTable 63 = .ok (.aload_n 0, 1) := by decide +kernel
theorem dX5_findSpreadByTable_64 : decode cX5_findSpreadByTable 64 = .ok (.getfield 23, 3) := by decide +kernel
theorem dX5_findSpreadByTable_67 : decode cX5_findSpreadByTable 67 = .ok (.iload_n 3, 1) := by decide +kernel
theorem dX5_findSpreadByTable_68 : decode cX5_findSpreadByTable 68 = .ok (.aaload, 1) := by decide +kernel
theorem dX5_findSpreadByTable_69 : decode cX5_findSpreadByTable 69 = .ok (.iload 4, 2) := by decide +kernel
theorem dX5_findSpreadByTable_71 : decode cX5_findSpreadByTable 71 = .ok (.aload_n 0, 1) := by decide +kernel
theorem dX5_findSpreadByTable_72 : decode cX5_findSpreadByTable 72 = .ok (.iload_n 3, 1) := by decide +kernel
theorem dX5_findSpreadByTable_73 : decode cX5_findSpreadByTable 73 = .ok (.iload 4, 2) := by decide +kernel
theorem dX5_findSpreadByTable_75 : decode cX5_findSpreadByTable 75 = .ok (.invokevirtual 74, 3) := by decide +kernel
theorem dX5_findSpreadByTable_78 : decode cX5_findSpreadByTable 78 = .ok (.iastore, 1) := by decide +kernel
theorem dX5_findSpreadByTable_79 : decode cX5_findSpreadByTable 79 = .ok (.iinc 4 1, 3) := by decide +kernel
theorem dX5_findSpreadByTable_82 : decode cX5_findSpreadByTable 82 = .ok (.goto (-28), 3) := by decide +kernel
theorem dX5_findSpreadByTable_85 : decode cX5_findSpreadByTable 85 = .ok (.iinc 3 1, 3) := by decide +kernel
theorem dX5_findSpreadByTable_88 : decode cX5_findSpreadByTable 88 = .ok (.goto (-42), 3) := by decide +kernel
theorem dX5_findSpreadByTable_91 : decode cX5_findSpreadByTable 91 = .ok (.aload_n 0, 1) := by decide +kernel
theorem dX5_findSpreadByTable_92 : decode cX5_findSpreadByTable 92 = .ok (.getfield 23, 3) := by decide +kernel
theorem dX5_findSpreadByTable_95 : decode cX5_findSpreadByTable 95 = .ok (.iload_n 2, 1) := by decide +kernel
theorem dX5_findSpreadByTable_96 : decode cX5_findSpreadByTable 96 = .ok (.aaload, 1) := by decide +kernel
theorem dX5_findSpreadByTable_97 : decode cX5_findSpreadByTable 97 = .ok (.aload_n 0, 1) := by decide +kernel
theorem dX5_findSpreadByTable_98 : decode cX5_findSpreadByTable 98 = .ok (.getfield 26, 3) := by decide +kernel
theorem dX5_findSpreadByTable_101 : decode cX5_findSpreadByTable 101 = .ok (.iaload, 1) := by decide +kernel
theorem dX5_findSpreadByTable_102 : decode cX5_findSpreadByTable 102 = .ok (.ireturn, 1) := by decide +kernel
theorem dX5_smallestSpread_0 : decode cX5_smallestSpread 0 = .ok (.aload_n 0, 1) := by decide +kernel
theorem dX5_smallestSpread_1 : decode cX5_smallestSpread 1 = .ok (.getfield 23, 3) := by decide +kernel
theorem dX5_smallestSpread_4 : decode cX5_smallestSpread 4 = .ok (.iload_n 1, 1) := by decide +kernel
theorem dX5_smallestSpread_5 : decode cX5_smallestSpread 5 = .ok (.iconst 1, 1) := by decide +kernel
theorem dX5_smallestSpread_6 : decode cX5_smallestSpread 6 = .ok (.isub, 1) := by decide +kernel
theorem dX5_smallestSpread_7 : decode cX5_smallestSpread 7 = .ok (.aaload, 1) := by decide +kernel
theorem dX5_smallestSpread_8 : decode cX5_smallestSpread 8 = .ok (.iload_n 2, 1) := by decide +kernel
theorem dX5_smallestSpread_9 : decode cX5_smallestSpread 9 = .ok (.iconst 1, 1) := by decide +kernel
theorem dX5_smallestSpread_10 : decode cX5_smallestSpread 10 = .ok (.isub, 1) := by decide +kernel
theorem dX5_smallestSpread_11 : decode cX5_smallestSpread 11 = .ok (.iaload, 1) := by decide +kernel
theorem dX5_smallestSpread_12 : decode cX5_smallestSpread 12 = .ok (.istore_n 3, 1) := by decide +kernel
theorem dX5_smallestSpread_13 : decode cX5_smallestSpread 13 = .ok (.iload_n 1, 1) := by decide +kernel
theorem dX5_smallestSpread_14 : decode cX5_smallestSpread 14 = .ok (.iconst 1, 1) := by decide +kernel
theorem dX5_smallestSpread_15 : decode cX5_smallestSpread 15 = .ok (.isub, 1) := by decide +kernel
theorem dX5_smallestSpread_16 : decode cX5_smallestSpread 16 = .ok (.istore 4, 2) := by decide +kernel
theorem dX5_smallestSpread_18 : decode cX5_smallestSpread 18 = .ok (.iload 4, 2) := by decide +kernel
theorem dX5_smallestSpread_20 : decode cX5_smallestSpread 20 = .ok (.iload_n 2, 1) := by decide +kernel
theorem dX5_smallestSpread_21 : decode cX5_smallestSpread 21 = .ok (.iconst 1, 1) := by decide +kernel
theorem dX5_smallestSpread_22 : decode cX5_smallestSpread 22 = .ok (.isub, 1) := by decide +kernel
theorem dX5_smallestSpread_23 : decode cX5_smallestSpread 23 = .ok (.if_icmp .ge 46, 3) := by decide +kernel
theorem dX5_smallestSpread_26 : decode cX5_smallestSpread 26 = .ok (.aload_n 0, 1) := by decide +kernel
theorem dX5_smallestSpread_27 : decode cX5_smallestSpread 27 = .ok (.getfield 23, 3) := by decide +kernel
theorem dX5_smallestSpread_30 : decode cX5_smallestSpread 30 = .ok (.iload_n 1, 1) := by decide +kernel
theorem dX5_smallestSpread_31 : decode cX5_smallestSpread 31 = .ok (.iconst 1, 1) := by decide +kernel
theorem dX5_smallestSpread_32 : decode cX5_smallestSpread 32 = .ok (.isub, 1) := by decide +kernel
theorem dX5_smallestSpread_33 : decode cX5_smallestSpread 33 = .ok (.aaload, 1) := by decide +kernel
theorem dX5_smallestSpread_34 : decode cX5_smallestSpread 34 = .ok (.iload 4, 2) := by decide +kernel
theorem dX5_smallestSpread_36 : decode cX5_smallestSpread 36 = .ok (.iaload, 1) := by decide +kernel
theorem dX5_smallestSpread_37 : decode cX5_smallestSpread 37 = .ok (.aload_n 0, 1) := by decide +kernel
theorem dX5_smallestSpread_38 : decode cX5_smallestSpread 38 = .ok (.getfield 15, 3) := by decide +kernel
theorem dX5_smallestSpread_41 : decode cX5_smallestSpread 41 = .ok (.iload_n 2, 1) := by decide +kernel
theorem dX5_smallestSpread_42 : decode cX5_smallestSpread 42 = .ok (.iconst 1, 1) := by decide +kernel
theorem dX5_smallestSpread_43 : decode cX5_smallestSpread 43 = .ok (.isub, 1) := by decide +kernel
theorem dX5_smallestSpread_44 : decode cX5_smallestSpread 44 = .ok (.iaload, 1) := by decide +kernel
theorem dX5_smallestSpread_45 : decode cX5_smallestSpread 45 = .ok (.iadd, 1) := by decide +kernel
theorem dX5_smallestSpread_46 : decode cX5_smallestSpread 46 = .ok (.aload_n 0, 1) := by decide +kernel
theorem dX5_smallestSpread_47 : decode cX5_smallestSpread 47 = .ok (.getfield 15, 3) := by decide +kernel
theorem dX5_smallestSpread_50 : decode cX5_smallestSpread 50 = .ok (.iload 4, 2) := by decide +kernel
theorem dX5_smallestSpread_52 : decode cX5_smallestSpread 52 = .ok (.iaload, 1) := by decide +kernel
theorem dX5_smallestSpread_53 : decode cX5_smallestSpread 53 = .ok (.isub, 1) := by decide +kernel
theorem dX5_smallestSpread_54 : decode cX5_smallestSpread 54 = .ok (.istore 5, 2) := by decide +kernel
theorem dX5_smallestSpread_56 : decode cX5_smallestSpread 56 = .ok (.iload_n 3, 1) := by decide +kernel
theorem dX5_smallestSpread_57 : decode cX5_smallestSpread 57 = .ok (.iload 5, 2) := by decide +kernel
theorem dX5_smallestSpread_59 : decode cX5_smallestSpread 59 = .ok (.invokestatic 78, 3) := by decide +kernel
theorem dX5_smallestSpread_62 : decode cX5_smallestSpread 62 = .ok (.istore_n 3, 1) := by decide +kernel
theorem dX5_smallestSpread_63 : decode cX5_smallestSpread 63 = .ok (.iinc 4 1, 3) := by decide +kernel
theorem dX5_smallestSpread_66 : decode cX5_smallestSpread 66 = .ok (.goto (-48), 3) := by decide +kernel
theorem dX5_smallestSpread_69 : decode cX5_smallestSpread 69 = .ok (.iload_n 3, 1) := by decide +kernel
theorem dX5_smallestSpread_70 : decode cX5_smallestSpread 70 = .ok (.ireturn, 1) := by decide +kernel
theorem dX6_bitOf_0 : decode cX6_bitOf 0 = .ok (.lconst 1, 1) := by decide +kernel
theorem dX6_bitOf_1 : decode cX6_bitOf 1 = .ok (.iload_n 0, 1) := by decide +kernel
theorem dX6_bitOf_2 : decode cX6_bitOf 2 = .ok (.lshl, 1) := by decide +kernel
theorem dX6_bitOf_3 : decode cX6_bitOf 3 = .ok (.lreturn, 1) := by decide +kernel
theorem dX6_isIn_0 : decode cX6_isIn 0 = .ok (.lload_n 0, 1) := by decide +kernel
theorem dX6_isIn_1 : decode cX6_isIn 1 = .ok (.iload_n 2, 1) := by decide +kernel
theorem dX6_isIn_2 : decode cX6_isIn 2 = .ok (.lushr, 1) := by decide +kernel
theorem dX6_isIn_3 : decode cX6_isIn 3 = .ok (.lconst 1, 1) := by decide +kernel
theorem dX6_isIn_4 : decode cX6_isIn 4 = .ok (.land, 1) := by decide +kernel
theorem dX6_isIn_5 : decode cX6_isIn 5 = .ok (.lconst 0, 1) := by decide +kernel
theorem dX6_isIn_6 : decode cX6_isIn 6 = .ok (.lcmp, 1) := by decide +kernel
theorem dX6_isIn_7 : decode cX6_isIn 7 = .ok (.ifCond .eq 7, 3) := by decide +kernel
theorem dX6_isIn_10 : decode cX6_isIn 10 = .ok (.iconst 1, 1) := by decide +kernel
theorem dX6_isIn_11 : decode cX6_isIn 11 = .ok (.goto 4, 3) := by decide +kernel
theorem dX6_isIn_14 : decode cX6_isIn 14 = .ok (.iconst 0, 1) := by decide +kernel
theorem dX6_isIn_15 : decode cX6_isIn 15 = .ok (.ireturn, 1) := by decide +kernel
theorem dX6_fill_0 : decode cX6_fill 0 = .ok (.lload_n 0, 1) := by decide +kernel
theorem dX6_fill_1 : decode cX6_fill 1 = .ok (.lload_n 2, 1) := by decide +kernel
theorem dX6_fill_2 : decode cX6_fill 2 = .ok (.land, 1) := by decide +kernel
theorem dX6_fill_3 : decode cX6_fill 3 = .ok (.lstore 4, 2) := by decide +kernel
theorem dX6_fill_5 : decode cX6_fill 5 = .ok (.iconst 0, 1) := by decide +kernel
theorem dX6_fill_6 : decode cX6_fill 6 = .ok (.istore 6, 2) := by decide +kernel
theorem dX6_fill_8 : decode cX6_fill 8 = .ok (.iload 6, 2) := by decide +kernel
theorem dX6_fill_10 : decode cX6_fill 10 = .ok (.bipush 64, 2) := by decide +kernel
theorem dX6_fill_12 : decode cX6_fill 12 = .ok (.if_icmp .ge 39, 3) := by decide +kernel
theorem dX6_fill_15 : decode cX6_fill 15 = .ok (.lload 4, 2) := by decide +kernel
theorem dX6_fill_17 : decode cX6_fill 17 = .ok (.invokestatic 11, 3) := by decide +kernel
theorem dX6_fill_20 : decode cX6_fill 20 = .ok (.lload 4, 2) := by decide +kernel
theorem dX6_fill_22 : decode cX6_fill 22 = .ok (.invokestatic 15, 3) := by decide +kernel
theorem dX6_fill_25 : decode cX6_fill 25 = .ok (.lor, 1) := by decide +kernel
theorem dX6_fill_26 : decode cX6_fill 26 = .ok (.lload_n 2, 1) := by decide +kernel
theorem dX6_fill_27 : decode cX6_fill 27 = .ok (.land, 1) := by decide +kernel
theorem dX6_fill_28 : decode cX6_fill 28 = .ok (.lstore 7, 2) := by decide +kernel
theorem dX6_fill_30 : decode cX6_fill 30 = .ok (.lload 7, 2) := by decide +kernel
theorem dX6_fill_32 : decode cX6_fill 32 = .ok (.lload 4, 2) := by decide +kernel
theorem dX6_fill_34 : decode cX6_fill 34 = .ok (.lcmp, 1) := by decide +kernel
theorem dX6_fill_35 : decode cX6_fill 35 = .ok (.ifCond .ne 6, 3) := by decide +kernel
theorem dX6_fill_38 : decode cX6_fill 38 = .ok (.lload 4, 2) := by decide +kernel
theorem dX6_fill_40 : decode cX6_fill 40 = .ok (.lreturn, 1) := by decide +kernel
theorem dX6_fill_41 : decode cX6_fill 41 = .ok (.lload 7, 2) := by decide +kernel
theorem dX6_fill_43 : decode cX6_fill 43 = .ok (.lstore 4, 2) := by decide +kernel
theorem dX6_fill_45 : decode cX6_fill 45 = .ok (.iinc 6 1, 3) := by decide +kernel
theorem dX6_fill_48 : decode cX6_fill 48 = .ok (.goto (-40), 3) := by decide +kernel
theorem dX6_fill_51 : decode cX6_fill 51 = .ok (.lload 4, 2) := by decide +kernel
theorem dX6_fill_53 : decode cX6_fill 53 = .ok (.lreturn, 1) := by decide +kernel
theorem dX6_fillByCorners_0 : decode cX6_fillByCorners 0 = .ok (.lload_n 0, 1) := by decide +kernel
theorem dX6_fillByCorners_1 : decode cX6_fillByCorners 1 = .ok (.lload_n 2, 1) := by decide +kernel
theorem dX6_fillByCorners_2 : decode cX6_fillByCorners 2 = .ok (.land, 1) := by decide +kernel
theorem dX6_fillByCorners_3 : decode cX6_fillByCorners 3 = .ok (.lstore 4, 2) := by decide +kernel
theorem dX6_fillByCorners_5 : decode cX6_fillByCorners 5 = .ok (.iconst 0, 1) := by decide +kernel
theorem dX6_fillByCorners_6 : decode cX6_fillByCorners 6 = .ok (.istore 6, 2) := by decide +kernel
theorem dX6_fillByCorners_8 : decode cX6_fillByCorners 8 = .ok (.iload 6, 2) := by decide +kernel
theorem dX6_fillByCorners_10 : decode cX6_fillByCorners 10 = .ok (.bipush 64, 2) := by decide +kernel
theorem dX6_fillByCorners_12 : decode cX6_fillByCorners 12 = .ok (.if_icmp .ge 36, 3) := by decide +kernel
theorem dX6_fillByCorners_15 : decode cX6_fillByCorners 15 = .ok (.lload 4, 2) := by decide +kernel
theorem dX6_fillByCorners_17 : decode cX6_fillByCorners 17 = .ok (.invokestatic 11, 3) := by decide +kernel
theorem dX6_fillByCorners_20 : decode cX6_fillByCorners 20 = .ok (.invokestatic 15, 3) := by decide +kernel
theorem dX6_fillByCorners_23 : decode cX6_fillByCorners 23 = .ok (.lload_n 2, 1) := by decide +kernel
theorem dX6_fillByCorners_24 : decode cX6_fillByCorners 24 = .ok (.land, 1) := by decide +kernel
theorem dX6_fillByCorners_25 : decode cX6_fillByCorners 25 = .ok (.lstore 7, 2) := by decide +kernel
theorem dX6_fillByCorners_27 : decode cX6_fillByCorners 27 = .ok (.lload 7, 2) := by decide +kernel
theorem dX6_fillByCorners_29 : decode cX6_fillByCorners 29 = .ok (.lload 4, 2) := by decide +kernel
theorem dX6_fillByCorners_31 : decode cX6_fillByCorners 31 = .ok (.lcmp, 1) := by decide +kernel
theorem dX6_fillByCorners_32 : decode cX6_fillByCorners 32 = .ok (.ifCond .ne 6, 3) := by decide +kernel
theorem dX6_fillByCorners_35 : decode cX6_fillByCorners 35 = .ok (.lload 4, 2) := by decide +kernel
theorem dX6_fillByCorners_37 : decode cX6_fillByCorners 37 = .ok (.lreturn, 1) := by decide +kernel
theorem dX6_fillByCorners_38 : decode cX6_fillByCorners 38 = .ok (.lload 7, 2) := by decide +kernel
theorem dX6_fillByCorners_40 : decode cX6_fillByCorners 40 = .ok (.lstore 4, 2) := by decide +kernel
theorem dX6_fillByCorners_42 : decode cX6_fillByCorners 42 = .ok (.iinc 6 1, 3) := by decide +kernel
theorem dX6_fillByCorners_45 : decode cX6_fillByCorners 45 = .ok (.goto (-37), 3) := by decide +kernel
theorem dX6_fillByCorners_48 : decode cX6_fillByCorners 48 = .ok (.lload 4, 2) := by decide +kernel
theorem dX6_fillByCorners_50 : decode cX6_fillByCorners 50 = .ok (.lreturn, 1) := by decide +kernel
theorem dX6_withinRows_0 : decode cX6_withinRows 0 = .ok (.lload_n 0, 1) := by decide +kernel
theorem dX6_withinRows_1 : decode cX6_withinRows 1 = .ok (.lload_n 0, 1) := by decide +kernel
theorem dX6_withinRows_2 : decode cX6_withinRows 2 = .ok (.ldc2_w 18, 3) := by decide +kernel
theorem dX6_withinRows_5 : decode cX6_withinRows 5 = .ok (.land, 1) := by decide +kernel
theorem dX6_withinRows_6 : decode cX6_withinRows 6 = .ok (.iconst 1, 1) := by decide +kernel
theorem dX6_withinRows_7 : decode cX6_withinRows 7 = .ok (.lshl, 1) := by decide +kernel
theorem dX6_withinRows_8 : decode cX6_withinRows 8 = .ok (.lor, 1) := by decide +kernel
theorem dX6_withinRows_9 : decode cX6_withinRows 9 = .ok (.lload_n 0, 1) := by decide +kernel
theorem dX6_withinRows_10 : decode cX6_withinRows 10 = .ok (.ldc2_w 20, 3) := by decide +kernel
theorem dX6_withinRows_13 : decode cX6_withinRows 13 = .ok (.land, 1) := by decide +kernel
theorem dX6_withinRows_14 : decode cX6_withinRows 14 = .ok (.iconst 1, 1) := by decide +kernel
theorem dX6_withinRows_15 : decode cX6_withinRows 15 = .ok (.lushr, 1) := by decide +kernel
theorem dX6_withinRows_16 : decode cX6_withinRows 16 = .ok (.lor, 1) := by decide +kernel
theorem dX6_withinRows_17 : decode cX6_withinRows 17 = .ok (.lreturn, 1) := by decide +kernel
theorem dX6_withinColumns_0 : decode cX6_withinColumns 0 = .ok (.lload_n 0, 1) := by decide +kernel
theorem dX6_withinColumns_1 : decode cX6_withinColumns 1 = .ok (.lload_n 0, 1) := by decide +kernel
theorem dX6_withinColumns_2 : decode cX6_withinColumns 2 = .ok (.bipush 8, 2) := by decide +kernel
theorem dX6_withinColumns_4 : decode cX6_withinColumns 4 = .ok (.lshl, 1) := by decide +kernel
theorem dX6_withinColumns_5 : decode cX6_withinColumns 5 = .ok (.lor, 1) := by decide +kernel
theorem dX6_withinColumns_6 : decode cX6_withinColumns 6 = .ok (.lload_n 0, 1) := by decide +kernel
theorem dX6_withinColumns_7 : decode cX6_withinColumns 7 = .ok (.bipush 8, 2) := by decide +kernel
theorem dX6_withinColumns_9 : decode cX6_withinColumns 9 = .ok (.lushr, 1) := by decide +kernel
theorem dX6_withinColumns_10 : decode cX6_withinColumns 10 = .ok (.lor, 1) := by decide +kernel
theorem dX6_withinColumns_11 : decode cX6_withinColumns 11 = .ok (.lreturn, 1) := by decide +kernel
theorem dX6_countRegions_0 : decode cX6_countRegions 0 = .ok (.lload_n 0, 1) := by decide +kernel
theorem dX6_countRegions_1 : decode cX6_countRegions 1 = .ok (.lstore_n 2, 1) := by decide +kernel
theorem dX6_countRegions_2 : decode cX6_countRegions 2 = .ok (.iconst 0, 1) := by decide +kernel
theorem dX6_countRegions_3 : decode cX6_countRegions 3 = .ok (.istore 4, 2) := by decide +kernel
theorem dX6_countRegions_5 : decode cX6_countRegions 5 = .ok (.iconst 0, 1) := by decide +kernel
theorem dX6_countRegions_6 : decode cX6_countRegions 6 = .ok (.istore 5, 2) := by decide +kernel
theorem dX6_countRegions_8 : decode cX6_countRegions 8 = .ok (.iload 5, 2) := by decide +kernel
theorem dX6_countRegions_10 : decode cX6_countRegions 10 = .ok (.bipush 64, 2) := by decide +kernel
theorem dX6_countRegions_12 : decode cX6_countRegions 12 = .ok (.if_icmp .ge 37, 3) := by decide +kernel
theorem dX6_countRegions_15 : decode cX6_countRegions 15 = .ok (.lload_n 2, 1) := by decide +kernel
theorem dX6_countRegions_16 : decode cX6_countRegions 16 = .ok (.iload 5, 2) := by decide +kernel
theorem dX6_countRegions_18 : decode cX6_countRegions 18 = .ok (.invokestatic 22, 3) := by decide +kernel
theorem dX6_countRegions_21 : decode cX6_countRegions 21 = .ok (.ifCond .eq 22, 3) := by decide +kernel
theorem dX6_countRegions_24 : decode cX6_countRegions 24 = .ok (.lload_n 2, 1) := by decide +kernel
theorem dX6_countRegions_25 : decode cX6_countRegions 25 = .ok (.iload 5, 2) := by decide +kernel
theorem dX6_countRegions_27 : decode cX6_countRegions 27 = .ok (.invokestatic 26, 3) := by decide +kernel
theorem dX6_countRegions_30 : decode cX6_countRegions 30 = .ok (.lload_n 2, 1) := by decide +kernel
theorem dX6_countRegions_31 : decode cX6_countRegions 31 = .ok (.invokestatic 30, 3) := by decide +kernel
theorem dX6_countRegions_34 : decode cX6_countRegions 34 = .ok (.ldc2_w 34, 3) := by decide +kernel
theorem dX6_countRegions_37 : decode cX6_countRegions 37 = .ok (.lxor, 1) := by decide +kernel
theorem dX6_countRegions_38 : decode cX6_countRegions 38 = .ok (.land, 1) := by decide +kernel
theorem dX6_countRegions_39 : decode cX6_countRegions 39 = .ok (.lstore_n 2, 1) := by decide +kernel
theorem dX6_countRegions_40 : decode cX6_countRegions 40 = .ok (.iinc 4 1, 3) := by decide +kernel
theorem dX6_countRegions_43 : decode cX6_countRegions 43 = .ok (.iinc 5 1, 3) := by decide +kernel
theorem dX6_countRegions_46 : decode cX6_countRegions 46 = .ok (.goto (-38), 3) := by decide +kernel
theorem dX6_countRegions_49 : decode cX6_countRegions 49 = .ok (.iload 4, 2) := by decide +kernel
theorem dX6_countRegions_51 : decode cX6_countRegions 51 = .ok (.ireturn, 1) := by decide +kernel
theorem dX6_countHoles_0 : decode cX6_countHoles 0 = .ok (.lload_n 0, 1) := by decide +kernel
theorem dX6_countHoles_1 : decode cX6_countHoles 1 = .ok (.ldc2_w 34, 3) := by decide +kernel
theorem dX6_countHoles_4 : decode cX6_countHoles 4 = .ok (.lxor, 1) := by decide +kernel
theorem dX6_countHoles_5 : decode cX6_countHoles 5 = .ok (.lstore_n 2, 1) := by decide +kernel
theorem dX6_countHoles_6 : decode cX6_countHoles 6 = .ok (.iconst 0, 1) := by decide +kernel
theorem dX6_countHoles_7 : decode cX6_countHoles 7 = .ok (.istore 4, 2) := by decide +kernel
theorem dX6_countHoles_9 : decode cX6_countHoles 9 = .ok (.iconst 0, 1) := by decide +kernel
theorem dX6_countHoles_10 : decode cX6_countHoles 10 = .ok (.istore 5, 2) := by decide +kernel
theorem dX6_countHoles_12 : decode cX6_countHoles 12 = .ok (.iload 5, 2) := by decide +kernel
theorem dX6_countHoles_14 : decode cX6_countHoles 14 = .ok (.bipush 64, 2) := by decide +kernel
theorem dX6_countHoles_16 : decode cX6_countHoles 16 = .ok (.if_icmp .ge 52, 3) := by decide +kernel
theorem dX6_countHoles_19 : decode cX6_countHoles 19 = .ok (.lload_n 2, 1) := by decide +kernel
theorem dX6_countHoles_20 : decode cX6_countHoles 20 = .ok (.iload 5, 2) := by decide +kernel
theorem dX6_countHoles_22 : decode cX6_countHoles 22 = .ok (.invokestatic 22, 3) := by decide +kernel
theorem dX6_countHoles_25 : decode cX6_countHoles 25 = .ok (.ifCond .eq 37, 3) := by decide +kernel
theorem dX6_countHoles_28 : decode cX6_countHoles 28 = .ok (.iload 5, 2) := by decide +kernel
theorem dX6_countHoles_30 : decode cX6_countHoles 30 = .ok (.invokestatic 26, 3) := by decide +kernel
theorem dX6_countHoles_33 : decode cX6_countHoles 33 = .ok (.lload_n 2, 1) := by decide +kernel
theorem dX6_countHoles_34 : decode cX6_countHoles 34 = .ok (.invokestatic 36, 3) := by decide +kernel
theorem dX6_countHoles_37 : decode cX6_countHoles 37 = .ok (.lstore 6, 2) := by decide +kernel
theorem dX6_countHoles_39 : decode cX6_countHoles 39 = .ok (.lload_n 2, 1) := by decide +kernel
theorem dX6_countHoles_40 : decode cX6_countHoles 40 = .ok (.lload 6, 2) := by decide +kernel
theorem dX6_countHoles_42 : decode cX6_countHoles 42 = .ok (.ldc2_w 34, 3) := by decide +kernel
theorem dX6_countHoles_45 : decode cX6_countHoles 45 = .ok (.lxor, 1) := by decide +kernel
theorem dX6_countHoles_46 : decode cX6_countHoles 46 = .ok (.land, 1) := by decide +kernel
theorem dX6_countHoles_47 : decode cX6_countHoles 47 = .ok (.lstore_n 2, 1) := by decide +kernel
theorem dX6_countHoles_48 : decode cX6_countHoles 48 = .ok (.lload 6, 2) := by decide +kernel
theorem dX6_countHoles_50 : decode cX6_countHoles 50 = .ok (.ldc2_w 39, 3) := by decide +kernel
theorem dX6_countHoles_53 : decode cX6_countHoles 53 = .ok (.land, 1) := by decide +kernel
theorem dX6_countHoles_54 : decode cX6_countHoles 54 = .ok (.lconst 0, 1) := by decide +kernel
theorem dX6_countHoles_55 : decode cX6_countHoles 55 = .ok (.lcmp, 1) := by decide +kernel
theorem dX6_countHoles_56 : decode cX6_countHoles 56 = .ok (.ifCond .ne 6, 3) := by decide +kernel
theorem dX6_countHoles_59 : decode cX6_countHoles 59 = .ok (.iinc 4 1, 3) := by decide +kernel
theorem dX6_countHoles_62 : decode cX6_countHoles 62 = .ok (.iinc 5 1, 3) := by decide +kernel
theorem dX6_countHoles_65 : decode cX6_countHoles 65 = .ok (.goto (-53), 3) := by decide +kernel
theorem dX6_countHoles_68 : decode cX6_countHoles 68 = .ok (.iload 4, 2) := by decide +kernel
theorem dX6_countHoles_70 : decode cX6_countHoles 70 = .ok (.ireturn, 1) := by decide +kernel
theorem dX6_countSquares_0 : decode cX6_countSquares 0 = .ok (.iconst 0, 1) := by decide +kernel
theorem dX6_countSquares_1 : decode cX6_countSquares 1 = .ok (.istore_n 2, 1) := by decide +kernel
theorem dX6_countSquares_2 : decode cX6_countSquares 2 = .ok (.iconst (-1), 1) := by decide +kernel
theorem dX6_countSquares_3 : decode cX6_countSquares 3 = .ok (.istore_n 3, 1) := by decide +kernel
theorem dX6_countSquares_4 : decode cX6_countSquares 4 = .ok (.iload_n 3, 1) := by decide +kernel
theorem dX6_countSquares_5 : decode cX6_countSquares 5 = .ok (.bipush 8, 2) := by decide +kernel
theorem dX6_countSquares_7 : decode cX6_countSquares 7 = .ok (.if_icmp .ge 35, 3) := by decide +kernel
theorem dX6_countSquares_10 : decode cX6_countSquares 10 = .ok (.iconst (-1), 1) := by decide +kernel
theorem dX6_countSquares_11 : decode cX6_countSquares 11 = .ok (.istore 4, 2) := by decide +kernel
theorem dX6_countSquares_13 : decode cX6_countSquares 13 = .ok (.iload 4, 2) := by decide +kernel
theorem dX6_countSquares_15 : decode cX6_countSquares 15 = .ok (.bipush 8, 2) := by decide +kernel
theorem dX6_countSquares_17 : decode cX6_countSquares 17 = .ok (.if_icmp .ge 19, 3) := by decide +kernel
theorem dX6_countSquares_20 : decode cX6_countSquares 20 = .ok (.iload_n 2, 1) := by decide +kernel
theorem dX6_countSquares_21 : decode cX6_countSquares 21 = .ok (.lload_n 0, 1) := by decide +kernel
theorem dX6_countSquares_22 : decode cX6_countSquares 22 = .ok (.iload 4, 2) := by decide +kernel
theorem dX6_countSquares_24 : decode cX6_countSquares 24 = .ok (.iload_n 3, 1) := by decide +kernel
theorem dX6_countSquares_25 : decode cX6_countSquares 25 = .ok (.invokestatic 41, 3) := by decide +kernel
theorem dX6_countSquares_28 : decode cX6_countSquares 28 = .ok (.iadd, 1) := by decide +kernel
theorem dX6_countSquares_29 : decode cX6_countSquares 29 = .ok (.istore_n 2, 1) := by decide +kernel
theorem dX6_countSquares_30 : decode cX6_countSquares 30 = .ok (.iinc 4 1, 3) := by decide +kernel
theorem dX6_countSquares_33 : decode cX6_countSquares 33 = .ok (.goto (-20), 3) := by decide +kernel
theorem dX6_countSquares_36 : decode cX6_countSquares 36 = .ok (.iinc 3 1, 3) := by decide +kernel
theorem dX6_countSquares_39 : decode cX6_countSquares 39 = .ok (.goto (-35), 3) := by decide +kernel
theorem dX6_countSquares_42 : decode cX6_countSquares 42 = .ok (.iload_n 2, 1) := by decide +kernel
theorem dX6_countSquares_43 : decode cX6_countSquares 43 = .ok (.ireturn, 1) := by decide +kernel
theorem dX6_cornersOfSquare_0 : decode cX6_cornersOfSquare 0 = .ok (.lload_n 0, 1) := by decide +kernel
theorem dX6_cornersOfSquare_1 : decode cX6_cornersOfSquare 1 = .ok (.iload_n 2, 1) := by decide +kernel
theorem dX6_cornersOfSquare_2 : decode cX6_cornersOfSquare 2 = .ok (.iload_n 3, 1) := by decide +kernel
theorem dX6_cornersOfSquare_3 : decode cX6_cornersOfSquare 3 = .ok (.invokestatic 45, 3) := by decide +kernel
theorem dX6_cornersOfSquare_6 : decode cX6_cornersOfSquare 6 = .ok (.istore 4, 2) := by decide +kernel
theorem dX6_cornersOfSquare_8 : decode cX6_cornersOfSquare 8 = .ok (.lload_n 0, 1) := by decide +kernel
theorem dX6_cornersOfSquare_9 : decode cX6_cornersOfSquare 9 = .ok (.iload_n 2, 1) := by decide +kernel
theorem dX6_cornersOfSquare_10 : decode cX6_cornersOfSquare 10 = .ok (.iconst 1, 1) := by decide +kernel
theorem dX6_cornersOfSquare_11 : decode cX6_cornersOfSquare 11 = .ok (.iadd, 1) := by decide +kernel
theorem dX6_cornersOfSquare_12 : decode cX6_cornersOfSquare 12 = .ok (.iload_n 3, 1) := by decide +kernel
theorem dX6_cornersOfSquare_13 : decode cX6_cornersOfSquare 13 = .ok (.invokestatic 45, 3) := by decide +kernel
theorem dX6_cornersOfSquare_16 : decode cX6_cornersOfSquare 16 = .ok (.istore 5, 2) := by decide +kernel
theorem dX6_cornersOfSquare_18 : decode cX6_cornersOfSquare 18 = .ok (.lload_n 0, 1) := by decide +kernel
theorem dX6_cornersOfSquare_19 : decode cX6_cornersOfSquare 19 = .ok (.iload_n 2, 1) := by decide +kernel
theorem dX6_cornersOfSquare_20 : decode cX6_cornersOfSquare 20 = .ok (.iload_n 3, 1) := by decide +kernel
theorem dX6_cornersOfSquare_21 : decode cX6_cornersOfSquare 21 = .ok (.iconst 1, 1) := by decide +kernel
theorem dX6_cornersOfSquare_22 : decode cX6_cornersOfSquare 22 = .ok (.iadd, 1) := by decide +kernel
theorem dX6_cornersOfSquare_23 : decode cX6_cornersOfSquare 23 = .ok (.invokestatic 45, 3) := by decide +kernel
theorem dX6_cornersOfSquare_26 : decode cX6_cornersOfSquare 26 = .ok (.istore 6, 2) := by decide +kernel
theorem dX6_cornersOfSquare_28 : decode cX6_cornersOfSquare 28 = .ok (.lload_n 0, 1) := by decide +kernel
theorem dX6_cornersOfSquare_29 : decode cX6_cornersOfSquare 29 = .ok (.iload_n 2, 1) := by decide +kernel
theorem dX6_cornersOfSquare_30 : decode cX6_cornersOfSquare 30 = .ok (.iconst 1, 1) := by decide +kernel
theorem dX6_cornersOfSquare_31 : decode cX6_cornersOfSquare 31 = .ok (.iadd, 1) := by decide +kernel
theorem dX6_cornersOfSquare_32 : decode cX6_cornersOfSquare 32 = .ok (.iload_n 3, 1) := by decide +kernel
theorem dX6_cornersOfSquare_33 : decode cX6_cornersOfSquare 33 = .ok (.iconst 1, 1) := by decide +kernel
theorem dX6_cornersOfSquare_34 : decode cX6_cornersOfSquare 34 = .ok (.iadd, 1) := by decide +kernel
theorem dX6_cornersOfSquare_35 : decode cX6_cornersOfSquare 35 = .ok (.invokestatic 45, 3) := by decide +kernel
theorem dX6_cornersOfSquare_38 : decode cX6_cornersOfSquare 38 = .ok (.istore 7, 2) := by decide +kernel
theorem dX6_cornersOfSquare_40 : decode cX6_cornersOfSquare 40 = .ok (.iload 4, 2) := by decide +kernel
theorem dX6_cornersOfSquare_42 : decode cX6_cornersOfSquare 42 = .ok (.iload 5, 2) := by decide +kernel
theorem dX6_cornersOfSquare_44 : decode cX6_cornersOfSquare 44 = .ok (.iadd, 1) := by decide +kernel
theorem dX6_cornersOfSquare_45 : decode cX6_cornersOfSquare 45 = .ok (.iload 6, 2) := by decide +kernel
theorem dX6_cornersOfSquare_47 : decode cX6_cornersOfSquare 47 = .ok (.iadd, 1) := by decide +kernel
theorem dX6_cornersOfSquare_48 : decode cX6_cornersOfSquare 48 = .ok (.iload 7, 2) := by decide +kernel
theorem dX6_cornersOfSquare_50 : decode cX6_cornersOfSquare 50 = .ok (.iadd, 1) := by decide +kernel
theorem dX6_cornersOfSquare_51 : decode cX6_cornersOfSquare 51 = .ok (.istore 8, 2) := by decide +kernel
theorem dX6_cornersOfSquare_53 : decode cX6_cornersOfSquare 53 = .ok (.iload 8, 2) := by decide +kernel
theorem dX6_cornersOfSquare_55 : decode cX6_cornersOfSquare 55 = .ok (.iconst 2, 1) := by decide +kernel
theorem dX6_cornersOfSquare_56 : decode cX6_cornersOfSquare 56 = .ok (.if_icmp .ne 16, 3) := by decide +kernel
theorem dX6_cornersOfSquare_59 : decode cX6_cornersOfSquare 59 = .ok (.iload 4, 2) := by decide +kernel
theorem dX6_cornersOfSquare_61 : decode cX6_cornersOfSquare 61 = .ok (.iload 7, 2) := by decide +kernel
theorem dX6_cornersOfSquare_63 : decode cX6_cornersOfSquare 63 = .ok (.if_icmp .ne 7, 3) := by decide +kernel
theorem dX6_cornersOfSquare_66 : decode cX6_cornersOfSquare 66 = .ok (.iconst 2, 1) := by decide +kernel
theorem dX6_cornersOfSquare_67 : decode cX6_cornersOfSquare 67 = .ok (.goto 4, 3) := by decide +kernel
theorem dX6_cornersOfSquare_70 : decode cX6_cornersOfSquare 70 = .ok (.iconst 0, 1) := by decide +kernel
theorem dX6_cornersOfSquare_71 : decode cX6_cornersOfSquare 71 = .ok (.ireturn, 1) := by decide +kernel
theorem dX6_cornersOfSquare_72 : decode cX6_cornersOfSquare 72 = .ok (.iload 8, 2) := by decide +kernel
theorem dX6_cornersOfSquare_74 : decode cX6_cornersOfSquare 74 = .ok (.iconst 1, 1) := by decide +kernel
theorem dX6_cornersOfSquare_75 : decode cX6_cornersOfSquare 75 = .ok (.if_icmp .ne 7, 3) := by decide +kernel
theorem dX6_cornersOfSquare_78 : decode cX6_cornersOfSquare 78 = .ok (.iconst 1, 1) := by decide +kernel
theorem dX6_cornersOfSquare_79 : decode cX6_cornersOfSquare 79 = .ok (.goto 14, 3) := by decide +kernel
theorem dX6_cornersOfSquare_82 : decode cX6_cornersOfSquare 82 = .ok (.iload 8, 2) := by decide +kernel
theorem dX6_cornersOfSquare_84 : decode cX6_cornersOfSquare 84 = .ok (.iconst 3, 1) := by decide +kernel
theorem dX6_cornersOfSquare_85 : decode cX6_cornersOfSquare 85 = .ok (.if_icmp .ne 7, 3) := by decide +kernel
theorem dX6_cornersOfSquare_88 : decode cX6_cornersOfSquare 88 = .ok (.iconst (-1), 1) := by decide +kernel
theorem dX6_cornersOfSquare_89 : decode cX6_cornersOfSquare 89 = .ok (.goto 4, 3) := by decide +kernel
theorem dX6_cornersOfSquare_92 : decode cX6_cornersOfSquare 92 = .ok (.iconst 0, 1) := by decide +kernel
theorem dX6_cornersOfSquare_93 : decode cX6_cornersOfSquare 93 = .ok (.ireturn, 1) := by decide +kernel
theorem dX6_placeOf_0 : decode cX6_placeOf 0 = .ok (.iload_n 2, 1) := by decide +kernel
theorem dX6_placeOf_1 : decode cX6_placeOf 1 = .ok (.iload_n 3, 1) := by decide +kernel
theorem dX6_placeOf_2 : decode cX6_placeOf 2 = .ok (.invokestatic 48, 3) := by decide +kernel
theorem dX6_placeOf_5 : decode cX6_placeOf 5 = .ok (.ifCond .eq 19, 3) := by decide +kernel
theorem dX6_placeOf_8 : decode cX6_placeOf 8 = .ok (.lload_n 0, 1) := by decide +kernel
theorem dX6_placeOf_9 : decode cX6_placeOf 9 = .ok (.iload_n 2, 1) := by decide +kernel
theorem dX6_placeOf_10 : decode cX6_placeOf 10 = .ok (.iload_n 3, 1) := by decide +kernel
theorem dX6_placeOf_11 : decode cX6_placeOf 11 = .ok (.invokestatic 52, 3) := by decide +kernel
theorem dX6_placeOf_14 : decode cX6_placeOf 14 = .ok (.invokestatic 22, 3) := by decide +kernel
theorem dX6_placeOf_17 : decode cX6_placeOf 17 = .ok (.ifCond .eq 7, 3) := by decide +kernel
theorem dX6_placeOf_20 : decode cX6_placeOf 20 = .ok (.iconst 1, 1) := by decide +kernel
theorem dX6_placeOf_21 : decode cX6_placeOf 21 = .ok (.goto 4, 3) := by decide +kernel
theorem dX6_placeOf_24 : decode cX6_placeOf 24 = .ok (.iconst 0, 1) := by decide +kernel
theorem dX6_placeOf_25 : decode cX6_placeOf 25 = .ok (.ireturn, 1) := by decide +kernel
theorem dX6_measureContour_0 : decode cX6_measureContour 0 = .ok (.iconst 0, 1) := by decide +kernel
theorem dX6_measureContour_1 : decode cX6_measureContour 1 = .ok (.istore_n 2, 1) := by decide +kernel
theorem dX6_measureContour_2 : decode cX6_measureContour 2 = .ok (.iconst 0, 1) := by decide +kernel
theorem dX6_measureContour_3 : decode cX6_measureContour 3 = .ok (.istore_n 3, 1) := by decide +kernel
theorem dX6_measureContour_4 : decode cX6_measureContour 4 = .ok (.iload_n 3, 1) := by decide +kernel
theorem dX6_measureContour_5 : decode cX6_measureContour 5 = .ok (.bipush 64, 2) := by decide +kernel
theorem dX6_measureContour_7 : decode cX6_measureContour 7 = .ok (.if_icmp .ge 25, 3) := by decide +kernel
theorem dX6_measureContour_10 : decode cX6_measureContour 10 = .ok (.lload_n 0, 1) := by decide +kernel
theorem dX6_measureContour_11 : decode cX6_measureContour 11 = .ok (.iload_n 3, 1) := by decide +kernel
theorem dX6_measureContour_12 : decode cX6_measureContour 12 = .ok (.invokestatic 22, 3) := by decide +kernel
theorem dX6_measureContour_15 : decode cX6_measureContour 15 = .ok (.ifCond .eq 11, 3) := by decide +kernel
theorem dX6_measureContour_18 : decode cX6_measureContour 18 = .ok (.iload_n 2, 1) := by decide +kernel
theorem dX6_measureContour_19 : decode cX6_measureContour 19 = .ok (.lload_n 0, 1) := by decide +kernel
theorem dX6_measureContour_20 : decode cX6_measureContour 20 = .ok (.iload_n 3, 1) := by decide +kernel
theorem dX6_measureContour_21 : decode cX6_measureContour 21 = .ok (.invokestatic 56, 3) := by decide +kernel
theorem dX6_measureContour_24 : decode cX6_measureContour 24 = .ok (.iadd, 1) := by decide +kernel
theorem dX6_measureContour_25 : decode cX6_measureContour 25 = .ok (.istore_n 2, 1) := by decide +kernel
theorem dX6_measureContour_26 : decode cX6_measureContour 26 = .ok (.iinc 3 1, 3) := by decide +kernel
theorem dX6_measureContour_29 : decode cX6_measureContour 29 = .ok (.goto (-25), 3) := by decide +kernel
theorem dX6_measureContour_32 : decode cX6_measureContour 32 = .ok (.iload_n 2, 1) := by decide +kernel
theorem dX6_measureContour_33 : decode cX6_measureContour 33 = .ok (.ireturn, 1) := by decide +kernel
theorem dX6_countFreeSides_0 : decode cX6_countFreeSides 0 = .ok (.iconst 0, 1) := by decide +kernel
theorem dX6_countFreeSides_1 : decode cX6_countFreeSides 1 = .ok (.istore_n 3, 1) := by decide +kernel
theorem dX6_countFreeSides_2 : decode cX6_countFreeSides 2 = .ok (.iconst 0, 1) := by decide +kernel
theorem dX6_countFreeSides_3 : decode cX6_countFreeSides 3 = .ok (.istore 4, 2) := by decide +kernel
theorem dX6_countFreeSides_5 : decode cX6_countFreeSides 5 = .ok (.iload 4, 2) := by decide +kernel
theorem dX6_countFreeSides_7 : decode cX6_countFreeSides 7 = .ok (.iconst 4, 1) := by decide +kernel
theorem dX6_countFreeSides_8 : decode cX6_countFreeSides 8 = .ok (.if_icmp .ge 35, 3) := by decide +kernel
theorem dX6_countFreeSides_11 : decode cX6_countFreeSides 11 = .ok (.iload_n 2, 1) := by decide +kernel
theorem dX6_countFreeSides_12 : decode cX6_countFreeSides 12 = .ok (.iload 4, 2) := by decide +kernel
theorem dX6_countFreeSides_14 : decode cX6_countFreeSides 14 = .ok (.invokestatic 60, 3) := by decide +kernel
theorem dX6_countFreeSides_17 : decode cX6_countFreeSides 17 = .ok (.istore 5, 2) := by decide +kernel
theorem dX6_countFreeSides_19 : decode cX6_countFreeSides 19 = .ok (.iload 5, 2) := by decide +kernel
theorem dX6_countFreeSides_21 : decode cX6_countFreeSides 21 = .ok (.iconst (-1), 1) := by decide +kernel
theorem dX6_countFreeSides_22 : decode cX6_countFreeSides 22 = .ok (.if_icmp .eq 12, 3) := by decide +kernel
theorem dX6_countFreeSides_25 : decode cX6_countFreeSides 25 = .ok (.lload_n 0, 1) := by decide +kernel
theorem dX6_countFreeSides_26 : decode cX6_countFreeSides 26 = .ok (.iload 5, 2) := by decide +kernel
theorem dX6_countFreeSides_28 : decode cX6_countFreeSides 28 = .ok (.invokestatic 22, 3) := by decide +kernel
theorem dX6_countFreeSides_31 : decode cX6_countFreeSides 31 = .ok (.ifCond .ne 6, 3) := by decide +kernel
theorem dX6_countFreeSides_34 : decode cX6_countFreeSides 34 = .ok (.iinc 3 1, 3) := by decide +kernel
theorem dX6_countFreeSides_37 : decode cX6_countFreeSides 37 = .ok (.iinc 4 1, 3) := by decide +kernel
theorem dX6_countFreeSides_40 : decode cX6_countFreeSides 40 = .ok (.goto (-35), 3) := by decide +kernel
theorem dX6_countFreeSides_43 : decode cX6_countFreeSides 43 = .ok (.iload_n 3, 1) := by decide +kernel
theorem dX6_countFreeSides_44 : decode cX6_countFreeSides 44 = .ok (.ireturn, 1) := by decide +kernel
theorem dX6_measureContourByPairs_0 : decode cX6_measureContourByPairs 0 = .ok (.lload_n 0, 1) := by decide +kernel
theorem dX6_measureContourByPairs_1 : decode cX6_measureContourByPairs 1 = .ok (.lload_n 0, 1) := by decide +kernel
theorem dX6_measureContourByPairs_2 : decode cX6_measureContourByPairs 2 = .ok (.iconst 1, 1) := by decide +kernel
theorem dX6_measureContourByPairs_3 : decode cX6_measureContourByPairs 3 = .ok (.lushr, 1) := by decide +kernel
theorem dX6_measureContourByPairs_4 : decode cX6_measureContourByPairs 4 = .ok (.land, 1) := by decide +kernel
theorem dX6_measureContourByPairs_5 : decode cX6_measureContourByPairs 5 = .ok (.ldc2_w 18, 3) := by decide +kernel
theorem dX6_measureContourByPairs_8 : decode cX6_measureContourByPairs 8 = .ok (.land, 1) := by decide +kernel
theorem dX6_measureContourByPairs_9 : decode cX6_measureContourByPairs 9 = .ok (.invokestatic 63, 3) := by decide +kernel
theorem dX6_measureContourByPairs_12 : decode cX6_measureContourByPairs 12 = .ok (.istore_n 2, 1) := by decide +kernel
theorem dX6_measureContourByPairs_13 : decode cX6_measureContourByPairs 13 = .ok (.lload_n 0, 1) := by decide +kernel
theorem dX6_measureContourByPairs_14 : decode cX6_measureContourByPairs 14 = .ok (.lload_n 0, 1) := by decide +kernel
theorem dX6_measureContourByPairs_15 : decode cX6_measureContourByPairs 15 = .ok (.bipush 8, 2) := by decide +kernel
theorem dX6_measureContourByPairs_17 : decode cX6_measureContourByPairs 17 = .ok (.lushr, 1) := by decide +kernel
theorem dX6_measureContourByPairs_18 : decode cX6_measureContourByPairs 18 = .ok (.land, 1) := by decide +kernel
theorem dX6_measureContourByPairs_19 : decode cX6_measureContourByPairs 19 = .ok (.invokestatic 63, 3) := by decide +kernel
theorem dX6_measureContourByPairs_22 : decode cX6_measureContourByPairs 22 = .ok (.istore_n 3, 1) := by decide +kernel
theorem dX6_measureContourByPairs_23 : decode cX6_measureContourByPairs 23 = .ok (.iconst 4, 1) := by decide +kernel
theorem dX6_measureContourByPairs_24 : decode cX6_measureContourByPairs 24 = .ok (.lload_n 0, 1) := by decide +kernel
theorem dX6_measureContourByPairs_25 : decode cX6_measureContourByPairs 25 = .ok (.invokestatic 63, 3) := by decide +kernel
theorem dX6_measureContourByPairs_28 : decode cX6_measureContourByPairs 28 = .ok (.imul, 1) := by decide +kernel
theorem dX6_measureContourByPairs_29 : decode cX6_measureContourByPairs 29 = .ok (.iconst 2, 1) := by decide +kernel
theorem dX6_measureContourByPairs_30 : decode cX6_measureContourByPairs 30 = .ok (.iload_n 2, 1) := by decide +kernel
theorem dX6_measureContourByPairs_31 : decode cX6_measureContourByPairs 31 = .ok (.iload_n 3, 1) := by decide +kernel
theorem dX6_measureContourByPairs_32 : decode cX6_measureContourByPairs 32 = .ok (.iadd, 1) := by decide +kernel
theorem dX6_measureContourByPairs_33 : decode cX6_measureContourByPairs 33 = .ok (.imul, 1) := by decide +kernel
theorem dX6_measureContourByPairs_34 : decode cX6_measureContourByPairs 34 = .ok (.isub, 1) := by decide +kernel
theorem dX6_measureContourByPairs_35 : decode cX6_measureContourByPairs 35 = .ok (.ireturn, 1) := by decide +kernel
theorem dX7_init_0 : decode cX7_init 0 = .ok (.aload_n 0, 1) := by decide +kernel
theorem dX7_init_1 : decode cX7_init 1 = .ok (.invokespecial 3, 3) := by decide +kernel
theorem dX7_init_4 : decode cX7_init 4 = .ok (.aload_n 0, 1) := by decide +kernel
theorem dX7_init_5 : decode cX7_init 5 = .ok (.bipush 64, 2) := by decide +kernel
theorem dX7_init_7 : decode cX7_init 7 = .ok (.newarray .int, 2) := by decide +kernel
theorem dX7_init_9 : decode cX7_init 9 = .ok (.putfield 9, 3) := by decide +kernel
theorem dX7_init_12 : decode cX7_init 12 = .ok (.return_, 1) := by decide +kernel
theorem dX7_letTicksPass_0 : decode cX7_letTicksPass 0 = .ok (.iconst 0, 1) := by decide +kernel
theorem dX7_letTicksPass_1 : decode cX7_letTicksPass 1 = .ok (.istore_n 3, 1) := by decide +kernel
theorem dX7_letTicksPass_2 : decode cX7_letTicksPass 2 = .ok (.iconst 0, 1) := by decide +kernel
theorem dX7_letTicksPass_3 : decode cX7_letTicksPass 3 = .ok (.istore 4, 2) := by decide +kernel
theorem dX7_letTicksPass_5 : decode cX7_letTicksPass 5 = .ok (.iload 4, 2) := by decide +kernel
theorem dX7_letTicksPass_7 : decode cX7_letTicksPass 7 = .ok (.iload_n 2, 1) := by decide +kernel
theorem dX7_letTicksPass_8 : decode cX7_letTicksPass 8 = .ok (.if_icmp .ge 27, 3) := by decide +kernel
theorem dX7_letTicksPass_11 : decode cX7_letTicksPass 11 = .ok (.aload_n 0, 1) := by decide +kernel
theorem dX7_letTicksPass_12 : decode cX7_letTicksPass 12 = .ok (.aload_n 1, 1) := by decide +kernel
theorem dX7_letTicksPass_13 : decode cX7_letTicksPass 13 = .ok (.invokevirtual 15, 3) := by decide +kernel
theorem dX7_letTicksPass_16 : decode cX7_letTicksPass 16 = .ok (.aload_n 0, 1) := by decide +kernel
theorem dX7_letTicksPass_17 : decode cX7_letTicksPass 17 = .ok (.aload_n 1, 1) := by decide +kernel
theorem dX7_letTicksPass_18 : decode cX7_letTicksPass 18 = .ok (.invokevirtual 19, 3) := by decide +kernel
theorem dX7_letTicksPass_21 : decode cX7_letTicksPass 21 = .ok (.iload_n 3, 1) := by decide +kernel
theorem dX7_letTicksPass_22 : decode cX7_letTicksPass 22 = .ok (.aload_n 0, 1) := by decide +kernel
theorem dX7_letTicksPass_23 : decode cX7_letTicksPass 23 = .ok (.aload_n 1, 1) := by decide +kernel
theorem dX7_letTicksPass_24 : decode cX7_letTicksPass 24 = .ok (.invokevirtual 22, 3) := by decide +kernel
theorem dX7_letTicksPass_27 : decode cX7_letTicksPass 27 = .ok (.iadd, 1) := by decide +kernel
theorem dX7_letTicksPass_28 : decode cX7_letTicksPass 28 = .ok (.istore_n 3, 1) := by decide +kernel
theorem dX7_letTicksPass_29 : decode cX7_letTicksPass 29 = .ok (.iinc 4 1, 3) := by decide +kernel
theorem dX7_letTicksPass_32 : decode cX7_letTicksPass 32 = .ok (.goto (-27), 3) := by decide +kernel
theorem dX7_letTicksPass_35 : decode cX7_letTicksPass 35 = .ok (.aload_n 1, 1) := by decide +kernel
theorem dX7_letTicksPass_36 : decode cX7_letTicksPass 36 = .ok (.dup, 1) := by decide +kernel
theorem dX7_letTicksPass_37 : decode cX7_letTicksPass 37 = .ok (.getfield 26, 3) := by decide +kernel
theorem dX7_letTicksPass_40 : decode cX7_letTicksPass 40 = .ok (.iload_n 2, 1) := by decide +kernel
theorem dX7_letTicksPass_41 : decode cX7_letTicksPass 41 = .ok (.iadd, 1) := by decide +kernel
theorem dX7_letTicksPass_42 : decode cX7_letTicksPass 42 = .ok (.putfield 26, 3) := by decide +kernel
theorem dX7_letTicksPass_45 : decode cX7_letTicksPass 45 = .ok (.aload_n 1, 1) := by decide +kernel
theorem dX7_letTicksPass_46 : decode cX7_letTicksPass 46 = .ok (.dup, 1) := by decide +kernel
theorem dX7_letTicksPass_47 : decode cX7_letTicksPass 47 = .ok (.getfield 32, 3) := by decide +kernel
theorem dX7_letTicksPass_50 : decode cX7_letTicksPass 50 = .ok (.iload_n 3, 1) := by decide +kernel
theorem dX7_letTicksPass_51 : decode cX7_letTicksPass 51 = .ok (.iadd, 1) := by decide +kernel
theorem dX7_letTicksPass_52 : decode cX7_letTicksPass 52 = .ok (.putfield 32, 3) := by decide +kernel
theorem dX7_letTicksPass_55 : decode cX7_letTicksPass 55 = .ok (.iload_n 3, 1) := by decide +kernel
theorem dX7_letTicksPass_56 : decode cX7_letTicksPass 56 = .ok (.ireturn, 1) := by decide +kernel
theorem dX7_letHeatFlow_0 : decode cX7_letHeatFlow 0 = .ok (.iconst 0, 1) := by decide +kernel
theorem dX7_letHeatFlow_1 : decode cX7_letHeatFlow 1 = .ok (.istore_n 2, 1) := by decide +kernel
theorem dX7_letHeatFlow_2 : decode cX7_letHeatFlow 2 = .ok (.iload_n 2, 1) := by decide +kernel
theorem dX7_letHeatFlow_3 : decode cX7_letHeatFlow 3 = .ok (.bipush 64, 2) := by decide +kernel
theorem dX7_letHeatFlow_5 : decode cX7_letHeatFlow 5 = .ok (.if_icmp .ge 16, 3) := by decide +kernel
theorem dX7_letHeatFlow_8 : decode cX7_letHeatFlow 8 = .ok (.aload_n 0, 1) := by decide +kernel
theorem dX7_letHeatFlow_9 : decode cX7_letHeatFlow 9 = .ok (.getfield 9, 3) := by decide +kernel
theorem dX7_letHeatFlow_12 : decode cX7_letHeatFlow 12 = .ok (.iload_n 2, 1) := by decide +kernel
theorem dX7_letHeatFlow_13 : decode cX7_letHeatFlow 13 = .ok (.iconst 0, 1) := by decide +kernel
theorem dX7_letHeatFlow_14 : decode cX7_letHeatFlow 14 = .ok (.iastore, 1) := by decide +kernel
theorem dX7_letHeatFlow_15 : decode cX7_letHeatFlow 15 = .ok (.iinc 2 1, 3) := by decide +kernel
theorem dX7_letHeatFlow_18 : decode cX7_letHeatFlow 18 = .ok (.goto (-16), 3) := by decide +kernel
theorem dX7_letHeatFlow_21 : decode cX7_letHeatFlow 21 = .ok (.iconst 0, 1) := by decide +kernel
theorem dX7_letHeatFlow_22 : decode cX7_letHeatFlow 22 = .ok (.istore_n 2, 1) := by decide +kernel
theorem dX7_letHeatFlow_23 : decode cX7_letHeatFlow 23 = .ok (.iload_n 2, 1) := by decide +kernel
theorem dX7_letHeatFlow_24 : decode cX7_letHeatFlow 24 = .ok (.bipush 64, 2) := by decide +kernel
theorem dX7_letHeatFlow_26 : decode cX7_letHeatFlow 26 = .ok (.if_icmp .ge 31, 3) := by decide +kernel
theorem dX7_letHeatFlow_29 : decode cX7_letHeatFlow 29 = .ok (.aload_n 0, 1) := by decide +kernel
theorem dX7_letHeatFlow_30 : decode cX7_letHeatFlow 30 = .ok (.aload_n 1, 1) := by decide +kernel
theorem dX7_letHeatFlow_31 : decode cX7_letHeatFlow 31 = .ok (.iload_n 2, 1) := by decide +kernel
theorem dX7_letHeatFlow_32 : decode cX7_letHeatFlow 32 = .ok (.iload_n 2, 1) := by decide +kernel
theorem dX7_letHeatFlow_33 : decode cX7_letHeatFlow 33 = .ok (.iconst 1, 1) := by decide +kernel
theorem dX7_letHeatFlow_34 : decode cX7_letHeatFlow 34 = .ok (.invokestatic 35, 3) := by decide +kernel
theorem dX7_letHeatFlow_37 : decode cX7_letHeatFlow 37 = .ok (.invokevirtual 39, 3) := by decide +kernel
theorem dX7_letHeatFlow_40 : decode cX7_letHeatFlow 40 = .ok (.aload_n 0, 1) := by decide +kernel
theorem dX7_letHeatFlow_41 : decode cX7_letHeatFlow 41 = .ok (.aload_n 1, 1) := by decide +kernel
theorem dX7_letHeatFlow_42 : decode cX7_letHeatFlow 42 = .ok (.iload_n 2, 1) := by decide +kernel
theorem dX7_letHeatFlow_43 : decode cX7_letHeatFlow 43 = .ok (.iload_n 2, 1) := by decide +kernel
theorem dX7_letHeatFlow_44 : decode cX7_letHeatFlow 44 = .ok (.iconst 2, 1) := by decide +kernel
theorem dX7_letHeatFlow_45 : decode cX7_letHeatFlow 45 = .ok (.invokestatic 35, 3) := by decide +kernel
theorem dX7_letHeatFlow_48 : decode cX7_letHeatFlow 48 = .ok (.invokevirtual 39, 3) := by decide +kernel
theorem dX7_letHeatFlow_51 : decode cX7_letHeatFlow 51 = .ok (.iinc 2 1, 3) := by decide +kernel
theorem dX7_letHeatFlow_54 : decode cX7_letHeatFlow 54 = .ok (.goto (-31), 3) := by decide +kernel
theorem dX7_letHeatFlow_57 : decode cX7_letHeatFlow 57 = .ok (.iconst 0, 1) := by decide +kernel
theorem dX7_letHeatFlow_58 : decode cX7_letHeatFlow 58 = .ok (.istore_n 2, 1) := by decide +kernel
theorem dX7_letHeatFlow_59 : decode cX7_letHeatFlow 59 = .ok (.iload_n 2, 1) := by decide +kernel
theorem dX7_letHeatFlow_60 : decode cX7_letHeatFlow 60 = .ok (.bipush 8, 2) := by decide +kernel
theorem dX7_letHeatFlow_62 : decode cX7_letHeatFlow 62 = .ok (.if_icmp .ge 51, 3) := by decide +kernel
theorem dX7_letHeatFlow_65 : decode cX7_letHeatFlow 65 = .ok (.aload_n 0, 1) := by decide +kernel
theorem dX7_letHeatFlow_66 : decode cX7_letHeatFlow 66 = .ok (.aload_n 1, 1) := by decide +kernel
theorem dX7_letHeatFlow_67 : decode cX7_letHeatFlow 67 = .ok (.iconst 0, 1) := by decide +kernel
theorem dX7_letHeatFlow_68 : decode cX7_letHeatFlow 68 = .ok (.iload_n 2, 1) := by decide +kernel
theorem dX7_letHeatFlow_69 : decode cX7_letHeatFlow 69 = .ok (.invokevirtual 43, 3) := by decide +kernel
theorem dX7_letHeatFlow_72 : decode cX7_letHeatFlow 72 = .ok (.aload_n 0, 1) := by decide +kernel
theorem dX7_letHeatFlow_73 : decode cX7_letHeatFlow 73 = .ok (.aload_n 1, 1) := by decide +kernel
theorem dX7_letHeatFlow_74 : decode cX7_letHeatFlow 74 = .ok (.iconst 1, 1) := by decide +kernel
theorem dX7_letHeatFlow_75 : decode cX7_letHeatFlow 75 = .ok (.bipush 8, 2) := by decide +kernel
theorem dX7_letHeatFlow_77 : decode cX7_letHeatFlow 77 = .ok (.iload_n 2, 1) := by decide +kernel
theorem dX7_letHeatFlow_78 : decode cX7_letHeatFlow 78 = .ok (.imul, 1) := by decide +kernel
theorem dX7_letHeatFlow_79 : decode cX7_letHeatFlow 79 = .ok (.bipush 8, 2) := by decide +kernel
theorem dX7_letHeatFlow_81 : decode cX7_letHeatFlow 81 = .ok (.iadd, 1) := by decide +kernel
theorem dX7_letHeatFlow_82 : decode cX7_letHeatFlow 82 = .ok (.iconst 1, 1) := by decide +kernel
theorem dX7_letHeatFlow_83 : decode cX7_letHeatFlow 83 = .ok (.isub, 1) := by decide +kernel
theorem dX7_letHeatFlow_84 : decode cX7_letHeatFlow 84 = .ok (.invokevirtual 43, 3) := by decide +kernel
theorem dX7_letHeatFlow_87 : decode cX7_letHeatFlow 87 = .ok (.aload_n 0, 1) := by decide +kernel
theorem dX7_letHeatFlow_88 : decode cX7_letHeatFlow 88 = .ok (.aload_n 1, 1) := by decide +kernel
theorem dX7_letHeatFlow_89 : decode cX7_letHeatFlow 89 = .ok (.iconst 2, 1) := by decide +kernel
theorem dX7_letHeatFlow_90 : decode cX7_letHeatFlow 90 = .ok (.bipush 56, 2) := by decide +kernel
theorem dX7_letHeatFlow_92 : decode cX7_letHeatFlow 92 = .ok (.iload_n 2, 1) := by decide +kernel
theorem dX7_letHeatFlow_93 : decode cX7_letHeatFlow 93 = .ok (.iadd, 1) := by decide +kernel
theorem dX7_letHeatFlow_94 : decode cX7_letHeatFlow 94 = .ok (.invokevirtual 43, 3) := by decide +kernel
theorem dX7_letHeatFlow_97 : decode cX7_letHeatFlow 97 = .ok (.aload_n 0, 1) := by decide +kernel
theorem dX7_letHeatFlow_98 : decode cX7_letHeatFlow 98 = .ok (.aload_n 1, 1) := by decide +kernel
theorem dX7_letHeatFlow_99 : decode cX7_letHeatFlow 99 = .ok (.iconst 3, 1) := by decide +kernel
theorem dX7_letHeatFlow_100 : decode cX7_letHeatFlow 100 = .ok (.bipush 8, 2) := by decide +kernel
theorem dX7_letHeatFlow_102 : decode cX7_letHeatFlow 102 = .ok (.iload_n 2, 1) := by decide +kernel
theorem dX7_letHeatFlow_103 : decode cX7_letHeatFlow 103 = .ok (.imul, 1) := by decide +kernel
theorem dX7_letHeatFlow_104 : decode cX7_letHeatFlow 104 = .ok (.invokevirtual 43, 3) := by decide +kernel
theorem dX7_letHeatFlow_107 : decode cX7_letHeatFlow 107 = .ok (.iinc 2 1, 3) := by decide +kernel
theorem dX7_letHeatFlow_110 : decode cX7_letHeatFlow 110 = .ok (.goto (-51), 3) := by decide +kernel
theorem dX7_letHeatFlow_113 : decode cX7_letHeatFlow 113 = .ok (.iconst 0, 1) := by decide +kernel
theorem dX7_letHeatFlow_114 : decode cX7_letHeatFlow 114 = .ok (.istore_n 2, 1) := by decide +kernel
theorem dX7_letHeatFlow_115 : decode cX7_letHeatFlow 115 = .ok (.iload_n 2, 1) := by decide +kernel
theorem dX7_letHeatFlow_116 : decode cX7_letHeatFlow 116 = .ok (.bipush 64, 2) := by decide +kernel
theorem dX7_letHeatFlow_118 : decode cX7_letHeatFlow 118 = .ok (.if_icmp .ge 24, 3) := by decide +kernel
theorem dX7_letHeatFlow_121 : decode cX7_letHeatFlow 121 = .ok (.aload_n 1, 1) := by decide +kernel
theorem dX7_letHeatFlow_122 : decode cX7_letHeatFlow 122 = .ok (.getfield 46, 3) := by decide +kernel
theorem dX7_letHeatFlow_125 : decode cX7_letHeatFlow 125 = .ok (.iload_n 2, 1) := by decide +kernel
theorem dX7_letHeatFlow_126 : decode cX7_letHeatFlow 126 = .ok (.dup2, 1) := by decide +kernel
theorem dX7_letHeatFlow_127 : decode cX7_letHeatFlow 127 = .ok (.iaload, 1) := by decide +kernel
theorem dX7_letHeatFlow_128 : decode cX7_letHeatFlow 128 = .ok (.aload_n 0, 1) := by decide +kernel
theorem dX7_letHeatFlow_129 : decode cX7_letHeatFlow 129 = .ok (.getfield 9, 3) := by decide +kernel
theorem dX7_letHeatFlow_132 : decode cX7_letHeatFlow 132 = .ok (.iload_n 2, 1) := by decide +kernel
theorem dX7_letHeatFlow_133 : decode cX7_letHeatFlow 133 = .ok (.iaload, 1) := by decide +kernel
theorem dX7_letHeatFlow_134 : decode cX7_letHeatFlow 134 = .ok (.iadd, 1) := by decide +kernel
theorem dX7_letHeatFlow_135 : decode cX7_letHeatFlow 135 = .ok (.iastore, 1) := by decide +kernel
theorem dX7_letHeatFlow_136 : decode cX7_letHeatFlow 136 = .ok (.iinc 2 1, 3) := by decide +kernel
theorem dX7_letHeatFlow_139 : decode cX7_letHeatFlow 139 = .ok (.goto (-24), 3) := by decide +kernel
theorem dX7_letHeatFlow_142 : decode cX7_letHeatFlow 142 = .ok (.return_, 1) := by decide +kernel
theorem dX7_flowTo_0 : decode cX7_flowTo 0 = .ok (.iload_n 3, 1) := by decide +kernel
theorem dX7_flowTo_1 : decode cX7_flowTo 1 = .ok (.iconst (-1), 1) := by decide +kernel
theorem dX7_flowTo_2 : decode cX7_flowTo 2 = .ok (.if_icmp .eq 19, 3) := by decide +kernel
theorem dX7_flowTo_5 : decode cX7_flowTo 5 = .ok (.aload_n 1, 1) := by decide +kernel
theorem dX7_flowTo_6 : decode cX7_flowTo 6 = .ok (.iload_n 2, 1) := by decide +kernel
theorem dX7_flowTo_7 : decode cX7_flowTo 7 = .ok (.invokevirtual 49, 3) := by decide +kernel
theorem dX7_flowTo_10 : decode cX7_flowTo 10 = .ok (.ifCond .ne 11, 3) := by decide +kernel
theorem dX7_flowTo_13 : decode cX7_flowTo 13 = .ok (.aload_n 1, 1) := by decide +kernel
theorem dX7_flowTo_14 : decode cX7_flowTo 14 = .ok (.iload_n 3, 1) := by decide +kernel
theorem dX7_flowTo_15 : decode cX7_flowTo 15 = .ok (.invokevirtual 49, 3) := by decide +kernel
theorem dX7_flowTo_18 : decode cX7_flowTo 18 = .ok (.ifCond .eq 4, 3) := by decide +kernel
theorem dX7_flowTo_21 : decode cX7_flowTo 21 = .ok (.return_, 1) := by decide +kernel
theorem dX7_flowTo_22 : decode cX7_flowTo 22 = .ok (.aload_n 1, 1) := by decide +kernel
theorem dX7_flowTo_23 : decode cX7_flowTo 23 = .ok (.iload_n 2, 1) := by decide +kernel
theorem dX7_flowTo_24 : decode cX7_flowTo 24 = .ok (.invokevirtual 53, 3) := by decide +kernel
theorem dX7_flowTo_27 : decode cX7_flowTo 27 = .ok (.aload_n 1, 1) := by decide +kernel
theorem dX7_flowTo_28 : decode cX7_flowTo 28 = .ok (.iload_n 3, 1) := by decide +kernel
theorem dX7_flowTo_29 : decode cX7_flowTo 29 = .ok (.invokevirtual 53, 3) := by decide +kernel
theorem dX7_flowTo_32 : decode cX7_flowTo 32 = .ok (.iadd, 1) := by decide +kernel
theorem dX7_flowTo_33 : decode cX7_flowTo 33 = .ok (.istore 4, 2) := by decide +kernel
theorem dX7_flowTo_35 : decode cX7_flowTo 35 = .ok (.aload_n 1, 1) := by decide +kernel
theorem dX7_flowTo_36 : decode cX7_flowTo 36 = .ok (.getfield 46, 3) := by decide +kernel
theorem dX7_flowTo_39 : decode cX7_flowTo 39 = .ok (.iload_n 2, 1) := by decide +kernel
theorem dX7_flowTo_40 : decode cX7_flowTo 40 = .ok (.iaload, 1) := by decide +kernel
theorem dX7_flowTo_41 : decode cX7_flowTo 41 = .ok (.aload_n 1, 1) := by decide +kernel
theorem dX7_flowTo_42 : decode cX7_flowTo 42 = .ok (.getfield 46, 3) := by decide +kernel
theorem dX7_flowTo_45 : decode cX7_flowTo 45 = .ok (.iload_n 3, 1) := by decide +kernel
theorem dX7_flowTo_46 : decode cX7_flowTo 46 = .ok (.iaload, 1) := by decide +kernel
theorem dX7_flowTo_47 : decode cX7_flowTo 47 = .ok (.isub, 1) := by decide +kernel
theorem dX7_flowTo_48 : decode cX7_flowTo 48 = .ok (.iload 4, 2) := by decide +kernel
theorem dX7_flowTo_50 : decode cX7_flowTo 50 = .ok (.idiv, 1) := by decide +kernel
theorem dX7_flowTo_51 : decode cX7_flowTo 51 = .ok (.istore 5, 2) := by decide +kernel
theorem dX7_flowTo_53 : decode cX7_flowTo 53 = .ok (.aload_n 0, 1) := by decide +kernel
theorem dX7_flowTo_54 : decode cX7_flowTo 54 = .ok (.getfield 9, 3) := by decide +kernel
theorem dX7_flowTo_57 : decode cX7_flowTo 57 = .ok (.iload_n 2, 1) := by decide +kernel
theorem dX7_flowTo_58 : decode cX7_flowTo 58 = .ok (.dup2, 1) := by decide +kernel
theorem dX7_flowTo_59 : decode cX7_flowTo 59 = .ok (.iaload, 1) := by decide +kernel
theorem dX7_flowTo_60 : decode cX7_flowTo 60 = .ok (.iload 5, 2) := by decide +kernel
theorem dX7_flowTo_62 : decode cX7_flowTo 62 = .ok (.isub, 1) := by decide +kernel
theorem dX7_flowTo_63 : decode cX7_flowTo 63 = .ok (.iastore, 1) := by decide +kernel
theorem dX7_flowTo_64 : decode cX7_flowTo 64 = .ok (.aload_n 0, 1) := by decide +kernel
theorem dX7_flowTo_65 : decode cX7_flowTo 65 = .ok (.getfield 9, 3) := by decide +kernel
theorem dX7_flowTo_68 : decode cX7_flowTo 68 = .ok (.iload_n 3, 1) := by decide +kernel
theorem dX7_flowTo_69 : decode cX7_flowTo 69 = .ok (.dup2, 1) := by decide +kernel
theorem dX7_flowTo_70 : decode cX7_flowTo 70 = .ok (.iaload, 1) := by decide +kernel
theorem dX7_flowTo_71 : decode cX7_flowTo 71 = .ok (.iload 5, 2) := by decide +kernel
theorem dX7_flowTo_73 : decode cX7_flowTo 73 = .ok (.iadd, 1) := by decide +kernel
theorem dX7_flowTo_74 : decode cX7_flowTo 74 = .ok (.iastore, 1) := by decide +kernel
theorem dX7_flowTo_75 : decode cX7_flowTo 75 = .ok (.return_, 1) := by decide +kernel
theorem dX7_leaveBy_0 : decode cX7_leaveBy 0 = .ok (.aload_n 1, 1) := by decide +kernel
theorem dX7_leaveBy_1 : decode cX7_leaveBy 1 = .ok (.getfield 46, 3) := by decide +kernel
theorem dX7_leaveBy_4 : decode cX7_leaveBy 4 = .ok (.iload_n 3, 1) := by decide +kernel
theorem dX7_leaveBy_5 : decode cX7_leaveBy 5 = .ok (.iaload, 1) := by decide +kernel
theorem dX7_leaveBy_6 : decode cX7_leaveBy 6 = .ok (.aload_n 1, 1) := by decide +kernel
theorem dX7_leaveBy_7 : decode cX7_leaveBy 7 = .ok (.getfield 57, 3) := by decide +kernel
theorem dX7_leaveBy_10 : decode cX7_leaveBy 10 = .ok (.iload_n 2, 1) := by decide +kernel
theorem dX7_leaveBy_11 : decode cX7_leaveBy 11 = .ok (.iaload, 1) := by decide +kernel
theorem dX7_leaveBy_12 : decode cX7_leaveBy 12 = .ok (.isub, 1) := by decide +kernel
theorem dX7_leaveBy_13 : decode cX7_leaveBy 13 = .ok (.istore 4, 2) := by decide +kernel
theorem dX7_leaveBy_15 : decode cX7_leaveBy 15 = .ok (.aload_n 1, 1) := by decide +kernel
theorem dX7_leaveBy_16 : decode cX7_leaveBy 16 = .ok (.iload_n 3, 1) := by decide +kernel
theorem dX7_leaveBy_17 : decode cX7_leaveBy 17 = .ok (.invokevirtual 49, 3) := by decide +kernel
theorem dX7_leaveBy_20 : decode cX7_leaveBy 20 = .ok (.ifCond .ne 8, 3) := by decide +kernel
theorem dX7_leaveBy_23 : decode cX7_leaveBy 23 = .ok (.iload 4, 2) := by decide +kernel
theorem dX7_leaveBy_25 : decode cX7_leaveBy 25 = .ok (.ifCond .gt 4, 3) := by decide +kernel
theorem dX7_leaveBy_28 : decode cX7_leaveBy 28 = .ok (.return_, 1) := by decide +kernel
theorem dX7_leaveBy_29 : decode cX7_leaveBy 29 = .ok (.iload 4, 2) := by decide +kernel
theorem dX7_leaveBy_31 : decode cX7_leaveBy 31 = .ok (.iconst 2, 1) := by decide +kernel
theorem dX7_leaveBy_32 : decode cX7_leaveBy 32 = .ok (.aload_n 1, 1) := by decide +kernel
theorem dX7_leaveBy_33 : decode cX7_leaveBy 33 = .ok (.iload_n 3, 1) := by decide +kernel
theorem dX7_leaveBy_34 : decode cX7_leaveBy 34 = .ok (.invokevirtual 53, 3) := by decide +kernel
theorem dX7_leaveBy_37 : decode cX7_leaveBy 37 = .ok (.imul, 1) := by decide +kernel
theorem dX7_leaveBy_38 : decode cX7_leaveBy 38 = .ok (.idiv, 1) := by decide +kernel
theorem dX7_leaveBy_39 : decode cX7_leaveBy 39 = .ok (.istore 5, 2) := by decide +kernel
theorem dX7_leaveBy_41 : decode cX7_leaveBy 41 = .ok (.aload_n 0, 1) := by decide +kernel
theorem dX7_leaveBy_42 : decode cX7_leaveBy 42 = .ok (.getfield 9, 3) := by decide +kernel
theorem dX7_leaveBy_45 : decode cX7_leaveBy 45 = .ok (.iload_n 3, 1) := by decide +kernel
theorem dX7_leaveBy_46 : decode cX7_leaveBy 46 = .ok (.dup2, 1) := by decide +kernel
theorem dX7_leaveBy_47 : decode cX7_leaveBy 47 = .ok (.iaload, 1) := by decide +kernel
theorem dX7_leaveBy_48 : decode cX7_leaveBy 48 = .ok (.iload 5, 2) := by decide +kernel
theorem dX7_leaveBy_50 : decode cX7_leaveBy 50 = .ok (.isub, 1) := by decide +kernel
theorem dX7_leaveBy_51 : decode cX7_leaveBy 51 = .ok (.iastore, 1) := by decide +kernel
theorem dX7_leaveBy_52 : decode cX7_leaveBy 52 = .ok (.aload_n 1, 1) := by decide +kernel
theorem dX7_leaveBy_53 : decode cX7_leaveBy 53 = .ok (.getfield 60, 3) := by decide +kernel
theorem dX7_leaveBy_56 : decode cX7_leaveBy 56 = .ok (.iload_n 2, 1) := by decide +kernel
theorem dX7_leaveBy_57 : decode cX7_leaveBy 57 = .ok (.dup2, 1) := by decide +kernel
theorem dX7_leaveBy_58 : decode cX7_leaveBy 58 = .ok (.iaload, 1) := by decide +kernel
theorem dX7_leaveBy_59 : decode cX7_leaveBy 59 = .ok (.iload 5, 2) := by decide +kernel
theorem dX7_leaveBy_61 : decode cX7_leaveBy 61 = .ok (.iadd, 1) := by decide +kernel
theorem dX7_leaveBy_62 : decode cX7_leaveBy 62 = .ok (.iastore, 1) := by decide +kernel
theorem dX7_leaveBy_63 : decode cX7_leaveBy 63 = .ok (.return_, 1) := by decide +kernel
theorem dX7_makeEmbers_0 : decode cX7_makeEmbers 0 = .ok (.iconst 0, 1) := by decide +kernel
theorem dX7_makeEmbers_1 : decode cX7_makeEmbers 1 = .ok (.istore_n 2, 1) := by decide +kernel
theorem dX7_makeEmbers_2 : decode cX7_makeEmbers 2 = .ok (.iload_n 2, 1) := by decide +kernel
theorem dX7_makeEmbers_3 : decode cX7_makeEmbers 3 = .ok (.bipush 64, 2) := by decide +kernel
theorem dX7_makeEmbers_5 : decode cX7_makeEmbers 5 = .ok (.if_icmp .ge 43, 3) := by decide +kernel
theorem dX7_makeEmbers_8 : decode cX7_makeEmbers 8 = .ok (.aload_n 1, 1) := by decide +kernel
theorem dX7_makeEmbers_9 : decode cX7_makeEmbers 9 = .ok (.getfield 46, 3) := by decide +kernel
theorem dX7_makeEmbers_12 : decode cX7_makeEmbers 12 = .ok (.iload_n 2, 1) := by decide +kernel
theorem dX7_makeEmbers_13 : decode cX7_makeEmbers 13 = .ok (.iaload, 1) := by decide +kernel
theorem dX7_makeEmbers_14 : decode cX7_makeEmbers 14 = .ok (.sipush 700, 3) := by decide +kernel
theorem dX7_makeEmbers_17 : decode cX7_makeEmbers 17 = .ok (.if_icmp .lt 25, 3) := by decide +kernel
theorem dX7_makeEmbers_20 : decode cX7_makeEmbers 20 = .ok (.aload_n 1, 1) := by decide +kernel
theorem dX7_makeEmbers_21 : decode cX7_makeEmbers 21 = .ok (.getfield 46, 3) := by decide +kernel
theorem dX7_makeEmbers_24 : decode cX7_makeEmbers 24 = .ok (.iload_n 2, 1) := by decide +kernel
theorem dX7_makeEmbers_25 : decode cX7_makeEmbers 25 = .ok (.dup2, 1) := by decide +kernel
theorem dX7_makeEmbers_26 : decode cX7_makeEmbers 26 = .ok (.iaload, 1) := by decide +kernel
theorem dX7_makeEmbers_27 : decode cX7_makeEmbers 27 = .ok (.bipush 100, 2) := by decide +kernel
theorem dX7_makeEmbers_29 : decode cX7_makeEmbers 29 = .ok (.isub, 1) := by decide +kernel
theorem dX7_makeEmbers_30 : decode cX7_makeEmbers 30 = .ok (.iastore, 1) := by decide +kernel
theorem dX7_makeEmbers_31 : decode cX7_makeEmbers 31 = .ok (.aload_n 1, 1) := by decide +kernel
theorem dX7_makeEmbers_32 : decode cX7_makeEmbers 32 = .ok (.getfield 63, 3) := by decide +kernel
theorem dX7_makeEmbers_35 : decode cX7_makeEmbers 35 = .ok (.iload_n 2, 1) := by decide +kernel
theorem dX7_makeEmbers_36 : decode cX7_makeEmbers 36 = .ok (.dup2, 1) := by decide +kernel
theorem dX7_makeEmbers_37 : decode cX7_makeEmbers 37 = .ok (.iaload, 1) := by decide +kernel
theorem dX7_makeEmbers_38 : decode cX7_makeEmbers 38 = .ok (.bipush 100, 2) := by decide +kernel
theorem dX7_makeEmbers_40 : decode cX7_makeEmbers 40 = .ok (.iadd, 1) := by decide +kernel
theorem dX7_makeEmbers_41 : decode cX7_makeEmbers 41 = .ok (.iastore, 1) := by decide +kernel
theorem dX7_makeEmbers_42 : decode cX7_makeEmbers 42 = .ok (.iinc 2 1, 3) := by decide +kernel
theorem dX7_makeEmbers_45 : decode cX7_makeEmbers 45 = .ok (.goto (-43), 3) := by decide +kernel
theorem dX7_makeEmbers_48 : decode cX7_makeEmbers 48 = .ok (.return_, 1) := by decide +kernel
theorem dX7_relapseCells_0 : decode cX7_relapseCells 0 = .ok (.iconst 0, 1) := by decide +kernel
theorem dX7_relapseCells_1 : decode cX7_relapseCells 1 = .ok (.istore_n 2, 1) := by decide +kernel
theorem dX7_relapseCells_2 : decode cX7_relapseCells 2 = .ok (.iconst 0, 1) := by decide +kernel
theorem dX7_relapseCells_3 : decode cX7_relapseCells 3 = .ok (.istore_n 3, 1) := by decide +kernel
theorem dX7_relapseCells_4 : decode cX7_relapseCells 4 = .ok (.iload_n 3, 1) := by decide +kernel
theorem dX7_relapseCells_5 : decode cX7_relapseCells 5 = .ok (.bipush 64, 2) := by decide +kernel
theorem dX7_relapseCells_7 : decode cX7_relapseCells 7 = .ok (.if_icmp .ge 33, 3) := by decide +kernel
theorem dX7_relapseCells_10 : decode cX7_relapseCells 10 = .ok (.aload_n 0, 1) := by decide +kernel
theorem dX7_relapseCells_11 : decode cX7_relapseCells 11 = .ok (.getfield 9, 3) := by decide +kernel
theorem dX7_relapseCells_14 : decode cX7_relapseCells 14 = .ok (.iload_n 3, 1) := by decide +kernel
theorem dX7_relapseCells_15 : decode cX7_relapseCells 15 = .ok (.aload_n 1, 1) := by decide +kernel
theorem dX7_relapseCells_16 : decode cX7_relapseCells 16 = .ok (.iload_n 3, 1) := by decide +kernel
theorem dX7_relapseCells_17 : decode cX7_relapseCells 17 = .ok (.invokestatic 66, 3) := by decide +kernel
theorem dX7_relapseCells_20 : decode cX7_relapseCells 20 = .ok (.ifCond .eq 12, 3) := by decide +kernel
theorem dX7_relapseCells_23 : decode cX7_relapseCells 23 = .ok (.aload_n 1, 1) := by decide +kernel
theorem dX7_relapseCells_24 : decode cX7_relapseCells 24 = .ok (.getfield 63, 3) := by decide +kernel
theorem dX7_relapseCells_27 : decode cX7_relapseCells 27 = .ok (.iload_n 3, 1) := by decide +kernel
theorem dX7_relapseCells_28 : decode cX7_relapseCells 28 = .ok (.iaload, 1) := by decide +kernel
theorem dX7_relapseCells_29 : decode cX7_relapseCells 29 = .ok (.goto 4, 3) := by decide +kernel
theorem dX7_relapseCells_32 : decode cX7_relapseCells 32 = .ok (.iconst 0, 1) := by decide +kernel
theorem dX7_relapseCells_33 : decode cX7_relapseCells 33 = .ok (.iastore, 1) := by decide +kernel
theorem dX7_relapseCells_34 : decode cX7_relapseCells 34 = .ok (.iinc 3 1, 3) := by decide +kernel
theorem dX7_relapseCells_37 : decode cX7_relapseCells 37 = .ok (.goto (-33), 3) := by decide +kernel
theorem dX7_relapseCells_40 : decode cX7_relapseCells 40 = .ok (.iconst 0, 1) := by decide +kernel
theorem dX7_relapseCells_41 : decode cX7_relapseCells 41 = .ok (.istore_n 3, 1) := by decide +kernel
theorem dX7_relapseCells_42 : decode cX7_relapseCells 42 = .ok (.iload_n 3, 1) := by decide +kernel
theorem dX7_relapseCells_43 : decode cX7_relapseCells 43 = .ok (.bipush 64, 2) := by decide +kernel
theorem dX7_relapseCells_45 : decode cX7_relapseCells 45 = .ok (.if_icmp .ge 43, 3) := by decide +kernel
theorem dX7_relapseCells_48 : decode cX7_relapseCells 48 = .ok (.aload_n 0, 1) := by decide +kernel
theorem dX7_relapseCells_49 : decode cX7_relapseCells 49 = .ok (.getfield 9, 3) := by decide +kernel
theorem dX7_relapseCells_52 : decode cX7_relapseCells 52 = .ok (.iload_n 3, 1) := by decide +kernel
theorem dX7_relapseCells_53 : decode cX7_relapseCells 53 = .ok (.iaload, 1) := by decide +kernel
theorem dX7_relapseCells_54 : decode cX7_relapseCells 54 = .ok (.ifCond .le 28, 3) := by decide +kernel
theorem dX7_relapseCells_57 : decode cX7_relapseCells 57 = .ok (.aload_n 1, 1) := by decide +kernel
theorem dX7_relapseCells_58 : decode cX7_relapseCells 58 = .ok (.getfield 46, 3) := by decide +kernel
theorem dX7_relapseCells_61 : decode cX7_relapseCells 61 = .ok (.iload_n 3, 1) := by decide +kernel
theorem dX7_relapseCells_62 : decode cX7_relapseCells 62 = .ok (.dup2, 1) := by decide +kernel
theorem dX7_relapseCells_63 : decode cX7_relapseCells 63 = .ok (.iaload, 1) := by decide +kernel
theorem dX7_relapseCells_64 : decode cX7_relapseCells 64 = .ok (.aload_n 0, 1) := by decide +kernel
theorem dX7_relapseCells_65 : decode cX7_relapseCells 65 = .ok (.getfield 9, 3) := by decide +kernel
theorem dX7_relapseCells_68 : decode cX7_relapseCells 68 = .ok (.iload_n 3, 1) := by decide +kernel
theorem dX7_relapseCells_69 : decode cX7_relapseCells 69 = .ok (.iaload, 1) := by decide +kernel
theorem dX7_relapseCells_70 : decode cX7_relapseCells 70 = .ok (.iadd, 1) := by decide +kernel
theorem dX7_relapseCells_71 : decode cX7_relapseCells 71 = .ok (.iastore, 1) := by decide +kernel
theorem dX7_relapseCells_72 : decode cX7_relapseCells 72 = .ok (.aload_n 1, 1) := by decide +kernel
theorem dX7_relapseCells_73 : decode cX7_relapseCells 73 = .ok (.getfield 63, 3) := by decide +kernel
theorem dX7_relapseCells_76 : decode cX7_relapseCells 76 = .ok (.iload_n 3, 1) := by decide +kernel
theorem dX7_relapseCells_77 : decode cX7_relapseCells 77 = .ok (.iconst 0, 1) := by decide +kernel
theorem dX7_relapseCells_78 : decode cX7_relapseCells 78 = .ok (.iastore, 1) := by decide +kernel
theorem dX7_relapseCells_79 : decode cX7_relapseCells 79 = .ok (.iinc 2 1, 3) := by decide +kernel
theorem dX7_relapseCells_82 : decode cX7_relapseCells 82 = .ok (.iinc 3 1, 3) := by decide +kernel
theorem dX7_relapseCells_85 : decode cX7_relapseCells 85 = .ok (.goto (-43), 3) := by decide +kernel
theorem dX7_relapseCells_88 : decode cX7_relapseCells 88 = .ok (.iload_n 2, 1) := by decide +kernel
theorem dX7_relapseCells_89 : decode cX7_relapseCells 89 = .ok (.ireturn, 1) := by decide +kernel
theorem dX7_isRelapsing_0 : decode cX7_isRelapsing 0 = .ok (.aload_n 0, 1) := by decide +kernel
theorem dX7_isRelapsing_1 : decode cX7_isRelapsing 1 = .ok (.getfield 63, 3) := by decide +kernel
theorem dX7_isRelapsing_4 : decode cX7_isRelapsing 4 = .ok (.iload_n 1, 1) := by decide +kernel
theorem dX7_isRelapsing_5 : decode cX7_isRelapsing 5 = .ok (.iaload, 1) := by decide +kernel
theorem dX7_isRelapsing_6 : decode cX7_isRelapsing 6 = .ok (.ifCond .le 15, 3) := by decide +kernel
theorem dX7_isRelapsing_9 : decode cX7_isRelapsing 9 = .ok (.aload_n 0, 1) := by decide +kernel
theorem dX7_isRelapsing_10 : decode cX7_isRelapsing 10 = .ok (.getfield 46, 3) := by decide +kernel
theorem dX7_isRelapsing_13 : decode cX7_isRelapsing 13 = .ok (.iload_n 1, 1) := by decide +kernel
theorem dX7_isRelapsing_14 : decode cX7_isRelapsing 14 = .ok (.iaload, 1) := by decide +kernel
theorem dX7_isRelapsing_15 : decode cX7_isRelapsing 15 = .ok (.sipush 300, 3) := by decide +kernel
theorem dX7_isRelapsing_18 : decode cX7_isRelapsing 18 = .ok (.if_icmp .lt 5, 3) := by decide +kernel
theorem dX7_isRelapsing_21 : decode cX7_isRelapsing 21 = .ok (.iconst 0, 1) := by decide +kernel
theorem dX7_isRelapsing_22 : decode cX7_isRelapsing 22 = .ok (.ireturn, 1) := by decide +kernel
theorem dX7_isRelapsing_23 : decode cX7_isRelapsing 23 = .ok (.iconst 0, 1) := by decide +kernel
theorem dX7_isRelapsing_24 : decode cX7_isRelapsing 24 = .ok (.istore_n 2, 1) := by decide +kernel
theorem dX7_isRelapsing_25 : decode cX7_isRelapsing 25 = .ok (.iload_n 2, 1) := by decide +kernel
theorem dX7_isRelapsing_26 : decode cX7_isRelapsing 26 = .ok (.iconst 4, 1) := by decide +kernel
theorem dX7_isRelapsing_27 : decode cX7_isRelapsing 27 = .ok (.if_icmp .ge 34, 3) := by decide +kernel
theorem dX7_isRelapsing_30 : decode cX7_isRelapsing 30 = .ok (.iload_n 1, 1) := by decide +kernel
theorem dX7_isRelapsing_31 : decode cX7_isRelapsing 31 = .ok (.iload_n 2, 1) := by decide +kernel
theorem dX7_isRelapsing_32 : decode cX7_isRelapsing 32 = .ok (.invokestatic 35, 3) := by decide +kernel
theorem dX7_isRelapsing_35 : decode cX7_isRelapsing 35 = .ok (.istore_n 3, 1) := by decide +kernel
theorem dX7_isRelapsing_36 : decode cX7_isRelapsing 36 = .ok (.iload_n 3, 1) := by decide +kernel
theorem dX7_isRelapsing_37 : decode cX7_isRelapsing 37 = .ok (.iconst (-1), 1) := by decide +kernel
theorem dX7_isRelapsing_38 : decode cX7_isRelapsing 38 = .ok (.if_icmp .eq 17, 3) := by decide +kernel
theorem dX7_isRelapsing_41 : decode cX7_isRelapsing 41 = .ok (.aload_n 0, 1) := by decide +kernel
theorem dX7_isRelapsing_42 : decode cX7_isRelapsing 42 = .ok (.getfield 46, 3) := by decide +kernel
theorem dX7_isRelapsing_45 : decode cX7_isRelapsing 45 = .ok (.iload_n 3, 1) := by decide +kernel
theorem dX7_isRelapsing_46 : decode cX7_isRelapsing 46 = .ok (.iaload, 1) := by decide +kernel
theorem dX7_isRelapsing_47 : decode cX7_isRelapsing 47 = .ok (.sipush 500, 3) := by decide +kernel
theorem dX7_isRelapsing_50 : decode cX7_isRelapsing 50 = .ok (.if_icmp .lt 5, 3) := by decide +kernel
theorem dX7_isRelapsing_53 : decode cX7_isRelapsing 53 = .ok (.iconst 1, 1) := by decide +kernel
theorem dX7_isRelapsing_54 : decode cX7_isRelapsing 54 = .ok (.ireturn, 1) := by decide +kernel
theorem dX7_isRelapsing_55 : decode cX7_isRelapsing 55 = .ok (.iinc 2 1, 3) := by decide +kernel
theorem dX7_isRelapsing_58 : decode cX7_isRelapsing 58 = .ok (.goto (-33), 3) := by decide +kernel
theorem dX7_isRelapsing_61 : decode cX7_isRelapsing 61 = .ok (.iconst 0, 1) := by decide +kernel
theorem dX7_isRelapsing_62 : decode cX7_isRelapsing 62 = .ok (.ireturn, 1) := by decide +kernel
theorem dX8_init_0 : decode cX8_init 0 = .ok (.aload_n 0, 1) := by decide +kernel
theorem dX8_init_1 : decode cX8_init 1 = .ok (.invokespecial 3, 3) := by decide +kernel
theorem dX8_init_4 : decode cX8_init 4 = .ok (.aload_n 0, 1) := by decide +kernel
theorem dX8_init_5 : decode cX8_init 5 = .ok (.bipush 64, 2) := by decide +kernel
theorem dX8_init_7 : decode cX8_init 7 = .ok (.newarray .int, 2) := by decide +kernel
theorem dX8_init_9 : decode cX8_init 9 = .ok (.putfield 9, 3) := by decide +kernel
theorem dX8_init_12 : decode cX8_init 12 = .ok (.return_, 1) := by decide +kernel
theorem dX8_countRegions_0 : decode cX8_countRegions 0 = .ok (.iconst 0, 1) := by decide +kernel
theorem dX8_countRegions_1 : decode cX8_countRegions 1 = .ok (.istore_n 3, 1) := by decide +kernel
theorem dX8_countRegions_2 : decode cX8_countRegions 2 = .ok (.iload_n 3, 1) := by decide +kernel
theorem dX8_countRegions_3 : decode cX8_countRegions 3 = .ok (.bipush 64, 2) := by decide +kernel
theorem dX8_countRegions_5 : decode cX8_countRegions 5 = .ok (.if_icmp .ge 16, 3) := by decide +kernel
theorem dX8_countRegions_8 : decode cX8_countRegions 8 = .ok (.aload_n 0, 1) := by decide +kernel
theorem dX8_countRegions_9 : decode cX8_countRegions 9 = .ok (.getfield 9, 3) := by decide +kernel
theorem dX8_countRegions_12 : decode cX8_countRegions 12 = .ok (.iload_n 3, 1) := by decide +kernel
theorem dX8_countRegions_13 : decode cX8_countRegions 13 = .ok (.iload_n 3, 1) := by decide +kernel
theorem dX8_countRegions_14 : decode cX8_countRegions 14 = .ok (.iastore, 1) := by decide +kernel
theorem dX8_countRegions_15 : decode cX8_countRegions 15 = .ok (.iinc 3 1, 3) := by decide +kernel
theorem dX8_countRegions_18 : decode cX8_countRegions 18 = .ok (.goto (-16), 3) := by decide +kernel
theorem dX8_countRegions_21 : decode cX8_countRegions 21 = .ok (.lload_n 1, 1) := by decide +kernel
theorem dX8_countRegions_22 : decode cX8_countRegions 22 = .ok (.invokestatic 15, 3) := by decide +kernel
theorem dX8_countRegions_25 : decode cX8_countRegions 25 = .ok (.istore_n 3, 1) := by decide +kernel
theorem dX8_countRegions_26 : decode cX8_countRegions 26 = .ok (.iconst 0, 1) := by decide +kernel
theorem dX8_countRegions_27 : decode cX8_countRegions 27 = .ok (.istore 4, 2) := by decide +kernel
theorem dX8_countRegions_29 : decode cX8_countRegions 29 = .ok (.iload 4, 2) := by decide +kernel
theorem dX8_countRegions_31 : decode cX8_countRegions 31 = .ok (.bipush 64, 2) := by decide +kernel
theorem dX8_countRegions_33 : decode cX8_countRegions 33 = .ok (.if_icmp .ge 47, 3) := by decide +kernel
theorem dX8_countRegions_36 : decode cX8_countRegions 36 = .ok (.aload_n 0, 1) := by decide +kernel
theorem dX8_countRegions_37 : decode cX8_countRegions 37 = .ok (.lload_n 1, 1) := by decide +kernel
theorem dX8_countRegions_38 : decode cX8_countRegions 38 = .ok (.iload 4, 2) := by decide +kernel
theorem dX8_countRegions_40 : decode cX8_countRegions 40 = .ok (.iload 4, 2) := by decide +kernel
theorem dX8_countRegions_42 : decode cX8_countRegions 42 = .ok (.iconst 1, 1) := by decide +kernel
theorem dX8_countRegions_43 : decode cX8_countRegions 43 = .ok (.invokestatic 21, 3) := by decide +kernel
theorem dX8_countRegions_46 : decode cX8_countRegions 46 = .ok (.invokevirtual 25, 3) := by decide +kernel
theorem dX8_countRegions_49 : decode cX8_countRegions 49 = .ok (.ifCond .eq 6, 3) := by decide +kernel
theorem dX8_countRegions_52 : decode cX8_countRegions 52 = .ok (.iinc 3 (-1), 3) := by decide +kernel
theorem dX8_countRegions_55 : decode cX8_countRegions 55 = .ok (.aload_n 0, 1) := by decide +kernel
theorem dX8_countRegions_56 : decode cX8_countRegions 56 = .ok (.lload_n 1, 1) := by decide +kernel
theorem dX8_countRegions_57 : decode cX8_countRegions 57 = .ok (.iload 4, 2) := by decide +kernel
theorem dX8_countRegions_59 : decode cX8_countRegions 59 = .ok (.iload 4, 2) := by decide +kernel
theorem dX8_countRegions_61 : decode cX8_countRegions 61 = .ok (.iconst 2, 1) := by decide +kernel
theorem dX8_countRegions_62 : decode cX8_countRegions 62 = .ok (.invokestatic 21, 3) := by decide +kernel
theorem dX8_countRegions_65 : decode cX8_countRegions 65 = .ok (.invokevirtual 25, 3) := by decide +kernel
theorem dX8_countRegions_68 : decode cX8_countRegions 68 = .ok (.ifCond .eq 6, 3) := by decide +kernel
theorem dX8_countRegions_71 : decode cX8_countRegions 71 = .ok (.iinc 3 (-1), 3) := by decide +kernel
theorem dX8_countRegions_74 : decode cX8_countRegions 74 = .ok (.iinc 4 1, 3) := by decide +kernel
theorem dX8_countRegions_77 : decode cX8_countRegions 77 = .ok (.goto (-48), 3) := by decide +kernel
theorem dX8_countRegions_80 : decode cX8_countRegions 80 = .ok (.iload_n 3, 1) := by decide +kernel
theorem dX8_countRegions_81 : decode cX8_countRegions 81 = .ok (.ireturn, 1) := by decide +kernel
theorem dX8_unite_0 : decode cX8_unite 0 = .ok (.iload 4, 2) := by decide +kernel
theorem dX8_unite_2 : decode cX8_unite 2 = .ok (.iconst (-1), 1) := by decide +kernel
theorem dX8_unite_3 : decode cX8_unite 3 = .ok (.if_icmp .eq 20, 3) := by decide +kernel
theorem dX8_unite_6 : decode cX8_unite 6 = .ok (.lload_n 1, 1) := by decide +kernel
theorem dX8_unite_7 : decode cX8_unite 7 = .ok (.iload_n 3, 1) := by decide +kernel
theorem dX8_unite_8 : decode cX8_unite 8 = .ok (.invokestatic 29, 3) := by decide +kernel
theorem dX8_unite_11 : decode cX8_unite 11 = .ok (.ifCond .eq 12, 3) := by decide +kernel
theorem dX8_unite_14 : decode cX8_unite 14 = .ok (.lload_n 1, 1) := by decide +kernel
theorem dX8_unite_15 : decode cX8_unite 15 = .ok (.iload 4, 2) := by decide +kernel
theorem dX8_unite_17 : decode cX8_unite 17 = .ok (.invokestatic 29, 3) := by decide +kernel
theorem dX8_unite_20 : decode cX8_unite 20 = .ok (.ifCond .ne 5, 3) := by decide +kernel
theorem dX8_unite_23 : decode cX8_unite 23 = .ok (.iconst 0, 1) := by decide +kernel
theorem dX8_unite_24 : decode cX8_unite 24 = .ok (.ireturn, 1) := by decide +kernel
theorem dX8_unite_25 : decode cX8_unite 25 = .ok (.aload_n 0, 1) := by decide +kernel
theorem dX8_unite_26 : decode cX8_unite 26 = .ok (.iload_n 3, 1) := by decide +kernel
theorem dX8_unite_27 : decode cX8_unite 27 = .ok (.invokevirtual 35, 3) := by decide +kernel
theorem dX8_unite_30 : decode cX8_unite 30 = .ok (.istore 5, 2) := by decide +kernel
theorem dX8_unite_32 : decode cX8_unite 32 = .ok (.aload_n 0, 1) := by decide +kernel
theorem dX8_unite_33 : decode cX8_unite 33 = .ok (.iload 4, 2) := by decide +kernel
theorem dX8_unite_35 : decode cX8_unite 35 = .ok (.invokevirtual 35, 3) := by decide +kernel
theorem dX8_unite_38 : decode cX8_unite 38 = .ok (.istore 6, 2) := by decide +kernel
theorem dX8_unite_40 : decode cX8_unite 40 = .ok (.aload_n 0, 1) := by decide +kernel
theorem dX8_unite_41 : decode cX8_unite 41 = .ok (.getfield 9, 3) := by decide +kernel
theorem dX8_unite_44 : decode cX8_unite 44 = .ok (.iload 6, 2) := by decide +kernel
theorem dX8_unite_46 : decode cX8_unite 46 = .ok (.iload 5, 2) := by decide +kernel
theorem dX8_unite_48 : decode cX8_unite 48 = .ok (.iastore, 1) := by decide +kernel
theorem dX8_unite_49 : decode cX8_unite 49 = .ok (.iload 5, 2) := by decide +kernel
theorem dX8_unite_51 : decode cX8_unite 51 = .ok (.iload 6, 2) := by decide +kernel
theorem dX8_unite_53 : decode cX8_unite 53 = .ok (.if_icmp .eq 7, 3) := by decide +kernel
theorem dX8_unite_56 : decode cX8_unite 56 = .ok (.iconst 1, 1) := by decide +kernel
theorem dX8_unite_57 : decode cX8_unite 57 = .ok (.goto 4, 3) := by decide +kernel
theorem dX8_unite_60 : decode cX8_unite 60 = .ok (.iconst 0, 1) := by decide +kernel
theorem dX8_unite_61 : decode cX8_unite 61 = .ok (.ireturn, 1) := by decide +kernel
theorem dX8_rootOf_0 : decode cX8_rootOf 0 = .ok (.iload_n 1, 1) := by decide +kernel
theorem dX8_rootOf_1 : decode cX8_rootOf 1 = .ok (.istore_n 2, 1) := by decide +kernel
theorem dX8_rootOf_2 : decode cX8_rootOf 2 = .ok (.iconst 0, 1) := by decide +kernel
theorem dX8_rootOf_3 : decode cX8_rootOf 3 = .ok (.istore_n 3, 1) := by decide +kernel
theorem dX8_rootOf_4 : decode cX8_rootOf 4 = .ok (.iload_n 3, 1) := by decide +kernel
theorem dX8_rootOf_5 : decode cX8_rootOf 5 = .ok (.bipush 64, 2) := by decide +kernel
theorem dX8_rootOf_7 : decode cX8_rootOf 7 = .ok (.if_icmp .ge 26, 3) := by decide +kernel
theorem dX8_rootOf_10 : decode cX8_rootOf 10 = .ok (.aload_n 0, 1) := by decide +kernel
theorem dX8_rootOf_11 : decode cX8_rootOf 11 = .ok (.getfield 9, 3) := by decide +kernel
theorem dX8_rootOf_14 : decode cX8_rootOf 14 = .ok (.iload_n 2, 1) := by decide +kernel
theorem dX8_rootOf_15 : decode cX8_rootOf 15 = .ok (.iaload, 1) := by decide +kernel
theorem dX8_rootOf_16 : decode cX8_rootOf 16 = .ok (.iload_n 2, 1) := by decide +kernel
theorem dX8_rootOf_17 : decode cX8_rootOf 17 = .ok (.if_icmp .eq 16, 3) := by decide +kernel
theorem dX8_rootOf_20 : decode cX8_rootOf 20 = .ok (.aload_n 0, 1) := by decide +kernel
theorem dX8_rootOf_21 : decode cX8_rootOf 21 = .ok (.getfield 9, 3) := by decide +kernel
theorem dX8_rootOf_24 : decode cX8_rootOf 24 = .ok (.iload_n 2, 1) := by decide +kernel
theorem dX8_rootOf_25 : decode cX8_rootOf 25 = .ok (.iaload, 1) := by decide +kernel
theorem dX8_rootOf_26 : decode cX8_rootOf 26 = .ok (.istore_n 2, 1) := by decide +kernel
theorem dX8_rootOf_27 : decode cX8_rootOf 27 = .ok (.iinc 3 1, 3) := by decide +kernel
theorem dX8_rootOf_30 : decode cX8_rootOf 30 = .ok (.goto (-26), 3) := by decide +kernel
theorem dX8_rootOf_33 : decode cX8_rootOf 33 = .ok (.iload_n 2, 1) := by decide +kernel
theorem dX8_rootOf_34 : decode cX8_rootOf 34 = .ok (.ireturn, 1) := by decide +kernel
theorem dX9_init_0 : decode cX9_init 0 = .ok (.aload_n 0, 1) := by decide +kernel
theorem dX9_init_1 : decode cX9_init 1 = .ok (.invokespecial 1, 3) := by decide +kernel
theorem dX9_init_4 : decode cX9_init 4 = .ok (.aload_n 0, 1) := by decide +kernel
theorem dX9_init_5 : decode cX9_init 5 = .ok (.new 7, 3) := by decide +kernel
theorem dX9_init_8 : decode cX9_init 8 = .ok (.dup, 1) := by decide +kernel
theorem dX9_init_9 : decode cX9_init 9 = .ok (.invokespecial 9, 3) := by decide +kernel
theorem dX9_init_12 : decode cX9_init 12 = .ok (.putfield 10, 3) := by decide +kernel
theorem dX9_init_15 : decode cX9_init 15 = .ok (.aload_n 0, 1) := by decide +kernel
theorem dX9_init_16 : decode cX9_init 16 = .ok (.new 7, 3) := by decide +kernel
theorem dX9_init_19 : decode cX9_init 19 = .ok (.dup, 1) := by decide +kernel
theorem dX9_init_20 : decode cX9_init 20 = .ok (.invokespecial 9, 3) := by decide +kernel
theorem dX9_init_23 : decode cX9_init 23 = .ok (.putfield 16, 3) := by decide +kernel
theorem dX9_init_26 : decode cX9_init 26 = .ok (.aload_n 0, 1) := by decide +kernel
theorem dX9_init_27 : decode cX9_init 27 = .ok (.new 7, 3) := by decide +kernel
theorem dX9_init_30 : decode cX9_init 30 = .ok (.dup, 1) := by decide +kernel
theorem dX9_init_31 : decode cX9_init 31 = .ok (.invokespecial 9, 3) := by decide +kernel
theorem dX9_init_34 : decode cX9_init 34 = .ok (.putfield 19, 3) := by decide +kernel
theorem dX9_init_37 : decode cX9_init 37 = .ok (.aload_n 0, 1) := by decide +kernel
theorem dX9_init_38 : decode cX9_init 38 = .ok (.new 7, 3) := by decide +kernel
theorem dX9_init_41 : decode cX9_init 41 = .ok (.dup, 1) := by decide +kernel
theorem dX9_init_42 : decode cX9_init 42 = .ok (.invokespecial 9, 3) := by decide +kernel
theorem dX9_init_45 : decode cX9_init 45 = .ok (.putfield 22, 3) := by decide +kernel
theorem dX9_init_48 : decode cX9_init 48 = .ok (.aload_n 0, 1) := by decide +kernel
theorem dX9_init_49 : decode cX9_init 49 = .ok (.new 25, 3) := by decide +kernel
theorem dX9_init_52 : decode cX9_init 52 = .ok (.dup, 1) := by decide +kernel
theorem dX9_init_53 : decode cX9_init 53 = .ok (.invokespecial 27, 3) := by decide +kernel
theorem dX9_init_56 : decode cX9_init 56 = .ok (.putfield 28, 3) := by decide +kernel
theorem dX9_init_59 : decode cX9_init 59 = .ok (.aload_n 0, 1) := by decide +kernel
theorem dX9_init_60 : decode cX9_init 60 = .ok (.new 32, 3) := by decide +kernel
theorem dX9_init_63 : decode cX9_init 63 = .ok (.dup, 1) := by decide +kernel
theorem dX9_init_64 : decode cX9_init 64 = .ok (.invokespecial 34, 3) := by decide +kernel
theorem dX9_init_67 : decode cX9_init 67 = .ok (.putfield 35, 3) := by decide +kernel
theorem dX9_init_70 : decode cX9_init 70 = .ok (.aload_n 0, 1) := by decide +kernel
theorem dX9_init_71 : decode cX9_init 71 = .ok (.new 39, 3) := by decide +kernel
theorem dX9_init_74 : decode cX9_init 74 = .ok (.dup, 1) := by decide +kernel
theorem dX9_init_75 : decode cX9_init 75 = .ok (.invokespecial 41, 3) := by decide +kernel
theorem dX9_init_78 : decode cX9_init 78 = .ok (.putfield 42, 3) := by decide +kernel
theorem dX9_init_81 : decode cX9_init 81 = .ok (.aload_n 0, 1) := by decide +kernel
theorem dX9_init_82 : decode cX9_init 82 = .ok (.new 46, 3) := by decide +kernel
theorem dX9_init_85 : decode cX9_init 85 = .ok (.dup, 1) := by decide +kernel
theorem dX9_init_86 : decode cX9_init 86 = .ok (.invokespecial 48, 3) := by decide +kernel
theorem dX9_init_89 : decode cX9_init 89 = .ok (.putfield 49, 3) := by decide +kernel
theorem dX9_init_92 : decode cX9_init 92 = .ok (.aload_n 0, 1) := by decide +kernel
theorem dX9_init_93 : decode cX9_init 93 = .ok (.new 53, 3) := by decide +kernel
theorem dX9_init_96 : decode cX9_init 96 = .ok (.dup, 1) := by decide +kernel
theorem dX9_init_97 : decode cX9_init 97 = .ok (.invokespecial 55, 3) := by decide +kernel
theorem dX9_init_100 : decode cX9_init 100 = .ok (.putfield 56, 3) := by decide +kernel
theorem dX9_init_103 : decode cX9_init 103 = .ok (.aload_n 0, 1) := by decide +kernel
theorem dX9_init_104 : decode cX9_init 104 = .ok (.new 60, 3) := by decide +kernel
theorem dX9_init_107 : decode cX9_init 107 = .ok (.dup, 1) := by decide +kernel
theorem dX9_init_108 : decode cX9_init 108 = .ok (.invokespecial 62, 3) := by decide +kernel
theorem dX9_init_111 : decode cX9_init 111 = .ok (.putfield 63, 3) := by decide +kernel
theorem dX9_init_114 : decode cX9_init 114 = .ok (.aload_n 0, 1) := by decide +kernel
theorem dX9_init_115 : decode cX9_init 115 = .ok (.new 67, 3) := by decide +kernel
theorem dX9_init_118 : decode cX9_init 118 = .ok (.dup, 1) := by decide +kernel
theorem dX9_init_119 : decode cX9_init 119 = .ok (.invokespecial 69, 3) := by decide +kernel
theorem dX9_init_122 : decode cX9_init 122 = .ok (.putfield 70, 3) := by decide +kernel
theorem dX9_init_125 : decode cX9_init 125 = .ok (.aload_n 0, 1) := by decide +kernel
theorem dX9_init_126 : decode cX9_init 126 = .ok (.iconst 0, 1) := by decide +kernel
theorem dX9_init_127 : decode cX9_init 127 = .ok (.putfield 74, 3) := by decide +kernel
theorem dX9_init_130 : decode cX9_init 130 = .ok (.aload_n 0, 1) := by decide +kernel
theorem dX9_init_131 : decode cX9_init 131 = .ok (.iconst 0, 1) := by decide +kernel
theorem dX9_init_132 : decode cX9_init 132 = .ok (.putfield 78, 3) := by decide +kernel
theorem dX9_init_135 : decode cX9_init 135 = .ok (.aload_n 0, 1) := by decide +kernel
theorem dX9_init_136 : decode cX9_init 136 = .ok (.iconst 0, 1) := by decide +kernel
theorem dX9_init_137 : decode cX9_init 137 = .ok (.putfield 82, 3) := by decide +kernel
theorem dX9_init_140 : decode cX9_init 140 = .ok (.aload_n 0, 1) := by decide +kernel
theorem dX9_init_141 : decode cX9_init 141 = .ok (.iconst (-1), 1) := by decide +kernel
theorem dX9_init_142 : decode cX9_init 142 = .ok (.putfield 85, 3) := by decide +kernel
theorem dX9_init_145 : decode cX9_init 145 = .ok (.aload_n 0, 1) := by decide +kernel
theorem dX9_init_146 : decode cX9_init 146 = .ok (.iconst (-1), 1) := by decide +kernel
theorem dX9_init_147 : decode cX9_init 147 = .ok (.putfield 88, 3) := by decide +kernel
theorem dX9_init_150 : decode cX9_init 150 = .ok (.return_, 1) := by decide +kernel
theorem dX9_setGround_0 : decode cX9_setGround 0 = .ok (.iload_n 1, 1) := by decide +kernel
theorem dX9_setGround_1 : decode cX9_setGround 1 = .ok (.iload_n 2, 1) := by decide +kernel
theorem dX9_setGround_2 : decode cX9_setGround 2 = .ok (.invokestatic 91, 3) := by decide +kernel
theorem dX9_setGround_5 : decode cX9_setGround 5 = .ok (.iload_n 3, 1) := by decide +kernel
theorem dX9_setGround_6 : decode cX9_setGround 6 = .ok (.invokestatic 95, 3) := by decide +kernel
theorem dX9_setGround_9 : decode cX9_setGround 9 = .ok (.ifCond .ne 13, 3) := by decide +kernel
theorem dX9_setGround_12 : decode cX9_setGround 12 = .ok (.new 99, 3) := by decide +kernel
theorem dX9_setGround_15 : decode cX9_setGround 15 = .ok (.dup, 1) := by decide +kernel
theorem dX9_setGround_16 : decode cX9_setGround 16 = .ok (.ldc 101, 2) := by decide +kernel
theorem dX9_setGround_18 : decode cX9_setGround 18 = .ok (.invokespecial 103, 3) := by decide +kernel
theorem dX9_setGround_21 : decode cX9_setGround 21 = .ok (.athrow, 1) := by decide +kernel
theorem dX9_setGround_22 : decode cX9_setGround 22 = .ok (.iload_n 1, 1) := by decide +kernel
theorem dX9_setGround_23 : decode cX9_setGround 23 = .ok (.iload_n 2, 1) := by decide +kernel
theorem dX9_setGround_24 : decode cX9_setGround 24 = .ok (.invokestatic 106, 3) := by decide +kernel
theorem dX9_setGround_27 : decode cX9_setGround 27 = .ok (.istore 4, 2) := by decide +kernel
theorem dX9_setGround_29 : decode cX9_setGround 29 = .ok (.aload_n 0, 1) := by decide +kernel
theorem dX9_setGround_30 : decode cX9_setGround 30 = .ok (.iload 4, 2) := by decide +kernel
theorem dX9_setGround_32 : decode cX9_setGround 32 = .ok (.iload_n 3, 1) := by decide +kernel
theorem dX9_setGround_33 : decode cX9_setGround 33 = .ok (.invokevirtual 110, 3) := by decide +kernel
theorem dX9_setGround_36 : decode cX9_setGround 36 = .ok (.ifCond .eq 13, 3) := by decide +kernel
theorem dX9_setGround_39 : decode cX9_setGround 39 = .ok (.new 114, 3) := by decide +kernel
theorem dX9_setGround_42 : decode cX9_setGround 42 = .ok (.dup, 1) := by decide +kernel
theorem dX9_setGround_43 : decode cX9_setGround 43 = .ok (.ldc 116, 2) := by decide +kernel
theorem dX9_setGround_45 : decode cX9_setGround 45 = .ok (.invokespecial 118, 3) := by decide +kernel
theorem dX9_setGround_48 : decode cX9_setGround 48 = .ok (.athrow, 1) := by decide +kernel
theorem dX9_setGround_49 : decode cX9_setGround 49 = .ok (.aload_n 0, 1) := by decide +kernel
theorem dX9_setGround_50 : decode cX9_setGround 50 = .ok (.getfield 10, 3) := by decide +kernel
theorem dX9_setGround_53 : decode cX9_setGround 53 = .ok (.getfield 119, 3) := by decide +kernel
theorem dX9_setGround_56 : decode cX9_setGround 56 = .ok (.iload 4, 2) := by decide +kernel
theorem dX9_setGround_58 : decode cX9_setGround 58 = .ok (.caload, 1) := by decide +kernel
theorem dX9_setGround_59 : decode cX9_setGround 59 = .ok (.istore 5, 2) := by decide +kernel
theorem dX9_setGround_61 : decode cX9_setGround 61 = .ok (.aload_n 0, 1) := by decide +kernel
theorem dX9_setGround_62 : decode cX9_setGround 62 = .ok (.getfield 28, 3) := by decide +kernel
theorem dX9_setGround_65 : decode cX9_setGround 65 = .ok (.aload_n 0, 1) := by decide +kernel
theorem dX9_setGround_66 : decode cX9_setGround 66 = .ok (.getfield 10, 3) := by decide +kernel
theorem dX9_setGround_69 : decode cX9_setGround 69 = .ok (.invokevirtual 123, 3) := by decide +kernel
theorem dX9_setGround_72 : decode cX9_setGround 72 = .ok (.aload_n 0, 1) := by decide +kernel
theorem dX9_setGround_73 : decode cX9_setGround 73 = .ok (.getfield 10, 3) := by decide +kernel
theorem dX9_setGround_76 : decode cX9_setGround 76 = .ok (.getfield 119, 3) := by decide +kernel
theorem dX9_setGround_79 : decode cX9_setGround 79 = .ok (.iload 4, 2) := by decide +kernel
theorem dX9_setGround_81 : decode cX9_setGround 81 = .ok (.iload_n 3, 1) := by decide +kernel
theorem dX9_setGround_82 : decode cX9_setGround 82 = .ok (.castore, 1) := by decide +kernel
theorem dX9_setGround_83 : decode cX9_setGround 83 = .ok (.iload 5, 2) := by decide +kernel
theorem dX9_setGround_85 : decode cX9_setGround 85 = .ok (.ireturn, 1) := by decide +kernel
theorem dX9_groundAt_0 : decode cX9_groundAt 0 = .ok (.iload_n 1, 1) := by decide +kernel
theorem dX9_groundAt_1 : decode cX9_groundAt 1 = .ok (.iload_n 2, 1) := by decide +kernel
theorem dX9_groundAt_2 : decode cX9_groundAt 2 = .ok (.invokestatic 91, 3) := by decide +kernel
theorem dX9_groundAt_5 : decode cX9_groundAt 5 = .ok (.aload_n 0, 1) := by decide +kernel
theorem dX9_groundAt_6 : decode cX9_groundAt 6 = .ok (.getfield 10, 3) := by decide +kernel
theorem dX9_groundAt_9 : decode cX9_groundAt 9 = .ok (.getfield 119, 3) := by decide +kernel
theorem dX9_groundAt_12 : decode cX9_groundAt 12 = .ok (.iload_n 1, 1) := by decide +kernel
theorem dX9_groundAt_13 : decode cX9_groundAt 13 = .ok (.iload_n 2, 1) := by decide +kernel
theorem dX9_groundAt_14 : decode cX9_groundAt 14 = .ok (.invokestatic 106, 3) := by decide +kernel
theorem dX9_groundAt_17 : decode cX9_groundAt 17 = .ok (.caload, 1) := by decide +kernel
theorem dX9_groundAt_18 : decode cX9_groundAt 18 = .ok (.ireturn, 1) := by decide +kernel
theorem dX9_heatUp_0 : decode cX9_heatUp 0 = .ok (.iload_n 1, 1) := by decide +kernel
theorem dX9_heatUp_1 : decode cX9_heatUp 1 = .ok (.iload_n 2, 1) := by decide +kernel
theorem dX9_heatUp_2 : decode cX9_heatUp 2 = .ok (.invokestatic 91, 3) := by decide +kernel
theorem dX9_heatUp_5 : decode cX9_heatUp 5 = .ok (.iload_n 3, 1) := by decide +kernel
theorem dX9_heatUp_6 : decode cX9_heatUp 6 = .ok (.invokestatic 127, 3) := by decide +kernel
theorem dX9_heatUp_9 : decode cX9_heatUp 9 = .ok (.ifCond .ne 13, 3) := by decide +kernel
theorem dX9_heatUp_12 : decode cX9_heatUp 12 = .ok (.new 99, 3) := by decide +kernel
theorem dX9_heatUp_15 : decode cX9_heatUp 15 = .ok (.dup, 1) := by decide +kernel
theorem dX9_heatUp_16 : decode cX9_heatUp 16 = .ok (.ldc 130, 2) := by decide +kernel
theorem dX9_heatUp_18 : decode cX9_heatUp 18 = .ok (.invokespecial 103, 3) := by decide +kernel
theorem dX9_heatUp_21 : decode cX9_heatUp 21 = .ok (.athrow, 1) := by decide +kernel
theorem dX9_heatUp_22 : decode cX9_heatUp 22 = .ok (.iload_n 1, 1) := by decide +kernel
theorem dX9_heatUp_23 : decode cX9_heatUp 23 = .ok (.iload_n 2, 1) := by decide +kernel
theorem dX9_heatUp_24 : decode cX9_heatUp 24 = .ok (.invokestatic 106, 3) := by decide +kernel
theorem dX9_heatUp_27 : decode cX9_heatUp 27 = .ok (.istore 4, 2) := by decide +kernel
theorem dX9_heatUp_29 : decode cX9_heatUp 29 = .ok (.aload_n 0, 1) := by decide +kernel
theorem dX9_heatUp_30 : decode cX9_heatUp 30 = .ok (.iload 4, 2) := by decide +kernel
theorem dX9_heatUp_32 : decode cX9_heatUp 32 = .ok (.iload_n 3, 1) := by decide +kernel
theorem dX9_heatUp_33 : decode cX9_heatUp 33 = .ok (.invokevirtual 132, 3) := by decide +kernel
theorem dX9_heatUp_36 : decode cX9_heatUp 36 = .ok (.ifCond .eq 13, 3) := by decide +kernel
theorem dX9_heatUp_39 : decode cX9_heatUp 39 = .ok (.new 114, 3) := by decide +kernel
theorem dX9_heatUp_42 : decode cX9_heatUp 42 = .ok (.dup, 1) := by decide +kernel
theorem dX9_heatUp_43 : decode cX9_heatUp 43 = .ok (.ldc 135, 2) := by decide +kernel
theorem dX9_heatUp_45 : decode cX9_heatUp 45 = .ok (.invokespecial 118, 3) := by decide +kernel
theorem dX9_heatUp_48 : decode cX9_heatUp 48 = .ok (.athrow, 1) := by decide +kernel
theorem dX9_heatUp_49 : decode cX9_heatUp 49 = .ok (.aload_n 0, 1) := by decide +kernel
theorem dX9_heatUp_50 : decode cX9_heatUp 50 = .ok (.getfield 28, 3) := by decide +kernel
theorem dX9_heatUp_53 : decode cX9_heatUp 53 = .ok (.aload_n 0, 1) := by decide +kernel
theorem dX9_heatUp_54 : decode cX9_heatUp 54 = .ok (.getfield 10, 3) := by decide +kernel
theorem dX9_heatUp_57 : decode cX9_heatUp 57 = .ok (.invokevirtual 123, 3) := by decide +kernel
theorem dX9_heatUp_60 : decode cX9_heatUp 60 = .ok (.aload_n 0, 1) := by decide +kernel
theorem dX9_heatUp_61 : decode cX9_heatUp 61 = .ok (.getfield 10, 3) := by decide +kernel
theorem dX9_heatUp_64 : decode cX9_heatUp 64 = .ok (.iload 4, 2) := by decide +kernel
theorem dX9_heatUp_66 : decode cX9_heatUp 66 = .ok (.iload_n 3, 1) := by decide +kernel
theorem dX9_heatUp_67 : decode cX9_heatUp 67 = .ok (.invokevirtual 137, 3) := by decide +kernel
theorem dX9_heatUp_70 : decode cX9_heatUp 70 = .ok (.aload_n 0, 1) := by decide +kernel
theorem dX9_heatUp_71 : decode cX9_heatUp 71 = .ok (.getfield 10, 3) := by decide +kernel
theorem dX9_heatUp_74 : decode cX9_heatUp 74 = .ok (.getfield 140, 3) := by decide +kernel
theorem dX9_heatUp_77 : decode cX9_heatUp 77 = .ok (.iload 4, 2) := by decide +kernel
theorem dX9_heatUp_79 : decode cX9_heatUp 79 = .ok (.iaload, 1) := by decide +kernel
theorem dX9_heatUp_80 : decode cX9_heatUp 80 = .ok (.ireturn, 1) := by decide +kernel
theorem dX9_heatAt_0 : decode cX9_heatAt 0 = .ok (.iload_n 1, 1) := by decide +kernel
theorem dX9_heatAt_1 : decode cX9_heatAt 1 = .ok (.iload_n 2, 1) := by decide +kernel
theorem dX9_heatAt_2 : decode cX9_heatAt 2 = .ok (.invokestatic 91, 3) := by decide +kernel
theorem dX9_heatAt_5 : decode cX9_heatAt 5 = .ok (.aload_n 0, 1) := by decide +kernel
theorem dX9_heatAt_6 : decode cX9_heatAt 6 = .ok (.getfield 10, 3) := by decide +kernel
theorem dX9_heatAt_9 : decode cX9_heatAt 9 = .ok (.getfield 140, 3) := by decide +kernel
theorem dX9_heatAt_12 : decode cX9_heatAt 12 = .ok (.iload_n 1, 1) := by decide +kernel
theorem dX9_heatAt_13 : decode cX9_heatAt 13 = .ok (.iload_n 2, 1) := by decide +kernel
theorem dX9_heatAt_14 : decode cX9_heatAt 14 = .ok (.invokestatic 106, 3) := by decide +kernel
theorem dX9_heatAt_17 : decode cX9_heatAt 17 = .ok (.iaload, 1) := by decide +kernel
theorem dX9_heatAt_18 : decode cX9_heatAt 18 = .ok (.ireturn, 1) := by decide +kernel
theorem dX9_embersAt_0 : decode cX9_embersAt 0 = .ok (.iload_n 1, 1) := by decide +kernel
theorem dX9_embersAt_1 : decode cX9_embersAt 1 = .ok (.iload_n 2, 1) := by decide +kernel
theorem dX9_embersAt_2 : decode cX9_embersAt 2 = .ok (.invokestatic 91, 3) := by decide +kernel
theorem dX9_embersAt_5 : decode cX9_embersAt 5 = .ok (.aload_n 0, 1) := by decide +kernel
theorem dX9_embersAt_6 : decode cX9_embersAt 6 = .ok (.getfield 10, 3) := by decide +kernel
theorem dX9_embersAt_9 : decode cX9_embersAt 9 = .ok (.getfield 144, 3) := by decide +kernel
theorem dX9_embersAt_12 : decode cX9_embersAt 12 = .ok (.iload_n 1, 1) := by decide +kernel
theorem dX9_embersAt_13 : decode cX9_embersAt 13 = .ok (.iload_n 2, 1) := by decide +kernel
theorem dX9_embersAt_14 : decode cX9_embersAt 14 = .ok (.invokestatic 106, 3) := by decide +kernel
theorem dX9_embersAt_17 : decode cX9_embersAt 17 = .ok (.iaload, 1) := by decide +kernel
theorem dX9_embersAt_18 : decode cX9_embersAt 18 = .ok (.ireturn, 1) := by decide +kernel
theorem dX9_allHeat_0 : decode cX9_allHeat 0 = .ok (.aload_n 0, 1) := by decide +kernel
theorem dX9_allHeat_1 : decode cX9_allHeat 1 = .ok (.getfield 10, 3) := by decide +kernel
theorem dX9_allHeat_4 : decode cX9_allHeat 4 = .ok (.invokevirtual 147, 3) := by decide +kernel
theorem dX9_allHeat_7 : decode cX9_allHeat 7 = .ok (.aload_n 0, 1) := by decide +kernel
theorem dX9_allHeat_8 : decode cX9_allHeat 8 = .ok (.getfield 10, 3) := by decide +kernel
theorem dX9_allHeat_11 : decode cX9_allHeat 11 = .ok (.invokevirtual 151, 3) := by decide +kernel
theorem dX9_allHeat_14 : decode cX9_allHeat 14 = .ok (.iadd, 1) := by decide +kernel
theorem dX9_allHeat_15 : decode cX9_allHeat 15 = .ok (.ireturn, 1) := by decide +kernel
theorem dX9_allHeatByAccounts_0 : decode cX9_allHeatByAccounts 0 = .ok (.aload_n 0, 1) := by decide +kernel
theorem dX9_allHeatByAccounts_1 : decode cX9_allHeatByAccounts 1 = .ok (.getfield 10, 3) := by decide +kernel
theorem dX9_allHeatByAccounts_4 : decode cX9_allHeatByAccounts 4 = .ok (.getfield 154, 3) := by decide +kernel
theorem dX9_allHeatByAccounts_7 : decode cX9_allHeatByAccounts 7 = .ok (.aload_n 0, 1) := by decide +kernel
theorem dX9_allHeatByAccounts_8 : decode cX9_allHeatByAccounts 8 = .ok (.getfield 10, 3) := by decide +kernel
theorem dX9_allHeatByAccounts_11 : decode cX9_allHeatByAccounts 11 = .ok (.invokevirtual 157, 3) := by decide +kernel
theorem dX9_allHeatByAccounts_14 : decode cX9_allHeatByAccounts 14 = .ok (.isub, 1) := by decide +kernel
theorem dX9_allHeatByAccounts_15 : decode cX9_allHeatByAccounts 15 = .ok (.ireturn, 1) := by decide +kernel
theorem dX9_cellAtRank_0 : decode cX9_cellAtRank 0 = .ok (.iconst 0, 1) := by decide +kernel
theorem dX9_cellAtRank_1 : decode cX9_cellAtRank 1 = .ok (.istore_n 2, 1) := by decide +kernel
theorem dX9_cellAtRank_2 : decode cX9_cellAtRank 2 = .ok (.iload_n 2, 1) := by decide +kernel
theorem dX9_cellAtRank_3 : decode cX9_cellAtRank 3 = .ok (.bipush 64, 2) := by decide +kernel
theorem dX9_cellAtRank_5 : decode cX9_cellAtRank 5 = .ok (.if_icmp .ge 23, 3) := by decide +kernel
theorem dX9_cellAtRank_8 : decode cX9_cellAtRank 8 = .ok (.aload_n 0, 1) := by decide +kernel
theorem dX9_cellAtRank_9 : decode cX9_cellAtRank 9 = .ok (.getfield 10, 3) := by decide +kernel
theorem dX9_cellAtRank_12 : decode cX9_cellAtRank 12 = .ok (.iload_n 2, 1) := by decide +kernel
theorem dX9_cellAtRank_13 : decode cX9_cellAtRank 13 = .ok (.invokevirtual 160, 3) := by decide +kernel
theorem dX9_cellAtRank_16 : decode cX9_cellAtRank 16 = .ok (.iload_n 1, 1) := by decide +kernel
theorem dX9_cellAtRank_17 : decode cX9_cellAtRank 17 = .ok (.if_icmp .ne 5, 3) := by decide +kernel
theorem dX9_cellAtRank_20 : decode cX9_cellAtRank 20 = .ok (.iload_n 2, 1) := by decide +kernel
theorem dX9_cellAtRank_21 : decode cX9_cellAtRank 21 = .ok (.ireturn, 1) := by decide +kernel
theorem dX9_cellAtRank_22 : decode cX9_cellAtRank 22 = .ok (.iinc 2 1, 3) := by decide +kernel
theorem dX9_cellAtRank_25 : decode cX9_cellAtRank 25 = .ok (.goto (-23), 3) := by decide +kernel
theorem dX9_cellAtRank_28 : decode cX9_cellAtRank 28 = .ok (.new 164, 3) := by decide +kernel
theorem dX9_cellAtRank_31 : decode cX9_cellAtRank 31 = .ok (.dup, 1) := by decide +kernel
theorem dX9_cellAtRank_32 : decode cX9_cellAtRank 32 = .ok (.ldc 166, 2) := by decide +kernel
theorem dX9_cellAtRank_34 : decode cX9_cellAtRank 34 = .ok (.invokespecial 168, 3) := by decide +kernel
theorem dX9_cellAtRank_37 : decode cX9_cellAtRank 37 = .ok (.athrow, 1) := by decide +kernel
theorem dX9_refusalReason_0 : decode cX9_refusalReason 0 = .ok (.aload_n 0, 1) := by decide +kernel
theorem dX9_refusalReason_1 : decode cX9_refusalReason 1 = .ok (.invokevirtual 169, 3) := by decide +kernel
theorem dX9_refusalReason_4 : decode cX9_refusalReason 4 = .ok (.aload_n 0, 1) := by decide +kernel
theorem dX9_refusalReason_5 : decode cX9_refusalReason 5 = .ok (.getfield 78, 3) := by decide +kernel
theorem dX9_refusalReason_8 : decode cX9_refusalReason 8 = .ok (.ireturn, 1) := by decide +kernel
theorem dX9_refusalDetail_0 : decode cX9_refusalDetail 0 = .ok (.aload_n 0, 1) := by decide +kernel
theorem dX9_refusalDetail_1 : decode cX9_refusalDetail 1 = .ok (.invokevirtual 169, 3) := by decide +kernel
theorem dX9_refusalDetail_4 : decode cX9_refusalDetail 4 = .ok (.aload_n 0, 1) := by decide +kernel
theorem dX9_refusalDetail_5 : decode cX9_refusalDetail 5 = .ok (.getfield 82, 3) := by decide +kernel
theorem dX9_refusalDetail_8 : decode cX9_refusalDetail 8 = .ok (.ireturn, 1) := by decide +kernel
theorem dX9_setBorder_0 : decode cX9_setBorder 0 = .ok (.iload_n 1, 1) := by decide +kernel
theorem dX9_setBorder_1 : decode cX9_setBorder 1 = .ok (.invokestatic 172, 3) := by decide +kernel
theorem dX9_setBorder_4 : decode cX9_setBorder 4 = .ok (.iload_n 2, 1) := by decide +kernel
theorem dX9_setBorder_5 : decode cX9_setBorder 5 = .ok (.invokestatic 176, 3) := by decide +kernel
theorem dX9_setBorder_8 : decode cX9_setBorder 8 = .ok (.ifCond .ne 13, 3) := by decide +kernel
theorem dX9_setBorder_11 : decode cX9_setBorder 11 = .ok (.new 99, 3) := by decide +kernel
theorem dX9_setBorder_14 : decode cX9_setBorder 14 = .ok (.dup, 1) := by decide +kernel
theorem dX9_setBorder_15 : decode cX9_setBorder 15 = .ok (.ldc 179, 2) := by decide +kernel
theorem dX9_setBorder_17 : decode cX9_setBorder 17 = .ok (.invokespecial 103, 3) := by decide +kernel
theorem dX9_setBorder_20 : decode cX9_setBorder 20 = .ok (.athrow, 1) := by decide +kernel
theorem dX9_setBorder_21 : decode cX9_setBorder 21 = .ok (.aload_n 0, 1) := by decide +kernel
theorem dX9_setBorder_22 : decode cX9_setBorder 22 = .ok (.getfield 10, 3) := by decide +kernel
theorem dX9_setBorder_25 : decode cX9_setBorder 25 = .ok (.getfield 181, 3) := by decide +kernel
theorem dX9_setBorder_28 : decode cX9_setBorder 28 = .ok (.iload_n 1, 1) := by decide +kernel
theorem dX9_setBorder_29 : decode cX9_setBorder 29 = .ok (.iaload, 1) := by decide +kernel
theorem dX9_setBorder_30 : decode cX9_setBorder 30 = .ok (.istore_n 3, 1) := by decide +kernel
theorem dX9_setBorder_31 : decode cX9_setBorder 31 = .ok (.aload_n 0, 1) := by decide +kernel
theorem dX9_setBorder_32 : decode cX9_setBorder 32 = .ok (.getfield 28, 3) := by decide +kernel
theorem dX9_setBorder_35 : decode cX9_setBorder 35 = .ok (.aload_n 0, 1) := by decide +kernel
theorem dX9_setBorder_36 : decode cX9_setBorder 36 = .ok (.getfield 10, 3) := by decide +kernel
theorem dX9_setBorder_39 : decode cX9_setBorder 39 = .ok (.invokevirtual 123, 3) := by decide +kernel
theorem dX9_setBorder_42 : decode cX9_setBorder 42 = .ok (.aload_n 0, 1) := by decide +kernel
theorem dX9_setBorder_43 : decode cX9_setBorder 43 = .ok (.getfield 10, 3) := by decide +kernel
theorem dX9_setBorder_46 : decode cX9_setBorder 46 = .ok (.getfield 181, 3) := by decide +kernel
theorem dX9_setBorder_49 : decode cX9_setBorder 49 = .ok (.iload_n 1, 1) := by decide +kernel
theorem dX9_setBorder_50 : decode cX9_setBorder 50 = .ok (.iload_n 2, 1) := by decide +kernel
theorem dX9_setBorder_51 : decode cX9_setBorder 51 = .ok (.iastore, 1) := by decide +kernel
theorem dX9_setBorder_52 : decode cX9_setBorder 52 = .ok (.iload_n 3, 1) := by decide +kernel
theorem dX9_setBorder_53 : decode cX9_setBorder 53 = .ok (.ireturn, 1) := by decide +kernel
theorem dX9_border_0 : decode cX9_border 0 = .ok (.iload_n 1, 1) := by decide +kernel
theorem dX9_border_1 : decode cX9_border 1 = .ok (.invokestatic 172, 3) := by decide +kernel
theorem dX9_border_4 : decode cX9_border 4 = .ok (.aload_n 0, 1) := by decide +kernel
theorem dX9_border_5 : decode cX9_border 5 = .ok (.getfield 10, 3) := by decide +kernel
theorem dX9_border_8 : decode cX9_border 8 = .ok (.getfield 181, 3) := by decide +kernel
theorem dX9_border_11 : decode cX9_border 11 = .ok (.iload_n 1, 1) := by decide +kernel
theorem dX9_border_12 : decode cX9_border 12 = .ok (.iaload, 1) := by decide +kernel
theorem dX9_border_13 : decode cX9_border 13 = .ok (.ireturn, 1) := by decide +kernel
theorem dX9_lostBy_0 : decode cX9_lostBy 0 = .ok (.iload_n 1, 1) := by decide +kernel
theorem dX9_lostBy_1 : decode cX9_lostBy 1 = .ok (.invokestatic 172, 3) := by decide +kernel
theorem dX9_lostBy_4 : decode cX9_lostBy 4 = .ok (.aload_n 0, 1) := by decide +kernel
theorem dX9_lostBy_5 : decode cX9_lostBy 5 = .ok (.getfield 10, 3) := by decide +kernel
theorem dX9_lostBy_8 : decode cX9_lostBy 8 = .ok (.getfield 184, 3) := by decide +kernel
theorem dX9_lostBy_11 : decode cX9_lostBy 11 = .ok (.iload_n 1, 1) := by decide +kernel
theorem dX9_lostBy_12 : decode cX9_lostBy 12 = .ok (.iaload, 1) := by decide +kernel
theorem dX9_lostBy_13 : decode cX9_lostBy 13 = .ok (.ireturn, 1) := by decide +kernel
theorem dX9_pass_0 : decode cX9_pass 0 = .ok (.iload_n 1, 1) := by decide +kernel
theorem dX9_pass_1 : decode cX9_pass 1 = .ok (.invokestatic 187, 3) := by decide +kernel
theorem dX9_pass_4 : decode cX9_pass 4 = .ok (.ifCond .ne 13, 3) := by decide +kernel
theorem dX9_pass_7 : decode cX9_pass 7 = .ok (.new 99, 3) := by decide +kernel
theorem dX9_pass_10 : decode cX9_pass 10 = .ok (.dup, 1) := by decide +kernel
theorem dX9_pass_11 : decode cX9_pass 11 = .ok (.ldc 190, 2) := by decide +kernel
theorem dX9_pass_13 : decode cX9_pass 13 = .ok (.invokespecial 103, 3) := by decide +kernel
theorem dX9_pass_16 : decode cX9_pass 16 = .ok (.athrow, 1) := by decide +kernel
theorem dX9_pass_17 : decode cX9_pass 17 = .ok (.aload_n 0, 1) := by decide +kernel
theorem dX9_pass_18 : decode cX9_pass 18 = .ok (.getfield 28, 3) := by decide +kernel
theorem dX9_pass_21 : decode cX9_pass 21 = .ok (.aload_n 0, 1) := by decide +kernel
theorem dX9_pass_22 : decode cX9_pass 22 = .ok (.getfield 10, 3) := by decide +kernel
theorem dX9_pass_25 : decode cX9_pass 25 = .ok (.invokevirtual 123, 3) := by decide +kernel
theorem dX9_pass_28 : decode cX9_pass 28 = .ok (.aload_n 0, 1) := by decide +kernel
theorem dX9_pass_29 : decode cX9_pass 29 = .ok (.getfield 35, 3) := by decide +kernel
theorem dX9_pass_32 : decode cX9_pass 32 = .ok (.aload_n 0, 1) := by decide +kernel
theorem dX9_pass_33 : decode cX9_pass 33 = .ok (.getfield 10, 3) := by decide +kernel
theorem dX9_pass_36 : decode cX9_pass 36 = .ok (.iload_n 1, 1) := by decide +kernel
theorem dX9_pass_37 : decode cX9_pass 37 = .ok (.invokevirtual 192, 3) := by decide +kernel
theorem dX9_pass_40 : decode cX9_pass 40 = .ok (.ireturn, 1) := by decide +kernel
theorem dX9_ticks_0 : decode cX9_ticks 0 = .ok (.aload_n 0, 1) := by decide +kernel
theorem dX9_ticks_1 : decode cX9_ticks 1 = .ok (.getfield 10, 3) := by decide +kernel
theorem dX9_ticks_4 : decode cX9_ticks 4 = .ok (.getfield 196, 3) := by decide +kernel
theorem dX9_ticks_7 : decode cX9_ticks 7 = .ok (.ireturn, 1) := by decide +kernel
theorem dX9_relapses_0 : decode cX9_relapses 0 = .ok (.aload_n 0, 1) := by decide +kernel
theorem dX9_relapses_1 : decode cX9_relapses 1 = .ok (.getfield 10, 3) := by decide +kernel
theorem dX9_relapses_4 : decode cX9_relapses 4 = .ok (.getfield 199, 3) := by decide +kernel
theorem dX9_relapses_7 : decode cX9_relapses 7 = .ok (.ireturn, 1) := by decide +kernel
theorem dX9_ticksUntilBelow_0 : decode cX9_ticksUntilBelow 0 = .ok (.iload_n 1, 1) := by decide +kernel
theorem dX9_ticksUntilBelow_1 : decode cX9_ticksUntilBelow 1 = .ok (.invokestatic 202, 3) := by decide +kernel
theorem dX9_ticksUntilBelow_4 : decode cX9_ticksUntilBelow 4 = .ok (.aload_n 0, 1) := by decide +kernel
theorem dX9_ticksUntilBelow_5 : decode cX9_ticksUntilBelow 5 = .ok (.getfield 22, 3) := by decide +kernel
theorem dX9_ticksUntilBelow_8 : decode cX9_ticksUntilBelow 8 = .ok (.aload_n 0, 1) := by decide +kernel
theorem dX9_ticksUntilBelow_9 : decode cX9_ticksUntilBelow 9 = .ok (.getfield 10, 3) := by decide +kernel
theorem dX9_ticksUntilBelow_12 : decode cX9_ticksUntilBelow 12 = .ok (.invokevirtual 205, 3) := by decide +kernel
theorem dX9_ticksUntilBelow_15 : decode cX9_ticksUntilBelow 15 = .ok (.iconst 0, 1) := by decide +kernel
theorem dX9_ticksUntilBelow_16 : decode cX9_ticksUntilBelow 16 = .ok (.istore_n 2, 1) := by decide +kernel
theorem dX9_ticksUntilBelow_17 : decode cX9_ticksUntilBelow 17 = .ok (.iload_n 2, 1) := by decide +kernel
theorem dX9_ticksUntilBelow_18 : decode cX9_ticksUntilBelow 18 = .ok (.bipush 20, 2) := by decide +kernel
theorem dX9_ticksUntilBelow_20 : decode cX9_ticksUntilBelow 20 = .ok (.if_icmp .gt 37, 3) := by decide +kernel
theorem dX9_ticksUntilBelow_23 : decode cX9_ticksUntilBelow 23 = .ok (.aload_n 0, 1) := by decide +kernel
theorem dX9_ticksUntilBelow_24 : decode cX9_ticksUntilBelow 24 = .ok (.getfield 22, 3) := by decide +kernel
theorem dX9_ticksUntilBelow_27 : decode cX9_ticksUntilBelow 27 = .ok (.iload_n 1, 1) := by decide +kernel
theorem dX9_ticksUntilBelow_28 : decode cX9_ticksUntilBelow 28 = .ok (.invokevirtual 208, 3) := by decide +kernel
theorem dX9_ticksUntilBelow_31 : decode cX9_ticksUntilBelow 31 = .ok (.lconst 0, 1) := by decide +kernel
theorem dX9_ticksUntilBelow_32 : decode cX9_ticksUntilBelow 32 = .ok (.lcmp, 1) := by decide +kernel
theorem dX9_ticksUntilBelow_33 : decode cX9_ticksUntilBelow 33 = .ok (.ifCond .ne 5, 3) := by decide +kernel
theorem dX9_ticksUntilBelow_36 : decode cX9_ticksUntilBelow 36 = .ok (.iload_n 2, 1) := by decide +kernel
theorem dX9_ticksUntilBelow_37 : decode cX9_ticksUntilBelow 37 = .ok (.ireturn, 1) := by decide +kernel
theorem dX9_ticksUntilBelow_38 : decode cX9_ticksUntilBelow 38 = .ok (.aload_n 0, 1) := by decide +kernel
theorem dX9_ticksUntilBelow_39 : decode cX9_ticksUntilBelow 39 = .ok (.getfield 35, 3) := by decide +kernel
theorem dX9_ticksUntilBelow_42 : decode cX9_ticksUntilBelow 42 = .ok (.aload_n 0, 1) := by decide +kernel
theorem dX9_ticksUntilBelow_43 : decode cX9_ticksUntilBelow 43 = .ok (.getfield 22, 3) := by decide +kernel
theorem dX9_ticksUntilBelow_46 : decode cX9_ticksUntilBelow 46 = .ok (.iconst 1, 1) := by decide +kernel
theorem dX9_ticksUntilBelow_47 : decode cX9_ticksUntilBelow 47 = .ok (.invokevirtual 192, 3) := by decide +kernel
theorem dX9_ticksUntilBelow_50 : decode cX9_ticksUntilBelow 50 = .ok (.pop, 1) := by decide +kernel
theorem dX9_ticksUntilBelow_51 : decode cX9_ticksUntilBelow 51 = .ok (.iinc 2 1, 3) := by decide +kernel
theorem dX9_ticksUntilBelow_54 : decode cX9_ticksUntilBelow 54 = .ok (.goto (-37), 3) := by decide +kernel
theorem dX9_ticksUntilBelow_57 : decode cX9_ticksUntilBelow 57 = .ok (.new 164, 3) := by decide +kernel
theorem dX9_ticksUntilBelow_60 : decode cX9_ticksUntilBelow 60 = .ok (.dup, 1) := by decide +kernel
theorem dX9_ticksUntilBelow_61 : decode cX9_ticksUntilBelow 61 = .ok (.ldc 212, 2) := by decide +kernel
theorem dX9_ticksUntilBelow_63 : decode cX9_ticksUntilBelow 63 = .ok (.invokespecial 168, 3) := by decide +kernel
theorem dX9_ticksUntilBelow_66 : decode cX9_ticksUntilBelow 66 = .ok (.athrow, 1) := by decide +kernel
theorem dX9_cellBits_0 : decode cX9_cellBits 0 = .ok (.iload_n 1, 1) := by decide +kernel
theorem dX9_cellBits_1 : decode cX9_cellBits 1 = .ok (.invokestatic 202, 3) := by decide +kernel
theorem dX9_cellBits_4 : decode cX9_cellBits 4 = .ok (.aload_n 0, 1) := by decide +kernel
theorem dX9_cellBits_5 : decode cX9_cellBits 5 = .ok (.getfield 10, 3) := by decide +kernel
theorem dX9_cellBits_8 : decode cX9_cellBits 8 = .ok (.iload_n 1, 1) := by decide +kernel
theorem dX9_cellBits_9 : decode cX9_cellBits 9 = .ok (.invokevirtual 208, 3) := by decide +kernel
theorem dX9_cellBits_12 : decode cX9_cellBits 12 = .ok (.lreturn, 1) := by decide +kernel
theorem dX9_regions_0 : decode cX9_regions 0 = .ok (.iload_n 1, 1) := by decide +kernel
theorem dX9_regions_1 : decode cX9_regions 1 = .ok (.invokestatic 202, 3) := by decide +kernel
theorem dX9_regions_4 : decode cX9_regions 4 = .ok (.aload_n 0, 1) := by decide +kernel
theorem dX9_regions_5 : decode cX9_regions 5 = .ok (.getfield 10, 3) := by decide +kernel
theorem dX9_regions_8 : decode cX9_regions 8 = .ok (.iload_n 1, 1) := by decide +kernel
theorem dX9_regions_9 : decode cX9_regions 9 = .ok (.invokevirtual 208, 3) := by decide +kernel
theorem dX9_regions_12 : decode cX9_regions 12 = .ok (.invokestatic 214, 3) := by decide +kernel
theorem dX9_regions_15 : decode cX9_regions 15 = .ok (.ireturn, 1) := by decide +kernel
theorem dX9_regionsByUnions_0 : decode cX9_regionsByUnions 0 = .ok (.iload_n 1, 1) := by decide +kernel
theorem dX9_regionsByUnions_1 : decode cX9_regionsByUnions 1 = .ok (.invokestatic 202, 3) := by decide +kernel
theorem dX9_regionsByUnions_4 : decode cX9_regionsByUnions 4 = .ok (.aload_n 0, 1) := by decide +kernel
theorem dX9_regionsByUnions_5 : decode cX9_regionsByUnions 5 = .ok (.getfield 42, 3) := by decide +kernel
theorem dX9_regionsByUnions_8 : decode cX9_regionsByUnions 8 = .ok (.aload_n 0, 1) := by decide +kernel
theorem dX9_regionsByUnions_9 : decode cX9_regionsByUnions 9 = .ok (.getfield 10, 3) := by decide +kernel
theorem dX9_regionsByUnions_12 : decode cX9_regionsByUnions 12 = .ok (.iload_n 1, 1) := by decide +kernel
theorem dX9_regionsByUnions_13 : decode cX9_regionsByUnions 13 = .ok (.invokevirtual 208, 3) := by decide +kernel
theorem dX9_regionsByUnions_16 : decode cX9_regionsByUnions 16 = .ok (.invokevirtual 220, 3) := by decide +kernel
theorem dX9_regionsByUnions_19 : decode cX9_regionsByUnions 19 = .ok (.ireturn, 1) := by decide +kernel
theorem dX9_holes_0 : decode cX9_holes 0 = .ok (.iload_n 1, 1) := by decide +kernel
theorem dX9_holes_1 : decode cX9_holes 1 = .ok (.invokestatic 202, 3) := by decide +kernel
theorem dX9_holes_4 : decode cX9_holes 4 = .ok (.aload_n 0, 1) := by decide +kernel
theorem dX9_holes_5 : decode cX9_holes 5 = .ok (.getfield 10, 3) := by decide +kernel
theorem dX9_holes_8 : decode cX9_holes 8 = .ok (.iload_n 1, 1) := by decide +kernel
theorem dX9_holes_9 : decode cX9_holes 9 = .ok (.invokevirtual 208, 3) := by decide +kernel
theorem dX9_holes_12 : decode cX9_holes 12 = .ok (.invokestatic 221, 3) := by decide +kernel
theorem dX9_holes_15 : decode cX9_holes 15 = .ok (.ireturn, 1) := by decide +kernel
theorem dX9_holesBySquares_0 : decode cX9_holesBySquares 0 = .ok (.iload_n 1, 1) := by decide +kernel
theorem dX9_holesBySquares_1 : decode cX9_holesBySquares 1 = .ok (.invokestatic 202, 3) := by decide +kernel
theorem dX9_holesBySquares_4 : decode cX9_holesBySquares 4 = .ok (.aload_n 0, 1) := by decide +kernel
theorem dX9_holesBySquares_5 : decode cX9_holesBySquares 5 = .ok (.aload_n 0, 1) := by decide +kernel
theorem dX9_holesBySquares_6 : decode cX9_holesBySquares 6 = .ok (.getfield 10, 3) := by decide +kernel
theorem dX9_holesBySquares_9 : decode cX9_holesBySquares 9 = .ok (.iload_n 1, 1) := by decide +kernel
theorem dX9_holesBySquares_10 : decode cX9_holesBySquares 10 = .ok (.invokevirtual 208, 3) := by decide +kernel
theorem dX9_holesBySquares_13 : decode cX9_holesBySquares 13 = .ok (.invokevirtual 224, 3) := by decide +kernel
theorem dX9_holesBySquares_16 : decode cX9_holesBySquares 16 = .ok (.ireturn, 1) := by decide +kernel
theorem dX9_contourLength_0 : decode cX9_contourLength 0 = .ok (.iload_n 1, 1) := by decide +kernel
theorem dX9_contourLength_1 : decode cX9_contourLength 1 = .ok (.invokestatic 202, 3) := by decide +kernel
theorem dX9_contourLength_4 : decode cX9_contourLength 4 = .ok (.aload_n 0, 1) := by decide +kernel
theorem dX9_contourLength_5 : decode cX9_contourLength 5 = .ok (.getfield 10, 3) := by decide +kernel
theorem dX9_contourLength_8 : decode cX9_contourLength 8 = .ok (.iload_n 1, 1) := by decide +kernel
theorem dX9_contourLength_9 : decode cX9_contourLength 9 = .ok (.invokevirtual 208, 3) := by decide +kernel
theorem dX9_contourLength_12 : decode cX9_contourLength 12 = .ok (.invokestatic 227, 3) := by decide +kernel
theorem dX9_contourLength_15 : decode cX9_contourLength 15 = .ok (.ireturn, 1) := by decide +kernel
theorem dX9_contourLengthByPairs_0 : decode cX9_contourLengthByPairs 0 = .ok (.iload_n 1, 1) := by decide +kernel
theorem dX9_contourLengthByPairs_1 : decode cX9_contourLengthByPairs 1 = .ok (.invokestatic 202, 3) := by decide +kernel
theorem dX9_contourLengthByPairs_4 : decode cX9_contourLengthByPairs 4 = .ok (.aload_n 0, 1) := by decide +kernel
theorem dX9_contourLengthByPairs_5 : decode cX9_contourLengthByPairs 5 = .ok (.getfield 10, 3) := by decide +kernel
theorem dX9_contourLengthByPairs_8 : decode cX9_contourLengthByPairs 8 = .ok (.iload_n 1, 1) := by decide +kernel
theorem dX9_contourLengthByPairs_9 : decode cX9_contourLengthByPairs 9 = .ok (.invokevirtual 208, 3) := by decide +kernel
theorem dX9_contourLengthByPairs_12 : decode cX9_contourLengthByPairs 12 = .ok (.invokestatic 230, 3) := by decide +kernel
theorem dX9_contourLengthByPairs_15 : decode cX9_contourLengthByPairs 15 = .ok (.ireturn, 1) := by decide +kernel
theorem dX9_regionSize_0 : decode cX9_regionSize 0 = .ok (.iload_n 1, 1) := by decide +kernel
theorem dX9_regionSize_1 : decode cX9_regionSize 1 = .ok (.iload_n 2, 1) := by decide +kernel
theorem dX9_regionSize_2 : decode cX9_regionSize 2 = .ok (.invokestatic 91, 3) := by decide +kernel
theorem dX9_regionSize_5 : decode cX9_regionSize 5 = .ok (.iload_n 3, 1) := by decide +kernel
theorem dX9_regionSize_6 : decode cX9_regionSize 6 = .ok (.invokestatic 202, 3) := by decide +kernel
theorem dX9_regionSize_9 : decode cX9_regionSize 9 = .ok (.iload_n 1, 1) := by decide +kernel
theorem dX9_regionSize_10 : decode cX9_regionSize 10 = .ok (.iload_n 2, 1) := by decide +kernel
theorem dX9_regionSize_11 : decode cX9_regionSize 11 = .ok (.invokestatic 106, 3) := by decide +kernel
theorem dX9_regionSize_14 : decode cX9_regionSize 14 = .ok (.invokestatic 233, 3) := by decide +kernel
theorem dX9_regionSize_17 : decode cX9_regionSize 17 = .ok (.aload_n 0, 1) := by decide +kernel
theorem dX9_regionSize_18 : decode cX9_regionSize 18 = .ok (.getfield 10, 3) := by decide +kernel
theorem dX9_regionSize_21 : decode cX9_regionSize 21 = .ok (.iload_n 3, 1) := by decide +kernel
theorem dX9_regionSize_22 : decode cX9_regionSize 22 = .ok (.invokevirtual 208, 3) := by decide +kernel
theorem dX9_regionSize_25 : decode cX9_regionSize 25 = .ok (.invokestatic 236, 3) := by decide +kernel
theorem dX9_regionSize_28 : decode cX9_regionSize 28 = .ok (.invokestatic 240, 3) := by decide +kernel
theorem dX9_regionSize_31 : decode cX9_regionSize 31 = .ok (.ireturn, 1) := by decide +kernel
theorem dX9_coolestPeak_0 : decode cX9_coolestPeak 0 = .ok (.iload_n 1, 1) := by decide +kernel
theorem dX9_coolestPeak_1 : decode cX9_coolestPeak 1 = .ok (.iload_n 2, 1) := by decide +kernel
theorem dX9_coolestPeak_2 : decode cX9_coolestPeak 2 = .ok (.invokestatic 91, 3) := by decide +kernel
theorem dX9_coolestPeak_5 : decode cX9_coolestPeak 5 = .ok (.iload_n 3, 1) := by decide +kernel
theorem dX9_coolestPeak_6 : decode cX9_coolestPeak 6 = .ok (.iload 4, 2) := by decide +kernel
theorem dX9_coolestPeak_8 : decode cX9_coolestPeak 8 = .ok (.invokestatic 91, 3) := by decide +kernel
theorem dX9_coolestPeak_11 : decode cX9_coolestPeak 11 = .ok (.aload_n 0, 1) := by decide +kernel
theorem dX9_coolestPeak_12 : decode cX9_coolestPeak 12 = .ok (.getfield 49, 3) := by decide +kernel
theorem dX9_coolestPeak_15 : decode cX9_coolestPeak 15 = .ok (.aload_n 0, 1) := by decide +kernel
theorem dX9_coolestPeak_16 : decode cX9_coolestPeak 16 = .ok (.getfield 10, 3) := by decide +kernel
theorem dX9_coolestPeak_19 : decode cX9_coolestPeak 19 = .ok (.iload_n 1, 1) := by decide +kernel
theorem dX9_coolestPeak_20 : decode cX9_coolestPeak 20 = .ok (.iload_n 2, 1) := by decide +kernel
theorem dX9_coolestPeak_21 : decode cX9_coolestPeak 21 = .ok (.invokestatic 106, 3) := by decide +kernel
theorem dX9_coolestPeak_24 : decode cX9_coolestPeak 24 = .ok (.iload_n 3, 1) := by decide +kernel
theorem dX9_coolestPeak_25 : decode cX9_coolestPeak 25 = .ok (.iload 4, 2) := by decide +kernel
theorem dX9_coolestPeak_27 : decode cX9_coolestPeak 27 = .ok (.invokestatic 106, 3) := by decide +kernel
theorem dX9_coolestPeak_30 : decode cX9_coolestPeak 30 = .ok (.invokevirtual 245, 3) := by decide +kernel
theorem dX9_coolestPeak_33 : decode cX9_coolestPeak 33 = .ok (.istore 5, 2) := by decide +kernel
theorem dX9_coolestPeak_35 : decode cX9_coolestPeak 35 = .ok (.iload 5, 2) := by decide +kernel
theorem dX9_coolestPeak_37 : decode cX9_coolestPeak 37 = .ok (.iconst (-1), 1) := by decide +kernel
theorem dX9_coolestPeak_38 : decode cX9_coolestPeak 38 = .ok (.if_icmp .ne 13, 3) := by decide +kernel
theorem dX9_coolestPeak_41 : decode cX9_coolestPeak 41 = .ok (.new 164, 3) := by decide +kernel
theorem dX9_coolestPeak_44 : decode cX9_coolestPeak 44 = .ok (.dup, 1) := by decide +kernel
theorem dX9_coolestPeak_45 : decode cX9_coolestPeak 45 = .ok (.ldc 249, 2) := by decide +kernel
theorem dX9_coolestPeak_47 : decode cX9_coolestPeak 47 = .ok (.invokespecial 168, 3) := by decide +kernel
theorem dX9_coolestPeak_50 : decode cX9_coolestPeak 50 = .ok (.athrow, 1) := by decide +kernel
theorem dX9_coolestPeak_51 : decode cX9_coolestPeak 51 = .ok (.iload 5, 2) := by decide +kernel
theorem dX9_coolestPeak_53 : decode cX9_coolestPeak 53 = .ok (.ireturn, 1) := by decide +kernel
theorem dX9_coolestPeakByTrying_0 : decode cX9_coolestPeakByTrying 0 = .ok (.iload_n 1, 1) := by decide +kernel
theorem dX9_coolestPeakByTrying_1 : decode cX9_coolestPeakByTrying 1 = .ok (.iload_n 2, 1) := by decide +kernel
theorem dX9_coolestPeakByTrying_2 : decode cX9_coolestPeakByTrying 2 = .ok (.invokestatic 91, 3) := by decide +kernel
theorem dX9_coolestPeakByTrying_5 : decode cX9_coolestPeakByTrying 5 = .ok (.iload_n 3, 1) := by decide +kernel
theorem dX9_coolestPeakByTrying_6 : decode cX9_coolestPeakByTrying 6 = .ok (.iload 4, 2) := by decide +kernel
theorem dX9_coolestPeakByTrying_8 : decode cX9_coolestPeakByTrying 8 = .ok (.invokestatic 91, 3) := by decide +kernel
theorem dX9_coolestPeakByTrying_11 : decode cX9_coolestPeakByTrying 11 = .ok (.aload_n 0, 1) := by decide +kernel
theorem dX9_coolestPeakByTrying_12 : decode cX9_coolestPeakByTrying 12 = .ok (.iload_n 1, 1) := by decide +kernel
theorem dX9_coolestPeakByTrying_13 : decode cX9_coolestPeakByTrying 13 = .ok (.iload_n 2, 1) := by decide +kernel
theorem dX9_coolestPeakByTrying_14 : decode cX9_coolestPeakByTrying 14 = .ok (.invokestatic 106, 3) := by decide +kernel
theorem dX9_coolestPeakByTrying_17 : decode cX9_coolestPeakByTrying 17 = .ok (.iload_n 3, 1) := by decide +kernel
theorem dX9_coolestPeakByTrying_18 : decode cX9_coolestPeakByTrying 18 = .ok (.iload 4, 2) := by decide +kernel
theorem dX9_coolestPeakByTrying_20 : decode cX9_coolestPeakByTrying 20 = .ok (.invokestatic 106, 3) := by decide +kernel
theorem dX9_coolestPeakByTrying_23 : decode cX9_coolestPeakByTrying 23 = .ok (.invokevirtual 251, 3) := by decide +kernel
theorem dX9_coolestPeakByTrying_26 : decode cX9_coolestPeakByTrying 26 = .ok (.istore 5, 2) := by decide +kernel
theorem dX9_coolestPeakByTrying_28 : decode cX9_coolestPeakByTrying 28 = .ok (.iload 5, 2) := by decide +kernel
theorem dX9_coolestPeakByTrying_30 : decode cX9_coolestPeakByTrying 30 = .ok (.iconst (-1), 1) := by decide +kernel
theorem dX9_coolestPeakByTrying_31 : decode cX9_coolestPeakByTrying 31 = .ok (.if_icmp .ne 13, 3) := by decide +kernel
theorem dX9_coolestPeakByTrying_34 : decode cX9_coolestPeakByTrying 34 = .ok (.new 164, 3) := by decide +kernel
theorem dX9_coolestPeakByTrying_37 : decode cX9_coolestPeakByTrying 37 = .ok (.dup, 1) := by decide +kernel
theorem dX9_coolestPeakByTrying_38 : decode cX9_coolestPeakByTrying 38 = .ok (.ldc 249, 2) := by decide +kernel
theorem dX9_coolestPeakByTrying_40 : decode cX9_coolestPeakByTrying 40 = .ok (.invokespecial 168, 3) := by decide +kernel
theorem dX9_coolestPeakByTrying_43 : decode cX9_coolestPeakByTrying 43 = .ok (.athrow, 1) := by decide +kernel
theorem dX9_coolestPeakByTrying_44 : decode cX9_coolestPeakByTrying 44 = .ok (.iload 5, 2) := by decide +kernel
theorem dX9_coolestPeakByTrying_46 : decode cX9_coolestPeakByTrying 46 = .ok (.ireturn, 1) := by decide +kernel
theorem dX9_legendSpread_0 : decode cX9_legendSpread 0 = .ok (.aload_n 0, 1) := by decide +kernel
theorem dX9_legendSpread_1 : decode cX9_legendSpread 1 = .ok (.iload_n 1, 1) := by decide +kernel
theorem dX9_legendSpread_2 : decode cX9_legendSpread 2 = .ok (.invokevirtual 254, 3) := by decide +kernel
theorem dX9_legendSpread_5 : decode cX9_legendSpread 5 = .ok (.aload_n 0, 1) := by decide +kernel
theorem dX9_legendSpread_6 : decode cX9_legendSpread 6 = .ok (.getfield 56, 3) := by decide +kernel
theorem dX9_legendSpread_9 : decode cX9_legendSpread 9 = .ok (.aload_n 0, 1) := by decide +kernel
theorem dX9_legendSpread_10 : decode cX9_legendSpread 10 = .ok (.getfield 10, 3) := by decide +kernel
theorem dX9_legendSpread_13 : decode cX9_legendSpread 13 = .ok (.iload_n 1, 1) := by decide +kernel
theorem dX9_legendSpread_14 : decode cX9_legendSpread 14 = .ok (.invokevirtual 257, 3) := by decide +kernel
theorem dX9_legendSpread_17 : decode cX9_legendSpread 17 = .ok (.aload_n 0, 1) := by decide +kernel
theorem dX9_legendSpread_18 : decode cX9_legendSpread 18 = .ok (.getfield 56, 3) := by decide +kernel
theorem dX9_legendSpread_21 : decode cX9_legendSpread 21 = .ok (.invokevirtual 261, 3) := by decide +kernel
theorem dX9_legendSpread_24 : decode cX9_legendSpread 24 = .ok (.ireturn, 1) := by decide +kernel
theorem dX9_legendSpreadByTable_0 : decode cX9_legendSpreadByTable 0 = .ok (.aload_n 0, 1) := by decide +kernel
theorem dX9_legendSpreadByTable_1 : decode cX9_legendSpreadByTable 1 = .ok (.iload_n 1, 1) := by decide +kernel
theorem dX9_legendSpreadByTable_2 : decode cX9_legendSpreadByTable 2 = .ok (.invokevirtual 254, 3) := by decide +kernel
theorem dX9_legendSpreadByTable_5 : decode cX9_legendSpreadByTable 5 = .ok (.aload_n 0, 1) := by decide +kernel
theorem dX9_legendSpreadByTable_6 : decode cX9_legendSpreadByTable 6 = .ok (.getfield 56, 3) := by decide +kernel
theorem dX9_legendSpreadByTable_9 : decode cX9_legendSpreadByTable 9 = .ok (.aload_n 0, 1) := by decide +kernel
theorem dX9_legendSpreadByTable_10 : decode cX9_legendSpreadByTable 10 = .ok (.getfield 10, 3) := by decide +kernel
theorem dX9_legendSpreadByTable_13 : decode cX9_legendSpreadByTable 13 = .ok (.iload_n 1, 1) := by decide +kernel
theorem dX9_legendSpreadByTable_14 : decode cX9_legendSpreadByTable 14 = .ok (.invokevirtual 264, 3) := by decide +kernel
theorem dX9_legendSpreadByTable_17 : decode cX9_legendSpreadByTable 17 = .ok (.ireturn, 1) := by decide +kernel
theorem dX9_classBegin_0 : decode cX9_classBegin 0 = .ok (.aload_n 0, 1) := by decide +kernel
theorem dX9_classBegin_1 : decode cX9_classBegin 1 = .ok (.iload_n 1, 1) := by decide +kernel
theorem dX9_classBegin_2 : decode cX9_classBegin 2 = .ok (.invokevirtual 254, 3) := by decide +kernel
theorem dX9_classBegin_5 : decode cX9_classBegin 5 = .ok (.iload_n 2, 1) := by decide +kernel
theorem dX9_classBegin_6 : decode cX9_classBegin 6 = .ok (.ifCond .lt 8, 3) := by decide +kernel
theorem dX9_classBegin_9 : decode cX9_classBegin 9 = .ok (.iload_n 2, 1) := by decide +kernel
theorem dX9_classBegin_10 : decode cX9_classBegin 10 = .ok (.iload_n 1, 1) := by decide +kernel
theorem dX9_classBegin_11 : decode cX9_classBegin 11 = .ok (.if_icmp .lt 14, 3) := by decide +kernel
theorem dX9_classBegin_14 : decode cX9_classBegin 14 = .ok (.new 164, 3) := by decide +kernel
theorem dX9_classBegin_17 : decode cX9_classBegin 17 = .ok (.dup, 1) := by decide +kernel
theorem dX9_classBegin_18 : decode cX9_classBegin 18 = .ok (.ldc_w 267, 3) := by decide +kernel
theorem dX9_classBegin_21 : decode cX9_classBegin 21 = .ok (.invokespecial 168, 3) := by decide +kernel
theorem dX9_classBegin_24 : decode cX9_classBegin 24 = .ok (.athrow, 1) := by decide +kernel
theorem dX9_classBegin_25 : decode cX9_classBegin 25 = .ok (.aload_n 0, 1) := by decide +kernel
theorem dX9_classBegin_26 : decode cX9_classBegin 26 = .ok (.getfield 56, 3) := by decide +kernel
theorem dX9_classBegin_29 : decode cX9_classBegin 29 = .ok (.aload_n 0, 1) := by decide +kernel
theorem dX9_classBegin_30 : decode cX9_classBegin 30 = .ok (.getfield 10, 3) := by decide +kernel
theorem dX9_classBegin_33 : decode cX9_classBegin 33 = .ok (.iload_n 1, 1) := by decide +kernel
theorem dX9_classBegin_34 : decode cX9_classBegin 34 = .ok (.invokevirtual 257, 3) := by decide +kernel
theorem dX9_classBegin_37 : decode cX9_classBegin 37 = .ok (.aload_n 0, 1) := by decide +kernel
theorem dX9_classBegin_38 : decode cX9_classBegin 38 = .ok (.getfield 56, 3) := by decide +kernel
theorem dX9_classBegin_41 : decode cX9_classBegin 41 = .ok (.iload_n 2, 1) := by decide +kernel
theorem dX9_classBegin_42 : decode cX9_classBegin 42 = .ok (.invokevirtual 269, 3) := by decide +kernel
theorem dX9_classBegin_45 : decode cX9_classBegin 45 = .ok (.ireturn, 1) := by decide +kernel
theorem dX9_classOf_0 : decode cX9_classOf 0 = .ok (.iload_n 1, 1) := by decide +kernel
theorem dX9_classOf_1 : decode cX9_classOf 1 = .ok (.iload_n 2, 1) := by decide +kernel
theorem dX9_classOf_2 : decode cX9_classOf 2 = .ok (.invokestatic 91, 3) := by decide +kernel
theorem dX9_classOf_5 : decode cX9_classOf 5 = .ok (.aload_n 0, 1) := by decide +kernel
theorem dX9_classOf_6 : decode cX9_classOf 6 = .ok (.iload_n 3, 1) := by decide +kernel
theorem dX9_classOf_7 : decode cX9_classOf 7 = .ok (.invokevirtual 254, 3) := by decide +kernel
theorem dX9_classOf_10 : decode cX9_classOf 10 = .ok (.aload_n 0, 1) := by decide +kernel
theorem dX9_classOf_11 : decode cX9_classOf 11 = .ok (.getfield 10, 3) := by decide +kernel
theorem dX9_classOf_14 : decode cX9_classOf 14 = .ok (.iload_n 1, 1) := by decide +kernel
theorem dX9_classOf_15 : decode cX9_classOf 15 = .ok (.iload_n 2, 1) := by decide +kernel
theorem dX9_classOf_16 : decode cX9_classOf 16 = .ok (.invokestatic 106, 3) := by decide +kernel
theorem dX9_classOf_19 : decode cX9_classOf 19 = .ok (.invokevirtual 272, 3) := by decide +kernel
theorem dX9_classOf_22 : decode cX9_classOf 22 = .ok (.ifCond .eq 14, 3) := by decide +kernel
theorem dX9_classOf_25 : decode cX9_classOf 25 = .ok (.new 114, 3) := by decide +kernel
theorem dX9_classOf_28 : decode cX9_classOf 28 = .ok (.dup, 1) := by decide +kernel
theorem dX9_classOf_29 : decode cX9_classOf 29 = .ok (.ldc_w 275, 3) := by decide +kernel
theorem dX9_classOf_32 : decode cX9_classOf 32 = .ok (.invokespecial 118, 3) := by decide +kernel
theorem dX9_classOf_35 : decode cX9_classOf 35 = .ok (.athrow, 1) := by decide +kernel
theorem dX9_classOf_36 : decode cX9_classOf 36 = .ok (.aload_n 0, 1) := by decide +kernel
theorem dX9_classOf_37 : decode cX9_classOf 37 = .ok (.getfield 56, 3) := by decide +kernel
theorem dX9_classOf_40 : decode cX9_classOf 40 = .ok (.aload_n 0, 1) := by decide +kernel
theorem dX9_classOf_41 : decode cX9_classOf 41 = .ok (.getfield 10, 3) := by decide +kernel
theorem dX9_classOf_44 : decode cX9_classOf 44 = .ok (.iload_n 3, 1) := by decide +kernel
theorem dX9_classOf_45 : decode cX9_classOf 45 = .ok (.invokevirtual 257, 3) := by decide +kernel
theorem dX9_classOf_48 : decode cX9_classOf 48 = .ok (.aload_n 0, 1) := by decide +kernel
theorem dX9_classOf_49 : decode cX9_classOf 49 = .ok (.getfield 56, 3) := by decide +kernel
theorem dX9_classOf_52 : decode cX9_classOf 52 = .ok (.iload_n 1, 1) := by decide +kernel
theorem dX9_classOf_53 : decode cX9_classOf 53 = .ok (.iload_n 2, 1) := by decide +kernel
theorem dX9_classOf_54 : decode cX9_classOf 54 = .ok (.invokestatic 106, 3) := by decide +kernel
theorem dX9_classOf_57 : decode cX9_classOf 57 = .ok (.invokevirtual 277, 3) := by decide +kernel
theorem dX9_classOf_60 : decode cX9_classOf 60 = .ok (.ireturn, 1) := by decide +kernel
theorem dX9_append_0 : decode cX9_append 0 = .ok (.iload_n 1, 1) := by decide +kernel
theorem dX9_append_1 : decode cX9_append 1 = .ok (.bipush 32, 2) := by decide +kernel
theorem dX9_append_3 : decode cX9_append 3 = .ok (.if_icmp .lt 9, 3) := by decide +kernel
theorem dX9_append_6 : decode cX9_append 6 = .ok (.iload_n 1, 1) := by decide +kernel
theorem dX9_append_7 : decode cX9_append 7 = .ok (.bipush 126, 2) := by decide +kernel
theorem dX9_append_9 : decode cX9_append 9 = .ok (.if_icmp .le 14, 3) := by decide +kernel
theorem dX9_append_12 : decode cX9_append 12 = .ok (.new 99, 3) := by decide +kernel
theorem dX9_append_15 : decode cX9_append 15 = .ok (.dup, 1) := by decide +kernel
theorem dX9_append_16 : decode cX9_append 16 = .ok (.ldc_w 280, 3) := by decide +kernel
theorem dX9_append_19 : decode cX9_append 19 = .ok (.invokespecial 103, 3) := by decide +kernel
theorem dX9_append_22 : decode cX9_append 22 = .ok (.athrow, 1) := by decide +kernel
theorem dX9_append_23 : decode cX9_append 23 = .ok (.aload_n 0, 1) := by decide +kernel
theorem dX9_append_24 : decode cX9_append 24 = .ok (.getfield 63, 3) := by decide +kernel
theorem dX9_append_27 : decode cX9_append 27 = .ok (.invokevirtual 282, 3) := by decide +kernel
theorem dX9_append_30 : decode cX9_append 30 = .ok (.ifCond .eq 14, 3) := by decide +kernel
theorem dX9_append_33 : decode cX9_append 33 = .ok (.new 286, 3) := by decide +kernel
theorem dX9_append_36 : decode cX9_append 36 = .ok (.dup, 1) := by decide +kernel
theorem dX9_append_37 : decode cX9_append 37 = .ok (.ldc_w 288, 3) := by decide +kernel
theorem dX9_append_40 : decode cX9_append 40 = .ok (.invokespecial 290, 3) := by decide +kernel
theorem dX9_append_43 : decode cX9_append 43 = .ok (.athrow, 1) := by decide +kernel
theorem dX9_append_44 : decode cX9_append 44 = .ok (.aload_n 0, 1) := by decide +kernel
theorem dX9_append_45 : decode cX9_append 45 = .ok (.getfield 63, 3) := by decide +kernel
theorem dX9_append_48 : decode cX9_append 48 = .ok (.iload_n 1, 1) := by decide +kernel
theorem dX9_append_49 : decode cX9_append 49 = .ok (.invokevirtual 291, 3) := by decide +kernel
theorem dX9_append_52 : decode cX9_append 52 = .ok (.ireturn, 1) := by decide +kernel
theorem dX9_run_0 : decode cX9_run 0 = .ok (.aload_n 0, 1) := by decide +kernel
theorem dX9_run_1 : decode cX9_run 1 = .ok (.getfield 63, 3) := by decide +kernel
theorem dX9_run_4 : decode cX9_run 4 = .ok (.invokevirtual 295, 3) := by decide +kernel
theorem dX9_run_7 : decode cX9_run 7 = .ok (.istore_n 1, 1) := by decide +kernel
theorem dX9_run_8 : decode cX9_run 8 = .ok (.aload_n 0, 1) := by decide +kernel
theorem dX9_run_9 : decode cX9_run 9 = .ok (.getfield 63, 3) := by decide +kernel
theorem dX9_run_12 : decode cX9_run 12 = .ok (.invokevirtual 298, 3) := by decide +kernel
theorem dX9_run_15 : decode cX9_run 15 = .ok (.iload_n 1, 1) := by decide +kernel
theorem dX9_run_16 : decode cX9_run 16 = .ok (.ifCond .ne 25, 3) := by decide +kernel
theorem dX9_run_19 : decode cX9_run 19 = .ok (.aload_n 0, 1) := by decide +kernel
theorem dX9_run_20 : decode cX9_run 20 = .ok (.aload_n 0, 1) := by decide +kernel
theorem dX9_run_21 : decode cX9_run 21 = .ok (.getfield 63, 3) := by decide +kernel
theorem dX9_run_24 : decode cX9_run 24 = .ok (.invokevirtual 301, 3) := by decide +kernel
theorem dX9_run_27 : decode cX9_run 27 = .ok (.putfield 85, 3) := by decide +kernel
theorem dX9_run_30 : decode cX9_run 30 = .ok (.new 99, 3) := by decide +kernel
theorem dX9_run_33 : decode cX9_run 33 = .ok (.dup, 1) := by decide +kernel
theorem dX9_run_34 : decode cX9_run 34 = .ok (.ldc_w 304, 3) := by decide +kernel
theorem dX9_run_37 : decode cX9_run 37 = .ok (.invokespecial 103, 3) := by decide +kernel
theorem dX9_run_40 : decode cX9_run 40 = .ok (.athrow, 1) := by decide +kernel
theorem dX9_run_41 : decode cX9_run 41 = .ok (.aload_n 0, 1) := by decide +kernel
theorem dX9_run_42 : decode cX9_run 42 = .ok (.getfield 16, 3) := by decide +kernel
theorem dX9_run_45 : decode cX9_run 45 = .ok (.aload_n 0, 1) := by decide +kernel
theorem dX9_run_46 : decode cX9_run 46 = .ok (.getfield 10, 3) := by decide +kernel
theorem dX9_run_49 : decode cX9_run 49 = .ok (.invokevirtual 205, 3) := by decide +kernel
theorem dX9_run_52 : decode cX9_run 52 = .ok (.iconst 0, 1) := by decide +kernel
theorem dX9_run_53 : decode cX9_run 53 = .ok (.istore_n 2, 1) := by decide +kernel
theorem dX9_run_54 : decode cX9_run 54 = .ok (.iload_n 2, 1) := by decide +kernel
theorem dX9_run_55 : decode cX9_run 55 = .ok (.aload_n 0, 1) := by decide +kernel
theorem dX9_run_56 : decode cX9_run 56 = .ok (.getfield 63, 3) := by decide +kernel
theorem dX9_run_59 : decode cX9_run 59 = .ok (.invokevirtual 306, 3) := by decide +kernel
theorem dX9_run_62 : decode cX9_run 62 = .ok (.if_icmp .ge 51, 3) := by decide +kernel
theorem dX9_run_65 : decode cX9_run 65 = .ok (.aload_n 0, 1) := by decide +kernel
theorem dX9_run_66 : decode cX9_run 66 = .ok (.aload_n 0, 1) := by decide +kernel
theorem dX9_run_67 : decode cX9_run 67 = .ok (.getfield 63, 3) := by decide +kernel
theorem dX9_run_70 : decode cX9_run 70 = .ok (.iload_n 2, 1) := by decide +kernel
theorem dX9_run_71 : decode cX9_run 71 = .ok (.invokevirtual 309, 3) := by decide +kernel
theorem dX9_run_74 : decode cX9_run 74 = .ok (.invokevirtual 313, 3) := by decide +kernel
theorem dX9_run_77 : decode cX9_run 77 = .ok (.ifCond .ne 30, 3) := by decide +kernel
theorem dX9_run_80 : decode cX9_run 80 = .ok (.aload_n 0, 1) := by decide +kernel
theorem dX9_run_81 : decode cX9_run 81 = .ok (.getfield 10, 3) := by decide +kernel
theorem dX9_run_84 : decode cX9_run 84 = .ok (.aload_n 0, 1) := by decide +kernel
theorem dX9_run_85 : decode cX9_run 85 = .ok (.getfield 16, 3) := by decide +kernel
theorem dX9_run_88 : decode cX9_run 88 = .ok (.invokevirtual 205, 3) := by decide +kernel
theorem dX9_run_91 : decode cX9_run 91 = .ok (.aload_n 0, 1) := by decide +kernel
theorem dX9_run_92 : decode cX9_run 92 = .ok (.iload_n 2, 1) := by decide +kernel
theorem dX9_run_93 : decode cX9_run 93 = .ok (.putfield 88, 3) := by decide +kernel
theorem dX9_run_96 : decode cX9_run 96 = .ok (.new 286, 3) := by decide +kernel
theorem dX9_run_99 : decode cX9_run 99 = .ok (.dup, 1) := by decide +kernel
theorem dX9_run_100 : decode cX9_run 100 = .ok (.ldc_w 317, 3) := by decide +kernel
theorem dX9_run_103 : decode cX9_run 103 = .ok (.invokespecial 290, 3) := by decide +kernel
theorem dX9_run_106 : decode cX9_run 106 = .ok (.athrow, 1) := by decide +kernel
theorem dX9_run_107 : decode cX9_run 107 = .ok (.iinc 2 1, 3) := by decide +kernel
theorem dX9_run_110 : decode cX9_run 110 = .ok (.goto (-56), 3) := by decide +kernel
theorem dX9_run_113 : decode cX9_run 113 = .ok (.aload_n 0, 1) := by decide +kernel
theorem dX9_run_114 : decode cX9_run 114 = .ok (.getfield 28, 3) := by decide +kernel
theorem dX9_run_117 : decode cX9_run 117 = .ok (.aload_n 0, 1) := by decide +kernel
theorem dX9_run_118 : decode cX9_run 118 = .ok (.getfield 16, 3) := by decide +kernel
theorem dX9_run_121 : decode cX9_run 121 = .ok (.invokevirtual 123, 3) := by decide +kernel
theorem dX9_run_124 : decode cX9_run 124 = .ok (.aload_n 0, 1) := by decide +kernel
theorem dX9_run_125 : decode cX9_run 125 = .ok (.getfield 63, 3) := by decide +kernel
theorem dX9_run_128 : decode cX9_run 128 = .ok (.invokevirtual 306, 3) := by decide +kernel
theorem dX9_run_131 : decode cX9_run 131 = .ok (.ireturn, 1) := by decide +kernel
theorem dX9_errorPosition_0 : decode cX9_errorPosition 0 = .ok (.aload_n 0, 1) := by decide +kernel
theorem dX9_errorPosition_1 : decode cX9_errorPosition 1 = .ok (.getfield 85, 3) := by decide +kernel
theorem dX9_errorPosition_4 : decode cX9_errorPosition 4 = .ok (.iconst (-1), 1) := by decide +kernel
theorem dX9_errorPosition_5 : decode cX9_errorPosition 5 = .ok (.if_icmp .ne 14, 3) := by decide +kernel
theorem dX9_errorPosition_8 : decode cX9_errorPosition 8 = .ok (.new 164, 3) := by decide +kernel
theorem dX9_errorPosition_11 : decode cX9_errorPosition 11 = .ok (.dup, 1) := by decide +kernel
theorem dX9_errorPosition_12 : decode cX9_errorPosition 12 = .ok (.ldc_w 319, 3) := by decide +kernel
theorem dX9_errorPosition_15 : decode cX9_errorPosition 15 = .ok (.invokespecial 168, 3) := by decide +kernel
theorem dX9_errorPosition_18 : decode cX9_errorPosition 18 = .ok (.athrow, 1) := by decide +kernel
theorem dX9_errorPosition_19 : decode cX9_errorPosition 19 = .ok (.aload_n 0, 1) := by decide +kernel
theorem dX9_errorPosition_20 : decode cX9_errorPosition 20 = .ok (.getfield 85, 3) := by decide +kernel
theorem dX9_errorPosition_23 : decode cX9_errorPosition 23 = .ok (.ireturn, 1) := by decide +kernel
theorem dX9_failedCommand_0 : decode cX9_failedCommand 0 = .ok (.aload_n 0, 1) := by decide +kernel
theorem dX9_failedCommand_1 : decode cX9_failedCommand 1 = .ok (.getfield 88, 3) := by decide +kernel
theorem dX9_failedCommand_4 : decode cX9_failedCommand 4 = .ok (.iconst (-1), 1) := by decide +kernel
theorem dX9_failedCommand_5 : decode cX9_failedCommand 5 = .ok (.if_icmp .ne 14, 3) := by decide +kernel
theorem dX9_failedCommand_8 : decode cX9_failedCommand 8 = .ok (.new 164, 3) := by decide +kernel
theorem dX9_failedCommand_11 : decode cX9_failedCommand 11 = .ok (.dup, 1) := by decide +kernel
theorem dX9_failedCommand_12 : decode cX9_failedCommand 12 = .ok (.ldc_w 321, 3) := by decide +kernel
theorem dX9_failedCommand_15 : decode cX9_failedCommand 15 = .ok (.invokespecial 168, 3) := by decide +kernel
theorem dX9_failedCommand_18 : decode cX9_failedCommand 18 = .ok (.athrow, 1) := by decide +kernel
theorem dX9_failedCommand_19 : decode cX9_failedCommand 19 = .ok (.aload_n 0, 1) := by decide +kernel
theorem dX9_failedCommand_20 : decode cX9_failedCommand 20 = .ok (.getfield 88, 3) := by decide +kernel
theorem dX9_failedCommand_23 : decode cX9_failedCommand 23 = .ok (.ireturn, 1) := by decide +kernel
theorem dX9_describeRow_0 : decode cX9_describeRow 0 = .ok (.iconst 0, 1) := by decide +kernel
theorem dX9_describeRow_1 : decode cX9_describeRow 1 = .ok (.iload_n 1, 1) := by decide +kernel
theorem dX9_describeRow_2 : decode cX9_describeRow 2 = .ok (.invokestatic 91, 3) := by decide +kernel
theorem dX9_describeRow_5 : decode cX9_describeRow 5 = .ok (.aload_n 0, 1) := by decide +kernel
theorem dX9_describeRow_6 : decode cX9_describeRow 6 = .ok (.getfield 70, 3) := by decide +kernel
theorem dX9_describeRow_9 : decode cX9_describeRow 9 = .ok (.iconst 0, 1) := by decide +kernel
theorem dX9_describeRow_10 : decode cX9_describeRow 10 = .ok (.invokevirtual 323, 3) := by decide +kernel
theorem dX9_describeRow_13 : decode cX9_describeRow 13 = .ok (.iconst 0, 1) := by decide +kernel
theorem dX9_describeRow_14 : decode cX9_describeRow 14 = .ok (.istore_n 2, 1) := by decide +kernel
theorem dX9_describeRow_15 : decode cX9_describeRow 15 = .ok (.iload_n 2, 1) := by decide +kernel
theorem dX9_describeRow_16 : decode cX9_describeRow 16 = .ok (.bipush 8, 2) := by decide +kernel
theorem dX9_describeRow_18 : decode cX9_describeRow 18 = .ok (.if_icmp .ge 29, 3) := by decide +kernel
theorem dX9_describeRow_21 : decode cX9_describeRow 21 = .ok (.aload_n 0, 1) := by decide +kernel
theorem dX9_describeRow_22 : decode cX9_describeRow 22 = .ok (.getfield 70, 3) := by decide +kernel
theorem dX9_describeRow_25 : decode cX9_describeRow 25 = .ok (.aload_n 0, 1) := by decide +kernel
theorem dX9_describeRow_26 : decode cX9_describeRow 26 = .ok (.getfield 10, 3) := by decide +kernel
theorem dX9_describeRow_29 : decode cX9_describeRow 29 = .ok (.iload_n 2, 1) := by decide +kernel
theorem dX9_describeRow_30 : decode cX9_describeRow 30 = .ok (.iload_n 1, 1) := by decide +kernel
theorem dX9_describeRow_31 : decode cX9_describeRow 31 = .ok (.invokestatic 106, 3) := by decide +kernel
theorem dX9_describeRow_34 : decode cX9_describeRow 34 = .ok (.invokevirtual 326, 3) := by decide +kernel
theorem dX9_describeRow_37 : decode cX9_describeRow 37 = .ok (.invokevirtual 330, 3) := by decide +kernel
theorem dX9_describeRow_40 : decode cX9_describeRow 40 = .ok (.pop, 1) := by decide +kernel
theorem dX9_describeRow_41 : decode cX9_describeRow 41 = .ok (.iinc 2 1, 3) := by decide +kernel
theorem dX9_describeRow_44 : decode cX9_describeRow 44 = .ok (.goto (-29), 3) := by decide +kernel
theorem dX9_describeRow_47 : decode cX9_describeRow 47 = .ok (.aload_n 0, 1) := by decide +kernel
theorem dX9_describeRow_48 : decode cX9_describeRow 48 = .ok (.getfield 70, 3) := by decide +kernel
theorem dX9_describeRow_51 : decode cX9_describeRow 51 = .ok (.invokevirtual 334, 3) := by decide +kernel
theorem dX9_describeRow_54 : decode cX9_describeRow 54 = .ok (.ireturn, 1) := by decide +kernel
theorem dX9_describeLegend_0 : decode cX9_describeLegend 0 = .ok (.aload_n 0, 1) := by decide +kernel
theorem dX9_describeLegend_1 : decode cX9_describeLegend 1 = .ok (.iload_n 1, 1) := by decide +kernel
theorem dX9_describeLegend_2 : decode cX9_describeLegend 2 = .ok (.invokevirtual 254, 3) := by decide +kernel
theorem dX9_describeLegend_5 : decode cX9_describeLegend 5 = .ok (.aload_n 0, 1) := by decide +kernel
theorem dX9_describeLegend_6 : decode cX9_describeLegend 6 = .ok (.getfield 56, 3) := by decide +kernel
theorem dX9_describeLegend_9 : decode cX9_describeLegend 9 = .ok (.aload_n 0, 1) := by decide +kernel
theorem dX9_describeLegend_10 : decode cX9_describeLegend 10 = .ok (.getfield 10, 3) := by decide +kernel
theorem dX9_describeLegend_13 : decode cX9_describeLegend 13 = .ok (.iload_n 1, 1) := by decide +kernel
theorem dX9_describeLegend_14 : decode cX9_describeLegend 14 = .ok (.invokevirtual 257, 3) := by decide +kernel
theorem dX9_describeLegend_17 : decode cX9_describeLegend 17 = .ok (.aload_n 0, 1) := by decide +kernel
theorem dX9_describeLegend_18 : decode cX9_describeLegend 18 = .ok (.getfield 70, 3) := by decide +kernel
theorem dX9_describeLegend_21 : decode cX9_describeLegend 21 = .ok (.iconst 0, 1) := by decide +kernel
theorem dX9_describeLegend_22 : decode cX9_describeLegend 22 = .ok (.invokevirtual 323, 3) := by decide +kernel
theorem dX9_describeLegend_25 : decode cX9_describeLegend 25 = .ok (.iconst 0, 1) := by decide +kernel
theorem dX9_describeLegend_26 : decode cX9_describeLegend 26 = .ok (.istore_n 2, 1) := by decide +kernel
theorem dX9_describeLegend_27 : decode cX9_describeLegend 27 = .ok (.iload_n 2, 1) := by decide +kernel
theorem dX9_describeLegend_28 : decode cX9_describeLegend 28 = .ok (.iload_n 1, 1) := by decide +kernel
theorem dX9_describeLegend_29 : decode cX9_describeLegend 29 = .ok (.if_icmp .ge 65, 3) := by decide +kernel
theorem dX9_describeLegend_32 : decode cX9_describeLegend 32 = .ok (.iload_n 2, 1) := by decide +kernel
theorem dX9_describeLegend_33 : decode cX9_describeLegend 33 = .ok (.ifCond .le 13, 3) := by decide +kernel
theorem dX9_describeLegend_36 : decode cX9_describeLegend 36 = .ok (.aload_n 0, 1) := by decide +kernel
theorem dX9_describeLegend_37 : decode cX9_describeLegend 37 = .ok (.getfield 70, 3) := by decide +kernel
theorem dX9_describeLegend_40 : decode cX9_describeLegend 40 = .ok (.bipush 44, 2) := by decide +kernel
theorem dX9_describeLegend_42 : decode cX9_describeLegend 42 = .ok (.invokevirtual 330, 3) := by decide +kernel
theorem dX9_describeLegend_45 : decode cX9_describeLegend 45 = .ok (.pop, 1) := by decide +kernel
theorem dX9_describeLegend_46 : decode cX9_describeLegend 46 = .ok (.aload_n 0, 1) := by decide +kernel
theorem dX9_describeLegend_47 : decode cX9_describeLegend 47 = .ok (.getfield 70, 3) := by decide +kernel
theorem dX9_describeLegend_50 : decode cX9_describeLegend 50 = .ok (.aload_n 0, 1) := by decide +kernel
theorem dX9_describeLegend_51 : decode cX9_describeLegend 51 = .ok (.getfield 56, 3) := by decide +kernel
theorem dX9_describeLegend_54 : decode cX9_describeLegend 54 = .ok (.iload_n 2, 1) := by decide +kernel
theorem dX9_describeLegend_55 : decode cX9_describeLegend 55 = .ok (.invokevirtual 269, 3) := by decide +kernel
theorem dX9_describeLegend_58 : decode cX9_describeLegend 58 = .ok (.invokevirtual 337, 3) := by decide +kernel
theorem dX9_describeLegend_61 : decode cX9_describeLegend 61 = .ok (.pop, 1) := by decide +kernel
theorem dX9_describeLegend_62 : decode cX9_describeLegend 62 = .ok (.aload_n 0, 1) := by decide +kernel
theorem dX9_describeLegend_63 : decode cX9_describeLegend 63 = .ok (.getfield 70, 3) := by decide +kernel
theorem dX9_describeLegend_66 : decode cX9_describeLegend 66 = .ok (.bipush 45, 2) := by decide +kernel
theorem dX9_describeLegend_68 : decode cX9_describeLegend 68 = .ok (.invokevirtual 330, 3) := by decide +kernel
theorem dX9_describeLegend_71 : decode cX9_describeLegend 71 = .ok (.pop, 1) := by decide +kernel
theorem dX9_describeLegend_72 : decode cX9_describeLegend 72 = .ok (.aload_n 0, 1) := by decide +kernel
theorem dX9_describeLegend_73 : decode cX9_describeLegend 73 = .ok (.getfield 70, 3) := by decide +kernel
theorem dX9_describeLegend_76 : decode cX9_describeLegend 76 = .ok (.aload_n 0, 1) := by decide +kernel
theorem dX9_describeLegend_77 : decode cX9_describeLegend 77 = .ok (.getfield 56, 3) := by decide +kernel
theorem dX9_describeLegend_80 : decode cX9_describeLegend 80 = .ok (.iload_n 2, 1) := by decide +kernel
theorem dX9_describeLegend_81 : decode cX9_describeLegend 81 = .ok (.invokevirtual 340, 3) := by decide +kernel
theorem dX9_describeLegend_84 : decode cX9_describeLegend 84 = .ok (.invokevirtual 337, 3) := by decide +kernel
theorem dX9_describeLegend_87 : decode cX9_describeLegend 87 = .ok (.pop, 1) := by decide +kernel
theorem dX9_describeLegend_88 : decode cX9_describeLegend 88 = .ok (.iinc 2 1, 3) := by decide +kernel
theorem dX9_describeLegend_91 : decode cX9_describeLegend 91 = .ok (.goto (-64), 3) := by decide +kernel
theorem dX9_describeLegend_94 : decode cX9_describeLegend 94 = .ok (.aload_n 0, 1) := by decide +kernel
theorem dX9_describeLegend_95 : decode cX9_describeLegend 95 = .ok (.getfield 70, 3) := by decide +kernel
theorem dX9_describeLegend_98 : decode cX9_describeLegend 98 = .ok (.invokevirtual 334, 3) := by decide +kernel
theorem dX9_describeLegend_101 : decode cX9_describeLegend 101 = .ok (.ireturn, 1) := by decide +kernel
theorem dX9_lineAt_0 : decode cX9_lineAt 0 = .ok (.iload_n 1, 1) := by decide +kernel
theorem dX9_lineAt_1 : decode cX9_lineAt 1 = .ok (.ifCond .lt 14, 3) := by decide +kernel
theorem dX9_lineAt_4 : decode cX9_lineAt 4 = .ok (.iload_n 1, 1) := by decide +kernel
theorem dX9_lineAt_5 : decode cX9_lineAt 5 = .ok (.aload_n 0, 1) := by decide +kernel
theorem dX9_lineAt_6 : decode cX9_lineAt 6 = .ok (.getfield 70, 3) := by decide +kernel
theorem dX9_lineAt_9 : decode cX9_lineAt 9 = .ok (.invokevirtual 334, 3) := by decide +kernel
theorem dX9_lineAt_12 : decode cX9_lineAt 12 = .ok (.if_icmp .lt 14, 3) := by decide +kernel
theorem dX9_lineAt_15 : decode cX9_lineAt 15 = .ok (.new 343, 3) := by decide +kernel
theorem dX9_lineAt_18 : decode cX9_lineAt 18 = .ok (.dup, 1) := by decide +kernel
theorem dX9_lineAt_19 : decode cX9_lineAt 19 = .ok (.ldc_w 345, 3) := by decide +kernel
theorem dX9_lineAt_22 : decode cX9_lineAt 22 = .ok (.invokespecial 347, 3) := by decide +kernel
theorem dX9_lineAt_25 : decode cX9_lineAt 25 = .ok (.athrow, 1) := by decide +kernel
theorem dX9_lineAt_26 : decode cX9_lineAt 26 = .ok (.aload_n 0, 1) := by decide +kernel
theorem dX9_lineAt_27 : decode cX9_lineAt 27 = .ok (.getfield 70, 3) := by decide +kernel
theorem dX9_lineAt_30 : decode cX9_lineAt 30 = .ok (.iload_n 1, 1) := by decide +kernel
theorem dX9_lineAt_31 : decode cX9_lineAt 31 = .ok (.invokevirtual 348, 3) := by decide +kernel
theorem dX9_lineAt_34 : decode cX9_lineAt 34 = .ok (.ireturn, 1) := by decide +kernel
theorem dX9_meanHeat_0 : decode cX9_meanHeat 0 = .ok (.aload_n 0, 1) := by decide +kernel
theorem dX9_meanHeat_1 : decode cX9_meanHeat 1 = .ok (.getfield 10, 3) := by decide +kernel
theorem dX9_meanHeat_4 : decode cX9_meanHeat 4 = .ok (.invokevirtual 351, 3) := by decide +kernel
theorem dX9_meanHeat_7 : decode cX9_meanHeat 7 = .ok (.istore_n 1, 1) := by decide +kernel
theorem dX9_meanHeat_8 : decode cX9_meanHeat 8 = .ok (.iload_n 1, 1) := by decide +kernel
theorem dX9_meanHeat_9 : decode cX9_meanHeat 9 = .ok (.ifCond .ne 14, 3) := by decide +kernel
theorem dX9_meanHeat_12 : decode cX9_meanHeat 12 = .ok (.new 354, 3) := by decide +kernel
theorem dX9_meanHeat_15 : decode cX9_meanHeat 15 = .ok (.dup, 1) := by decide +kernel
theorem dX9_meanHeat_16 : decode cX9_meanHeat 16 = .ok (.ldc_w 356, 3) := by decide +kernel
theorem dX9_meanHeat_19 : decode cX9_meanHeat 19 = .ok (.invokespecial 358, 3) := by decide +kernel
theorem dX9_meanHeat_22 : decode cX9_meanHeat 22 = .ok (.athrow, 1) := by decide +kernel
theorem dX9_meanHeat_23 : decode cX9_meanHeat 23 = .ok (.aload_n 0, 1) := by decide +kernel
theorem dX9_meanHeat_24 : decode cX9_meanHeat 24 = .ok (.getfield 10, 3) := by decide +kernel
theorem dX9_meanHeat_27 : decode cX9_meanHeat 27 = .ok (.invokevirtual 147, 3) := by decide +kernel
theorem dX9_meanHeat_30 : decode cX9_meanHeat 30 = .ok (.i2d, 1) := by decide +kernel
theorem dX9_meanHeat_31 : decode cX9_meanHeat 31 = .ok (.iload_n 1, 1) := by decide +kernel
theorem dX9_meanHeat_32 : decode cX9_meanHeat 32 = .ok (.i2d, 1) := by decide +kernel
theorem dX9_meanHeat_33 : decode cX9_meanHeat 33 = .ok (.ddiv, 1) := by decide +kernel
theorem dX9_meanHeat_34 : decode cX9_meanHeat 34 = .ok (.dreturn, 1) := by decide +kernel
theorem dX9_levelShare_0 : decode cX9_levelShare 0 = .ok (.iload_n 1, 1) := by decide +kernel
theorem dX9_levelShare_1 : decode cX9_levelShare 1 = .ok (.invokestatic 202, 3) := by decide +kernel
theorem dX9_levelShare_4 : decode cX9_levelShare 4 = .ok (.aload_n 0, 1) := by decide +kernel
theorem dX9_levelShare_5 : decode cX9_levelShare 5 = .ok (.getfield 10, 3) := by decide +kernel
theorem dX9_levelShare_8 : decode cX9_levelShare 8 = .ok (.iload_n 1, 1) := by decide +kernel
theorem dX9_levelShare_9 : decode cX9_levelShare 9 = .ok (.invokevirtual 208, 3) := by decide +kernel
theorem dX9_levelShare_12 : decode cX9_levelShare 12 = .ok (.invokestatic 240, 3) := by decide +kernel
theorem dX9_levelShare_15 : decode cX9_levelShare 15 = .ok (.i2f, 1) := by decide +kernel
theorem dX9_levelShare_16 : decode cX9_levelShare 16 = .ok (.ldc_w 359, 3) := by decide +kernel
theorem dX9_levelShare_19 : decode cX9_levelShare 19 = .ok (.fdiv, 1) := by decide +kernel
theorem dX9_levelShare_20 : decode cX9_levelShare 20 = .ok (.freturn, 1) := by decide +kernel
theorem dX9_isConsistent_0 : decode cX9_isConsistent 0 = .ok (.aload_n 0, 1) := by decide +kernel
theorem dX9_isConsistent_1 : decode cX9_isConsistent 1 = .ok (.invokevirtual 360, 3) := by decide +kernel
theorem dX9_isConsistent_4 : decode cX9_isConsistent 4 = .ok (.aload_n 0, 1) := by decide +kernel
theorem dX9_isConsistent_5 : decode cX9_isConsistent 5 = .ok (.invokevirtual 363, 3) := by decide +kernel
theorem dX9_isConsistent_8 : decode cX9_isConsistent 8 = .ok (.if_icmp .ne 68, 3) := by decide +kernel
theorem dX9_isConsistent_11 : decode cX9_isConsistent 11 = .ok (.aload_n 0, 1) := by decide +kernel
theorem dX9_isConsistent_12 : decode cX9_isConsistent 12 = .ok (.iconst 1, 1) := by decide +kernel
theorem dX9_isConsistent_13 : decode cX9_isConsistent 13 = .ok (.invokevirtual 366, 3) := by decide +kernel
theorem dX9_isConsistent_16 : decode cX9_isConsistent 16 = .ok (.ifCond .eq 60, 3) := by decide +kernel
theorem dX9_isConsistent_19 : decode cX9_isConsistent 19 = .ok (.aload_n 0, 1) := by decide +kernel
theorem dX9_isConsistent_20 : decode cX9_isConsistent 20 = .ok (.bipush 100, 2) := by decide +kernel
theorem dX9_isConsistent_22 : decode cX9_isConsistent 22 = .ok (.invokevirtual 366, 3) := by decide +kernel
theorem dX9_isConsistent_25 : decode cX9_isConsistent 25 = .ok (.ifCond .eq 51, 3) := by decide +kernel
theorem dX9_isConsistent_28 : decode cX9_isConsistent 28 = .ok (.aload_n 0, 1) := by decide +kernel
theorem dX9_isConsistent_29 : decode cX9_isConsistent 29 = .ok (.sipush 300, 3) := by decide +kernel
theorem dX9_isConsistent_32 : decode cX9_isConsistent 32 = .ok (.invokevirtual 366, 3) := by decide +kernel
theorem dX9_isConsistent_35 : decode cX9_isConsistent 35 = .ok (.ifCond .eq 41, 3) := by decide +kernel
theorem dX9_isConsistent_38 : decode cX9_isConsistent 38 = .ok (.aload_n 0, 1) := by decide +kernel
theorem dX9_isConsistent_39 : decode cX9_isConsistent 39 = .ok (.sipush 500, 3) := by decide +kernel
theorem dX9_isConsistent_42 : decode cX9_isConsistent 42 = .ok (.invokevirtual 366, 3) := by decide +kernel
theorem dX9_isConsistent_45 : decode cX9_isConsistent 45 = .ok (.ifCond .eq 31, 3) := by decide +kernel
theorem dX9_isConsistent_48 : decode cX9_isConsistent 48 = .ok (.aload_n 0, 1) := by decide +kernel
theorem dX9_isConsistent_49 : decode cX9_isConsistent 49 = .ok (.sipush 700, 3) := by decide +kernel
theorem dX9_isConsistent_52 : decode cX9_isConsistent 52 = .ok (.invokevirtual 366, 3) := by decide +kernel
theorem dX9_isConsistent_55 : decode cX9_isConsistent 55 = .ok (.ifCond .eq 21, 3) := by decide +kernel
theorem dX9_isConsistent_58 : decode cX9_isConsistent 58 = .ok (.aload_n 0, 1) := by decide +kernel
theorem dX9_isConsistent_59 : decode cX9_isConsistent 59 = .ok (.invokevirtual 369, 3) := by decide +kernel
theorem dX9_isConsistent_62 : decode cX9_isConsistent 62 = .ok (.ifCond .eq 14, 3) := by decide +kernel
theorem dX9_isConsistent_65 : decode cX9_isConsistent 65 = .ok (.aload_n 0, 1) := by decide +kernel
theorem dX9_isConsistent_66 : decode cX9_isConsistent 66 = .ok (.invokevirtual 372, 3) := by decide +kernel
theorem dX9_isConsistent_69 : decode cX9_isConsistent 69 = .ok (.ifCond .eq 7, 3) := by decide +kernel
theorem dX9_isConsistent_72 : decode cX9_isConsistent 72 = .ok (.iconst 1, 1) := by decide +kernel
theorem dX9_isConsistent_73 : decode cX9_isConsistent 73 = .ok (.goto 4, 3) := by decide +kernel
theorem dX9_isConsistent_76 : decode cX9_isConsistent 76 = .ok (.iconst 0, 1) := by decide +kernel
theorem dX9_isConsistent_77 : decode cX9_isConsistent 77 = .ok (.ireturn, 1) := by decide +kernel
theorem dX9_undo_0 : decode cX9_undo 0 = .ok (.aload_n 0, 1) := by decide +kernel
theorem dX9_undo_1 : decode cX9_undo 1 = .ok (.getfield 28, 3) := by decide +kernel
theorem dX9_undo_4 : decode cX9_undo 4 = .ok (.invokevirtual 375, 3) := by decide +kernel
theorem dX9_undo_7 : decode cX9_undo 7 = .ok (.ifCond .ne 14, 3) := by decide +kernel
theorem dX9_undo_10 : decode cX9_undo 10 = .ok (.new 286, 3) := by decide +kernel
theorem dX9_undo_13 : decode cX9_undo 13 = .ok (.dup, 1) := by decide +kernel
theorem dX9_undo_14 : decode cX9_undo 14 = .ok (.ldc_w 378, 3) := by decide +kernel
theorem dX9_undo_17 : decode cX9_undo 17 = .ok (.invokespecial 290, 3) := by decide +kernel
theorem dX9_undo_20 : decode cX9_undo 20 = .ok (.athrow, 1) := by decide +kernel
theorem dX9_undo_21 : decode cX9_undo 21 = .ok (.aload_n 0, 1) := by decide +kernel
theorem dX9_undo_22 : decode cX9_undo 22 = .ok (.getfield 28, 3) := by decide +kernel
theorem dX9_undo_25 : decode cX9_undo 25 = .ok (.aload_n 0, 1) := by decide +kernel
theorem dX9_undo_26 : decode cX9_undo 26 = .ok (.getfield 10, 3) := by decide +kernel
theorem dX9_undo_29 : decode cX9_undo 29 = .ok (.invokevirtual 380, 3) := by decide +kernel
theorem dX9_undo_32 : decode cX9_undo 32 = .ok (.aload_n 0, 1) := by decide +kernel
theorem dX9_undo_33 : decode cX9_undo 33 = .ok (.getfield 28, 3) := by decide +kernel
theorem dX9_undo_36 : decode cX9_undo 36 = .ok (.invokevirtual 375, 3) := by decide +kernel
theorem dX9_undo_39 : decode cX9_undo 39 = .ok (.ireturn, 1) := by decide +kernel
theorem dX9_save_0 : decode cX9_save 0 = .ok (.aload_n 0, 1) := by decide +kernel
theorem dX9_save_1 : decode cX9_save 1 = .ok (.getfield 19, 3) := by decide +kernel
theorem dX9_save_4 : decode cX9_save 4 = .ok (.aload_n 0, 1) := by decide +kernel
theorem dX9_save_5 : decode cX9_save 5 = .ok (.getfield 10, 3) := by decide +kernel
theorem dX9_save_8 : decode cX9_save 8 = .ok (.invokevirtual 205, 3) := by decide +kernel
theorem dX9_save_11 : decode cX9_save 11 = .ok (.aload_n 0, 1) := by decide +kernel
theorem dX9_save_12 : decode cX9_save 12 = .ok (.iconst 1, 1) := by decide +kernel
theorem dX9_save_13 : decode cX9_save 13 = .ok (.putfield 74, 3) := by decide +kernel
theorem dX9_save_16 : decode cX9_save 16 = .ok (.aload_n 0, 1) := by decide +kernel
theorem dX9_save_17 : decode cX9_save 17 = .ok (.getfield 10, 3) := by decide +kernel
theorem dX9_save_20 : decode cX9_save 20 = .ok (.getfield 196, 3) := by decide +kernel
theorem dX9_save_23 : decode cX9_save 23 = .ok (.ireturn, 1) := by decide +kernel
theorem dX9_restore_0 : decode cX9_restore 0 = .ok (.aload_n 0, 1) := by decide +kernel
theorem dX9_restore_1 : decode cX9_restore 1 = .ok (.getfield 74, 3) := by decide +kernel
theorem dX9_restore_4 : decode cX9_restore 4 = .ok (.ifCond .ne 14, 3) := by decide +kernel
theorem dX9_restore_7 : decode cX9_restore 7 = .ok (.new 286, 3) := by decide +kernel
theorem dX9_restore_10 : decode cX9_restore 10 = .ok (.dup, 1) := by decide +kernel
theorem dX9_restore_11 : decode cX9_restore 11 = .ok (.ldc_w 383, 3) := by decide +kernel
theorem dX9_restore_14 : decode cX9_restore 14 = .ok (.invokespecial 290, 3) := by decide +kernel
theorem dX9_restore_17 : decode cX9_restore 17 = .ok (.athrow, 1) := by decide +kernel
theorem dX9_restore_18 : decode cX9_restore 18 = .ok (.aload_n 0, 1) := by decide +kernel
theorem dX9_restore_19 : decode cX9_restore 19 = .ok (.getfield 10, 3) := by decide +kernel
theorem dX9_restore_22 : decode cX9_restore 22 = .ok (.aload_n 0, 1) := by decide +kernel
theorem dX9_restore_23 : decode cX9_restore 23 = .ok (.getfield 19, 3) := by decide +kernel
theorem dX9_restore_26 : decode cX9_restore 26 = .ok (.invokevirtual 205, 3) := by decide +kernel
theorem dX9_restore_29 : decode cX9_restore 29 = .ok (.aload_n 0, 1) := by decide +kernel
theorem dX9_restore_30 : decode cX9_restore 30 = .ok (.getfield 28, 3) := by decide +kernel
theorem dX9_restore_33 : decode cX9_restore 33 = .ok (.invokevirtual 385, 3) := by decide +kernel
theorem dX9_restore_36 : decode cX9_restore 36 = .ok (.aload_n 0, 1) := by decide +kernel
theorem dX9_restore_37 : decode cX9_restore 37 = .ok (.getfield 10, 3) := by decide +kernel
theorem dX9_restore_40 : decode cX9_restore 40 = .ok (.getfield 196, 3) := by decide +kernel
theorem dX9_restore_43 : decode cX9_restore 43 = .ok (.ireturn, 1) := by decide +kernel
theorem dX9_isCell_0 : decode cX9_isCell 0 = .ok (.iload_n 0, 1) := by decide +kernel
theorem dX9_isCell_1 : decode cX9_isCell 1 = .ok (.ifCond .lt 23, 3) := by decide +kernel
theorem dX9_isCell_4 : decode cX9_isCell 4 = .ok (.iload_n 0, 1) := by decide +kernel
theorem dX9_isCell_5 : decode cX9_isCell 5 = .ok (.bipush 8, 2) := by decide +kernel
theorem dX9_isCell_7 : decode cX9_isCell 7 = .ok (.if_icmp .ge 17, 3) := by decide +kernel
theorem dX9_isCell_10 : decode cX9_isCell 10 = .ok (.iload_n 1, 1) := by decide +kernel
theorem dX9_isCell_11 : decode cX9_isCell 11 = .ok (.ifCond .lt 13, 3) := by decide +kernel
theorem dX9_isCell_14 : decode cX9_isCell 14 = .ok (.iload_n 1, 1) := by decide +kernel
theorem dX9_isCell_15 : decode cX9_isCell 15 = .ok (.bipush 8, 2) := by decide +kernel
theorem dX9_isCell_17 : decode cX9_isCell 17 = .ok (.if_icmp .ge 7, 3) := by decide +kernel
theorem dX9_isCell_20 : decode cX9_isCell 20 = .ok (.iconst 1, 1) := by decide +kernel
theorem dX9_isCell_21 : decode cX9_isCell 21 = .ok (.goto 4, 3) := by decide +kernel
theorem dX9_isCell_24 : decode cX9_isCell 24 = .ok (.iconst 0, 1) := by decide +kernel
theorem dX9_isCell_25 : decode cX9_isCell 25 = .ok (.ireturn, 1) := by decide +kernel
theorem dX9_cellOf_0 : decode cX9_cellOf 0 = .ok (.bipush 8, 2) := by decide +kernel
theorem dX9_cellOf_2 : decode cX9_cellOf 2 = .ok (.iload_n 1, 1) := by decide +kernel
theorem dX9_cellOf_3 : decode cX9_cellOf 3 = .ok (.imul, 1) := by decide +kernel
theorem dX9_cellOf_4 : decode cX9_cellOf 4 = .ok (.iload_n 0, 1) := by decide +kernel
theorem dX9_cellOf_5 : decode cX9_cellOf 5 = .ok (.iadd, 1) := by decide +kernel
theorem dX9_cellOf_6 : decode cX9_cellOf 6 = .ok (.ireturn, 1) := by decide +kernel
theorem dX9_isSide_0 : decode cX9_isSide 0 = .ok (.iload_n 0, 1) := by decide +kernel
theorem dX9_isSide_1 : decode cX9_isSide 1 = .ok (.ifCond .lt 12, 3) := by decide +kernel
theorem dX9_isSide_4 : decode cX9_isSide 4 = .ok (.iload_n 0, 1) := by decide +kernel
theorem dX9_isSide_5 : decode cX9_isSide 5 = .ok (.iconst 4, 1) := by decide +kernel
theorem dX9_isSide_6 : decode cX9_isSide 6 = .ok (.if_icmp .ge 7, 3) := by decide +kernel
theorem dX9_isSide_9 : decode cX9_isSide 9 = .ok (.iconst 1, 1) := by decide +kernel
theorem dX9_isSide_10 : decode cX9_isSide 10 = .ok (.goto 4, 3) := by decide +kernel
theorem dX9_isSide_13 : decode cX9_isSide 13 = .ok (.iconst 0, 1) := by decide +kernel
theorem dX9_isSide_14 : decode cX9_isSide 14 = .ok (.ireturn, 1) := by decide +kernel
theorem dX9_isGround_0 : decode cX9_isGround 0 = .ok (.iload_n 0, 1) := by decide +kernel
theorem dX9_isGround_1 : decode cX9_isGround 1 = .ok (.bipush 46, 2) := by decide +kernel
theorem dX9_isGround_3 : decode cX9_isGround 3 = .ok (.if_icmp .eq 21, 3) := by decide +kernel
theorem dX9_isGround_6 : decode cX9_isGround 6 = .ok (.iload_n 0, 1) := by decide +kernel
theorem dX9_isGround_7 : decode cX9_isGround 7 = .ok (.bipush 58, 2) := by decide +kernel
theorem dX9_isGround_9 : decode cX9_isGround 9 = .ok (.if_icmp .eq 15, 3) := by decide +kernel
theorem dX9_isGround_12 : decode cX9_isGround 12 = .ok (.iload_n 0, 1) := by decide +kernel
theorem dX9_isGround_13 : decode cX9_isGround 13 = .ok (.bipush 126, 2) := by decide +kernel
theorem dX9_isGround_15 : decode cX9_isGround 15 = .ok (.if_icmp .eq 9, 3) := by decide +kernel
theorem dX9_isGround_18 : decode cX9_isGround 18 = .ok (.iload_n 0, 1) := by decide +kernel
theorem dX9_isGround_19 : decode cX9_isGround 19 = .ok (.bipush 35, 2) := by decide +kernel
theorem dX9_isGround_21 : decode cX9_isGround 21 = .ok (.if_icmp .ne 7, 3) := by decide +kernel
theorem dX9_isGround_24 : decode cX9_isGround 24 = .ok (.iconst 1, 1) := by decide +kernel
theorem dX9_isGround_25 : decode cX9_isGround 25 = .ok (.goto 4, 3) := by decide +kernel
theorem dX9_isGround_28 : decode cX9_isGround 28 = .ok (.iconst 0, 1) := by decide +kernel
theorem dX9_isGround_29 : decode cX9_isGround 29 = .ok (.ireturn, 1) := by decide +kernel
theorem dX9_isAmount_0 : decode cX9_isAmount 0 = .ok (.iload_n 0, 1) := by decide +kernel
theorem dX9_isAmount_1 : decode cX9_isAmount 1 = .ok (.iconst 1, 1) := by decide +kernel
theorem dX9_isAmount_2 : decode cX9_isAmount 2 = .ok (.if_icmp .lt 14, 3) := by decide +kernel
theorem dX9_isAmount_5 : decode cX9_isAmount 5 = .ok (.iload_n 0, 1) := by decide +kernel
theorem dX9_isAmount_6 : decode cX9_isAmount 6 = .ok (.sipush 999, 3) := by decide +kernel
theorem dX9_isAmount_9 : decode cX9_isAmount 9 = .ok (.if_icmp .gt 7, 3) := by decide +kernel
theorem dX9_isAmount_12 : decode cX9_isAmount 12 = .ok (.iconst 1, 1) := by decide +kernel
theorem dX9_isAmount_13 : decode cX9_isAmount 13 = .ok (.goto 4, 3) := by decide +kernel
theorem dX9_isAmount_16 : decode cX9_isAmount 16 = .ok (.iconst 0, 1) := by decide +kernel
theorem dX9_isAmount_17 : decode cX9_isAmount 17 = .ok (.ireturn, 1) := by decide +kernel
theorem dX9_isTemperature_0 : decode cX9_isTemperature 0 = .ok (.iload_n 0, 1) := by decide +kernel
theorem dX9_isTemperature_1 : decode cX9_isTemperature 1 = .ok (.ifCond .lt 14, 3) := by decide +kernel
theorem dX9_isTemperature_4 : decode cX9_isTemperature 4 = .ok (.iload_n 0, 1) := by decide +kernel
theorem dX9_isTemperature_5 : decode cX9_isTemperature 5 = .ok (.sipush 9999, 3) := by decide +kernel
theorem dX9_isTemperature_8 : decode cX9_isTemperature 8 = .ok (.if_icmp .gt 7, 3) := by decide +kernel
theorem dX9_isTemperature_11 : decode cX9_isTemperature 11 = .ok (.iconst 1, 1) := by decide +kernel
theorem dX9_isTemperature_12 : decode cX9_isTemperature 12 = .ok (.goto 4, 3) := by decide +kernel
theorem dX9_isTemperature_15 : decode cX9_isTemperature 15 = .ok (.iconst 0, 1) := by decide +kernel
theorem dX9_isTemperature_16 : decode cX9_isTemperature 16 = .ok (.ireturn, 1) := by decide +kernel
theorem dX9_isTickNumber_0 : decode cX9_isTickNumber 0 = .ok (.iload_n 0, 1) := by decide +kernel
theorem dX9_isTickNumber_1 : decode cX9_isTickNumber 1 = .ok (.iconst 1, 1) := by decide +kernel
theorem dX9_isTickNumber_2 : decode cX9_isTickNumber 2 = .ok (.if_icmp .lt 13, 3) := by decide +kernel
theorem dX9_isTickNumber_5 : decode cX9_isTickNumber 5 = .ok (.iload_n 0, 1) := by decide +kernel
theorem dX9_isTickNumber_6 : decode cX9_isTickNumber 6 = .ok (.bipush 20, 2) := by decide +kernel
theorem dX9_isTickNumber_8 : decode cX9_isTickNumber 8 = .ok (.if_icmp .gt 7, 3) := by decide +kernel
theorem dX9_isTickNumber_11 : decode cX9_isTickNumber 11 = .ok (.iconst 1, 1) := by decide +kernel
theorem dX9_isTickNumber_12 : decode cX9_isTickNumber 12 = .ok (.goto 4, 3) := by decide +kernel
theorem dX9_isTickNumber_15 : decode cX9_isTickNumber 15 = .ok (.iconst 0, 1) := by decide +kernel
theorem dX9_isTickNumber_16 : decode cX9_isTickNumber 16 = .ok (.ireturn, 1) := by decide +kernel
theorem dX9_requireCell_0 : decode cX9_requireCell 0 = .ok (.iload_n 0, 1) := by decide +kernel
theorem dX9_requireCell_1 : decode cX9_requireCell 1 = .ok (.iload_n 1, 1) := by decide +kernel
theorem dX9_requireCell_2 : decode cX9_requireCell 2 = .ok (.invokestatic 388, 3) := by decide +kernel
theorem dX9_requireCell_5 : decode cX9_requireCell 5 = .ok (.ifCond .ne 14, 3) := by decide +kernel
theorem dX9_requireCell_8 : decode cX9_requireCell 8 = .ok (.new 343, 3) := by decide +kernel
theorem dX9_requireCell_11 : decode cX9_requireCell 11 = .ok (.dup, 1) := by decide +kernel
theorem dX9_requireCell_12 : decode cX9_requireCell 12 = .ok (.ldc_w 391, 3) := by decide +kernel
theorem dX9_requireCell_15 : decode cX9_requireCell 15 = .ok (.invokespecial 347, 3) := by decide +kernel
theorem dX9_requireCell_18 : decode cX9_requireCell 18 = .ok (.athrow, 1) := by decide +kernel
theorem dX9_requireCell_19 : decode cX9_requireCell 19 = .ok (.return_, 1) := by decide +kernel
theorem dX9_requireSide_0 : decode cX9_requireSide 0 = .ok (.iload_n 0, 1) := by decide +kernel
theorem dX9_requireSide_1 : decode cX9_requireSide 1 = .ok (.invokestatic 393, 3) := by decide +kernel
theorem dX9_requireSide_4 : decode cX9_requireSide 4 = .ok (.ifCond .ne 14, 3) := by decide +kernel
theorem dX9_requireSide_7 : decode cX9_requireSide 7 = .ok (.new 343, 3) := by decide +kernel
theorem dX9_requireSide_10 : decode cX9_requireSide 10 = .ok (.dup, 1) := by decide +kernel
theorem dX9_requireSide_11 : decode cX9_requireSide 11 = .ok (.ldc_w 396, 3) := by decide +kernel
theorem dX9_requireSide_14 : decode cX9_requireSide 14 = .ok (.invokespecial 347, 3) := by decide +kernel
theorem dX9_requireSide_17 : decode cX9_requireSide 17 = .ok (.athrow, 1) := by decide +kernel
theorem dX9_requireSide_18 : decode cX9_requireSide 18 = .ok (.return_, 1) := by decide +kernel
theorem dX9_requireLevel_0 : decode cX9_requireLevel 0 = .ok (.iload_n 0, 1) := by decide +kernel
theorem dX9_requireLevel_1 : decode cX9_requireLevel 1 = .ok (.iconst 1, 1) := by decide +kernel
theorem dX9_requireLevel_2 : decode cX9_requireLevel 2 = .ok (.if_icmp .lt 10, 3) := by decide +kernel
theorem dX9_requireLevel_5 : decode cX9_requireLevel 5 = .ok (.iload_n 0, 1) := by decide +kernel
theorem dX9_requireLevel_6 : decode cX9_requireLevel 6 = .ok (.sipush 9999, 3) := by decide +kernel
theorem dX9_requireLevel_9 : decode cX9_requireLevel 9 = .ok (.if_icmp .le 14, 3) := by decide +kernel
theorem dX9_requireLevel_12 : decode cX9_requireLevel 12 = .ok (.new 99, 3) := by decide +kernel
theorem dX9_requireLevel_15 : decode cX9_requireLevel 15 = .ok (.dup, 1) := by decide +kernel
theorem dX9_requireLevel_16 : decode cX9_requireLevel 16 = .ok (.ldc_w 398, 3) := by decide +kernel
theorem dX9_requireLevel_19 : decode cX9_requireLevel 19 = .ok (.invokespecial 103, 3) := by decide +kernel
theorem dX9_requireLevel_22 : decode cX9_requireLevel 22 = .ok (.athrow, 1) := by decide +kernel
theorem dX9_requireLevel_23 : decode cX9_requireLevel 23 = .ok (.return_, 1) := by decide +kernel
theorem dX9_requireLegend_0 : decode cX9_requireLegend 0 = .ok (.iload_n 1, 1) := by decide +kernel
theorem dX9_requireLegend_1 : decode cX9_requireLegend 1 = .ok (.iconst 1, 1) := by decide +kernel
theorem dX9_requireLegend_2 : decode cX9_requireLegend 2 = .ok (.if_icmp .lt 9, 3) := by decide +kernel
theorem dX9_requireLegend_5 : decode cX9_requireLegend 5 = .ok (.iload_n 1, 1) := by decide +kernel
theorem dX9_requireLegend_6 : decode cX9_requireLegend 6 = .ok (.bipush 6, 2) := by decide +kernel
theorem dX9_requireLegend_8 : decode cX9_requireLegend 8 = .ok (.if_icmp .le 14, 3) := by decide +kernel
theorem dX9_requireLegend_11 : decode cX9_requireLegend 11 = .ok (.new 99, 3) := by decide +kernel
theorem dX9_requireLegend_14 : decode cX9_requireLegend 14 = .ok (.dup, 1) := by decide +kernel
theorem dX9_requireLegend_15 : decode cX9_requireLegend 15 = .ok (.ldc_w 400, 3) := by decide +kernel
theorem dX9_requireLegend_18 : decode cX9_requireLegend 18 = .ok (.invokespecial 103, 3) := by decide +kernel
theorem dX9_requireLegend_21 : decode cX9_requireLegend 21 = .ok (.athrow, 1) := by decide +kernel
theorem dX9_requireLegend_22 : decode cX9_requireLegend 22 = .ok (.aload_n 0, 1) := by decide +kernel
theorem dX9_requireLegend_23 : decode cX9_requireLegend 23 = .ok (.getfield 10, 3) := by decide +kernel
theorem dX9_requireLegend_26 : decode cX9_requireLegend 26 = .ok (.invokevirtual 351, 3) := by decide +kernel
theorem dX9_requireLegend_29 : decode cX9_requireLegend 29 = .ok (.iload_n 1, 1) := by decide +kernel
theorem dX9_requireLegend_30 : decode cX9_requireLegend 30 = .ok (.if_icmp .ge 14, 3) := by decide +kernel
theorem dX9_requireLegend_33 : decode cX9_requireLegend 33 = .ok (.new 286, 3) := by decide +kernel
theorem dX9_requireLegend_36 : decode cX9_requireLegend 36 = .ok (.dup, 1) := by decide +kernel
theorem dX9_requireLegend_37 : decode cX9_requireLegend 37 = .ok (.ldc_w 402, 3) := by decide +kernel
theorem dX9_requireLegend_40 : decode cX9_requireLegend 40 = .ok (.invokespecial 290, 3) := by decide +kernel
theorem dX9_requireLegend_43 : decode cX9_requireLegend 43 = .ok (.athrow, 1) := by decide +kernel
theorem dX9_requireLegend_44 : decode cX9_requireLegend 44 = .ok (.return_, 1) := by decide +kernel
theorem dX9_requireRefusal_0 : decode cX9_requireRefusal 0 = .ok (.aload_n 0, 1) := by decide +kernel
theorem dX9_requireRefusal_1 : decode cX9_requireRefusal 1 = .ok (.getfield 78, 3) := by decide +kernel
theorem dX9_requireRefusal_4 : decode cX9_requireRefusal 4 = .ok (.ifCond .ne 14, 3) := by decide +kernel
theorem dX9_requireRefusal_7 : decode cX9_requireRefusal 7 = .ok (.new 164, 3) := by decide +kernel
theorem dX9_requireRefusal_10 : decode cX9_requireRefusal 10 = .ok (.dup, 1) := by decide +kernel
theorem dX9_requireRefusal_11 : decode cX9_requireRefusal 11 = .ok (.ldc_w 404, 3) := by decide +kernel
theorem dX9_requireRefusal_14 : decode cX9_requireRefusal 14 = .ok (.invokespecial 168, 3) := by decide +kernel
theorem dX9_requireRefusal_17 : decode cX9_requireRefusal 17 = .ok (.athrow, 1) := by decide +kernel
theorem dX9_requireRefusal_18 : decode cX9_requireRefusal 18 = .ok (.return_, 1) := by decide +kernel
theorem dX9_isGroundRefused_0 : decode cX9_isGroundRefused 0 = .ok (.aload_n 0, 1) := by decide +kernel
theorem dX9_isGroundRefused_1 : decode cX9_isGroundRefused 1 = .ok (.getfield 10, 3) := by decide +kernel
theorem dX9_isGroundRefused_4 : decode cX9_isGroundRefused 4 = .ok (.getfield 140, 3) := by decide +kernel
theorem dX9_isGroundRefused_7 : decode cX9_isGroundRefused 7 = .ok (.iload_n 1, 1) := by decide +kernel
theorem dX9_isGroundRefused_8 : decode cX9_isGroundRefused 8 = .ok (.iaload, 1) := by decide +kernel
theorem dX9_isGroundRefused_9 : decode cX9_isGroundRefused 9 = .ok (.aload_n 0, 1) := by decide +kernel
theorem dX9_isGroundRefused_10 : decode cX9_isGroundRefused 10 = .ok (.getfield 10, 3) := by decide +kernel
theorem dX9_isGroundRefused_13 : decode cX9_isGroundRefused 13 = .ok (.getfield 144, 3) := by decide +kernel
theorem dX9_isGroundRefused_16 : decode cX9_isGroundRefused 16 = .ok (.iload_n 1, 1) := by decide +kernel
theorem dX9_isGroundRefused_17 : decode cX9_isGroundRefused 17 = .ok (.iaload, 1) := by decide +kernel
theorem dX9_isGroundRefused_18 : decode cX9_isGroundRefused 18 = .ok (.iadd, 1) := by decide +kernel
theorem dX9_isGroundRefused_19 : decode cX9_isGroundRefused 19 = .ok (.istore_n 3, 1) := by decide +kernel
theorem dX9_isGroundRefused_20 : decode cX9_isGroundRefused 20 = .ok (.iload_n 2, 1) := by decide +kernel
theorem dX9_isGroundRefused_21 : decode cX9_isGroundRefused 21 = .ok (.bipush 35, 2) := by decide +kernel
theorem dX9_isGroundRefused_23 : decode cX9_isGroundRefused 23 = .ok (.if_icmp .ne 7, 3) := by decide +kernel
theorem dX9_isGroundRefused_26 : decode cX9_isGroundRefused 26 = .ok (.iload_n 3, 1) := by decide +kernel
theorem dX9_isGroundRefused_27 : decode cX9_isGroundRefused 27 = .ok (.ifCond .ne 5, 3) := by decide +kernel
theorem dX9_isGroundRefused_30 : decode cX9_isGroundRefused 30 = .ok (.iconst 0, 1) := by decide +kernel
theorem dX9_isGroundRefused_31 : decode cX9_isGroundRefused 31 = .ok (.ireturn, 1) := by decide +kernel
theorem dX9_isGroundRefused_32 : decode cX9_isGroundRefused 32 = .ok (.aload_n 0, 1) := by decide +kernel
theorem dX9_isGroundRefused_33 : decode cX9_isGroundRefused 33 = .ok (.iconst 2, 1) := by decide +kernel
theorem dX9_isGroundRefused_34 : decode cX9_isGroundRefused 34 = .ok (.iload_n 3, 1) := by decide +kernel
theorem dX9_isGroundRefused_35 : decode cX9_isGroundRefused 35 = .ok (.invokevirtual 406, 3) := by decide +kernel
theorem dX9_isGroundRefused_38 : decode cX9_isGroundRefused 38 = .ok (.iconst 1, 1) := by decide +kernel
theorem dX9_isGroundRefused_39 : decode cX9_isGroundRefused 39 = .ok (.ireturn, 1) := by decide +kernel
theorem dX9_isHeatRefused_0 : decode cX9_isHeatRefused 0 = .ok (.aload_n 0, 1) := by decide +kernel
theorem dX9_isHeatRefused_1 : decode cX9_isHeatRefused 1 = .ok (.getfield 10, 3) := by decide +kernel
theorem dX9_isHeatRefused_4 : decode cX9_isHeatRefused 4 = .ok (.iload_n 1, 1) := by decide +kernel
theorem dX9_isHeatRefused_5 : decode cX9_isHeatRefused 5 = .ok (.invokevirtual 272, 3) := by decide +kernel
theorem dX9_isHeatRefused_8 : decode cX9_isHeatRefused 8 = .ok (.ifCond .eq 11, 3) := by decide +kernel
theorem dX9_isHeatRefused_11 : decode cX9_isHeatRefused 11 = .ok (.aload_n 0, 1) := by decide +kernel
theorem dX9_isHeatRefused_12 : decode cX9_isHeatRefused 12 = .ok (.iconst 1, 1) := by decide +kernel
theorem dX9_isHeatRefused_13 : decode cX9_isHeatRefused 13 = .ok (.iload_n 1, 1) := by decide +kernel
theorem dX9_isHeatRefused_14 : decode cX9_isHeatRefused 14 = .ok (.invokevirtual 406, 3) := by decide +kernel
theorem dX9_isHeatRefused_17 : decode cX9_isHeatRefused 17 = .ok (.iconst 1, 1) := by decide +kernel
theorem dX9_isHeatRefused_18 : decode cX9_isHeatRefused 18 = .ok (.ireturn, 1) := by decide +kernel
theorem dX9_isHeatRefused_19 : decode cX9_isHeatRefused 19 = .ok (.aload_n 0, 1) := by decide +kernel
theorem dX9_isHeatRefused_20 : decode cX9_isHeatRefused 20 = .ok (.getfield 10, 3) := by decide +kernel
theorem dX9_isHeatRefused_23 : decode cX9_isHeatRefused 23 = .ok (.getfield 140, 3) := by decide +kernel
theorem dX9_isHeatRefused_26 : decode cX9_isHeatRefused 26 = .ok (.iload_n 1, 1) := by decide +kernel
theorem dX9_isHeatRefused_27 : decode cX9_isHeatRefused 27 = .ok (.iaload, 1) := by decide +kernel
theorem dX9_isHeatRefused_28 : decode cX9_isHeatRefused 28 = .ok (.iload_n 2, 1) := by decide +kernel
theorem dX9_isHeatRefused_29 : decode cX9_isHeatRefused 29 = .ok (.iadd, 1) := by decide +kernel
theorem dX9_isHeatRefused_30 : decode cX9_isHeatRefused 30 = .ok (.sipush 9999, 3) := by decide +kernel
theorem dX9_isHeatRefused_33 : decode cX9_isHeatRefused 33 = .ok (.isub, 1) := by decide +kernel
theorem dX9_isHeatRefused_34 : decode cX9_isHeatRefused 34 = .ok (.istore_n 3, 1) := by decide +kernel
theorem dX9_isHeatRefused_35 : decode cX9_isHeatRefused 35 = .ok (.iload_n 3, 1) := by decide +kernel
theorem dX9_isHeatRefused_36 : decode cX9_isHeatRefused 36 = .ok (.ifCond .gt 5, 3) := by decide +kernel
theorem dX9_isHeatRefused_39 : decode cX9_isHeatRefused 39 = .ok (.iconst 0, 1) := by decide +kernel
theorem dX9_isHeatRefused_40 : decode cX9_isHeatRefused 40 = .ok (.ireturn, 1) := by decide +kernel
theorem dX9_isHeatRefused_41 : decode cX9_isHeatRefused 41 = .ok (.aload_n 0, 1) := by decide +kernel
theorem dX9_isHeatRefused_42 : decode cX9_isHeatRefused 42 = .ok (.iconst 3, 1) := by decide +kernel
theorem dX9_isHeatRefused_43 : decode cX9_isHeatRefused 43 = .ok (.iload_n 3, 1) := by decide +kernel
theorem dX9_isHeatRefused_44 : decode cX9_isHeatRefused 44 = .ok (.invokevirtual 406, 3) := by decide +kernel
theorem dX9_isHeatRefused_47 : decode cX9_isHeatRefused 47 = .ok (.iconst 1, 1) := by decide +kernel
theorem dX9_isHeatRefused_48 : decode cX9_isHeatRefused 48 = .ok (.ireturn, 1) := by decide +kernel
theorem dX9_keepRefusal_0 : decode cX9_keepRefusal 0 = .ok (.aload_n 0, 1) := by decide +kernel
theorem dX9_keepRefusal_1 : decode cX9_keepRefusal 1 = .ok (.iload_n 1, 1) := by decide +kernel
theorem dX9_keepRefusal_2 : decode cX9_keepRefusal 2 = .ok (.putfield 78, 3) := by decide +kernel
theorem dX9_keepRefusal_5 : decode cX9_keepRefusal 5 = .ok (.aload_n 0, 1) := by decide +kernel
theorem dX9_keepRefusal_6 : decode cX9_keepRefusal 6 = .ok (.iload_n 2, 1) := by decide +kernel
theorem dX9_keepRefusal_7 : decode cX9_keepRefusal 7 = .ok (.putfield 82, 3) := by decide +kernel
theorem dX9_keepRefusal_10 : decode cX9_keepRefusal 10 = .ok (.return_, 1) := by decide +kernel
theorem dX9_carryOut_0 : decode cX9_carryOut 0 = .ok (.aload_n 1, 1) := by decide +kernel
theorem dX9_carryOut_1 : decode cX9_carryOut 1 = .ok (.getfield 409, 3) := by decide +kernel
theorem dX9_carryOut_4 : decode cX9_carryOut 4 = .ok (.tableswitch 88 0 3 #[32, 49, 66, 79], 32) := by decide +kernel
theorem dX9_carryOut_36 : decode cX9_carryOut 36 = .ok (.aload_n 0, 1) := by decide +kernel
theorem dX9_carryOut_37 : decode cX9_carryOut 37 = .ok (.aload_n 1, 1) := by decide +kernel
theorem dX9_carryOut_38 : decode cX9_carryOut 38 = .ok (.getfield 414, 3) := by decide +kernel
theorem dX9_carryOut_41 : decode cX9_carryOut 41 = .ok (.aload_n 1, 1) := by decide +kernel
theorem dX9_carryOut_42 : decode cX9_carryOut 42 = .ok (.getfield 417, 3) := by decide +kernel
theorem dX9_carryOut_45 : decode cX9_carryOut 45 = .ok (.aload_n 1, 1) := by decide +kernel
theorem dX9_carryOut_46 : decode cX9_carryOut 46 = .ok (.getfield 420, 3) := by decide +kernel
theorem dX9_carryOut_49 : decode cX9_carryOut 49 = .ok (.invokevirtual 423, 3) := by decide +kernel
theorem dX9_carryOut_52 : decode cX9_carryOut 52 = .ok (.ireturn, 1) := by decide +kernel
theorem dX9_carryOut_53 : decode cX9_carryOut 53 = .ok (.aload_n 0, 1) := by decide +kernel
theorem dX9_carryOut_54 : decode cX9_carryOut 54 = .ok (.aload_n 1, 1) := by decide +kernel
theorem dX9_carryOut_55 : decode cX9_carryOut 55 = .ok (.getfield 414, 3) := by decide +kernel
theorem dX9_carryOut_58 : decode cX9_carryOut 58 = .ok (.aload_n 1, 1) := by decide +kernel
theorem dX9_carryOut_59 : decode cX9_carryOut 59 = .ok (.getfield 417, 3) := by decide +kernel
theorem dX9_carryOut_62 : decode cX9_carryOut 62 = .ok (.aload_n 1, 1) := by decide +kernel
theorem dX9_carryOut_63 : decode cX9_carryOut 63 = .ok (.getfield 420, 3) := by decide +kernel
theorem dX9_carryOut_66 : decode cX9_carryOut 66 = .ok (.invokevirtual 427, 3) := by decide +kernel
theorem dX9_carryOut_69 : decode cX9_carryOut 69 = .ok (.ireturn, 1) := by decide +kernel
theorem dX9_carryOut_70 : decode cX9_carryOut 70 = .ok (.aload_n 0, 1) := by decide +kernel
theorem dX9_carryOut_71 : decode cX9_carryOut 71 = .ok (.aload_n 1, 1) := by decide +kernel
theorem dX9_carryOut_72 : decode cX9_carryOut 72 = .ok (.getfield 414, 3) := by decide +kernel
theorem dX9_carryOut_75 : decode cX9_carryOut 75 = .ok (.aload_n 1, 1) := by decide +kernel
theorem dX9_carryOut_76 : decode cX9_carryOut 76 = .ok (.getfield 417, 3) := by decide +kernel
theorem dX9_carryOut_79 : decode cX9_carryOut 79 = .ok (.invokevirtual 430, 3) := by decide +kernel
theorem dX9_carryOut_82 : decode cX9_carryOut 82 = .ok (.ireturn, 1) := by decide +kernel
theorem dX9_carryOut_83 : decode cX9_carryOut 83 = .ok (.aload_n 0, 1) := by decide +kernel
theorem dX9_carryOut_84 : decode cX9_carryOut 84 = .ok (.aload_n 1, 1) := by decide +kernel
theorem dX9_carryOut_85 : decode cX9_carryOut 85 = .ok (.getfield 414, 3) := by decide +kernel
theorem dX9_carryOut_88 : decode cX9_carryOut 88 = .ok (.invokevirtual 433, 3) := by decide +kernel
theorem dX9_carryOut_91 : decode cX9_carryOut 91 = .ok (.ireturn, 1) := by decide +kernel
theorem dX9_carryOut_92 : decode cX9_carryOut 92 = .ok (.iconst 0, 1) := by decide +kernel
theorem dX9_carryOut_93 : decode cX9_carryOut 93 = .ok (.ireturn, 1) := by decide +kernel
theorem dX9_carryOutHeat_0 : decode cX9_carryOutHeat 0 = .ok (.iload_n 1, 1) := by decide +kernel
theorem dX9_carryOutHeat_1 : decode cX9_carryOutHeat 1 = .ok (.iload_n 2, 1) := by decide +kernel
theorem dX9_carryOutHeat_2 : decode cX9_carryOutHeat 2 = .ok (.invokestatic 388, 3) := by decide +kernel
theorem dX9_carryOutHeat_5 : decode cX9_carryOutHeat 5 = .ok (.ifCond .eq 23, 3) := by decide +kernel
theorem dX9_carryOutHeat_8 : decode cX9_carryOutHeat 8 = .ok (.iload_n 3, 1) := by decide +kernel
theorem dX9_carryOutHeat_9 : decode cX9_carryOutHeat 9 = .ok (.invokestatic 127, 3) := by decide +kernel
theorem dX9_carryOutHeat_12 : decode cX9_carryOutHeat 12 = .ok (.ifCond .eq 16, 3) := by decide +kernel
theorem dX9_carryOutHeat_15 : decode cX9_carryOutHeat 15 = .ok (.aload_n 0, 1) := by decide +kernel
theorem dX9_carryOutHeat_16 : decode cX9_carryOutHeat 16 = .ok (.iload_n 1, 1) := by decide +kernel
theorem dX9_carryOutHeat_17 : decode cX9_carryOutHeat 17 = .ok (.iload_n 2, 1) := by decide +kernel
theorem dX9_carryOutHeat_18 : decode cX9_carryOutHeat 18 = .ok (.invokestatic 106, 3) := by decide +kernel
theorem dX9_carryOutHeat_21 : decode cX9_carryOutHeat 21 = .ok (.iload_n 3, 1) := by decide +kernel
theorem dX9_carryOutHeat_22 : decode cX9_carryOutHeat 22 = .ok (.invokevirtual 132, 3) := by decide +kernel
theorem dX9_carryOutHeat_25 : decode cX9_carryOutHeat 25 = .ok (.ifCond .eq 5, 3) := by decide +kernel
theorem dX9_carryOutHeat_28 : decode cX9_carryOutHeat 28 = .ok (.iconst 0, 1) := by decide +kernel
theorem dX9_carryOutHeat_29 : decode cX9_carryOutHeat 29 = .ok (.ireturn, 1) := by decide +kernel
theorem dX9_carryOutHeat_30 : decode cX9_carryOutHeat 30 = .ok (.aload_n 0, 1) := by decide +kernel
theorem dX9_carryOutHeat_31 : decode cX9_carryOutHeat 31 = .ok (.getfield 10, 3) := by decide +kernel
theorem dX9_carryOutHeat_34 : decode cX9_carryOutHeat 34 = .ok (.iload_n 1, 1) := by decide +kernel
theorem dX9_carryOutHeat_35 : decode cX9_carryOutHeat 35 = .ok (.iload_n 2, 1) := by decide +kernel
theorem dX9_carryOutHeat_36 : decode cX9_carryOutHeat 36 = .ok (.invokestatic 106, 3) := by decide +kernel
theorem dX9_carryOutHeat_39 : decode cX9_carryOutHeat 39 = .ok (.iload_n 3, 1) := by decide +kernel
theorem dX9_carryOutHeat_40 : decode cX9_carryOutHeat 40 = .ok (.invokevirtual 137, 3) := by decide +kernel
theorem dX9_carryOutHeat_43 : decode cX9_carryOutHeat 43 = .ok (.iconst 1, 1) := by decide +kernel
theorem dX9_carryOutHeat_44 : decode cX9_carryOutHeat 44 = .ok (.ireturn, 1) := by decide +kernel
theorem dX9_carryOutGround_0 : decode cX9_carryOutGround 0 = .ok (.iload_n 1, 1) := by decide +kernel
theorem dX9_carryOutGround_1 : decode cX9_carryOutGround 1 = .ok (.iload_n 2, 1) := by decide +kernel
theorem dX9_carryOutGround_2 : decode cX9_carryOutGround 2 = .ok (.invokestatic 388, 3) := by decide +kernel
theorem dX9_carryOutGround_5 : decode cX9_carryOutGround 5 = .ok (.ifCond .eq 23, 3) := by decide +kernel
theorem dX9_carryOutGround_8 : decode cX9_carryOutGround 8 = .ok (.iload_n 3, 1) := by decide +kernel
theorem dX9_carryOutGround_9 : decode cX9_carryOutGround 9 = .ok (.invokestatic 95, 3) := by decide +kernel
theorem dX9_carryOutGround_12 : decode cX9_carryOutGround 12 = .ok (.ifCond .eq 16, 3) := by decide +kernel
theorem dX9_carryOutGround_15 : decode cX9_carryOutGround 15 = .ok (.aload_n 0, 1) := by decide +kernel
theorem dX9_carryOutGround_16 : decode cX9_carryOutGround 16 = .ok (.iload_n 1, 1) := by decide +kernel
theorem dX9_carryOutGround_17 : decode cX9_carryOutGround 17 = .ok (.iload_n 2, 1) := by decide +kernel
theorem dX9_carryOutGround_18 : decode cX9_carryOutGround 18 = .ok (.invokestatic 106, 3) := by decide +kernel
theorem dX9_carryOutGround_21 : decode cX9_carryOutGround 21 = .ok (.iload_n 3, 1) := by decide +kernel
theorem dX9_carryOutGround_22 : decode cX9_carryOutGround 22 = .ok (.invokevirtual 110, 3) := by decide +kernel
theorem dX9_carryOutGround_25 : decode cX9_carryOutGround 25 = .ok (.ifCond .eq 5, 3) := by decide +kernel
theorem dX9_carryOutGround_28 : decode cX9_carryOutGround 28 = .ok (.iconst 0, 1) := by decide +kernel
theorem dX9_carryOutGround_29 : decode cX9_carryOutGround 29 = .ok (.ireturn, 1) := by decide +kernel
theorem dX9_carryOutGround_30 : decode cX9_carryOutGround 30 = .ok (.aload_n 0, 1) := by decide +kernel
theorem dX9_carryOutGround_31 : decode cX9_carryOutGround 31 = .ok (.getfield 10, 3) := by decide +kernel
theorem dX9_carryOutGround_34 : decode cX9_carryOutGround 34 = .ok (.getfield 119, 3) := by decide +kernel
theorem dX9_carryOutGround_37 : decode cX9_carryOutGround 37 = .ok (.iload_n 1, 1) := by decide +kernel
theorem dX9_carryOutGround_38 : decode cX9_carryOutGround 38 = .ok (.iload_n 2, 1) := by decide +kernel
theorem dX9_carryOutGround_39 : decode cX9_carryOutGround 39 = .ok (.invokestatic 106, 3) := by decide +kernel
theorem dX9_carryOutGround_42 : decode cX9_carryOutGround 42 = .ok (.iload_n 3, 1) := by decide +kernel
theorem dX9_carryOutGround_43 : decode cX9_carryOutGround 43 = .ok (.i2c, 1) := by decide +kernel
theorem dX9_carryOutGround_44 : decode cX9_carryOutGround 44 = .ok (.castore, 1) := by decide +kernel
theorem dX9_carryOutGround_45 : decode cX9_carryOutGround 45 = .ok (.iconst 1, 1) := by decide +kernel
theorem dX9_carryOutGround_46 : decode cX9_carryOutGround 46 = .ok (.ireturn, 1) := by decide +kernel
theorem dX9_carryOutBorder_0 : decode cX9_carryOutBorder 0 = .ok (.iload_n 1, 1) := by decide +kernel
theorem dX9_carryOutBorder_1 : decode cX9_carryOutBorder 1 = .ok (.invokestatic 393, 3) := by decide +kernel
theorem dX9_carryOutBorder_4 : decode cX9_carryOutBorder 4 = .ok (.ifCond .eq 10, 3) := by decide +kernel
theorem dX9_carryOutBorder_7 : decode cX9_carryOutBorder 7 = .ok (.iload_n 2, 1) := by decide +kernel
theorem dX9_carryOutBorder_8 : decode cX9_carryOutBorder 8 = .ok (.invokestatic 176, 3) := by decide +kernel
theorem dX9_carryOutBorder_11 : decode cX9_carryOutBorder 11 = .ok (.ifCond .ne 5, 3) := by decide +kernel
theorem dX9_carryOutBorder_14 : decode cX9_carryOutBorder 14 = .ok (.iconst 0, 1) := by decide +kernel
theorem dX9_carryOutBorder_15 : decode cX9_carryOutBorder 15 = .ok (.ireturn, 1) := by decide +kernel
theorem dX9_carryOutBorder_16 : decode cX9_carryOutBorder 16 = .ok (.aload_n 0, 1) := by decide +kernel
theorem dX9_carryOutBorder_17 : decode cX9_carryOutBorder 17 = .ok (.getfield 10, 3) := by decide +kernel
theorem dX9_carryOutBorder_20 : decode cX9_carryOutBorder 20 = .ok (.getfield 181, 3) := by decide +kernel
theorem dX9_carryOutBorder_23 : decode cX9_carryOutBorder 23 = .ok (.iload_n 1, 1) := by decide +kernel
theorem dX9_carryOutBorder_24 : decode cX9_carryOutBorder 24 = .ok (.iload_n 2, 1) := by decide +kernel
theorem dX9_carryOutBorder_25 : decode cX9_carryOutBorder 25 = .ok (.iastore, 1) := by decide +kernel
theorem dX9_carryOutBorder_26 : decode cX9_carryOutBorder 26 = .ok (.iconst 1, 1) := by decide +kernel
theorem dX9_carryOutBorder_27 : decode cX9_carryOutBorder 27 = .ok (.ireturn, 1) := by decide +kernel
theorem dX9_carryOutPass_0 : decode cX9_carryOutPass 0 = .ok (.iload_n 1, 1) := by decide +kernel
theorem dX9_carryOutPass_1 : decode cX9_carryOutPass 1 = .ok (.invokestatic 187, 3) := by decide +kernel
theorem dX9_carryOutPass_4 : decode cX9_carryOutPass 4 = .ok (.ifCond .ne 5, 3) := by decide +kernel
theorem dX9_carryOutPass_7 : decode cX9_carryOutPass 7 = .ok (.iconst 0, 1) := by decide +kernel
theorem dX9_carryOutPass_8 : decode cX9_carryOutPass 8 = .ok (.ireturn, 1) := by decide +kernel
theorem dX9_carryOutPass_9 : decode cX9_carryOutPass 9 = .ok (.aload_n 0, 1) := by decide +kernel
theorem dX9_carryOutPass_10 : decode cX9_carryOutPass 10 = .ok (.getfield 35, 3) := by decide +kernel
theorem dX9_carryOutPass_13 : decode cX9_carryOutPass 13 = .ok (.aload_n 0, 1) := by decide +kernel
theorem dX9_carryOutPass_14 : decode cX9_carryOutPass 14 = .ok (.getfield 10, 3) := by decide +kernel
theorem dX9_carryOutPass_17 : decode cX9_carryOutPass 17 = .ok (.iload_n 1, 1) := by decide +kernel
theorem dX9_carryOutPass_18 : decode cX9_carryOutPass 18 = .ok (.invokevirtual 192, 3) := by decide +kernel
theorem dX9_carryOutPass_21 : decode cX9_carryOutPass 21 = .ok (.pop, 1) := by decide +kernel
theorem dX9_carryOutPass_22 : decode cX9_carryOutPass 22 = .ok (.iconst 1, 1) := by decide +kernel
theorem dX9_carryOutPass_23 : decode cX9_carryOutPass 23 = .ok (.ireturn, 1) := by decide +kernel
theorem dX9_countHolesBySquares_0 : decode cX9_countHolesBySquares 0 = .ok (.aload_n 0, 1) := by decide +kernel
theorem dX9_countHolesBySquares_1 : decode cX9_countHolesBySquares 1 = .ok (.getfield 42, 3) := by decide +kernel
theorem dX9_countHolesBySquares_4 : decode cX9_countHolesBySquares 4 = .ok (.lload_n 1, 1) := by decide +kernel
theorem dX9_countHolesBySquares_5 : decode cX9_countHolesBySquares 5 = .ok (.invokevirtual 220, 3) := by decide +kernel
theorem dX9_countHolesBySquares_8 : decode cX9_countHolesBySquares 8 = .ok (.lload_n 1, 1) := by decide +kernel
theorem dX9_countHolesBySquares_9 : decode cX9_countHolesBySquares 9 = .ok (.invokestatic 436, 3) := by decide +kernel
theorem dX9_countHolesBySquares_12 : decode cX9_countHolesBySquares 12 = .ok (.iconst 4, 1) := by decide +kernel
theorem dX9_countHolesBySquares_13 : decode cX9_countHolesBySquares 13 = .ok (.idiv, 1) := by decide +kernel
theorem dX9_countHolesBySquares_14 : decode cX9_countHolesBySquares 14 = .ok (.isub, 1) := by decide +kernel
theorem dX9_countHolesBySquares_15 : decode cX9_countHolesBySquares 15 = .ok (.ireturn, 1) := by decide +kernel
theorem dX9_findPeakByTrying_0 : decode cX9_findPeakByTrying 0 = .ok (.iconst (-1), 1) := by decide +kernel
theorem dX9_findPeakByTrying_1 : decode cX9_findPeakByTrying 1 = .ok (.istore_n 3, 1) := by decide +kernel
theorem dX9_findPeakByTrying_2 : decode cX9_findPeakByTrying 2 = .ok (.iconst (-1), 1) := by decide +kernel
theorem dX9_findPeakByTrying_3 : decode cX9_findPeakByTrying 3 = .ok (.istore 4, 2) := by decide +kernel
theorem dX9_findPeakByTrying_5 : decode cX9_findPeakByTrying 5 = .ok (.iconst 0, 1) := by decide +kernel
theorem dX9_findPeakByTrying_6 : decode cX9_findPeakByTrying 6 = .ok (.istore 5, 2) := by decide +kernel
theorem dX9_findPeakByTrying_8 : decode cX9_findPeakByTrying 8 = .ok (.iload 5, 2) := by decide +kernel
theorem dX9_findPeakByTrying_10 : decode cX9_findPeakByTrying 10 = .ok (.bipush 64, 2) := by decide +kernel
theorem dX9_findPeakByTrying_12 : decode cX9_findPeakByTrying 12 = .ok (.if_icmp .ge 61, 3) := by decide +kernel
theorem dX9_findPeakByTrying_15 : decode cX9_findPeakByTrying 15 = .ok (.aload_n 0, 1) := by decide +kernel
theorem dX9_findPeakByTrying_16 : decode cX9_findPeakByTrying 16 = .ok (.getfield 10, 3) := by decide +kernel
theorem dX9_findPeakByTrying_19 : decode cX9_findPeakByTrying 19 = .ok (.getfield 140, 3) := by decide +kernel
theorem dX9_findPeakByTrying_22 : decode cX9_findPeakByTrying 22 = .ok (.iload 5, 2) := by decide +kernel
theorem dX9_findPeakByTrying_24 : decode cX9_findPeakByTrying 24 = .ok (.iaload, 1) := by decide +kernel
theorem dX9_findPeakByTrying_25 : decode cX9_findPeakByTrying 25 = .ok (.istore 6, 2) := by decide +kernel
theorem dX9_findPeakByTrying_27 : decode cX9_findPeakByTrying 27 = .ok (.iload 6, 2) := by decide +kernel
theorem dX9_findPeakByTrying_29 : decode cX9_findPeakByTrying 29 = .ok (.iload_n 3, 1) := by decide +kernel
theorem dX9_findPeakByTrying_30 : decode cX9_findPeakByTrying 30 = .ok (.if_icmp .le 37, 3) := by decide +kernel
theorem dX9_findPeakByTrying_33 : decode cX9_findPeakByTrying 33 = .ok (.iload 4, 2) := by decide +kernel
theorem dX9_findPeakByTrying_35 : decode cX9_findPeakByTrying 35 = .ok (.iconst (-1), 1) := by decide +kernel
theorem dX9_findPeakByTrying_36 : decode cX9_findPeakByTrying 36 = .ok (.if_icmp .eq 10, 3) := by decide +kernel
theorem dX9_findPeakByTrying_39 : decode cX9_findPeakByTrying 39 = .ok (.iload 6, 2) := by decide +kernel
theorem dX9_findPeakByTrying_41 : decode cX9_findPeakByTrying 41 = .ok (.iload 4, 2) := by decide +kernel
theorem dX9_findPeakByTrying_43 : decode cX9_findPeakByTrying 43 = .ok (.if_icmp .ge 24, 3) := by decide +kernel
theorem dX9_findPeakByTrying_46 : decode cX9_findPeakByTrying 46 = .ok (.aload_n 0, 1) := by decide +kernel
theorem dX9_findPeakByTrying_47 : decode cX9_findPeakByTrying 47 = .ok (.iload_n 1, 1) := by decide +kernel
theorem dX9_findPeakByTrying_48 : decode cX9_findPeakByTrying 48 = .ok (.iload_n 2, 1) := by decide +kernel
theorem dX9_findPeakByTrying_49 : decode cX9_findPeakByTrying 49 = .ok (.iload 6, 2) := by decide +kernel
theorem dX9_findPeakByTrying_51 : decode cX9_findPeakByTrying 51 = .ok (.invokevirtual 439, 3) := by decide +kernel
theorem dX9_findPeakByTrying_54 : decode cX9_findPeakByTrying 54 = .ok (.ifCond .eq 10, 3) := by decide +kernel
theorem dX9_findPeakByTrying_57 : decode cX9_findPeakByTrying 57 = .ok (.iload 6, 2) := by decide +kernel
theorem dX9_findPeakByTrying_59 : decode cX9_findPeakByTrying 59 = .ok (.istore 4, 2) := by decide +kernel
theorem dX9_findPeakByTrying_61 : decode cX9_findPeakByTrying 61 = .ok (.goto 6, 3) := by decide +kernel
theorem dX9_findPeakByTrying_64 : decode cX9_findPeakByTrying 64 = .ok (.iload 6, 2) := by decide +kernel
theorem dX9_findPeakByTrying_66 : decode cX9_findPeakByTrying 66 = .ok (.istore_n 3, 1) := by decide +kernel
theorem dX9_findPeakByTrying_67 : decode cX9_findPeakByTrying 67 = .ok (.iinc 5 1, 3) := by decide +kernel
theorem dX9_findPeakByTrying_70 : decode cX9_findPeakByTrying 70 = .ok (.goto (-62), 3) := by decide +kernel
theorem dX9_findPeakByTrying_73 : decode cX9_findPeakByTrying 73 = .ok (.iload 4, 2) := by decide +kernel
theorem dX9_findPeakByTrying_75 : decode cX9_findPeakByTrying 75 = .ok (.ireturn, 1) := by decide +kernel
theorem dX9_isReached_0 : decode cX9_isReached 0 = .ok (.iload_n 1, 1) := by decide +kernel
theorem dX9_isReached_1 : decode cX9_isReached 1 = .ok (.invokestatic 233, 3) := by decide +kernel
theorem dX9_isReached_4 : decode cX9_isReached 4 = .ok (.aload_n 0, 1) := by decide +kernel
theorem dX9_isReached_5 : decode cX9_isReached 5 = .ok (.getfield 10, 3) := by decide +kernel
theorem dX9_isReached_8 : decode cX9_isReached 8 = .ok (.iload_n 3, 1) := by decide +kernel
theorem dX9_isReached_9 : decode cX9_isReached 9 = .ok (.invokevirtual 442, 3) := by decide +kernel
theorem dX9_isReached_12 : decode cX9_isReached 12 = .ok (.invokestatic 236, 3) := by decide +kernel
theorem dX9_isReached_15 : decode cX9_isReached 15 = .ok (.lstore 4, 2) := by decide +kernel
theorem dX9_isReached_17 : decode cX9_isReached 17 = .ok (.lload 4, 2) := by decide +kernel
theorem dX9_isReached_19 : decode cX9_isReached 19 = .ok (.iload_n 2, 1) := by decide +kernel
theorem dX9_isReached_20 : decode cX9_isReached 20 = .ok (.invokestatic 445, 3) := by decide +kernel
theorem dX9_isReached_23 : decode cX9_isReached 23 = .ok (.ireturn, 1) := by decide +kernel
theorem dX9_shapesAgree_0 : decode cX9_shapesAgree 0 = .ok (.aload_n 0, 1) := by decide +kernel
theorem dX9_shapesAgree_1 : decode cX9_shapesAgree 1 = .ok (.getfield 10, 3) := by decide +kernel
theorem dX9_shapesAgree_4 : decode cX9_shapesAgree 4 = .ok (.iload_n 1, 1) := by decide +kernel
theorem dX9_shapesAgree_5 : decode cX9_shapesAgree 5 = .ok (.invokevirtual 208, 3) := by decide +kernel
theorem dX9_shapesAgree_8 : decode cX9_shapesAgree 8 = .ok (.lstore_n 2, 1) := by decide +kernel
theorem dX9_shapesAgree_9 : decode cX9_shapesAgree 9 = .ok (.lload_n 2, 1) := by decide +kernel
theorem dX9_shapesAgree_10 : decode cX9_shapesAgree 10 = .ok (.invokestatic 214, 3) := by decide +kernel
theorem dX9_shapesAgree_13 : decode cX9_shapesAgree 13 = .ok (.aload_n 0, 1) := by decide +kernel
theorem dX9_shapesAgree_14 : decode cX9_shapesAgree 14 = .ok (.getfield 42, 3) := by decide +kernel
theorem dX9_shapesAgree_17 : decode cX9_shapesAgree 17 = .ok (.lload_n 2, 1) := by decide +kernel
theorem dX9_shapesAgree_18 : decode cX9_shapesAgree 18 = .ok (.invokevirtual 220, 3) := by decide +kernel
theorem dX9_shapesAgree_21 : decode cX9_shapesAgree 21 = .ok (.if_icmp .ne 30, 3) := by decide +kernel
theorem dX9_shapesAgree_24 : decode cX9_shapesAgree 24 = .ok (.lload_n 2, 1) := by decide +kernel
theorem dX9_shapesAgree_25 : decode cX9_shapesAgree 25 = .ok (.invokestatic 221, 3) := by decide +kernel
theorem dX9_shapesAgree_28 : decode cX9_shapesAgree 28 = .ok (.aload_n 0, 1) := by decide +kernel
theorem dX9_shapesAgree_29 : decode cX9_shapesAgree 29 = .ok (.lload_n 2, 1) := by decide +kernel
theorem dX9_shapesAgree_30 : decode cX9_shapesAgree 30 = .ok (.invokevirtual 224, 3) := by decide +kernel
theorem dX9_shapesAgree_33 : decode cX9_shapesAgree 33 = .ok (.if_icmp .ne 18, 3) := by decide +kernel
theorem dX9_shapesAgree_36 : decode cX9_shapesAgree 36 = .ok (.lload_n 2, 1) := by decide +kernel
theorem dX9_shapesAgree_37 : decode cX9_shapesAgree 37 = .ok (.invokestatic 227, 3) := by decide +kernel
theorem dX9_shapesAgree_40 : decode cX9_shapesAgree 40 = .ok (.lload_n 2, 1) := by decide +kernel
theorem dX9_shapesAgree_41 : decode cX9_shapesAgree 41 = .ok (.invokestatic 230, 3) := by decide +kernel
theorem dX9_shapesAgree_44 : decode cX9_shapesAgree 44 = .ok (.if_icmp .ne 7, 3) := by decide +kernel
theorem dX9_shapesAgree_47 : decode cX9_shapesAgree 47 = .ok (.iconst 1, 1) := by decide +kernel
theorem dX9_shapesAgree_48 : decode cX9_shapesAgree 48 = .ok (.goto 4, 3) := by decide +kernel
theorem dX9_shapesAgree_51 : decode cX9_shapesAgree 51 = .ok (.iconst 0, 1) := by decide +kernel
theorem dX9_shapesAgree_52 : decode cX9_shapesAgree 52 = .ok (.ireturn, 1) := by decide +kernel
theorem dX9_waysAgree_0 : decode cX9_waysAgree 0 = .ok (.bipush 56, 2) := by decide +kernel
theorem dX9_waysAgree_2 : decode cX9_waysAgree 2 = .ok (.istore_n 1, 1) := by decide +kernel
theorem dX9_waysAgree_3 : decode cX9_waysAgree 3 = .ok (.iload_n 1, 1) := by decide +kernel
theorem dX9_waysAgree_4 : decode cX9_waysAgree 4 = .ok (.bipush 64, 2) := by decide +kernel
theorem dX9_waysAgree_6 : decode cX9_waysAgree 6 = .ok (.if_icmp .ge 33, 3) := by decide +kernel
theorem dX9_waysAgree_9 : decode cX9_waysAgree 9 = .ok (.aload_n 0, 1) := by decide +kernel
theorem dX9_waysAgree_10 : decode cX9_waysAgree 10 = .ok (.getfield 49, 3) := by decide +kernel
theorem dX9_waysAgree_13 : decode cX9_waysAgree 13 = .ok (.aload_n 0, 1) := by decide +kernel
theorem dX9_waysAgree_14 : decode cX9_waysAgree 14 = .ok (.getfield 10, 3) := by decide +kernel
theorem dX9_waysAgree_17 : decode cX9_waysAgree 17 = .ok (.iconst 0, 1) := by decide +kernel
theorem dX9_waysAgree_18 : decode cX9_waysAgree 18 = .ok (.iload_n 1, 1) := by decide +kernel
theorem dX9_waysAgree_19 : decode cX9_waysAgree 19 = .ok (.invokevirtual 245, 3) := by decide +kernel
theorem dX9_waysAgree_22 : decode cX9_waysAgree 22 = .ok (.aload_n 0, 1) := by decide +kernel
theorem dX9_waysAgree_23 : decode cX9_waysAgree 23 = .ok (.iconst 0, 1) := by decide +kernel
theorem dX9_waysAgree_24 : decode cX9_waysAgree 24 = .ok (.iload_n 1, 1) := by decide +kernel
theorem dX9_waysAgree_25 : decode cX9_waysAgree 25 = .ok (.invokevirtual 251, 3) := by decide +kernel
theorem dX9_waysAgree_28 : decode cX9_waysAgree 28 = .ok (.if_icmp .eq 5, 3) := by decide +kernel
theorem dX9_waysAgree_31 : decode cX9_waysAgree 31 = .ok (.iconst 0, 1) := by decide +kernel
theorem dX9_waysAgree_32 : decode cX9_waysAgree 32 = .ok (.ireturn, 1) := by decide +kernel
theorem dX9_waysAgree_33 : decode cX9_waysAgree 33 = .ok (.iinc 1 1, 3) := by decide +kernel
theorem dX9_waysAgree_36 : decode cX9_waysAgree 36 = .ok (.goto (-33), 3) := by decide +kernel
theorem dX9_waysAgree_39 : decode cX9_waysAgree 39 = .ok (.iconst 1, 1) := by decide +kernel
theorem dX9_waysAgree_40 : decode cX9_waysAgree 40 = .ok (.ireturn, 1) := by decide +kernel
theorem dX9_spreadsAgree_0 : decode cX9_spreadsAgree 0 = .ok (.aload_n 0, 1) := by decide +kernel
theorem dX9_spreadsAgree_1 : decode cX9_spreadsAgree 1 = .ok (.getfield 10, 3) := by decide +kernel
theorem dX9_spreadsAgree_4 : decode cX9_spreadsAgree 4 = .ok (.invokevirtual 351, 3) := by decide +kernel
theorem dX9_spreadsAgree_7 : decode cX9_spreadsAgree 7 = .ok (.iconst 4, 1) := by decide +kernel
theorem dX9_spreadsAgree_8 : decode cX9_spreadsAgree 8 = .ok (.if_icmp .lt 19, 3) := by decide +kernel
theorem dX9_spreadsAgree_11 : decode cX9_spreadsAgree 11 = .ok (.aload_n 0, 1) := by decide +kernel
theorem dX9_spreadsAgree_12 : decode cX9_spreadsAgree 12 = .ok (.iconst 2, 1) := by decide +kernel
theorem dX9_spreadsAgree_13 : decode cX9_spreadsAgree 13 = .ok (.invokevirtual 449, 3) := by decide +kernel
theorem dX9_spreadsAgree_16 : decode cX9_spreadsAgree 16 = .ok (.ifCond .eq 15, 3) := by decide +kernel
theorem dX9_spreadsAgree_19 : decode cX9_spreadsAgree 19 = .ok (.aload_n 0, 1) := by decide +kernel
theorem dX9_spreadsAgree_20 : decode cX9_spreadsAgree 20 = .ok (.iconst 4, 1) := by decide +kernel
theorem dX9_spreadsAgree_21 : decode cX9_spreadsAgree 21 = .ok (.invokevirtual 449, 3) := by decide +kernel
theorem dX9_spreadsAgree_24 : decode cX9_spreadsAgree 24 = .ok (.ifCond .eq 7, 3) := by decide +kernel
theorem dX9_spreadsAgree_27 : decode cX9_spreadsAgree 27 = .ok (.iconst 1, 1) := by decide +kernel
theorem dX9_spreadsAgree_28 : decode cX9_spreadsAgree 28 = .ok (.goto 4, 3) := by decide +kernel
theorem dX9_spreadsAgree_31 : decode cX9_spreadsAgree 31 = .ok (.iconst 0, 1) := by decide +kernel
theorem dX9_spreadsAgree_32 : decode cX9_spreadsAgree 32 = .ok (.ireturn, 1) := by decide +kernel
theorem dX9_spreadsAgreeFor_0 : decode cX9_spreadsAgreeFor 0 = .ok (.aload_n 0, 1) := by decide +kernel
theorem dX9_spreadsAgreeFor_1 : decode cX9_spreadsAgreeFor 1 = .ok (.getfield 56, 3) := by decide +kernel
theorem dX9_spreadsAgreeFor_4 : decode cX9_spreadsAgreeFor 4 = .ok (.aload_n 0, 1) := by decide +kernel
theorem dX9_spreadsAgreeFor_5 : decode cX9_spreadsAgreeFor 5 = .ok (.getfield 10, 3) := by decide +kernel
theorem dX9_spreadsAgreeFor_8 : decode cX9_spreadsAgreeFor 8 = .ok (.iload_n 1, 1) := by decide +kernel
theorem dX9_spreadsAgreeFor_9 : decode cX9_spreadsAgreeFor 9 = .ok (.invokevirtual 257, 3) := by decide +kernel
theorem dX9_spreadsAgreeFor_12 : decode cX9_spreadsAgreeFor 12 = .ok (.aload_n 0, 1) := by decide +kernel
theorem dX9_spreadsAgreeFor_13 : decode cX9_spreadsAgreeFor 13 = .ok (.getfield 56, 3) := by decide +kernel
theorem dX9_spreadsAgreeFor_16 : decode cX9_spreadsAgreeFor 16 = .ok (.invokevirtual 261, 3) := by decide +kernel
theorem dX9_spreadsAgreeFor_19 : decode cX9_spreadsAgreeFor 19 = .ok (.aload_n 0, 1) := by decide +kernel
theorem dX9_spreadsAgreeFor_20 : decode cX9_spreadsAgreeFor 20 = .ok (.getfield 56, 3) := by decide +kernel
theorem dX9_spreadsAgreeFor_23 : decode cX9_spreadsAgreeFor 23 = .ok (.aload_n 0, 1) := by decide +kernel
theorem dX9_spreadsAgreeFor_24 : decode cX9_spreadsAgreeFor 24 = .ok (.getfield 10, 3) := by decide +kernel
theorem dX9_spreadsAgreeFor_27 : decode cX9_spreadsAgreeFor 27 = .ok (.iload_n 1, 1) := by decide +kernel
theorem dX9_spreadsAgreeFor_28 : decode cX9_spreadsAgreeFor 28 = .ok (.invokevirtual 264, 3) := by decide +kernel
theorem dX9_spreadsAgreeFor_31 : decode cX9_spreadsAgreeFor 31 = .ok (.if_icmp .ne 7, 3) := by decide +kernel
theorem dX9_spreadsAgreeFor_34 : decode cX9_spreadsAgreeFor 34 = .ok (.iconst 1, 1) := by decide +kernel
theorem dX9_spreadsAgreeFor_35 : decode cX9_spreadsAgreeFor 35 = .ok (.goto 4, 3) := by decide +kernel
theorem dX9_spreadsAgreeFor_38 : decode cX9_spreadsAgreeFor 38 = .ok (.iconst 0, 1) := by decide +kernel
theorem dX9_spreadsAgreeFor_39 : decode cX9_spreadsAgreeFor 39 = .ok (.ireturn, 1) := by decide +kernel
theorem dX9_neighbourOf_0 : decode cX9_neighbourOf 0 = .ok (.iload_n 0, 1) := by decide +kernel
theorem dX9_neighbourOf_1 : decode cX9_neighbourOf 1 = .ok (.bipush 8, 2) := by decide +kernel
theorem dX9_neighbourOf_3 : decode cX9_neighbourOf 3 = .ok (.irem, 1) := by decide +kernel
theorem dX9_neighbourOf_4 : decode cX9_neighbourOf 4 = .ok (.istore_n 2, 1) := by decide +kernel
theorem dX9_neighbourOf_5 : decode cX9_neighbourOf 5 = .ok (.iload_n 0, 1) := by decide +kernel
theorem dX9_neighbourOf_6 : decode cX9_neighbourOf 6 = .ok (.bipush 8, 2) := by decide +kernel
theorem dX9_neighbourOf_8 : decode cX9_neighbourOf 8 = .ok (.idiv, 1) := by decide +kernel
theorem dX9_neighbourOf_9 : decode cX9_neighbourOf 9 = .ok (.istore_n 3, 1) := by decide +kernel
theorem dX9_neighbourOf_10 : decode cX9_neighbourOf 10 = .ok (.iload_n 1, 1) := by decide +kernel
theorem dX9_neighbourOf_11 : decode cX9_neighbourOf 11 = .ok (.tableswitch 83 0 3 #[29, 42, 56, 71], 29) := by decide +kernel
theorem dX9_neighbourOf_40 : decode cX9_neighbourOf 40 = .ok (.iload_n 3, 1) := by decide +kernel
theorem dX9_neighbourOf_41 : decode cX9_neighbourOf 41 = .ok (.ifCond .le 10, 3) := by decide +kernel
theorem dX9_neighbourOf_44 : decode cX9_neighbourOf 44 = .ok (.iload_n 0, 1) := by decide +kernel
theorem dX9_neighbourOf_45 : decode cX9_neighbourOf 45 = .ok (.bipush 8, 2) := by decide +kernel
theorem dX9_neighbourOf_47 : decode cX9_neighbourOf 47 = .ok (.isub, 1) := by decide +kernel
theorem dX9_neighbourOf_48 : decode cX9_neighbourOf 48 = .ok (.goto 4, 3) := by decide +kernel
theorem dX9_neighbourOf_51 : decode cX9_neighbourOf 51 = .ok (.iconst (-1), 1) := by decide +kernel
theorem dX9_neighbourOf_52 : decode cX9_neighbourOf 52 = .ok (.ireturn, 1) := by decide +kernel
theorem dX9_neighbourOf_53 : decode cX9_neighbourOf 53 = .ok (.iload_n 2, 1) := by decide +kernel
theorem dX9_neighbourOf_54 : decode cX9_neighbourOf 54 = .ok (.bipush 7, 2) := by decide +kernel
theorem dX9_neighbourOf_56 : decode cX9_neighbourOf 56 = .ok (.if_icmp .ge 9, 3) := by decide +kernel
theorem dX9_neighbourOf_59 : decode cX9_neighbourOf 59 = .ok (.iload_n 0, 1) := by decide +kernel
theorem dX9_neighbourOf_60 : decode cX9_neighbourOf 60 = .ok (.iconst 1, 1) := by decide +kernel
theorem dX9_neighbourOf_61 : decode cX9_neighbourOf 61 = .ok (.iadd, 1) := by decide +kernel
theorem dX9_neighbourOf_62 : decode cX9_neighbourOf 62 = .ok (.goto 4, 3) := by decide +kernel
theorem dX9_neighbourOf_65 : decode cX9_neighbourOf 65 = .ok (.iconst (-1), 1) := by decide +kernel
theorem dX9_neighbourOf_66 : decode cX9_neighbourOf 66 = .ok (.ireturn, 1) := by decide +kernel
theorem dX9_neighbourOf_67 : decode cX9_neighbourOf 67 = .ok (.iload_n 3, 1) := by decide +kernel
theorem dX9_neighbourOf_68 : decode cX9_neighbourOf 68 = .ok (.bipush 7, 2) := by decide +kernel
theorem dX9_neighbourOf_70 : decode cX9_neighbourOf 70 = .ok (.if_icmp .ge 10, 3) := by decide +kernel
theorem dX9_neighbourOf_73 : decode cX9_neighbourOf 73 = .ok (.iload_n 0, 1) := by decide +kernel
theorem dX9_neighbourOf_74 : decode cX9_neighbourOf 74 = .ok (.bipush 8, 2) := by decide +kernel
theorem dX9_neighbourOf_76 : decode cX9_neighbourOf 76 = .ok (.iadd, 1) := by decide +kernel
theorem dX9_neighbourOf_77 : decode cX9_neighbourOf 77 = .ok (.goto 4, 3) := by decide +kernel
theorem dX9_neighbourOf_80 : decode cX9_neighbourOf 80 = .ok (.iconst (-1), 1) := by decide +kernel
theorem dX9_neighbourOf_81 : decode cX9_neighbourOf 81 = .ok (.ireturn, 1) := by decide +kernel
theorem dX9_neighbourOf_82 : decode cX9_neighbourOf 82 = .ok (.iload_n 2, 1) := by decide +kernel
theorem dX9_neighbourOf_83 : decode cX9_neighbourOf 83 = .ok (.ifCond .le 9, 3) := by decide +kernel
theorem dX9_neighbourOf_86 : decode cX9_neighbourOf 86 = .ok (.iload_n 0, 1) := by decide +kernel
theorem dX9_neighbourOf_87 : decode cX9_neighbourOf 87 = .ok (.iconst 1, 1) := by decide +kernel
theorem dX9_neighbourOf_88 : decode cX9_neighbourOf 88 = .ok (.isub, 1) := by decide +kernel
theorem dX9_neighbourOf_89 : decode cX9_neighbourOf 89 = .ok (.goto 4, 3) := by decide +kernel
theorem dX9_neighbourOf_92 : decode cX9_neighbourOf 92 = .ok (.iconst (-1), 1) := by decide +kernel
theorem dX9_neighbourOf_93 : decode cX9_neighbourOf 93 = .ok (.ireturn, 1) := by decide +kernel
theorem dX9_neighbourOf_94 : decode cX9_neighbourOf 94 = .ok (.iconst (-1), 1) := by decide +kernel
theorem dX9_neighbourOf_95 : decode cX9_neighbourOf 95 = .ok (.ireturn, 1) := by decide +kernel
