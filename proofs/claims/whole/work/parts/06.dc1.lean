theorem dX1_init_0 : decode cX1_init 0 = .ok (.aload_n 0, 1) := by decide +kernel
theorem dX1_init_1 : decode cX1_init 1 = .ok (.invokespecial 3, 3) := by decide +kernel
theorem dX1_init_4 : decode cX1_init 4 = .ok (.aload_n 0, 1) := by decide +kernel
theorem dX1_init_5 : decode cX1_init 5 = .ok (.sipush 604, 3) := by decide +kernel
theorem dX1_init_8 : decode cX1_init 8 = .ok (.newarray .int, 2) := by decide +kernel
theorem dX1_init_10 : decode cX1_init 10 = .ok (.putfield 11, 3) := by decide +kernel
theorem dX1_init_13 : decode cX1_init 13 = .ok (.aload_n 0, 1) := by decide +kernel
theorem dX1_init_14 : decode cX1_init 14 = .ok (.sipush 2416, 3) := by decide +kernel
theorem dX1_init_17 : decode cX1_init 17 = .ok (.newarray .int, 2) := by decide +kernel
theorem dX1_init_19 : decode cX1_init 19 = .ok (.putfield 17, 3) := by decide +kernel
theorem dX1_init_22 : decode cX1_init 22 = .ok (.aload_n 0, 1) := by decide +kernel
theorem dX1_init_23 : decode cX1_init 23 = .ok (.sipush 481, 3) := by decide +kernel
theorem dX1_init_26 : decode cX1_init 26 = .ok (.newarray .int, 2) := by decide +kernel
theorem dX1_init_28 : decode cX1_init 28 = .ok (.putfield 22, 3) := by decide +kernel
theorem dX1_init_31 : decode cX1_init 31 = .ok (.aload_n 0, 1) := by decide +kernel
theorem dX1_init_32 : decode cX1_init 32 = .ok (.iconst (-1), 1) := by decide +kernel
theorem dX1_init_33 : decode cX1_init 33 = .ok (.putfield 25, 3) := by decide +kernel
theorem dX1_init_36 : decode cX1_init 36 = .ok (.return_, 1) := by decide +kernel
theorem dX1_keep_0 : decode cX1_keep 0 = .ok (.aload_n 0, 1) := by decide +kernel
theorem dX1_keep_1 : decode cX1_keep 1 = .ok (.aload_n 1, 1) := by decide +kernel
theorem dX1_keep_2 : decode cX1_keep 2 = .ok (.iload_n 2, 1) := by decide +kernel
theorem dX1_keep_3 : decode cX1_keep 3 = .ok (.invokevirtual 29, 3) := by decide +kernel
theorem dX1_keep_6 : decode cX1_keep 6 = .ok (.putfield 25, 3) := by decide +kernel
theorem dX1_keep_9 : decode cX1_keep 9 = .ok (.aload_n 0, 1) := by decide +kernel
theorem dX1_keep_10 : decode cX1_keep 10 = .ok (.iconst 0, 1) := by decide +kernel
theorem dX1_keep_11 : decode cX1_keep 11 = .ok (.putfield 33, 3) := by decide +kernel
theorem dX1_keep_14 : decode cX1_keep 14 = .ok (.aload_n 0, 1) := by decide +kernel
theorem dX1_keep_15 : decode cX1_keep 15 = .ok (.getfield 11, 3) := by decide +kernel
theorem dX1_keep_18 : decode cX1_keep 18 = .ok (.iconst (-1), 1) := by decide +kernel
theorem dX1_keep_19 : decode cX1_keep 19 = .ok (.invokestatic 36, 3) := by decide +kernel
theorem dX1_keep_22 : decode cX1_keep 22 = .ok (.aload_n 0, 1) := by decide +kernel
theorem dX1_keep_23 : decode cX1_keep 23 = .ok (.getfield 22, 3) := by decide +kernel
theorem dX1_keep_26 : decode cX1_keep 26 = .ok (.iconst 0, 1) := by decide +kernel
theorem dX1_keep_27 : decode cX1_keep 27 = .ok (.aload_n 0, 1) := by decide +kernel
theorem dX1_keep_28 : decode cX1_keep 28 = .ok (.getfield 25, 3) := by decide +kernel
theorem dX1_keep_31 : decode cX1_keep 31 = .ok (.iastore, 1) := by decide +kernel
theorem dX1_keep_32 : decode cX1_keep 32 = .ok (.iconst 1, 1) := by decide +kernel
theorem dX1_keep_33 : decode cX1_keep 33 = .ok (.istore_n 3, 1) := by decide +kernel
theorem dX1_keep_34 : decode cX1_keep 34 = .ok (.iconst 0, 1) := by decide +kernel
theorem dX1_keep_35 : decode cX1_keep 35 = .ok (.istore 4, 2) := by decide +kernel
theorem dX1_keep_37 : decode cX1_keep 37 = .ok (.iload 4, 2) := by decide +kernel
theorem dX1_keep_39 : decode cX1_keep 39 = .ok (.aload_n 0, 1) := by decide +kernel
theorem dX1_keep_40 : decode cX1_keep 40 = .ok (.getfield 22, 3) := by decide +kernel
theorem dX1_keep_43 : decode cX1_keep 43 = .ok (.arraylength, 1) := by decide +kernel
theorem dX1_keep_44 : decode cX1_keep 44 = .ok (.if_icmp .ge 44, 3) := by decide +kernel
theorem dX1_keep_47 : decode cX1_keep 47 = .ok (.iload_n 3, 1) := by decide +kernel
theorem dX1_keep_48 : decode cX1_keep 48 = .ok (.ifCond .le 40, 3) := by decide +kernel
theorem dX1_keep_51 : decode cX1_keep 51 = .ok (.iinc 3 (-1), 3) := by decide +kernel
theorem dX1_keep_54 : decode cX1_keep 54 = .ok (.aload_n 0, 1) := by decide +kernel
theorem dX1_keep_55 : decode cX1_keep 55 = .ok (.getfield 22, 3) := by decide +kernel
theorem dX1_keep_58 : decode cX1_keep 58 = .ok (.iload_n 3, 1) := by decide +kernel
theorem dX1_keep_59 : decode cX1_keep 59 = .ok (.iaload, 1) := by decide +kernel
theorem dX1_keep_60 : decode cX1_keep 60 = .ok (.istore 5, 2) := by decide +kernel
theorem dX1_keep_62 : decode cX1_keep 62 = .ok (.aload_n 0, 1) := by decide +kernel
theorem dX1_keep_63 : decode cX1_keep 63 = .ok (.getfield 11, 3) := by decide +kernel
theorem dX1_keep_66 : decode cX1_keep 66 = .ok (.iload 5, 2) := by decide +kernel
theorem dX1_keep_68 : decode cX1_keep 68 = .ok (.iaload, 1) := by decide +kernel
theorem dX1_keep_69 : decode cX1_keep 69 = .ok (.iconst (-1), 1) := by decide +kernel
theorem dX1_keep_70 : decode cX1_keep 70 = .ok (.if_icmp .ne 12, 3) := by decide +kernel
theorem dX1_keep_73 : decode cX1_keep 73 = .ok (.aload_n 0, 1) := by decide +kernel
theorem dX1_keep_74 : decode cX1_keep 74 = .ok (.aload_n 1, 1) := by decide +kernel
theorem dX1_keep_75 : decode cX1_keep 75 = .ok (.iload 5, 2) := by decide +kernel
theorem dX1_keep_77 : decode cX1_keep 77 = .ok (.iload_n 3, 1) := by decide +kernel
theorem dX1_keep_78 : decode cX1_keep 78 = .ok (.invokevirtual 42, 3) := by decide +kernel
theorem dX1_keep_81 : decode cX1_keep 81 = .ok (.istore_n 3, 1) := by decide +kernel
theorem dX1_keep_82 : decode cX1_keep 82 = .ok (.iinc 4 1, 3) := by decide +kernel
theorem dX1_keep_85 : decode cX1_keep 85 = .ok (.goto (-48), 3) := by decide +kernel
theorem dX1_keep_88 : decode cX1_keep 88 = .ok (.return_, 1) := by decide +kernel
theorem dX1_at_0 : decode cX1_at 0 = .ok (.aload_n 0, 1) := by decide +kernel
theorem dX1_at_1 : decode cX1_at 1 = .ok (.getfield 25, 3) := by decide +kernel
theorem dX1_at_4 : decode cX1_at 4 = .ok (.iconst (-1), 1) := by decide +kernel
theorem dX1_at_5 : decode cX1_at 5 = .ok (.if_icmp .eq 7, 3) := by decide +kernel
theorem dX1_at_8 : decode cX1_at 8 = .ok (.iload_n 1, 1) := by decide +kernel
theorem dX1_at_9 : decode cX1_at 9 = .ok (.ifCond .ge 5, 3) := by decide +kernel
theorem dX1_at_12 : decode cX1_at 12 = .ok (.iconst (-1), 1) := by decide +kernel
theorem dX1_at_13 : decode cX1_at 13 = .ok (.ireturn, 1) := by decide +kernel
theorem dX1_at_14 : decode cX1_at 14 = .ok (.aload_n 0, 1) := by decide +kernel
theorem dX1_at_15 : decode cX1_at 15 = .ok (.getfield 25, 3) := by decide +kernel
theorem dX1_at_18 : decode cX1_at 18 = .ok (.istore_n 2, 1) := by decide +kernel
theorem dX1_at_19 : decode cX1_at 19 = .ok (.iload_n 1, 1) := by decide +kernel
theorem dX1_at_20 : decode cX1_at 20 = .ok (.istore_n 3, 1) := by decide +kernel
theorem dX1_at_21 : decode cX1_at 21 = .ok (.iload_n 3, 1) := by decide +kernel
theorem dX1_at_22 : decode cX1_at 22 = .ok (.ifCond .le 55, 3) := by decide +kernel
theorem dX1_at_25 : decode cX1_at 25 = .ok (.iload_n 3, 1) := by decide +kernel
theorem dX1_at_26 : decode cX1_at 26 = .ok (.bipush 10, 2) := by decide +kernel
theorem dX1_at_28 : decode cX1_at 28 = .ok (.irem, 1) := by decide +kernel
theorem dX1_at_29 : decode cX1_at 29 = .ok (.istore 4, 2) := by decide +kernel
theorem dX1_at_31 : decode cX1_at 31 = .ok (.iload 4, 2) := by decide +kernel
theorem dX1_at_33 : decode cX1_at 33 = .ok (.iconst 1, 1) := by decide +kernel
theorem dX1_at_34 : decode cX1_at 34 = .ok (.if_icmp .lt 19, 3) := by decide +kernel
theorem dX1_at_37 : decode cX1_at 37 = .ok (.iload 4, 2) := by decide +kernel
theorem dX1_at_39 : decode cX1_at 39 = .ok (.iconst 4, 1) := by decide +kernel
theorem dX1_at_40 : decode cX1_at 40 = .ok (.if_icmp .gt 13, 3) := by decide +kernel
theorem dX1_at_43 : decode cX1_at 43 = .ok (.aload_n 0, 1) := by decide +kernel
theorem dX1_at_44 : decode cX1_at 44 = .ok (.getfield 11, 3) := by decide +kernel
theorem dX1_at_47 : decode cX1_at 47 = .ok (.iload_n 2, 1) := by decide +kernel
theorem dX1_at_48 : decode cX1_at 48 = .ok (.iaload, 1) := by decide +kernel
theorem dX1_at_49 : decode cX1_at 49 = .ok (.iconst 2, 1) := by decide +kernel
theorem dX1_at_50 : decode cX1_at 50 = .ok (.if_icmp .eq 5, 3) := by decide +kernel
theorem dX1_at_53 : decode cX1_at 53 = .ok (.iconst (-1), 1) := by decide +kernel
theorem dX1_at_54 : decode cX1_at 54 = .ok (.ireturn, 1) := by decide +kernel
theorem dX1_at_55 : decode cX1_at 55 = .ok (.aload_n 0, 1) := by decide +kernel
theorem dX1_at_56 : decode cX1_at 56 = .ok (.getfield 17, 3) := by decide +kernel
theorem dX1_at_59 : decode cX1_at 59 = .ok (.iconst 4, 1) := by decide +kernel
theorem dX1_at_60 : decode cX1_at 60 = .ok (.iload_n 2, 1) := by decide +kernel
theorem dX1_at_61 : decode cX1_at 61 = .ok (.imul, 1) := by decide +kernel
theorem dX1_at_62 : decode cX1_at 62 = .ok (.iload 4, 2) := by decide +kernel
theorem dX1_at_64 : decode cX1_at 64 = .ok (.iadd, 1) := by decide +kernel
theorem dX1_at_65 : decode cX1_at 65 = .ok (.iconst 1, 1) := by decide +kernel
theorem dX1_at_66 : decode cX1_at 66 = .ok (.isub, 1) := by decide +kernel
theorem dX1_at_67 : decode cX1_at 67 = .ok (.iaload, 1) := by decide +kernel
theorem dX1_at_68 : decode cX1_at 68 = .ok (.istore_n 2, 1) := by decide +kernel
theorem dX1_at_69 : decode cX1_at 69 = .ok (.iload_n 3, 1) := by decide +kernel
theorem dX1_at_70 : decode cX1_at 70 = .ok (.bipush 10, 2) := by decide +kernel
theorem dX1_at_72 : decode cX1_at 72 = .ok (.idiv, 1) := by decide +kernel
theorem dX1_at_73 : decode cX1_at 73 = .ok (.istore_n 3, 1) := by decide +kernel
theorem dX1_at_74 : decode cX1_at 74 = .ok (.goto (-53), 3) := by decide +kernel
theorem dX1_at_77 : decode cX1_at 77 = .ok (.aload_n 0, 1) := by decide +kernel
theorem dX1_at_78 : decode cX1_at 78 = .ok (.getfield 11, 3) := by decide +kernel
theorem dX1_at_81 : decode cX1_at 81 = .ok (.iload_n 2, 1) := by decide +kernel
theorem dX1_at_82 : decode cX1_at 82 = .ok (.iaload, 1) := by decide +kernel
theorem dX1_at_83 : decode cX1_at 83 = .ok (.ireturn, 1) := by decide +kernel
theorem dX1_keepNode_0 : decode cX1_keepNode 0 = .ok (.aload_n 0, 1) := by decide +kernel
theorem dX1_keepNode_1 : decode cX1_keepNode 1 = .ok (.getfield 11, 3) := by decide +kernel
theorem dX1_keepNode_4 : decode cX1_keepNode 4 = .ok (.iload_n 2, 1) := by decide +kernel
theorem dX1_keepNode_5 : decode cX1_keepNode 5 = .ok (.aload_n 1, 1) := by decide +kernel
theorem dX1_keepNode_6 : decode cX1_keepNode 6 = .ok (.getfield 46, 3) := by decide +kernel
theorem dX1_keepNode_9 : decode cX1_keepNode 9 = .ok (.iload_n 2, 1) := by decide +kernel
theorem dX1_keepNode_10 : decode cX1_keepNode 10 = .ok (.iaload, 1) := by decide +kernel
theorem dX1_keepNode_11 : decode cX1_keepNode 11 = .ok (.iastore, 1) := by decide +kernel
theorem dX1_keepNode_12 : decode cX1_keepNode 12 = .ok (.aload_n 0, 1) := by decide +kernel
theorem dX1_keepNode_13 : decode cX1_keepNode 13 = .ok (.getfield 11, 3) := by decide +kernel
theorem dX1_keepNode_16 : decode cX1_keepNode 16 = .ok (.iload_n 2, 1) := by decide +kernel
theorem dX1_keepNode_17 : decode cX1_keepNode 17 = .ok (.iaload, 1) := by decide +kernel
theorem dX1_keepNode_18 : decode cX1_keepNode 18 = .ok (.iconst 3, 1) := by decide +kernel
theorem dX1_keepNode_19 : decode cX1_keepNode 19 = .ok (.if_icmp .ne 27, 3) := by decide +kernel
theorem dX1_keepNode_22 : decode cX1_keepNode 22 = .ok (.aload_n 0, 1) := by decide +kernel
theorem dX1_keepNode_23 : decode cX1_keepNode 23 = .ok (.getfield 11, 3) := by decide +kernel
theorem dX1_keepNode_26 : decode cX1_keepNode 26 = .ok (.iload_n 2, 1) := by decide +kernel
theorem dX1_keepNode_27 : decode cX1_keepNode 27 = .ok (.iconst 3, 1) := by decide +kernel
theorem dX1_keepNode_28 : decode cX1_keepNode 28 = .ok (.aload_n 0, 1) := by decide +kernel
theorem dX1_keepNode_29 : decode cX1_keepNode 29 = .ok (.getfield 33, 3) := by decide +kernel
theorem dX1_keepNode_32 : decode cX1_keepNode 32 = .ok (.iadd, 1) := by decide +kernel
theorem dX1_keepNode_33 : decode cX1_keepNode 33 = .ok (.iastore, 1) := by decide +kernel
theorem dX1_keepNode_34 : decode cX1_keepNode 34 = .ok (.aload_n 0, 1) := by decide +kernel
theorem dX1_keepNode_35 : decode cX1_keepNode 35 = .ok (.dup, 1) := by decide +kernel
theorem dX1_keepNode_36 : decode cX1_keepNode 36 = .ok (.getfield 33, 3) := by decide +kernel
theorem dX1_keepNode_39 : decode cX1_keepNode 39 = .ok (.iconst 1, 1) := by decide +kernel
theorem dX1_keepNode_40 : decode cX1_keepNode 40 = .ok (.iadd, 1) := by decide +kernel
theorem dX1_keepNode_41 : decode cX1_keepNode 41 = .ok (.putfield 33, 3) := by decide +kernel
theorem dX1_keepNode_44 : decode cX1_keepNode 44 = .ok (.iload_n 3, 1) := by decide +kernel
theorem dX1_keepNode_45 : decode cX1_keepNode 45 = .ok (.ireturn, 1) := by decide +kernel
theorem dX1_keepNode_46 : decode cX1_keepNode 46 = .ok (.aload_n 0, 1) := by decide +kernel
theorem dX1_keepNode_47 : decode cX1_keepNode 47 = .ok (.getfield 11, 3) := by decide +kernel
theorem dX1_keepNode_50 : decode cX1_keepNode 50 = .ok (.iload_n 2, 1) := by decide +kernel
theorem dX1_keepNode_51 : decode cX1_keepNode 51 = .ok (.iaload, 1) := by decide +kernel
theorem dX1_keepNode_52 : decode cX1_keepNode 52 = .ok (.iconst 2, 1) := by decide +kernel
theorem dX1_keepNode_53 : decode cX1_keepNode 53 = .ok (.if_icmp .eq 5, 3) := by decide +kernel
theorem dX1_keepNode_56 : decode cX1_keepNode 56 = .ok (.iload_n 3, 1) := by decide +kernel
theorem dX1_keepNode_57 : decode cX1_keepNode 57 = .ok (.ireturn, 1) := by decide +kernel
theorem dX1_keepNode_58 : decode cX1_keepNode 58 = .ok (.iload_n 3, 1) := by decide +kernel
theorem dX1_keepNode_59 : decode cX1_keepNode 59 = .ok (.istore 4, 2) := by decide +kernel
theorem dX1_keepNode_61 : decode cX1_keepNode 61 = .ok (.iconst 3, 1) := by decide +kernel
theorem dX1_keepNode_62 : decode cX1_keepNode 62 = .ok (.istore 5, 2) := by decide +kernel
theorem dX1_keepNode_64 : decode cX1_keepNode 64 = .ok (.iload 5, 2) := by decide +kernel
theorem dX1_keepNode_66 : decode cX1_keepNode 66 = .ok (.ifCond .lt 43, 3) := by decide +kernel
theorem dX1_keepNode_69 : decode cX1_keepNode 69 = .ok (.aload_n 1, 1) := by decide +kernel
theorem dX1_keepNode_70 : decode cX1_keepNode 70 = .ok (.iload_n 2, 1) := by decide +kernel
theorem dX1_keepNode_71 : decode cX1_keepNode 71 = .ok (.iload 5, 2) := by decide +kernel
theorem dX1_keepNode_73 : decode cX1_keepNode 73 = .ok (.invokevirtual 49, 3) := by decide +kernel
theorem dX1_keepNode_76 : decode cX1_keepNode 76 = .ok (.istore 6, 2) := by decide +kernel
theorem dX1_keepNode_78 : decode cX1_keepNode 78 = .ok (.aload_n 0, 1) := by decide +kernel
theorem dX1_keepNode_79 : decode cX1_keepNode 79 = .ok (.getfield 17, 3) := by decide +kernel
theorem dX1_keepNode_82 : decode cX1_keepNode 82 = .ok (.iconst 4, 1) := by decide +kernel
theorem dX1_keepNode_83 : decode cX1_keepNode 83 = .ok (.iload_n 2, 1) := by decide +kernel
theorem dX1_keepNode_84 : decode cX1_keepNode 84 = .ok (.imul, 1) := by decide +kernel
theorem dX1_keepNode_85 : decode cX1_keepNode 85 = .ok (.iload 5, 2) := by decide +kernel
theorem dX1_keepNode_87 : decode cX1_keepNode 87 = .ok (.iadd, 1) := by decide +kernel
theorem dX1_keepNode_88 : decode cX1_keepNode 88 = .ok (.iload 6, 2) := by decide +kernel
theorem dX1_keepNode_90 : decode cX1_keepNode 90 = .ok (.iastore, 1) := by decide +kernel
theorem dX1_keepNode_91 : decode cX1_keepNode 91 = .ok (.aload_n 0, 1) := by decide +kernel
theorem dX1_keepNode_92 : decode cX1_keepNode 92 = .ok (.getfield 22, 3) := by decide +kernel
theorem dX1_keepNode_95 : decode cX1_keepNode 95 = .ok (.iload 4, 2) := by decide +kernel
theorem dX1_keepNode_97 : decode cX1_keepNode 97 = .ok (.iload 6, 2) := by decide +kernel
theorem dX1_keepNode_99 : decode cX1_keepNode 99 = .ok (.iastore, 1) := by decide +kernel
theorem dX1_keepNode_100 : decode cX1_keepNode 100 = .ok (.iinc 4 1, 3) := by decide +kernel
theorem dX1_keepNode_103 : decode cX1_keepNode 103 = .ok (.iinc 5 (-1), 3) := by decide +kernel
theorem dX1_keepNode_106 : decode cX1_keepNode 106 = .ok (.goto (-42), 3) := by decide +kernel
theorem dX1_keepNode_109 : decode cX1_keepNode 109 = .ok (.iload 4, 2) := by decide +kernel
theorem dX1_keepNode_111 : decode cX1_keepNode 111 = .ok (.ireturn, 1) := by decide +kernel
theorem dX2_init_0 : decode cX2_init 0 = .ok (.aload_n 0, 1) := by decide +kernel
theorem dX2_init_1 : decode cX2_init 1 = .ok (.invokespecial 5, 3) := by decide +kernel
theorem dX2_init_4 : decode cX2_init 4 = .ok (.aload_n 0, 1) := by decide +kernel
theorem dX2_init_5 : decode cX2_init 5 = .ok (.new 11, 3) := by decide +kernel
theorem dX2_init_8 : decode cX2_init 8 = .ok (.dup, 1) := by decide +kernel
theorem dX2_init_9 : decode cX2_init 9 = .ok (.invokespecial 13, 3) := by decide +kernel
theorem dX2_init_12 : decode cX2_init 12 = .ok (.putfield 14, 3) := by decide +kernel
theorem dX2_init_15 : decode cX2_init 15 = .ok (.aload_n 0, 1) := by decide +kernel
theorem dX2_init_16 : decode cX2_init 16 = .ok (.new 18, 3) := by decide +kernel
theorem dX2_init_19 : decode cX2_init 19 = .ok (.dup, 1) := by decide +kernel
theorem dX2_init_20 : decode cX2_init 20 = .ok (.invokespecial 20, 3) := by decide +kernel
theorem dX2_init_23 : decode cX2_init 23 = .ok (.putfield 21, 3) := by decide +kernel
theorem dX2_init_26 : decode cX2_init 26 = .ok (.aload_n 0, 1) := by decide +kernel
theorem dX2_init_27 : decode cX2_init 27 = .ok (.new 25, 3) := by decide +kernel
theorem dX2_init_30 : decode cX2_init 30 = .ok (.dup, 1) := by decide +kernel
theorem dX2_init_31 : decode cX2_init 31 = .ok (.invokespecial 27, 3) := by decide +kernel
theorem dX2_init_34 : decode cX2_init 34 = .ok (.putfield 28, 3) := by decide +kernel
theorem dX2_init_37 : decode cX2_init 37 = .ok (.aload_n 0, 1) := by decide +kernel
theorem dX2_init_38 : decode cX2_init 38 = .ok (.sipush 200, 3) := by decide +kernel
theorem dX2_init_41 : decode cX2_init 41 = .ok (.newarray .int, 2) := by decide +kernel
theorem dX2_init_43 : decode cX2_init 43 = .ok (.putfield 32, 3) := by decide +kernel
theorem dX2_init_46 : decode cX2_init 46 = .ok (.aload_n 0, 1) := by decide +kernel
theorem dX2_init_47 : decode cX2_init 47 = .ok (.aload_n 1, 1) := by decide +kernel
theorem dX2_init_48 : decode cX2_init 48 = .ok (.putfield 36, 3) := by decide +kernel
theorem dX2_init_51 : decode cX2_init 51 = .ok (.return_, 1) := by decide +kernel
theorem dX2_workOut_0 : decode cX2_workOut 0 = .ok (.aload_n 0, 1) := by decide +kernel
theorem dX2_workOut_1 : decode cX2_workOut 1 = .ok (.getfield 14, 3) := by decide +kernel
theorem dX2_workOut_4 : decode cX2_workOut 4 = .ok (.invokevirtual 40, 3) := by decide +kernel
theorem dX2_workOut_7 : decode cX2_workOut 7 = .ok (.aload_n 0, 1) := by decide +kernel
theorem dX2_workOut_8 : decode cX2_workOut 8 = .ok (.getfield 21, 3) := by decide +kernel
theorem dX2_workOut_11 : decode cX2_workOut 11 = .ok (.invokevirtual 43, 3) := by decide +kernel
theorem dX2_workOut_14 : decode cX2_workOut 14 = .ok (.aload_n 0, 1) := by decide +kernel
theorem dX2_workOut_15 : decode cX2_workOut 15 = .ok (.getfield 28, 3) := by decide +kernel
theorem dX2_workOut_18 : decode cX2_workOut 18 = .ok (.invokevirtual 44, 3) := by decide +kernel
theorem dX2_workOut_21 : decode cX2_workOut 21 = .ok (.aload_n 0, 1) := by decide +kernel
theorem dX2_workOut_22 : decode cX2_workOut 22 = .ok (.iconst 0, 1) := by decide +kernel
theorem dX2_workOut_23 : decode cX2_workOut 23 = .ok (.putfield 45, 3) := by decide +kernel
theorem dX2_workOut_26 : decode cX2_workOut 26 = .ok (.aload_n 0, 1) := by decide +kernel
theorem dX2_workOut_27 : decode cX2_workOut 27 = .ok (.iconst (-1), 1) := by decide +kernel
theorem dX2_workOut_28 : decode cX2_workOut 28 = .ok (.putfield 49, 3) := by decide +kernel
theorem dX2_workOut_31 : decode cX2_workOut 31 = .ok (.aload_n 0, 1) := by decide +kernel
theorem dX2_workOut_32 : decode cX2_workOut 32 = .ok (.iload_n 2, 1) := by decide +kernel
theorem dX2_workOut_33 : decode cX2_workOut 33 = .ok (.putfield 52, 3) := by decide +kernel
theorem dX2_workOut_36 : decode cX2_workOut 36 = .ok (.aload_n 0, 1) := by decide +kernel
theorem dX2_workOut_37 : decode cX2_workOut 37 = .ok (.iconst 0, 1) := by decide +kernel
theorem dX2_workOut_38 : decode cX2_workOut 38 = .ok (.putfield 55, 3) := by decide +kernel
theorem dX2_workOut_41 : decode cX2_workOut 41 = .ok (.aload_n 0, 1) := by decide +kernel
theorem dX2_workOut_42 : decode cX2_workOut 42 = .ok (.iconst 3, 1) := by decide +kernel
theorem dX2_workOut_43 : decode cX2_workOut 43 = .ok (.putfield 58, 3) := by decide +kernel
theorem dX2_workOut_46 : decode cX2_workOut 46 = .ok (.aload_n 0, 1) := by decide +kernel
theorem dX2_workOut_47 : decode cX2_workOut 47 = .ok (.iload_n 1, 1) := by decide +kernel
theorem dX2_workOut_48 : decode cX2_workOut 48 = .ok (.iconst (-1), 1) := by decide +kernel
theorem dX2_workOut_49 : decode cX2_workOut 49 = .ok (.invokevirtual 61, 3) := by decide +kernel
theorem dX2_workOut_52 : decode cX2_workOut 52 = .ok (.iconst 0, 1) := by decide +kernel
theorem dX2_workOut_53 : decode cX2_workOut 53 = .ok (.istore_n 3, 1) := by decide +kernel
theorem dX2_workOut_54 : decode cX2_workOut 54 = .ok (.iload_n 3, 1) := by decide +kernel
theorem dX2_workOut_55 : decode cX2_workOut 55 = .ok (.sipush 402, 3) := by decide +kernel
theorem dX2_workOut_58 : decode cX2_workOut 58 = .ok (.if_icmp .ge 21, 3) := by decide +kernel
theorem dX2_workOut_61 : decode cX2_workOut 61 = .ok (.aload_n 0, 1) := by decide +kernel
theorem dX2_workOut_62 : decode cX2_workOut 62 = .ok (.getfield 58, 3) := by decide +kernel
theorem dX2_workOut_65 : decode cX2_workOut 65 = .ok (.iconst 3, 1) := by decide +kernel
theorem dX2_workOut_66 : decode cX2_workOut 66 = .ok (.if_icmp .ne 13, 3) := by decide +kernel
theorem dX2_workOut_69 : decode cX2_workOut 69 = .ok (.aload_n 0, 1) := by decide +kernel
theorem dX2_workOut_70 : decode cX2_workOut 70 = .ok (.invokevirtual 65, 3) := by decide +kernel
theorem dX2_workOut_73 : decode cX2_workOut 73 = .ok (.iinc 3 1, 3) := by decide +kernel
theorem dX2_workOut_76 : decode cX2_workOut 76 = .ok (.goto (-22), 3) := by decide +kernel
theorem dX2_workOut_79 : decode cX2_workOut 79 = .ok (.aload_n 0, 1) := by decide +kernel
theorem dX2_workOut_80 : decode cX2_workOut 80 = .ok (.getfield 58, 3) := by decide +kernel
theorem dX2_workOut_83 : decode cX2_workOut 83 = .ok (.ireturn, 1) := by decide +kernel
theorem dX2_resultForm_0 : decode cX2_resultForm 0 = .ok (.aload_n 0, 1) := by decide +kernel
theorem dX2_resultForm_1 : decode cX2_resultForm 1 = .ok (.getfield 14, 3) := by decide +kernel
theorem dX2_resultForm_4 : decode cX2_resultForm 4 = .ok (.getfield 68, 3) := by decide +kernel
theorem dX2_resultForm_7 : decode cX2_resultForm 7 = .ok (.aload_n 0, 1) := by decide +kernel
theorem dX2_resultForm_8 : decode cX2_resultForm 8 = .ok (.getfield 71, 3) := by decide +kernel
theorem dX2_resultForm_11 : decode cX2_resultForm 11 = .ok (.iaload, 1) := by decide +kernel
theorem dX2_resultForm_12 : decode cX2_resultForm 12 = .ok (.iconst 2, 1) := by decide +kernel
theorem dX2_resultForm_13 : decode cX2_resultForm 13 = .ok (.invokestatic 74, 3) := by decide +kernel
theorem dX2_resultForm_16 : decode cX2_resultForm 16 = .ok (.ireturn, 1) := by decide +kernel
theorem dX2_plainResult_0 : decode cX2_plainResult 0 = .ok (.aload_n 0, 1) := by decide +kernel
theorem dX2_plainResult_1 : decode cX2_plainResult 1 = .ok (.invokevirtual 80, 3) := by decide +kernel
theorem dX2_plainResult_4 : decode cX2_plainResult 4 = .ok (.iconst 2, 1) := by decide +kernel
theorem dX2_plainResult_5 : decode cX2_plainResult 5 = .ok (.if_icmp .ne 7, 3) := by decide +kernel
theorem dX2_plainResult_8 : decode cX2_plainResult 8 = .ok (.iconst 0, 1) := by decide +kernel
theorem dX2_plainResult_9 : decode cX2_plainResult 9 = .ok (.goto 15, 3) := by decide +kernel
theorem dX2_plainResult_12 : decode cX2_plainResult 12 = .ok (.aload_n 0, 1) := by decide +kernel
theorem dX2_plainResult_13 : decode cX2_plainResult 13 = .ok (.getfield 14, 3) := by decide +kernel
theorem dX2_plainResult_16 : decode cX2_plainResult 16 = .ok (.getfield 84, 3) := by decide +kernel
theorem dX2_plainResult_19 : decode cX2_plainResult 19 = .ok (.aload_n 0, 1) := by decide +kernel
theorem dX2_plainResult_20 : decode cX2_plainResult 20 = .ok (.getfield 71, 3) := by decide +kernel
theorem dX2_plainResult_23 : decode cX2_plainResult 23 = .ok (.iaload, 1) := by decide +kernel
theorem dX2_plainResult_24 : decode cX2_plainResult 24 = .ok (.ireturn, 1) := by decide +kernel
theorem dX2_doRound_0 : decode cX2_doRound 0 = .ok (.aload_n 0, 1) := by decide +kernel
theorem dX2_doRound_1 : decode cX2_doRound 1 = .ok (.getfield 71, 3) := by decide +kernel
theorem dX2_doRound_4 : decode cX2_doRound 4 = .ok (.iconst (-1), 1) := by decide +kernel
theorem dX2_doRound_5 : decode cX2_doRound 5 = .ok (.if_icmp .eq 18, 3) := by decide +kernel
theorem dX2_doRound_8 : decode cX2_doRound 8 = .ok (.aload_n 0, 1) := by decide +kernel
theorem dX2_doRound_9 : decode cX2_doRound 9 = .ok (.getfield 49, 3) := by decide +kernel
theorem dX2_doRound_12 : decode cX2_doRound 12 = .ok (.iconst (-1), 1) := by decide +kernel
theorem dX2_doRound_13 : decode cX2_doRound 13 = .ok (.if_icmp .ne 10, 3) := by decide +kernel
theorem dX2_doRound_16 : decode cX2_doRound 16 = .ok (.aload_n 0, 1) := by decide +kernel
theorem dX2_doRound_17 : decode cX2_doRound 17 = .ok (.invokevirtual 87, 3) := by decide +kernel
theorem dX2_doRound_20 : decode cX2_doRound 20 = .ok (.goto 57, 3) := by decide +kernel
theorem dX2_doRound_23 : decode cX2_doRound 23 = .ok (.aload_n 0, 1) := by decide +kernel
theorem dX2_doRound_24 : decode cX2_doRound 24 = .ok (.getfield 52, 3) := by decide +kernel
theorem dX2_doRound_27 : decode cX2_doRound 27 = .ok (.ifCond .ne 11, 3) := by decide +kernel
theorem dX2_doRound_30 : decode cX2_doRound 30 = .ok (.aload_n 0, 1) := by decide +kernel
theorem dX2_doRound_31 : decode cX2_doRound 31 = .ok (.iconst 2, 1) := by decide +kernel
theorem dX2_doRound_32 : decode cX2_doRound 32 = .ok (.putfield 58, 3) := by decide +kernel
theorem dX2_doRound_35 : decode cX2_doRound 35 = .ok (.goto 42, 3) := by decide +kernel
theorem dX2_doRound_38 : decode cX2_doRound 38 = .ok (.aload_n 0, 1) := by decide +kernel
theorem dX2_doRound_39 : decode cX2_doRound 39 = .ok (.dup, 1) := by decide +kernel
theorem dX2_doRound_40 : decode cX2_doRound 40 = .ok (.getfield 52, 3) := by decide +kernel
theorem dX2_doRound_43 : decode cX2_doRound 43 = .ok (.iconst 1, 1) := by decide +kernel
theorem dX2_doRound_44 : decode cX2_doRound 44 = .ok (.isub, 1) := by decide +kernel
theorem dX2_doRound_45 : decode cX2_doRound 45 = .ok (.putfield 52, 3) := by decide +kernel
theorem dX2_doRound_48 : decode cX2_doRound 48 = .ok (.aload_n 0, 1) := by decide +kernel
theorem dX2_doRound_49 : decode cX2_doRound 49 = .ok (.dup, 1) := by decide +kernel
theorem dX2_doRound_50 : decode cX2_doRound 50 = .ok (.getfield 55, 3) := by decide +kernel
theorem dX2_doRound_53 : decode cX2_doRound 53 = .ok (.iconst 1, 1) := by decide +kernel
theorem dX2_doRound_54 : decode cX2_doRound 54 = .ok (.iadd, 1) := by decide +kernel
theorem dX2_doRound_55 : decode cX2_doRound 55 = .ok (.putfield 55, 3) := by decide +kernel
theorem dX2_doRound_58 : decode cX2_doRound 58 = .ok (.aload_n 0, 1) := by decide +kernel
theorem dX2_doRound_59 : decode cX2_doRound 59 = .ok (.getfield 71, 3) := by decide +kernel
theorem dX2_doRound_62 : decode cX2_doRound 62 = .ok (.iconst (-1), 1) := by decide +kernel
theorem dX2_doRound_63 : decode cX2_doRound 63 = .ok (.if_icmp .ne 10, 3) := by decide +kernel
theorem dX2_doRound_66 : decode cX2_doRound 66 = .ok (.aload_n 0, 1) := by decide +kernel
theorem dX2_doRound_67 : decode cX2_doRound 67 = .ok (.invokevirtual 90, 3) := by decide +kernel
theorem dX2_doRound_70 : decode cX2_doRound 70 = .ok (.goto 7, 3) := by decide +kernel
theorem dX2_doRound_73 : decode cX2_doRound 73 = .ok (.aload_n 0, 1) := by decide +kernel
theorem dX2_doRound_74 : decode cX2_doRound 74 = .ok (.invokevirtual 93, 3) := by decide +kernel
theorem dX2_doRound_77 : decode cX2_doRound 77 = .ok (.return_, 1) := by decide +kernel
theorem dX2_goTo_0 : decode cX2_goTo 0 = .ok (.aload_n 0, 1) := by decide +kernel
theorem dX2_goTo_1 : decode cX2_goTo 1 = .ok (.iload_n 1, 1) := by decide +kernel
theorem dX2_goTo_2 : decode cX2_goTo 2 = .ok (.putfield 96, 3) := by decide +kernel
theorem dX2_goTo_5 : decode cX2_goTo 5 = .ok (.aload_n 0, 1) := by decide +kernel
theorem dX2_goTo_6 : decode cX2_goTo 6 = .ok (.iload_n 2, 1) := by decide +kernel
theorem dX2_goTo_7 : decode cX2_goTo 7 = .ok (.putfield 99, 3) := by decide +kernel
theorem dX2_goTo_10 : decode cX2_goTo 10 = .ok (.aload_n 0, 1) := by decide +kernel
theorem dX2_goTo_11 : decode cX2_goTo 11 = .ok (.iconst (-1), 1) := by decide +kernel
theorem dX2_goTo_12 : decode cX2_goTo 12 = .ok (.putfield 71, 3) := by decide +kernel
theorem dX2_goTo_15 : decode cX2_goTo 15 = .ok (.return_, 1) := by decide +kernel
theorem dX2_enterMark_0 : decode cX2_enterMark 0 = .ok (.aload_n 0, 1) := by decide +kernel
theorem dX2_enterMark_1 : decode cX2_enterMark 1 = .ok (.getfield 32, 3) := by decide +kernel
theorem dX2_enterMark_4 : decode cX2_enterMark 4 = .ok (.aload_n 0, 1) := by decide +kernel
theorem dX2_enterMark_5 : decode cX2_enterMark 5 = .ok (.getfield 45, 3) := by decide +kernel
theorem dX2_enterMark_8 : decode cX2_enterMark 8 = .ok (.aload_n 0, 1) := by decide +kernel
theorem dX2_enterMark_9 : decode cX2_enterMark 9 = .ok (.getfield 49, 3) := by decide +kernel
theorem dX2_enterMark_12 : decode cX2_enterMark 12 = .ok (.iastore, 1) := by decide +kernel
theorem dX2_enterMark_13 : decode cX2_enterMark 13 = .ok (.aload_n 0, 1) := by decide +kernel
theorem dX2_enterMark_14 : decode cX2_enterMark 14 = .ok (.dup, 1) := by decide +kernel
theorem dX2_enterMark_15 : decode cX2_enterMark 15 = .ok (.getfield 45, 3) := by decide +kernel
theorem dX2_enterMark_18 : decode cX2_enterMark 18 = .ok (.iconst 1, 1) := by decide +kernel
theorem dX2_enterMark_19 : decode cX2_enterMark 19 = .ok (.iadd, 1) := by decide +kernel
theorem dX2_enterMark_20 : decode cX2_enterMark 20 = .ok (.putfield 45, 3) := by decide +kernel
theorem dX2_enterMark_23 : decode cX2_enterMark 23 = .ok (.aload_n 0, 1) := by decide +kernel
theorem dX2_enterMark_24 : decode cX2_enterMark 24 = .ok (.iload_n 1, 1) := by decide +kernel
theorem dX2_enterMark_25 : decode cX2_enterMark 25 = .ok (.putfield 49, 3) := by decide +kernel
theorem dX2_enterMark_28 : decode cX2_enterMark 28 = .ok (.return_, 1) := by decide +kernel
theorem dX2_leaveMark_0 : decode cX2_leaveMark 0 = .ok (.aload_n 0, 1) := by decide +kernel
theorem dX2_leaveMark_1 : decode cX2_leaveMark 1 = .ok (.getfield 45, 3) := by decide +kernel
theorem dX2_leaveMark_4 : decode cX2_leaveMark 4 = .ok (.ifCond .ne 11, 3) := by decide +kernel
theorem dX2_leaveMark_7 : decode cX2_leaveMark 7 = .ok (.aload_n 0, 1) := by decide +kernel
theorem dX2_leaveMark_8 : decode cX2_leaveMark 8 = .ok (.iconst 0, 1) := by decide +kernel
theorem dX2_leaveMark_9 : decode cX2_leaveMark 9 = .ok (.putfield 58, 3) := by decide +kernel
theorem dX2_leaveMark_12 : decode cX2_leaveMark 12 = .ok (.goto 26, 3) := by decide +kernel
theorem dX2_leaveMark_15 : decode cX2_leaveMark 15 = .ok (.aload_n 0, 1) := by decide +kernel
theorem dX2_leaveMark_16 : decode cX2_leaveMark 16 = .ok (.dup, 1) := by decide +kernel
theorem dX2_leaveMark_17 : decode cX2_leaveMark 17 = .ok (.getfield 45, 3) := by decide +kernel
theorem dX2_leaveMark_20 : decode cX2_leaveMark 20 = .ok (.iconst 1, 1) := by decide +kernel
theorem dX2_leaveMark_21 : decode cX2_leaveMark 21 = .ok (.isub, 1) := by decide +kernel
theorem dX2_leaveMark_22 : decode cX2_leaveMark 22 = .ok (.putfield 45, 3) := by decide +kernel
theorem dX2_leaveMark_25 : decode cX2_leaveMark 25 = .ok (.aload_n 0, 1) := by decide +kernel
theorem dX2_leaveMark_26 : decode cX2_leaveMark 26 = .ok (.aload_n 0, 1) := by decide +kernel
theorem dX2_leaveMark_27 : decode cX2_leaveMark 27 = .ok (.getfield 32, 3) := by decide +kernel
theorem dX2_leaveMark_30 : decode cX2_leaveMark 30 = .ok (.aload_n 0, 1) := by decide +kernel
theorem dX2_leaveMark_31 : decode cX2_leaveMark 31 = .ok (.getfield 45, 3) := by decide +kernel
theorem dX2_leaveMark_34 : decode cX2_leaveMark 34 = .ok (.iaload, 1) := by decide +kernel
theorem dX2_leaveMark_35 : decode cX2_leaveMark 35 = .ok (.putfield 49, 3) := by decide +kernel
theorem dX2_leaveMark_38 : decode cX2_leaveMark 38 = .ok (.return_, 1) := by decide +kernel
theorem dX2_beginTerm_0 : decode cX2_beginTerm 0 = .ok (.aload_n 0, 1) := by decide +kernel
theorem dX2_beginTerm_1 : decode cX2_beginTerm 1 = .ok (.getfield 36, 3) := by decide +kernel
theorem dX2_beginTerm_4 : decode cX2_beginTerm 4 = .ok (.getfield 102, 3) := by decide +kernel
theorem dX2_beginTerm_7 : decode cX2_beginTerm 7 = .ok (.aload_n 0, 1) := by decide +kernel
theorem dX2_beginTerm_8 : decode cX2_beginTerm 8 = .ok (.getfield 96, 3) := by decide +kernel
theorem dX2_beginTerm_11 : decode cX2_beginTerm 11 = .ok (.iaload, 1) := by decide +kernel
theorem dX2_beginTerm_12 : decode cX2_beginTerm 12 = .ok (.istore_n 1, 1) := by decide +kernel
theorem dX2_beginTerm_13 : decode cX2_beginTerm 13 = .ok (.aload_n 0, 1) := by decide +kernel
theorem dX2_beginTerm_14 : decode cX2_beginTerm 14 = .ok (.getfield 36, 3) := by decide +kernel
theorem dX2_beginTerm_17 : decode cX2_beginTerm 17 = .ok (.getfield 107, 3) := by decide +kernel
theorem dX2_beginTerm_20 : decode cX2_beginTerm 20 = .ok (.aload_n 0, 1) := by decide +kernel
theorem dX2_beginTerm_21 : decode cX2_beginTerm 21 = .ok (.getfield 96, 3) := by decide +kernel
theorem dX2_beginTerm_24 : decode cX2_beginTerm 24 = .ok (.iaload, 1) := by decide +kernel
theorem dX2_beginTerm_25 : decode cX2_beginTerm 25 = .ok (.tableswitch 193 0 11 #[63, 80, 97, 116, 193, 193, 193, 193, 193, 139, 152, 116], 63) := by decide +kernel
theorem dX2_beginTerm_88 : decode cX2_beginTerm 88 = .ok (.aload_n 0, 1) := by decide +kernel
theorem dX2_beginTerm_89 : decode cX2_beginTerm 89 = .ok (.aload_n 0, 1) := by decide +kernel
theorem dX2_beginTerm_90 : decode cX2_beginTerm 90 = .ok (.getfield 14, 3) := by decide +kernel
theorem dX2_beginTerm_93 : decode cX2_beginTerm 93 = .ok (.iconst 0, 1) := by decide +kernel
theorem dX2_beginTerm_94 : decode cX2_beginTerm 94 = .ok (.iload_n 1, 1) := by decide +kernel
theorem dX2_beginTerm_95 : decode cX2_beginTerm 95 = .ok (.iconst (-1), 1) := by decide +kernel
theorem dX2_beginTerm_96 : decode cX2_beginTerm 96 = .ok (.invokevirtual 110, 3) := by decide +kernel
theorem dX2_beginTerm_99 : decode cX2_beginTerm 99 = .ok (.putfield 71, 3) := by decide +kernel
theorem dX2_beginTerm_102 : decode cX2_beginTerm 102 = .ok (.goto 145, 3) := by decide +kernel
theorem dX2_beginTerm_105 : decode cX2_beginTerm 105 = .ok (.aload_n 0, 1) := by decide +kernel
theorem dX2_beginTerm_106 : decode cX2_beginTerm 106 = .ok (.aload_n 0, 1) := by decide +kernel
theorem dX2_beginTerm_107 : decode cX2_beginTerm 107 = .ok (.getfield 14, 3) := by decide +kernel
theorem dX2_beginTerm_110 : decode cX2_beginTerm 110 = .ok (.iconst 1, 1) := by decide +kernel
theorem dX2_beginTerm_111 : decode cX2_beginTerm 111 = .ok (.iload_n 1, 1) := by decide +kernel
theorem dX2_beginTerm_112 : decode cX2_beginTerm 112 = .ok (.iconst (-1), 1) := by decide +kernel
theorem dX2_beginTerm_113 : decode cX2_beginTerm 113 = .ok (.invokevirtual 110, 3) := by decide +kernel
theorem dX2_beginTerm_116 : decode cX2_beginTerm 116 = .ok (.putfield 71, 3) := by decide +kernel
theorem dX2_beginTerm_119 : decode cX2_beginTerm 119 = .ok (.goto 128, 3) := by decide +kernel
theorem dX2_beginTerm_122 : decode cX2_beginTerm 122 = .ok (.aload_n 0, 1) := by decide +kernel
theorem dX2_beginTerm_123 : decode cX2_beginTerm 123 = .ok (.aload_n 0, 1) := by decide +kernel
theorem dX2_beginTerm_124 : decode cX2_beginTerm 124 = .ok (.getfield 21, 3) := by decide +kernel
theorem dX2_beginTerm_127 : decode cX2_beginTerm 127 = .ok (.aload_n 0, 1) := by decide +kernel
theorem dX2_beginTerm_128 : decode cX2_beginTerm 128 = .ok (.getfield 99, 3) := by decide +kernel
theorem dX2_beginTerm_131 : decode cX2_beginTerm 131 = .ok (.iload_n 1, 1) := by decide +kernel
theorem dX2_beginTerm_132 : decode cX2_beginTerm 132 = .ok (.invokevirtual 114, 3) := by decide +kernel
theorem dX2_beginTerm_135 : decode cX2_beginTerm 135 = .ok (.putfield 71, 3) := by decide +kernel
theorem dX2_beginTerm_138 : decode cX2_beginTerm 138 = .ok (.goto 109, 3) := by decide +kernel
theorem dX2_beginTerm_141 : decode cX2_beginTerm 141 = .ok (.aload_n 0, 1) := by decide +kernel
theorem dX2_beginTerm_142 : decode cX2_beginTerm 142 = .ok (.aload_n 0, 1) := by decide +kernel
theorem dX2_beginTerm_143 : decode cX2_beginTerm 143 = .ok (.getfield 14, 3) := by decide +kernel
theorem dX2_beginTerm_146 : decode cX2_beginTerm 146 = .ok (.iconst 2, 1) := by decide +kernel
theorem dX2_beginTerm_147 : decode cX2_beginTerm 147 = .ok (.aload_n 0, 1) := by decide +kernel
theorem dX2_beginTerm_148 : decode cX2_beginTerm 148 = .ok (.getfield 96, 3) := by decide +kernel
theorem dX2_beginTerm_151 : decode cX2_beginTerm 151 = .ok (.aload_n 0, 1) := by decide +kernel
theorem dX2_beginTerm_152 : decode cX2_beginTerm 152 = .ok (.getfield 99, 3) := by decide +kernel
theorem dX2_beginTerm_155 : decode cX2_beginTerm 155 = .ok (.invokevirtual 110, 3) := by decide +kernel
theorem dX2_beginTerm_158 : decode cX2_beginTerm 158 = .ok (.putfield 71, 3) := by decide +kernel
theorem dX2_beginTerm_161 : decode cX2_beginTerm 161 = .ok (.goto 86, 3) := by decide +kernel
theorem dX2_beginTerm_164 : decode cX2_beginTerm 164 = .ok (.aload_n 0, 1) := by decide +kernel
theorem dX2_beginTerm_165 : decode cX2_beginTerm 165 = .ok (.iconst (-1), 1) := by decide +kernel
theorem dX2_beginTerm_166 : decode cX2_beginTerm 166 = .ok (.invokevirtual 117, 3) := by decide +kernel
theorem dX2_beginTerm_169 : decode cX2_beginTerm 169 = .ok (.aload_n 0, 1) := by decide +kernel
theorem dX2_beginTerm_170 : decode cX2_beginTerm 170 = .ok (.iload_n 1, 1) := by decide +kernel
theorem dX2_beginTerm_171 : decode cX2_beginTerm 171 = .ok (.putfield 96, 3) := by decide +kernel
theorem dX2_beginTerm_174 : decode cX2_beginTerm 174 = .ok (.goto 73, 3) := by decide +kernel
theorem dX2_beginTerm_177 : decode cX2_beginTerm 177 = .ok (.aload_n 0, 1) := by decide +kernel
theorem dX2_beginTerm_178 : decode cX2_beginTerm 178 = .ok (.aload_n 0, 1) := by decide +kernel
theorem dX2_beginTerm_179 : decode cX2_beginTerm 179 = .ok (.getfield 21, 3) := by decide +kernel
theorem dX2_beginTerm_182 : decode cX2_beginTerm 182 = .ok (.aload_n 0, 1) := by decide +kernel
theorem dX2_beginTerm_183 : decode cX2_beginTerm 183 = .ok (.getfield 14, 3) := by decide +kernel
theorem dX2_beginTerm_186 : decode cX2_beginTerm 186 = .ok (.iconst 3, 1) := by decide +kernel
theorem dX2_beginTerm_187 : decode cX2_beginTerm 187 = .ok (.aload_n 0, 1) := by decide +kernel
theorem dX2_beginTerm_188 : decode cX2_beginTerm 188 = .ok (.getfield 49, 3) := by decide +kernel
theorem dX2_beginTerm_191 : decode cX2_beginTerm 191 = .ok (.iconst (-1), 1) := by decide +kernel
theorem dX2_beginTerm_192 : decode cX2_beginTerm 192 = .ok (.invokevirtual 110, 3) := by decide +kernel
theorem dX2_beginTerm_195 : decode cX2_beginTerm 195 = .ok (.aload_n 0, 1) := by decide +kernel
theorem dX2_beginTerm_196 : decode cX2_beginTerm 196 = .ok (.getfield 99, 3) := by decide +kernel
theorem dX2_beginTerm_199 : decode cX2_beginTerm 199 = .ok (.invokevirtual 121, 3) := by decide +kernel
theorem dX2_beginTerm_202 : decode cX2_beginTerm 202 = .ok (.putfield 99, 3) := by decide +kernel
theorem dX2_beginTerm_205 : decode cX2_beginTerm 205 = .ok (.aload_n 0, 1) := by decide +kernel
theorem dX2_beginTerm_206 : decode cX2_beginTerm 206 = .ok (.iconst (-1), 1) := by decide +kernel
theorem dX2_beginTerm_207 : decode cX2_beginTerm 207 = .ok (.putfield 49, 3) := by decide +kernel
theorem dX2_beginTerm_210 : decode cX2_beginTerm 210 = .ok (.aload_n 0, 1) := by decide +kernel
theorem dX2_beginTerm_211 : decode cX2_beginTerm 211 = .ok (.iload_n 1, 1) := by decide +kernel
theorem dX2_beginTerm_212 : decode cX2_beginTerm 212 = .ok (.putfield 96, 3) := by decide +kernel
theorem dX2_beginTerm_215 : decode cX2_beginTerm 215 = .ok (.goto 32, 3) := by decide +kernel
theorem dX2_beginTerm_218 : decode cX2_beginTerm 218 = .ok (.aload_n 0, 1) := by decide +kernel
theorem dX2_beginTerm_219 : decode cX2_beginTerm 219 = .ok (.aload_n 0, 1) := by decide +kernel
theorem dX2_beginTerm_220 : decode cX2_beginTerm 220 = .ok (.getfield 28, 3) := by decide +kernel
theorem dX2_beginTerm_223 : decode cX2_beginTerm 223 = .ok (.aload_n 0, 1) := by decide +kernel
theorem dX2_beginTerm_224 : decode cX2_beginTerm 224 = .ok (.getfield 96, 3) := by decide +kernel
theorem dX2_beginTerm_227 : decode cX2_beginTerm 227 = .ok (.aload_n 0, 1) := by decide +kernel
theorem dX2_beginTerm_228 : decode cX2_beginTerm 228 = .ok (.getfield 99, 3) := by decide +kernel
theorem dX2_beginTerm_231 : decode cX2_beginTerm 231 = .ok (.iconst (-1), 1) := by decide +kernel
theorem dX2_beginTerm_232 : decode cX2_beginTerm 232 = .ok (.aload_n 0, 1) := by decide +kernel
theorem dX2_beginTerm_233 : decode cX2_beginTerm 233 = .ok (.getfield 49, 3) := by decide +kernel
theorem dX2_beginTerm_236 : decode cX2_beginTerm 236 = .ok (.invokevirtual 124, 3) := by decide +kernel
theorem dX2_beginTerm_239 : decode cX2_beginTerm 239 = .ok (.putfield 49, 3) := by decide +kernel
theorem dX2_beginTerm_242 : decode cX2_beginTerm 242 = .ok (.aload_n 0, 1) := by decide +kernel
theorem dX2_beginTerm_243 : decode cX2_beginTerm 243 = .ok (.iload_n 1, 1) := by decide +kernel
theorem dX2_beginTerm_244 : decode cX2_beginTerm 244 = .ok (.putfield 96, 3) := by decide +kernel
theorem dX2_beginTerm_247 : decode cX2_beginTerm 247 = .ok (.return_, 1) := by decide +kernel
theorem dX2_bringValue_0 : decode cX2_bringValue 0 = .ok (.aload_n 0, 1) := by decide +kernel
theorem dX2_bringValue_1 : decode cX2_bringValue 1 = .ok (.getfield 49, 3) := by decide +kernel
theorem dX2_bringValue_4 : decode cX2_bringValue 4 = .ok (.istore_n 1, 1) := by decide +kernel
theorem dX2_bringValue_5 : decode cX2_bringValue 5 = .ok (.aload_n 0, 1) := by decide +kernel
theorem dX2_bringValue_6 : decode cX2_bringValue 6 = .ok (.getfield 28, 3) := by decide +kernel
theorem dX2_bringValue_9 : decode cX2_bringValue 9 = .ok (.getfield 127, 3) := by decide +kernel
theorem dX2_bringValue_12 : decode cX2_bringValue 12 = .ok (.iload_n 1, 1) := by decide +kernel
theorem dX2_bringValue_13 : decode cX2_bringValue 13 = .ok (.iaload, 1) := by decide +kernel
theorem dX2_bringValue_14 : decode cX2_bringValue 14 = .ok (.istore_n 2, 1) := by decide +kernel
theorem dX2_bringValue_15 : decode cX2_bringValue 15 = .ok (.aload_n 0, 1) := by decide +kernel
theorem dX2_bringValue_16 : decode cX2_bringValue 16 = .ok (.getfield 36, 3) := by decide +kernel
theorem dX2_bringValue_19 : decode cX2_bringValue 19 = .ok (.getfield 107, 3) := by decide +kernel
theorem dX2_bringValue_22 : decode cX2_bringValue 22 = .ok (.iload_n 2, 1) := by decide +kernel
theorem dX2_bringValue_23 : decode cX2_bringValue 23 = .ok (.iaload, 1) := by decide +kernel
theorem dX2_bringValue_24 : decode cX2_bringValue 24 = .ok (.istore_n 3, 1) := by decide +kernel
theorem dX2_bringValue_25 : decode cX2_bringValue 25 = .ok (.aload_n 0, 1) := by decide +kernel
theorem dX2_bringValue_26 : decode cX2_bringValue 26 = .ok (.aload_n 0, 1) := by decide +kernel
theorem dX2_bringValue_27 : decode cX2_bringValue 27 = .ok (.getfield 28, 3) := by decide +kernel
theorem dX2_bringValue_30 : decode cX2_bringValue 30 = .ok (.getfield 129, 3) := by decide +kernel
theorem dX2_bringValue_33 : decode cX2_bringValue 33 = .ok (.iload_n 1, 1) := by decide +kernel
theorem dX2_bringValue_34 : decode cX2_bringValue 34 = .ok (.iaload, 1) := by decide +kernel
theorem dX2_bringValue_35 : decode cX2_bringValue 35 = .ok (.putfield 49, 3) := by decide +kernel
theorem dX2_bringValue_38 : decode cX2_bringValue 38 = .ok (.iload_n 3, 1) := by decide +kernel
theorem dX2_bringValue_39 : decode cX2_bringValue 39 = .ok (.bipush 7, 2) := by decide +kernel
theorem dX2_bringValue_41 : decode cX2_bringValue 41 = .ok (.if_icmp .ne 20, 3) := by decide +kernel
theorem dX2_bringValue_44 : decode cX2_bringValue 44 = .ok (.aload_n 0, 1) := by decide +kernel
theorem dX2_bringValue_45 : decode cX2_bringValue 45 = .ok (.iload_n 2, 1) := by decide +kernel
theorem dX2_bringValue_46 : decode cX2_bringValue 46 = .ok (.aload_n 0, 1) := by decide +kernel
theorem dX2_bringValue_47 : decode cX2_bringValue 47 = .ok (.getfield 28, 3) := by decide +kernel
theorem dX2_bringValue_50 : decode cX2_bringValue 50 = .ok (.getfield 134, 3) := by decide +kernel
theorem dX2_bringValue_53 : decode cX2_bringValue 53 = .ok (.iload_n 1, 1) := by decide +kernel
theorem dX2_bringValue_54 : decode cX2_bringValue 54 = .ok (.iaload, 1) := by decide +kernel
theorem dX2_bringValue_55 : decode cX2_bringValue 55 = .ok (.invokevirtual 136, 3) := by decide +kernel
theorem dX2_bringValue_58 : decode cX2_bringValue 58 = .ok (.goto 155, 3) := by decide +kernel
theorem dX2_bringValue_61 : decode cX2_bringValue 61 = .ok (.iload_n 3, 1) := by decide +kernel
theorem dX2_bringValue_62 : decode cX2_bringValue 62 = .ok (.bipush 8, 2) := by decide +kernel
theorem dX2_bringValue_64 : decode cX2_bringValue 64 = .ok (.if_icmp .ne 39, 3) := by decide +kernel
theorem dX2_bringValue_67 : decode cX2_bringValue 67 = .ok (.aload_n 0, 1) := by decide +kernel
theorem dX2_bringValue_68 : decode cX2_bringValue 68 = .ok (.aload_n 0, 1) := by decide +kernel
theorem dX2_bringValue_69 : decode cX2_bringValue 69 = .ok (.getfield 36, 3) := by decide +kernel
theorem dX2_bringValue_72 : decode cX2_bringValue 72 = .ok (.getfield 139, 3) := by decide +kernel
theorem dX2_bringValue_75 : decode cX2_bringValue 75 = .ok (.iload_n 2, 1) := by decide +kernel
theorem dX2_bringValue_76 : decode cX2_bringValue 76 = .ok (.iaload, 1) := by decide +kernel
theorem dX2_bringValue_77 : decode cX2_bringValue 77 = .ok (.aload_n 0, 1) := by decide +kernel
theorem dX2_bringValue_78 : decode cX2_bringValue 78 = .ok (.getfield 21, 3) := by decide +kernel
theorem dX2_bringValue_81 : decode cX2_bringValue 81 = .ok (.aload_n 0, 1) := by decide +kernel
theorem dX2_bringValue_82 : decode cX2_bringValue 82 = .ok (.getfield 71, 3) := by decide +kernel
theorem dX2_bringValue_85 : decode cX2_bringValue 85 = .ok (.aload_n 0, 1) := by decide +kernel
theorem dX2_bringValue_86 : decode cX2_bringValue 86 = .ok (.getfield 28, 3) := by decide +kernel
theorem dX2_bringValue_89 : decode cX2_bringValue 89 = .ok (.getfield 134, 3) := by decide +kernel
theorem dX2_bringValue_92 : decode cX2_bringValue 92 = .ok (.iload_n 1, 1) := by decide +kernel
theorem dX2_bringValue_93 : decode cX2_bringValue 93 = .ok (.iaload, 1) := by decide +kernel
theorem dX2_bringValue_94 : decode cX2_bringValue 94 = .ok (.invokevirtual 121, 3) := by decide +kernel
theorem dX2_bringValue_97 : decode cX2_bringValue 97 = .ok (.invokevirtual 61, 3) := by decide +kernel
theorem dX2_bringValue_100 : decode cX2_bringValue 100 = .ok (.goto 113, 3) := by decide +kernel
theorem dX2_bringValue_103 : decode cX2_bringValue 103 = .ok (.aload_n 0, 1) := by decide +kernel
theorem dX2_bringValue_104 : decode cX2_bringValue 104 = .ok (.getfield 28, 3) := by decide +kernel
theorem dX2_bringValue_107 : decode cX2_bringValue 107 = .ok (.getfield 142, 3) := by decide +kernel
theorem dX2_bringValue_110 : decode cX2_bringValue 110 = .ok (.iload_n 1, 1) := by decide +kernel
theorem dX2_bringValue_111 : decode cX2_bringValue 111 = .ok (.iaload, 1) := by decide +kernel
theorem dX2_bringValue_112 : decode cX2_bringValue 112 = .ok (.iconst (-1), 1) := by decide +kernel
theorem dX2_bringValue_113 : decode cX2_bringValue 113 = .ok (.if_icmp .ne 57, 3) := by decide +kernel
theorem dX2_bringValue_116 : decode cX2_bringValue 116 = .ok (.aload_n 0, 1) := by decide +kernel
theorem dX2_bringValue_117 : decode cX2_bringValue 117 = .ok (.aload_n 0, 1) := by decide +kernel
theorem dX2_bringValue_118 : decode cX2_bringValue 118 = .ok (.getfield 28, 3) := by decide +kernel
theorem dX2_bringValue_121 : decode cX2_bringValue 121 = .ok (.iload_n 2, 1) := by decide +kernel
theorem dX2_bringValue_122 : decode cX2_bringValue 122 = .ok (.aload_n 0, 1) := by decide +kernel
theorem dX2_bringValue_123 : decode cX2_bringValue 123 = .ok (.getfield 28, 3) := by decide +kernel
theorem dX2_bringValue_126 : decode cX2_bringValue 126 = .ok (.getfield 134, 3) := by decide +kernel
theorem dX2_bringValue_129 : decode cX2_bringValue 129 = .ok (.iload_n 1, 1) := by decide +kernel
theorem dX2_bringValue_130 : decode cX2_bringValue 130 = .ok (.iaload, 1) := by decide +kernel
theorem dX2_bringValue_131 : decode cX2_bringValue 131 = .ok (.aload_n 0, 1) := by decide +kernel
theorem dX2_bringValue_132 : decode cX2_bringValue 132 = .ok (.getfield 71, 3) := by decide +kernel
theorem dX2_bringValue_135 : decode cX2_bringValue 135 = .ok (.aload_n 0, 1) := by decide +kernel
theorem dX2_bringValue_136 : decode cX2_bringValue 136 = .ok (.getfield 49, 3) := by decide +kernel
theorem dX2_bringValue_139 : decode cX2_bringValue 139 = .ok (.invokevirtual 124, 3) := by decide +kernel
theorem dX2_bringValue_142 : decode cX2_bringValue 142 = .ok (.putfield 49, 3) := by decide +kernel
theorem dX2_bringValue_145 : decode cX2_bringValue 145 = .ok (.aload_n 0, 1) := by decide +kernel
theorem dX2_bringValue_146 : decode cX2_bringValue 146 = .ok (.aload_n 0, 1) := by decide +kernel
theorem dX2_bringValue_147 : decode cX2_bringValue 147 = .ok (.getfield 36, 3) := by decide +kernel
theorem dX2_bringValue_150 : decode cX2_bringValue 150 = .ok (.getfield 139, 3) := by decide +kernel
theorem dX2_bringValue_153 : decode cX2_bringValue 153 = .ok (.iload_n 2, 1) := by decide +kernel
theorem dX2_bringValue_154 : decode cX2_bringValue 154 = .ok (.iaload, 1) := by decide +kernel
theorem dX2_bringValue_155 : decode cX2_bringValue 155 = .ok (.aload_n 0, 1) := by decide +kernel
theorem dX2_bringValue_156 : decode cX2_bringValue 156 = .ok (.getfield 28, 3) := by decide +kernel
theorem dX2_bringValue_159 : decode cX2_bringValue 159 = .ok (.getfield 134, 3) := by decide +kernel
theorem dX2_bringValue_162 : decode cX2_bringValue 162 = .ok (.iload_n 1, 1) := by decide +kernel
theorem dX2_bringValue_163 : decode cX2_bringValue 163 = .ok (.iaload, 1) := by decide +kernel
theorem dX2_bringValue_164 : decode cX2_bringValue 164 = .ok (.invokevirtual 61, 3) := by decide +kernel
theorem dX2_bringValue_167 : decode cX2_bringValue 167 = .ok (.goto 46, 3) := by decide +kernel
theorem dX2_bringValue_170 : decode cX2_bringValue 170 = .ok (.iload_n 3, 1) := by decide +kernel
theorem dX2_bringValue_171 : decode cX2_bringValue 171 = .ok (.iconst 4, 1) := by decide +kernel
theorem dX2_bringValue_172 : decode cX2_bringValue 172 = .ok (.if_icmp .ne 23, 3) := by decide +kernel
theorem dX2_bringValue_175 : decode cX2_bringValue 175 = .ok (.aload_n 0, 1) := by decide +kernel
theorem dX2_bringValue_176 : decode cX2_bringValue 176 = .ok (.aload_n 0, 1) := by decide +kernel
theorem dX2_bringValue_177 : decode cX2_bringValue 177 = .ok (.getfield 28, 3) := by decide +kernel
theorem dX2_bringValue_180 : decode cX2_bringValue 180 = .ok (.getfield 142, 3) := by decide +kernel
theorem dX2_bringValue_183 : decode cX2_bringValue 183 = .ok (.iload_n 1, 1) := by decide +kernel
theorem dX2_bringValue_184 : decode cX2_bringValue 184 = .ok (.iaload, 1) := by decide +kernel
theorem dX2_bringValue_185 : decode cX2_bringValue 185 = .ok (.aload_n 0, 1) := by decide +kernel
theorem dX2_bringValue_186 : decode cX2_bringValue 186 = .ok (.getfield 71, 3) := by decide +kernel
theorem dX2_bringValue_189 : decode cX2_bringValue 189 = .ok (.invokevirtual 145, 3) := by decide +kernel
theorem dX2_bringValue_192 : decode cX2_bringValue 192 = .ok (.goto 21, 3) := by decide +kernel
theorem dX2_bringValue_195 : decode cX2_bringValue 195 = .ok (.aload_n 0, 1) := by decide +kernel
theorem dX2_bringValue_196 : decode cX2_bringValue 196 = .ok (.iload_n 3, 1) := by decide +kernel
theorem dX2_bringValue_197 : decode cX2_bringValue 197 = .ok (.aload_n 0, 1) := by decide +kernel
theorem dX2_bringValue_198 : decode cX2_bringValue 198 = .ok (.getfield 28, 3) := by decide +kernel
theorem dX2_bringValue_201 : decode cX2_bringValue 201 = .ok (.getfield 142, 3) := by decide +kernel
theorem dX2_bringValue_204 : decode cX2_bringValue 204 = .ok (.iload_n 1, 1) := by decide +kernel
theorem dX2_bringValue_205 : decode cX2_bringValue 205 = .ok (.iaload, 1) := by decide +kernel
theorem dX2_bringValue_206 : decode cX2_bringValue 206 = .ok (.aload_n 0, 1) := by decide +kernel
theorem dX2_bringValue_207 : decode cX2_bringValue 207 = .ok (.getfield 71, 3) := by decide +kernel
theorem dX2_bringValue_210 : decode cX2_bringValue 210 = .ok (.invokevirtual 148, 3) := by decide +kernel
theorem dX2_bringValue_213 : decode cX2_bringValue 213 = .ok (.return_, 1) := by decide +kernel
theorem dX2_choose_0 : decode cX2_choose 0 = .ok (.aload_n 0, 1) := by decide +kernel
theorem dX2_choose_1 : decode cX2_choose 1 = .ok (.getfield 14, 3) := by decide +kernel
theorem dX2_choose_4 : decode cX2_choose 4 = .ok (.getfield 68, 3) := by decide +kernel
theorem dX2_choose_7 : decode cX2_choose 7 = .ok (.aload_n 0, 1) := by decide +kernel
theorem dX2_choose_8 : decode cX2_choose 8 = .ok (.getfield 71, 3) := by decide +kernel
theorem dX2_choose_11 : decode cX2_choose 11 = .ok (.iaload, 1) := by decide +kernel
theorem dX2_choose_12 : decode cX2_choose 12 = .ok (.iconst 1, 1) := by decide +kernel
theorem dX2_choose_13 : decode cX2_choose 13 = .ok (.if_icmp .eq 11, 3) := by decide +kernel
theorem dX2_choose_16 : decode cX2_choose 16 = .ok (.aload_n 0, 1) := by decide +kernel
theorem dX2_choose_17 : decode cX2_choose 17 = .ok (.iconst 1, 1) := by decide +kernel
theorem dX2_choose_18 : decode cX2_choose 18 = .ok (.putfield 58, 3) := by decide +kernel
theorem dX2_choose_21 : decode cX2_choose 21 = .ok (.goto 50, 3) := by decide +kernel
theorem dX2_choose_24 : decode cX2_choose 24 = .ok (.aload_n 0, 1) := by decide +kernel
theorem dX2_choose_25 : decode cX2_choose 25 = .ok (.getfield 14, 3) := by decide +kernel
theorem dX2_choose_28 : decode cX2_choose 28 = .ok (.getfield 84, 3) := by decide +kernel
theorem dX2_choose_31 : decode cX2_choose 31 = .ok (.aload_n 0, 1) := by decide +kernel
theorem dX2_choose_32 : decode cX2_choose 32 = .ok (.getfield 71, 3) := by decide +kernel
theorem dX2_choose_35 : decode cX2_choose 35 = .ok (.iaload, 1) := by decide +kernel
theorem dX2_choose_36 : decode cX2_choose 36 = .ok (.iconst 1, 1) := by decide +kernel
theorem dX2_choose_37 : decode cX2_choose 37 = .ok (.if_icmp .ne 20, 3) := by decide +kernel
theorem dX2_choose_40 : decode cX2_choose 40 = .ok (.aload_n 0, 1) := by decide +kernel
theorem dX2_choose_41 : decode cX2_choose 41 = .ok (.aload_n 0, 1) := by decide +kernel
theorem dX2_choose_42 : decode cX2_choose 42 = .ok (.getfield 36, 3) := by decide +kernel
theorem dX2_choose_45 : decode cX2_choose 45 = .ok (.getfield 139, 3) := by decide +kernel
theorem dX2_choose_48 : decode cX2_choose 48 = .ok (.iload_n 1, 1) := by decide +kernel
theorem dX2_choose_49 : decode cX2_choose 49 = .ok (.iaload, 1) := by decide +kernel
theorem dX2_choose_50 : decode cX2_choose 50 = .ok (.iload_n 2, 1) := by decide +kernel
theorem dX2_choose_51 : decode cX2_choose 51 = .ok (.invokevirtual 61, 3) := by decide +kernel
theorem dX2_choose_54 : decode cX2_choose 54 = .ok (.goto 17, 3) := by decide +kernel
theorem dX2_choose_57 : decode cX2_choose 57 = .ok (.aload_n 0, 1) := by decide +kernel
theorem dX2_choose_58 : decode cX2_choose 58 = .ok (.aload_n 0, 1) := by decide +kernel
theorem dX2_choose_59 : decode cX2_choose 59 = .ok (.getfield 36, 3) := by decide +kernel
theorem dX2_choose_62 : decode cX2_choose 62 = .ok (.getfield 152, 3) := by decide +kernel
theorem dX2_choose_65 : decode cX2_choose 65 = .ok (.iload_n 1, 1) := by decide +kernel
theorem dX2_choose_66 : decode cX2_choose 66 = .ok (.iaload, 1) := by decide +kernel
theorem dX2_choose_67 : decode cX2_choose 67 = .ok (.iload_n 2, 1) := by decide +kernel
theorem dX2_choose_68 : decode cX2_choose 68 = .ok (.invokevirtual 61, 3) := by decide +kernel
theorem dX2_choose_71 : decode cX2_choose 71 = .ok (.return_, 1) := by decide +kernel
theorem dX2_callWith_0 : decode cX2_callWith 0 = .ok (.aload_n 0, 1) := by decide +kernel
theorem dX2_callWith_1 : decode cX2_callWith 1 = .ok (.getfield 14, 3) := by decide +kernel
theorem dX2_callWith_4 : decode cX2_callWith 4 = .ok (.getfield 68, 3) := by decide +kernel
theorem dX2_callWith_7 : decode cX2_callWith 7 = .ok (.iload_n 1, 1) := by decide +kernel
theorem dX2_callWith_8 : decode cX2_callWith 8 = .ok (.iaload, 1) := by decide +kernel
theorem dX2_callWith_9 : decode cX2_callWith 9 = .ok (.istore_n 3, 1) := by decide +kernel
theorem dX2_callWith_10 : decode cX2_callWith 10 = .ok (.iload_n 3, 1) := by decide +kernel
theorem dX2_callWith_11 : decode cX2_callWith 11 = .ok (.iconst 3, 1) := by decide +kernel
theorem dX2_callWith_12 : decode cX2_callWith 12 = .ok (.if_icmp .ne 19, 3) := by decide +kernel
theorem dX2_callWith_15 : decode cX2_callWith 15 = .ok (.aload_n 0, 1) := by decide +kernel
theorem dX2_callWith_16 : decode cX2_callWith 16 = .ok (.aload_n 0, 1) := by decide +kernel
theorem dX2_callWith_17 : decode cX2_callWith 17 = .ok (.getfield 14, 3) := by decide +kernel
theorem dX2_callWith_20 : decode cX2_callWith 20 = .ok (.getfield 84, 3) := by decide +kernel
theorem dX2_callWith_23 : decode cX2_callWith 23 = .ok (.iload_n 1, 1) := by decide +kernel
theorem dX2_callWith_24 : decode cX2_callWith 24 = .ok (.iaload, 1) := by decide +kernel
theorem dX2_callWith_25 : decode cX2_callWith 25 = .ok (.invokevirtual 117, 3) := by decide +kernel
theorem dX2_callWith_28 : decode cX2_callWith 28 = .ok (.goto 89, 3) := by decide +kernel
theorem dX2_callWith_31 : decode cX2_callWith 31 = .ok (.iload_n 3, 1) := by decide +kernel
theorem dX2_callWith_32 : decode cX2_callWith 32 = .ok (.iconst 2, 1) := by decide +kernel
theorem dX2_callWith_33 : decode cX2_callWith 33 = .ok (.if_icmp .ne 79, 3) := by decide +kernel
theorem dX2_callWith_36 : decode cX2_callWith 36 = .ok (.aload_n 0, 1) := by decide +kernel
theorem dX2_callWith_37 : decode cX2_callWith 37 = .ok (.getfield 14, 3) := by decide +kernel
theorem dX2_callWith_40 : decode cX2_callWith 40 = .ok (.getfield 84, 3) := by decide +kernel
theorem dX2_callWith_43 : decode cX2_callWith 43 = .ok (.iload_n 1, 1) := by decide +kernel
theorem dX2_callWith_44 : decode cX2_callWith 44 = .ok (.iaload, 1) := by decide +kernel
theorem dX2_callWith_45 : decode cX2_callWith 45 = .ok (.istore 4, 2) := by decide +kernel
theorem dX2_callWith_47 : decode cX2_callWith 47 = .ok (.aload_n 0, 1) := by decide +kernel
theorem dX2_callWith_48 : decode cX2_callWith 48 = .ok (.getfield 14, 3) := by decide +kernel
theorem dX2_callWith_51 : decode cX2_callWith 51 = .ok (.getfield 155, 3) := by decide +kernel
theorem dX2_callWith_54 : decode cX2_callWith 54 = .ok (.iload_n 1, 1) := by decide +kernel
theorem dX2_callWith_55 : decode cX2_callWith 55 = .ok (.iaload, 1) := by decide +kernel
theorem dX2_callWith_56 : decode cX2_callWith 56 = .ok (.istore 5, 2) := by decide +kernel
theorem dX2_callWith_58 : decode cX2_callWith 58 = .ok (.aload_n 0, 1) := by decide +kernel
theorem dX2_callWith_59 : decode cX2_callWith 59 = .ok (.getfield 36, 3) := by decide +kernel
theorem dX2_callWith_62 : decode cX2_callWith 62 = .ok (.getfield 107, 3) := by decide +kernel
theorem dX2_callWith_65 : decode cX2_callWith 65 = .ok (.iload 4, 2) := by decide +kernel
theorem dX2_callWith_67 : decode cX2_callWith 67 = .ok (.iaload, 1) := by decide +kernel
theorem dX2_callWith_68 : decode cX2_callWith 68 = .ok (.bipush 11, 2) := by decide +kernel
theorem dX2_callWith_70 : decode cX2_callWith 70 = .ok (.if_icmp .ne 15, 3) := by decide +kernel
theorem dX2_callWith_73 : decode cX2_callWith 73 = .ok (.aload_n 0, 1) := by decide +kernel
theorem dX2_callWith_74 : decode cX2_callWith 74 = .ok (.getfield 21, 3) := by decide +kernel
theorem dX2_callWith_77 : decode cX2_callWith 77 = .ok (.iload_n 1, 1) := by decide +kernel
theorem dX2_callWith_78 : decode cX2_callWith 78 = .ok (.iload 5, 2) := by decide +kernel
theorem dX2_callWith_80 : decode cX2_callWith 80 = .ok (.invokevirtual 121, 3) := by decide +kernel
theorem dX2_callWith_83 : decode cX2_callWith 83 = .ok (.istore 5, 2) := by decide +kernel
theorem dX2_callWith_85 : decode cX2_callWith 85 = .ok (.aload_n 0, 1) := by decide +kernel
theorem dX2_callWith_86 : decode cX2_callWith 86 = .ok (.aload_n 0, 1) := by decide +kernel
theorem dX2_callWith_87 : decode cX2_callWith 87 = .ok (.getfield 36, 3) := by decide +kernel
theorem dX2_callWith_90 : decode cX2_callWith 90 = .ok (.getfield 102, 3) := by decide +kernel
theorem dX2_callWith_93 : decode cX2_callWith 93 = .ok (.iload 4, 2) := by decide +kernel
theorem dX2_callWith_95 : decode cX2_callWith 95 = .ok (.iaload, 1) := by decide +kernel
theorem dX2_callWith_96 : decode cX2_callWith 96 = .ok (.aload_n 0, 1) := by decide +kernel
theorem dX2_callWith_97 : decode cX2_callWith 97 = .ok (.getfield 21, 3) := by decide +kernel
theorem dX2_callWith_100 : decode cX2_callWith 100 = .ok (.iload_n 2, 1) := by decide +kernel
theorem dX2_callWith_101 : decode cX2_callWith 101 = .ok (.iload 5, 2) := by decide +kernel
theorem dX2_callWith_103 : decode cX2_callWith 103 = .ok (.invokevirtual 121, 3) := by decide +kernel
theorem dX2_callWith_106 : decode cX2_callWith 106 = .ok (.invokevirtual 61, 3) := by decide +kernel
theorem dX2_callWith_109 : decode cX2_callWith 109 = .ok (.goto 8, 3) := by decide +kernel
theorem dX2_callWith_112 : decode cX2_callWith 112 = .ok (.aload_n 0, 1) := by decide +kernel
theorem dX2_callWith_113 : decode cX2_callWith 113 = .ok (.iconst 1, 1) := by decide +kernel
theorem dX2_callWith_114 : decode cX2_callWith 114 = .ok (.putfield 58, 3) := by decide +kernel
theorem dX2_callWith_117 : decode cX2_callWith 117 = .ok (.return_, 1) := by decide +kernel
theorem dX2_joinNumbers_0 : decode cX2_joinNumbers 0 = .ok (.aload_n 0, 1) := by decide +kernel
theorem dX2_joinNumbers_1 : decode cX2_joinNumbers 1 = .ok (.getfield 14, 3) := by decide +kernel
theorem dX2_joinNumbers_4 : decode cX2_joinNumbers 4 = .ok (.getfield 68, 3) := by decide +kernel
theorem dX2_joinNumbers_7 : decode cX2_joinNumbers 7 = .ok (.iload_n 2, 1) := by decide +kernel
theorem dX2_joinNumbers_8 : decode cX2_joinNumbers 8 = .ok (.iaload, 1) := by decide +kernel
theorem dX2_joinNumbers_9 : decode cX2_joinNumbers 9 = .ok (.ifCond .ne 15, 3) := by decide +kernel
theorem dX2_joinNumbers_12 : decode cX2_joinNumbers 12 = .ok (.aload_n 0, 1) := by decide +kernel
theorem dX2_joinNumbers_13 : decode cX2_joinNumbers 13 = .ok (.getfield 14, 3) := by decide +kernel
theorem dX2_joinNumbers_16 : decode cX2_joinNumbers 16 = .ok (.getfield 68, 3) := by decide +kernel
theorem dX2_joinNumbers_19 : decode cX2_joinNumbers 19 = .ok (.iload_n 3, 1) := by decide +kernel
theorem dX2_joinNumbers_20 : decode cX2_joinNumbers 20 = .ok (.iaload, 1) := by decide +kernel
theorem dX2_joinNumbers_21 : decode cX2_joinNumbers 21 = .ok (.ifCond .eq 11, 3) := by decide +kernel
theorem dX2_joinNumbers_24 : decode cX2_joinNumbers 24 = .ok (.aload_n 0, 1) := by decide +kernel
theorem dX2_joinNumbers_25 : decode cX2_joinNumbers 25 = .ok (.iconst 1, 1) := by decide +kernel
theorem dX2_joinNumbers_26 : decode cX2_joinNumbers 26 = .ok (.putfield 58, 3) := by decide +kernel
theorem dX2_joinNumbers_29 : decode cX2_joinNumbers 29 = .ok (.goto 82, 3) := by decide +kernel
theorem dX2_joinNumbers_32 : decode cX2_joinNumbers 32 = .ok (.iload_n 1, 1) := by decide +kernel
theorem dX2_joinNumbers_33 : decode cX2_joinNumbers 33 = .ok (.iconst 5, 1) := by decide +kernel
theorem dX2_joinNumbers_34 : decode cX2_joinNumbers 34 = .ok (.if_icmp .ne 38, 3) := by decide +kernel
theorem dX2_joinNumbers_37 : decode cX2_joinNumbers 37 = .ok (.aload_n 0, 1) := by decide +kernel
theorem dX2_joinNumbers_38 : decode cX2_joinNumbers 38 = .ok (.aload_n 0, 1) := by decide +kernel
theorem dX2_joinNumbers_39 : decode cX2_joinNumbers 39 = .ok (.getfield 14, 3) := by decide +kernel
theorem dX2_joinNumbers_42 : decode cX2_joinNumbers 42 = .ok (.iconst 0, 1) := by decide +kernel
theorem dX2_joinNumbers_43 : decode cX2_joinNumbers 43 = .ok (.aload_n 0, 1) := by decide +kernel
theorem dX2_joinNumbers_44 : decode cX2_joinNumbers 44 = .ok (.getfield 14, 3) := by decide +kernel
theorem dX2_joinNumbers_47 : decode cX2_joinNumbers 47 = .ok (.getfield 84, 3) := by decide +kernel
theorem dX2_joinNumbers_50 : decode cX2_joinNumbers 50 = .ok (.iload_n 2, 1) := by decide +kernel
theorem dX2_joinNumbers_51 : decode cX2_joinNumbers 51 = .ok (.iaload, 1) := by decide +kernel
theorem dX2_joinNumbers_52 : decode cX2_joinNumbers 52 = .ok (.aload_n 0, 1) := by decide +kernel
theorem dX2_joinNumbers_53 : decode cX2_joinNumbers 53 = .ok (.getfield 14, 3) := by decide +kernel
theorem dX2_joinNumbers_56 : decode cX2_joinNumbers 56 = .ok (.getfield 84, 3) := by decide +kernel
theorem dX2_joinNumbers_59 : decode cX2_joinNumbers 59 = .ok (.iload_n 3, 1) := by decide +kernel
theorem dX2_joinNumbers_60 : decode cX2_joinNumbers 60 = .ok (.iaload, 1) := by decide +kernel
theorem dX2_joinNumbers_61 : decode cX2_joinNumbers 61 = .ok (.iadd, 1) := by decide +kernel
theorem dX2_joinNumbers_62 : decode cX2_joinNumbers 62 = .ok (.iconst (-1), 1) := by decide +kernel
theorem dX2_joinNumbers_63 : decode cX2_joinNumbers 63 = .ok (.invokevirtual 110, 3) := by decide +kernel
theorem dX2_joinNumbers_66 : decode cX2_joinNumbers 66 = .ok (.putfield 71, 3) := by decide +kernel
theorem dX2_joinNumbers_69 : decode cX2_joinNumbers 69 = .ok (.goto 42, 3) := by decide +kernel
theorem dX2_joinNumbers_72 : decode cX2_joinNumbers 72 = .ok (.aload_n 0, 1) := by decide +kernel
theorem dX2_joinNumbers_73 : decode cX2_joinNumbers 73 = .ok (.aload_n 0, 1) := by decide +kernel
theorem dX2_joinNumbers_74 : decode cX2_joinNumbers 74 = .ok (.getfield 14, 3) := by decide +kernel
theorem dX2_joinNumbers_77 : decode cX2_joinNumbers 77 = .ok (.iconst 1, 1) := by decide +kernel
theorem dX2_joinNumbers_78 : decode cX2_joinNumbers 78 = .ok (.aload_n 0, 1) := by decide +kernel
theorem dX2_joinNumbers_79 : decode cX2_joinNumbers 79 = .ok (.getfield 14, 3) := by decide +kernel
theorem dX2_joinNumbers_82 : decode cX2_joinNumbers 82 = .ok (.getfield 84, 3) := by decide +kernel
theorem dX2_joinNumbers_85 : decode cX2_joinNumbers 85 = .ok (.iload_n 2, 1) := by decide +kernel
theorem dX2_joinNumbers_86 : decode cX2_joinNumbers 86 = .ok (.iaload, 1) := by decide +kernel
theorem dX2_joinNumbers_87 : decode cX2_joinNumbers 87 = .ok (.aload_n 0, 1) := by decide +kernel
theorem dX2_joinNumbers_88 : decode cX2_joinNumbers 88 = .ok (.getfield 14, 3) := by decide +kernel
theorem dX2_joinNumbers_91 : decode cX2_joinNumbers 91 = .ok (.getfield 84, 3) := by decide +kernel
theorem dX2_joinNumbers_94 : decode cX2_joinNumbers 94 = .ok (.iload_n 3, 1) := by decide +kernel
theorem dX2_joinNumbers_95 : decode cX2_joinNumbers 95 = .ok (.iaload, 1) := by decide +kernel
theorem dX2_joinNumbers_96 : decode cX2_joinNumbers 96 = .ok (.if_icmp .ge 7, 3) := by decide +kernel
theorem dX2_joinNumbers_99 : decode cX2_joinNumbers 99 = .ok (.iconst 1, 1) := by decide +kernel
theorem dX2_joinNumbers_100 : decode cX2_joinNumbers 100 = .ok (.goto 4, 3) := by decide +kernel
theorem dX2_joinNumbers_103 : decode cX2_joinNumbers 103 = .ok (.iconst 0, 1) := by decide +kernel
theorem dX2_joinNumbers_104 : decode cX2_joinNumbers 104 = .ok (.iconst (-1), 1) := by decide +kernel
theorem dX2_joinNumbers_105 : decode cX2_joinNumbers 105 = .ok (.invokevirtual 110, 3) := by decide +kernel
theorem dX2_joinNumbers_108 : decode cX2_joinNumbers 108 = .ok (.putfield 71, 3) := by decide +kernel
theorem dX2_joinNumbers_111 : decode cX2_joinNumbers 111 = .ok (.return_, 1) := by decide +kernel
theorem dX3_init_0 : decode cX3_init 0 = .ok (.aload_n 0, 1) := by decide +kernel
theorem dX3_init_1 : decode cX3_init 1 = .ok (.invokespecial 3, 3) := by decide +kernel
theorem dX3_init_4 : decode cX3_init 4 = .ok (.aload_n 0, 1) := by decide +kernel
theorem dX3_init_5 : decode cX3_init 5 = .ok (.sipush 400, 3) := by decide +kernel
theorem dX3_init_8 : decode cX3_init 8 = .ok (.newarray .int, 2) := by decide +kernel
theorem dX3_init_10 : decode cX3_init 10 = .ok (.putfield 11, 3) := by decide +kernel
theorem dX3_init_13 : decode cX3_init 13 = .ok (.aload_n 0, 1) := by decide +kernel
theorem dX3_init_14 : decode cX3_init 14 = .ok (.sipush 400, 3) := by decide +kernel
theorem dX3_init_17 : decode cX3_init 17 = .ok (.newarray .int, 2) := by decide +kernel
theorem dX3_init_19 : decode cX3_init 19 = .ok (.putfield 17, 3) := by decide +kernel
theorem dX3_init_22 : decode cX3_init 22 = .ok (.return_, 1) := by decide +kernel
theorem dX3_clear_0 : decode cX3_clear 0 = .ok (.aload_n 0, 1) := by decide +kernel
theorem dX3_clear_1 : decode cX3_clear 1 = .ok (.iconst 0, 1) := by decide +kernel
theorem dX3_clear_2 : decode cX3_clear 2 = .ok (.putfield 20, 3) := by decide +kernel
theorem dX3_clear_5 : decode cX3_clear 5 = .ok (.return_, 1) := by decide +kernel
theorem dX3_bind_0 : decode cX3_bind 0 = .ok (.aload_n 0, 1) := by decide +kernel
theorem dX3_bind_1 : decode cX3_bind 1 = .ok (.getfield 11, 3) := by decide +kernel
theorem dX3_bind_4 : decode cX3_bind 4 = .ok (.aload_n 0, 1) := by decide +kernel
theorem dX3_bind_5 : decode cX3_bind 5 = .ok (.getfield 20, 3) := by decide +kernel
theorem dX3_bind_8 : decode cX3_bind 8 = .ok (.iload_n 1, 1) := by decide +kernel
theorem dX3_bind_9 : decode cX3_bind 9 = .ok (.iastore, 1) := by decide +kernel
theorem dX3_bind_10 : decode cX3_bind 10 = .ok (.aload_n 0, 1) := by decide +kernel
theorem dX3_bind_11 : decode cX3_bind 11 = .ok (.getfield 17, 3) := by decide +kernel
theorem dX3_bind_14 : decode cX3_bind 14 = .ok (.aload_n 0, 1) := by decide +kernel
theorem dX3_bind_15 : decode cX3_bind 15 = .ok (.getfield 20, 3) := by decide +kernel
theorem dX3_bind_18 : decode cX3_bind 18 = .ok (.iload_n 2, 1) := by decide +kernel
theorem dX3_bind_19 : decode cX3_bind 19 = .ok (.iastore, 1) := by decide +kernel
theorem dX3_bind_20 : decode cX3_bind 20 = .ok (.aload_n 0, 1) := by decide +kernel
theorem dX3_bind_21 : decode cX3_bind 21 = .ok (.dup, 1) := by decide +kernel
theorem dX3_bind_22 : decode cX3_bind 22 = .ok (.getfield 20, 3) := by decide +kernel
theorem dX3_bind_25 : decode cX3_bind 25 = .ok (.dup_x1, 1) := by decide +kernel
theorem dX3_bind_26 : decode cX3_bind 26 = .ok (.iconst 1, 1) := by decide +kernel
theorem dX3_bind_27 : decode cX3_bind 27 = .ok (.iadd, 1) := by decide +kernel
theorem dX3_bind_28 : decode cX3_bind 28 = .ok (.putfield 20, 3) := by decide +kernel
theorem dX3_bind_31 : decode cX3_bind 31 = .ok (.ireturn, 1) := by decide +kernel
theorem dX3_look_0 : decode cX3_look 0 = .ok (.iload_n 1, 1) := by decide +kernel
theorem dX3_look_1 : decode cX3_look 1 = .ok (.istore_n 3, 1) := by decide +kernel
theorem dX3_look_2 : decode cX3_look 2 = .ok (.iconst 0, 1) := by decide +kernel
theorem dX3_look_3 : decode cX3_look 3 = .ok (.istore 4, 2) := by decide +kernel
theorem dX3_look_5 : decode cX3_look 5 = .ok (.iload 4, 2) := by decide +kernel
theorem dX3_look_7 : decode cX3_look 7 = .ok (.iload_n 2, 1) := by decide +kernel
theorem dX3_look_8 : decode cX3_look 8 = .ok (.if_icmp .ge 21, 3) := by decide +kernel
theorem dX3_look_11 : decode cX3_look 11 = .ok (.iload_n 3, 1) := by decide +kernel
theorem dX3_look_12 : decode cX3_look 12 = .ok (.iconst (-1), 1) := by decide +kernel
theorem dX3_look_13 : decode cX3_look 13 = .ok (.if_icmp .eq 16, 3) := by decide +kernel
theorem dX3_look_16 : decode cX3_look 16 = .ok (.aload_n 0, 1) := by decide +kernel
theorem dX3_look_17 : decode cX3_look 17 = .ok (.getfield 17, 3) := by decide +kernel
theorem dX3_look_20 : decode cX3_look 20 = .ok (.iload_n 3, 1) := by decide +kernel
theorem dX3_look_21 : decode cX3_look 21 = .ok (.iaload, 1) := by decide +kernel
theorem dX3_look_22 : decode cX3_look 22 = .ok (.istore_n 3, 1) := by decide +kernel
theorem dX3_look_23 : decode cX3_look 23 = .ok (.iinc 4 1, 3) := by decide +kernel
theorem dX3_look_26 : decode cX3_look 26 = .ok (.goto (-21), 3) := by decide +kernel
theorem dX3_look_29 : decode cX3_look 29 = .ok (.iload_n 3, 1) := by decide +kernel
theorem dX3_look_30 : decode cX3_look 30 = .ok (.iconst (-1), 1) := by decide +kernel
theorem dX3_look_31 : decode cX3_look 31 = .ok (.if_icmp .ne 7, 3) := by decide +kernel
theorem dX3_look_34 : decode cX3_look 34 = .ok (.iconst (-1), 1) := by decide +kernel
theorem dX3_look_35 : decode cX3_look 35 = .ok (.goto 9, 3) := by decide +kernel
theorem dX3_look_38 : decode cX3_look 38 = .ok (.aload_n 0, 1) := by decide +kernel
theorem dX3_look_39 : decode cX3_look 39 = .ok (.getfield 11, 3) := by decide +kernel
theorem dX3_look_42 : decode cX3_look 42 = .ok (.iload_n 3, 1) := by decide +kernel
theorem dX3_look_43 : decode cX3_look 43 = .ok (.iaload, 1) := by decide +kernel
theorem dX3_look_44 : decode cX3_look 44 = .ok (.ireturn, 1) := by decide +kernel
theorem dX4_init_0 : decode cX4_init 0 = .ok (.aload_n 0, 1) := by decide +kernel
theorem dX4_init_1 : decode cX4_init 1 = .ok (.invokespecial 1, 3) := by decide +kernel
theorem dX4_init_4 : decode cX4_init 4 = .ok (.aload_n 0, 1) := by decide +kernel
theorem dX4_init_5 : decode cX4_init 5 = .ok (.bipush 60, 2) := by decide +kernel
theorem dX4_init_7 : decode cX4_init 7 = .ok (.newarray .int, 2) := by decide +kernel
theorem dX4_init_9 : decode cX4_init 9 = .ok (.putfield 9, 3) := by decide +kernel
theorem dX4_init_12 : decode cX4_init 12 = .ok (.aload_n 0, 1) := by decide +kernel
theorem dX4_init_13 : decode cX4_init 13 = .ok (.bipush 60, 2) := by decide +kernel
theorem dX4_init_15 : decode cX4_init 15 = .ok (.newarray .int, 2) := by decide +kernel
theorem dX4_init_17 : decode cX4_init 17 = .ok (.putfield 13, 3) := by decide +kernel
theorem dX4_init_20 : decode cX4_init 20 = .ok (.aload_n 0, 1) := by decide +kernel
theorem dX4_init_21 : decode cX4_init 21 = .ok (.bipush 60, 2) := by decide +kernel
theorem dX4_init_23 : decode cX4_init 23 = .ok (.newarray .int, 2) := by decide +kernel
theorem dX4_init_25 : decode cX4_init 25 = .ok (.putfield 16, 3) := by decide +kernel
theorem dX4_init_28 : decode cX4_init 28 = .ok (.aload_n 0, 1) := by decide +kernel
theorem dX4_init_29 : decode cX4_init 29 = .ok (.bipush 60, 2) := by decide +kernel
theorem dX4_init_31 : decode cX4_init 31 = .ok (.newarray .int, 2) := by decide +kernel
theorem dX4_init_33 : decode cX4_init 33 = .ok (.putfield 19, 3) := by decide +kernel
theorem dX4_init_36 : decode cX4_init 36 = .ok (.aload_n 0, 1) := by decide +kernel
theorem dX4_init_37 : decode cX4_init 37 = .ok (.bipush 60, 2) := by decide +kernel
theorem dX4_init_39 : decode cX4_init 39 = .ok (.newarray .int, 2) := by decide +kernel
theorem dX4_init_41 : decode cX4_init 41 = .ok (.putfield 22, 3) := by decide +kernel
theorem dX4_init_44 : decode cX4_init 44 = .ok (.aload_n 0, 1) := by decide +kernel
theorem dX4_init_45 : decode cX4_init 45 = .ok (.bipush 60, 2) := by decide +kernel
theorem dX4_init_47 : decode cX4_init 47 = .ok (.newarray .int, 2) := by decide +kernel
theorem dX4_init_49 : decode cX4_init 49 = .ok (.putfield 25, 3) := by decide +kernel
theorem dX4_init_52 : decode cX4_init 52 = .ok (.aload_n 0, 1) := by decide +kernel
theorem dX4_init_53 : decode cX4_init 53 = .ok (.bipush 60, 2) := by decide +kernel
theorem dX4_init_55 : decode cX4_init 55 = .ok (.newarray .int, 2) := by decide +kernel
theorem dX4_init_57 : decode cX4_init 57 = .ok (.putfield 28, 3) := by decide +kernel
theorem dX4_init_60 : decode cX4_init 60 = .ok (.return_, 1) := by decide +kernel
theorem dX4_has_0 : decode cX4_has 0 = .ok (.iload_n 1, 1) := by decide +kernel
theorem dX4_has_1 : decode cX4_has 1 = .ok (.ifCond .lt 15, 3) := by decide +kernel
theorem dX4_has_4 : decode cX4_has 4 = .ok (.iload_n 1, 1) := by decide +kernel
theorem dX4_has_5 : decode cX4_has 5 = .ok (.aload_n 0, 1) := by decide +kernel
theorem dX4_has_6 : decode cX4_has 6 = .ok (.getfield 31, 3) := by decide +kernel
theorem dX4_has_9 : decode cX4_has 9 = .ok (.if_icmp .ge 7, 3) := by decide +kernel
theorem dX4_has_12 : decode cX4_has 12 = .ok (.iconst 1, 1) := by decide +kernel
theorem dX4_has_13 : decode cX4_has 13 = .ok (.goto 4, 3) := by decide +kernel
theorem dX4_has_16 : decode cX4_has 16 = .ok (.iconst 0, 1) := by decide +kernel
theorem dX4_has_17 : decode cX4_has 17 = .ok (.ireturn, 1) := by decide +kernel
theorem dX4_hasClosed_0 : decode cX4_hasClosed 0 = .ok (.aload_n 0, 1) := by decide +kernel
theorem dX4_hasClosed_1 : decode cX4_hasClosed 1 = .ok (.iload_n 1, 1) := by decide +kernel
theorem dX4_hasClosed_2 : decode cX4_hasClosed 2 = .ok (.invokevirtual 35, 3) := by decide +kernel
theorem dX4_hasClosed_5 : decode cX4_hasClosed 5 = .ok (.ifCond .eq 16, 3) := by decide +kernel
theorem dX4_hasClosed_8 : decode cX4_hasClosed 8 = .ok (.aload_n 0, 1) := by decide +kernel
theorem dX4_hasClosed_9 : decode cX4_hasClosed 9 = .ok (.getfield 22, 3) := by decide +kernel
theorem dX4_hasClosed_12 : decode cX4_hasClosed 12 = .ok (.iload_n 1, 1) := by decide +kernel
theorem dX4_hasClosed_13 : decode cX4_hasClosed 13 = .ok (.iaload, 1) := by decide +kernel
theorem dX4_hasClosed_14 : decode cX4_hasClosed 14 = .ok (.ifCond .ne 7, 3) := by decide +kernel
theorem dX4_hasClosed_17 : decode cX4_hasClosed 17 = .ok (.iconst 1, 1) := by decide +kernel
theorem dX4_hasClosed_18 : decode cX4_hasClosed 18 = .ok (.goto 4, 3) := by decide +kernel
theorem dX4_hasClosed_21 : decode cX4_hasClosed 21 = .ok (.iconst 0, 1) := by decide +kernel
theorem dX4_hasClosed_22 : decode cX4_hasClosed 22 = .ok (.ireturn, 1) := by decide +kernel
theorem dX4_wordsFit_0 : decode cX4_wordsFit 0 = .ok (.iload_n 1, 1) := by decide +kernel
theorem dX4_wordsFit_1 : decode cX4_wordsFit 1 = .ok (.ifCond .lt 11, 3) := by decide +kernel
theorem dX4_wordsFit_4 : decode cX4_wordsFit 4 = .ok (.iload_n 1, 1) := by decide +kernel
theorem dX4_wordsFit_5 : decode cX4_wordsFit 5 = .ok (.getstatic 39, 3) := by decide +kernel
theorem dX4_wordsFit_8 : decode cX4_wordsFit 8 = .ok (.arraylength, 1) := by decide +kernel
theorem dX4_wordsFit_9 : decode cX4_wordsFit 9 = .ok (.if_icmp .lt 5, 3) := by decide +kernel
theorem dX4_wordsFit_12 : decode cX4_wordsFit 12 = .ok (.iconst 0, 1) := by decide +kernel
theorem dX4_wordsFit_13 : decode cX4_wordsFit 13 = .ok (.ireturn, 1) := by decide +kernel
theorem dX4_wordsFit_14 : decode cX4_wordsFit 14 = .ok (.iload_n 1, 1) := by decide +kernel
theorem dX4_wordsFit_15 : decode cX4_wordsFit 15 = .ok (.tableswitch 75 0 2 #[25, 45, 60], 25) := by decide +kernel
theorem dX4_wordsFit_40 : decode cX4_wordsFit 40 = .ok (.iload_n 2, 1) := by decide +kernel
theorem dX4_wordsFit_41 : decode cX4_wordsFit 41 = .ok (.sipush (-1000), 3) := by decide +kernel
theorem dX4_wordsFit_44 : decode cX4_wordsFit 44 = .ok (.if_icmp .lt 14, 3) := by decide +kernel
theorem dX4_wordsFit_47 : decode cX4_wordsFit 47 = .ok (.iload_n 2, 1) := by decide +kernel
theorem dX4_wordsFit_48 : decode cX4_wordsFit 48 = .ok (.sipush 1000, 3) := by decide +kernel
theorem dX4_wordsFit_51 : decode cX4_wordsFit 51 = .ok (.if_icmp .gt 7, 3) := by decide +kernel
theorem dX4_wordsFit_54 : decode cX4_wordsFit 54 = .ok (.iconst 1, 1) := by decide +kernel
theorem dX4_wordsFit_55 : decode cX4_wordsFit 55 = .ok (.goto 4, 3) := by decide +kernel
theorem dX4_wordsFit_58 : decode cX4_wordsFit 58 = .ok (.iconst 0, 1) := by decide +kernel
theorem dX4_wordsFit_59 : decode cX4_wordsFit 59 = .ok (.ireturn, 1) := by decide +kernel
theorem dX4_wordsFit_60 : decode cX4_wordsFit 60 = .ok (.iload_n 2, 1) := by decide +kernel
theorem dX4_wordsFit_61 : decode cX4_wordsFit 61 = .ok (.ifCond .eq 8, 3) := by decide +kernel
theorem dX4_wordsFit_64 : decode cX4_wordsFit 64 = .ok (.iload_n 2, 1) := by decide +kernel
theorem dX4_wordsFit_65 : decode cX4_wordsFit 65 = .ok (.iconst 1, 1) := by decide +kernel
theorem dX4_wordsFit_66 : decode cX4_wordsFit 66 = .ok (.if_icmp .ne 7, 3) := by decide +kernel
theorem dX4_wordsFit_69 : decode cX4_wordsFit 69 = .ok (.iconst 1, 1) := by decide +kernel
theorem dX4_wordsFit_70 : decode cX4_wordsFit 70 = .ok (.goto 4, 3) := by decide +kernel
theorem dX4_wordsFit_73 : decode cX4_wordsFit 73 = .ok (.iconst 0, 1) := by decide +kernel
theorem dX4_wordsFit_74 : decode cX4_wordsFit 74 = .ok (.ireturn, 1) := by decide +kernel
theorem dX4_wordsFit_75 : decode cX4_wordsFit 75 = .ok (.iload_n 2, 1) := by decide +kernel
theorem dX4_wordsFit_76 : decode cX4_wordsFit 76 = .ok (.ifCond .lt 12, 3) := by decide +kernel
theorem dX4_wordsFit_79 : decode cX4_wordsFit 79 = .ok (.iload_n 2, 1) := by decide +kernel
theorem dX4_wordsFit_80 : decode cX4_wordsFit 80 = .ok (.iconst 5, 1) := by decide +kernel
theorem dX4_wordsFit_81 : decode cX4_wordsFit 81 = .ok (.if_icmp .gt 7, 3) := by decide +kernel
theorem dX4_wordsFit_84 : decode cX4_wordsFit 84 = .ok (.iconst 1, 1) := by decide +kernel
theorem dX4_wordsFit_85 : decode cX4_wordsFit 85 = .ok (.goto 4, 3) := by decide +kernel
theorem dX4_wordsFit_88 : decode cX4_wordsFit 88 = .ok (.iconst 0, 1) := by decide +kernel
theorem dX4_wordsFit_89 : decode cX4_wordsFit 89 = .ok (.ireturn, 1) := by decide +kernel
theorem dX4_wordsFit_90 : decode cX4_wordsFit 90 = .ok (.getstatic 39, 3) := by decide +kernel
theorem dX4_wordsFit_93 : decode cX4_wordsFit 93 = .ok (.iload_n 1, 1) := by decide +kernel
theorem dX4_wordsFit_94 : decode cX4_wordsFit 94 = .ok (.iaload, 1) := by decide +kernel
theorem dX4_wordsFit_95 : decode cX4_wordsFit 95 = .ok (.istore 5, 2) := by decide +kernel
theorem dX4_wordsFit_97 : decode cX4_wordsFit 97 = .ok (.aload_n 0, 1) := by decide +kernel
theorem dX4_wordsFit_98 : decode cX4_wordsFit 98 = .ok (.iload_n 2, 1) := by decide +kernel
theorem dX4_wordsFit_99 : decode cX4_wordsFit 99 = .ok (.invokevirtual 35, 3) := by decide +kernel
theorem dX4_wordsFit_102 : decode cX4_wordsFit 102 = .ok (.ifCond .eq 36, 3) := by decide +kernel
theorem dX4_wordsFit_105 : decode cX4_wordsFit 105 = .ok (.iload 5, 2) := by decide +kernel
theorem dX4_wordsFit_107 : decode cX4_wordsFit 107 = .ok (.iconst 2, 1) := by decide +kernel
theorem dX4_wordsFit_108 : decode cX4_wordsFit 108 = .ok (.if_icmp .lt 11, 3) := by decide +kernel
theorem dX4_wordsFit_111 : decode cX4_wordsFit 111 = .ok (.aload_n 0, 1) := by decide +kernel
theorem dX4_wordsFit_112 : decode cX4_wordsFit 112 = .ok (.iload_n 3, 1) := by decide +kernel
theorem dX4_wordsFit_113 : decode cX4_wordsFit 113 = .ok (.invokevirtual 35, 3) := by decide +kernel
theorem dX4_wordsFit_116 : decode cX4_wordsFit 116 = .ok (.ifCond .eq 22, 3) := by decide +kernel
theorem dX4_wordsFit_119 : decode cX4_wordsFit 119 = .ok (.iload 5, 2) := by decide +kernel
theorem dX4_wordsFit_121 : decode cX4_wordsFit 121 = .ok (.iconst 3, 1) := by decide +kernel
theorem dX4_wordsFit_122 : decode cX4_wordsFit 122 = .ok (.if_icmp .lt 12, 3) := by decide +kernel
theorem dX4_wordsFit_125 : decode cX4_wordsFit 125 = .ok (.aload_n 0, 1) := by decide +kernel
theorem dX4_wordsFit_126 : decode cX4_wordsFit 126 = .ok (.iload 4, 2) := by decide +kernel
theorem dX4_wordsFit_128 : decode cX4_wordsFit 128 = .ok (.invokevirtual 35, 3) := by decide +kernel
theorem dX4_wordsFit_131 : decode cX4_wordsFit 131 = .ok (.ifCond .eq 7, 3) := by decide +kernel
theorem dX4_wordsFit_134 : decode cX4_wordsFit 134 = .ok (.iconst 1, 1) := by decide +kernel
theorem dX4_wordsFit_135 : decode cX4_wordsFit 135 = .ok (.goto 4, 3) := by decide +kernel
theorem dX4_wordsFit_138 : decode cX4_wordsFit 138 = .ok (.iconst 0, 1) := by decide +kernel
theorem dX4_wordsFit_139 : decode cX4_wordsFit 139 = .ok (.ireturn, 1) := by decide +kernel
theorem dX4_hasRoomFor_0 : decode cX4_hasRoomFor 0 = .ok (.getstatic 39, 3) := by decide +kernel
theorem dX4_hasRoomFor_3 : decode cX4_hasRoomFor 3 = .ok (.iload_n 1, 1) := by decide +kernel
theorem dX4_hasRoomFor_4 : decode cX4_hasRoomFor 4 = .ok (.iaload, 1) := by decide +kernel
theorem dX4_hasRoomFor_5 : decode cX4_hasRoomFor 5 = .ok (.istore 5, 2) := by decide +kernel
theorem dX4_hasRoomFor_7 : decode cX4_hasRoomFor 7 = .ok (.aload_n 0, 1) := by decide +kernel
theorem dX4_hasRoomFor_8 : decode cX4_hasRoomFor 8 = .ok (.getfield 31, 3) := by decide +kernel
theorem dX4_hasRoomFor_11 : decode cX4_hasRoomFor 11 = .ok (.bipush 60, 2) := by decide +kernel
theorem dX4_hasRoomFor_13 : decode cX4_hasRoomFor 13 = .ok (.if_icmp .ge 37, 3) := by decide +kernel
theorem dX4_hasRoomFor_16 : decode cX4_hasRoomFor 16 = .ok (.aload_n 0, 1) := by decide +kernel
theorem dX4_hasRoomFor_17 : decode cX4_hasRoomFor 17 = .ok (.iload 5, 2) := by decide +kernel
theorem dX4_hasRoomFor_19 : decode cX4_hasRoomFor 19 = .ok (.iload_n 2, 1) := by decide +kernel
theorem dX4_hasRoomFor_20 : decode cX4_hasRoomFor 20 = .ok (.iload_n 3, 1) := by decide +kernel
theorem dX4_hasRoomFor_21 : decode cX4_hasRoomFor 21 = .ok (.iload 4, 2) := by decide +kernel
theorem dX4_hasRoomFor_23 : decode cX4_hasRoomFor 23 = .ok (.invokevirtual 44, 3) := by decide +kernel
theorem dX4_hasRoomFor_26 : decode cX4_hasRoomFor 26 = .ok (.bipush 9, 2) := by decide +kernel
theorem dX4_hasRoomFor_28 : decode cX4_hasRoomFor 28 = .ok (.if_icmp .gt 22, 3) := by decide +kernel
theorem dX4_hasRoomFor_31 : decode cX4_hasRoomFor 31 = .ok (.aload_n 0, 1) := by decide +kernel
theorem dX4_hasRoomFor_32 : decode cX4_hasRoomFor 32 = .ok (.iload 5, 2) := by decide +kernel
theorem dX4_hasRoomFor_34 : decode cX4_hasRoomFor 34 = .ok (.iload_n 2, 1) := by decide +kernel
theorem dX4_hasRoomFor_35 : decode cX4_hasRoomFor 35 = .ok (.iload_n 3, 1) := by decide +kernel
theorem dX4_hasRoomFor_36 : decode cX4_hasRoomFor 36 = .ok (.iload 4, 2) := by decide +kernel
theorem dX4_hasRoomFor_38 : decode cX4_hasRoomFor 38 = .ok (.invokevirtual 48, 3) := by decide +kernel
theorem dX4_hasRoomFor_41 : decode cX4_hasRoomFor 41 = .ok (.bipush 120, 2) := by decide +kernel
theorem dX4_hasRoomFor_43 : decode cX4_hasRoomFor 43 = .ok (.if_icmp .gt 7, 3) := by decide +kernel
theorem dX4_hasRoomFor_46 : decode cX4_hasRoomFor 46 = .ok (.iconst 1, 1) := by decide +kernel
theorem dX4_hasRoomFor_47 : decode cX4_hasRoomFor 47 = .ok (.goto 4, 3) := by decide +kernel
theorem dX4_hasRoomFor_50 : decode cX4_hasRoomFor 50 = .ok (.iconst 0, 1) := by decide +kernel
theorem dX4_hasRoomFor_51 : decode cX4_hasRoomFor 51 = .ok (.ireturn, 1) := by decide +kernel
theorem dX4_add_0 : decode cX4_add 0 = .ok (.getstatic 39, 3) := by decide +kernel
theorem dX4_add_3 : decode cX4_add 3 = .ok (.iload_n 1, 1) := by decide +kernel
theorem dX4_add_4 : decode cX4_add 4 = .ok (.iaload, 1) := by decide +kernel
theorem dX4_add_5 : decode cX4_add 5 = .ok (.istore 5, 2) := by decide +kernel
theorem dX4_add_7 : decode cX4_add 7 = .ok (.aload_n 0, 1) := by decide +kernel
theorem dX4_add_8 : decode cX4_add 8 = .ok (.getfield 31, 3) := by decide +kernel
theorem dX4_add_11 : decode cX4_add 11 = .ok (.istore 6, 2) := by decide +kernel
theorem dX4_add_13 : decode cX4_add 13 = .ok (.aload_n 0, 1) := by decide +kernel
theorem dX4_add_14 : decode cX4_add 14 = .ok (.getfield 9, 3) := by decide +kernel
theorem dX4_add_17 : decode cX4_add 17 = .ok (.iload 6, 2) := by decide +kernel
theorem dX4_add_19 : decode cX4_add 19 = .ok (.iload_n 1, 1) := by decide +kernel
theorem dX4_add_20 : decode cX4_add 20 = .ok (.iastore, 1) := by decide +kernel
theorem dX4_add_21 : decode cX4_add 21 = .ok (.aload_n 0, 1) := by decide +kernel
theorem dX4_add_22 : decode cX4_add 22 = .ok (.getfield 13, 3) := by decide +kernel
theorem dX4_add_25 : decode cX4_add 25 = .ok (.iload 6, 2) := by decide +kernel
theorem dX4_add_27 : decode cX4_add 27 = .ok (.iload_n 2, 1) := by decide +kernel
theorem dX4_add_28 : decode cX4_add 28 = .ok (.iastore, 1) := by decide +kernel
theorem dX4_add_29 : decode cX4_add 29 = .ok (.aload_n 0, 1) := by decide +kernel
theorem dX4_add_30 : decode cX4_add 30 = .ok (.getfield 16, 3) := by decide +kernel
theorem dX4_add_33 : decode cX4_add 33 = .ok (.iload 6, 2) := by decide +kernel
theorem dX4_add_35 : decode cX4_add 35 = .ok (.iload_n 3, 1) := by decide +kernel
theorem dX4_add_36 : decode cX4_add 36 = .ok (.iastore, 1) := by decide +kernel
theorem dX4_add_37 : decode cX4_add 37 = .ok (.aload_n 0, 1) := by decide +kernel
theorem dX4_add_38 : decode cX4_add 38 = .ok (.getfield 19, 3) := by decide +kernel
theorem dX4_add_41 : decode cX4_add 41 = .ok (.iload 6, 2) := by decide +kernel
theorem dX4_add_43 : decode cX4_add 43 = .ok (.iload 4, 2) := by decide +kernel
theorem dX4_add_45 : decode cX4_add 45 = .ok (.iastore, 1) := by decide +kernel
theorem dX4_add_46 : decode cX4_add 46 = .ok (.aload_n 0, 1) := by decide +kernel
theorem dX4_add_47 : decode cX4_add 47 = .ok (.getfield 25, 3) := by decide +kernel
theorem dX4_add_50 : decode cX4_add 50 = .ok (.iload 6, 2) := by decide +kernel
theorem dX4_add_52 : decode cX4_add 52 = .ok (.aload_n 0, 1) := by decide +kernel
theorem dX4_add_53 : decode cX4_add 53 = .ok (.iload 5, 2) := by decide +kernel
theorem dX4_add_55 : decode cX4_add 55 = .ok (.iload_n 2, 1) := by decide +kernel
theorem dX4_add_56 : decode cX4_add 56 = .ok (.iload_n 3, 1) := by decide +kernel
theorem dX4_add_57 : decode cX4_add 57 = .ok (.iload 4, 2) := by decide +kernel
theorem dX4_add_59 : decode cX4_add 59 = .ok (.invokevirtual 44, 3) := by decide +kernel
theorem dX4_add_62 : decode cX4_add 62 = .ok (.iastore, 1) := by decide +kernel
theorem dX4_add_63 : decode cX4_add 63 = .ok (.aload_n 0, 1) := by decide +kernel
theorem dX4_add_64 : decode cX4_add 64 = .ok (.getfield 28, 3) := by decide +kernel
theorem dX4_add_67 : decode cX4_add 67 = .ok (.iload 6, 2) := by decide +kernel
theorem dX4_add_69 : decode cX4_add 69 = .ok (.aload_n 0, 1) := by decide +kernel
theorem dX4_add_70 : decode cX4_add 70 = .ok (.iload 5, 2) := by decide +kernel
theorem dX4_add_72 : decode cX4_add 72 = .ok (.iload_n 2, 1) := by decide +kernel
theorem dX4_add_73 : decode cX4_add 73 = .ok (.iload_n 3, 1) := by decide +kernel
theorem dX4_add_74 : decode cX4_add 74 = .ok (.iload 4, 2) := by decide +kernel
theorem dX4_add_76 : decode cX4_add 76 = .ok (.invokevirtual 48, 3) := by decide +kernel
theorem dX4_add_79 : decode cX4_add 79 = .ok (.iastore, 1) := by decide +kernel
theorem dX4_add_80 : decode cX4_add 80 = .ok (.aload_n 0, 1) := by decide +kernel
theorem dX4_add_81 : decode cX4_add 81 = .ok (.getfield 22, 3) := by decide +kernel
theorem dX4_add_84 : decode cX4_add 84 = .ok (.iload 6, 2) := by decide +kernel
theorem dX4_add_86 : decode cX4_add 86 = .ok (.iload_n 1, 1) := by decide +kernel
theorem dX4_add_87 : decode cX4_add 87 = .ok (.iconst 2, 1) := by decide +kernel
theorem dX4_add_88 : decode cX4_add 88 = .ok (.if_icmp .ne 9, 3) := by decide +kernel
theorem dX4_add_91 : decode cX4_add 91 = .ok (.iload_n 2, 1) := by decide +kernel
theorem dX4_add_92 : decode cX4_add 92 = .ok (.iconst 1, 1) := by decide +kernel
theorem dX4_add_93 : decode cX4_add 93 = .ok (.iadd, 1) := by decide +kernel
theorem dX4_add_94 : decode cX4_add 94 = .ok (.goto 12, 3) := by decide +kernel
theorem dX4_add_97 : decode cX4_add 97 = .ok (.aload_n 0, 1) := by decide +kernel
theorem dX4_add_98 : decode cX4_add 98 = .ok (.iload_n 1, 1) := by decide +kernel
theorem dX4_add_99 : decode cX4_add 99 = .ok (.iload_n 2, 1) := by decide +kernel
theorem dX4_add_100 : decode cX4_add 100 = .ok (.iload_n 3, 1) := by decide +kernel
theorem dX4_add_101 : decode cX4_add 101 = .ok (.iload 4, 2) := by decide +kernel
theorem dX4_add_103 : decode cX4_add 103 = .ok (.invokevirtual 51, 3) := by decide +kernel
theorem dX4_add_106 : decode cX4_add 106 = .ok (.iastore, 1) := by decide +kernel
theorem dX4_add_107 : decode cX4_add 107 = .ok (.aload_n 0, 1) := by decide +kernel
theorem dX4_add_108 : decode cX4_add 108 = .ok (.dup, 1) := by decide +kernel
theorem dX4_add_109 : decode cX4_add 109 = .ok (.getfield 31, 3) := by decide +kernel
theorem dX4_add_112 : decode cX4_add 112 = .ok (.iconst 1, 1) := by decide +kernel
theorem dX4_add_113 : decode cX4_add 113 = .ok (.iadd, 1) := by decide +kernel
theorem dX4_add_114 : decode cX4_add 114 = .ok (.putfield 31, 3) := by decide +kernel
theorem dX4_add_117 : decode cX4_add 117 = .ok (.iload 6, 2) := by decide +kernel
theorem dX4_add_119 : decode cX4_add 119 = .ok (.ireturn, 1) := by decide +kernel
theorem dX4_heightOver_0 : decode cX4_heightOver 0 = .ok (.iload_n 1, 1) := by decide +kernel
theorem dX4_heightOver_1 : decode cX4_heightOver 1 = .ok (.iconst 1, 1) := by decide +kernel
theorem dX4_heightOver_2 : decode cX4_heightOver 2 = .ok (.if_icmp .lt 12, 3) := by decide +kernel
theorem dX4_heightOver_5 : decode cX4_heightOver 5 = .ok (.aload_n 0, 1) := by decide +kernel
theorem dX4_heightOver_6 : decode cX4_heightOver 6 = .ok (.getfield 25, 3) := by decide +kernel
theorem dX4_heightOver_9 : decode cX4_heightOver 9 = .ok (.iload_n 2, 1) := by decide +kernel
theorem dX4_heightOver_10 : decode cX4_heightOver 10 = .ok (.iaload, 1) := by decide +kernel
theorem dX4_heightOver_11 : decode cX4_heightOver 11 = .ok (.goto 4, 3) := by decide +kernel
theorem dX4_heightOver_14 : decode cX4_heightOver 14 = .ok (.iconst 0, 1) := by decide +kernel
theorem dX4_heightOver_15 : decode cX4_heightOver 15 = .ok (.istore 5, 2) := by decide +kernel
theorem dX4_heightOver_17 : decode cX4_heightOver 17 = .ok (.iload_n 1, 1) := by decide +kernel
theorem dX4_heightOver_18 : decode cX4_heightOver 18 = .ok (.iconst 2, 1) := by decide +kernel
theorem dX4_heightOver_19 : decode cX4_heightOver 19 = .ok (.if_icmp .lt 16, 3) := by decide +kernel
theorem dX4_heightOver_22 : decode cX4_heightOver 22 = .ok (.iload 5, 2) := by decide +kernel
theorem dX4_heightOver_24 : decode cX4_heightOver 24 = .ok (.aload_n 0, 1) := by decide +kernel
theorem dX4_heightOver_25 : decode cX4_heightOver 25 = .ok (.getfield 25, 3) := by decide +kernel
theorem dX4_heightOver_28 : decode cX4_heightOver 28 = .ok (.iload_n 3, 1) := by decide +kernel
theorem dX4_heightOver_29 : decode cX4_heightOver 29 = .ok (.iaload, 1) := by decide +kernel
theorem dX4_heightOver_30 : decode cX4_heightOver 30 = .ok (.invokestatic 54, 3) := by decide +kernel
theorem dX4_heightOver_33 : decode cX4_heightOver 33 = .ok (.istore 5, 2) := by decide +kernel
theorem dX4_heightOver_35 : decode cX4_heightOver 35 = .ok (.iload_n 1, 1) := by decide +kernel
theorem dX4_heightOver_36 : decode cX4_heightOver 36 = .ok (.iconst 3, 1) := by decide +kernel
theorem dX4_heightOver_37 : decode cX4_heightOver 37 = .ok (.if_icmp .lt 17, 3) := by decide +kernel
theorem dX4_heightOver_40 : decode cX4_heightOver 40 = .ok (.iload 5, 2) := by decide +kernel
theorem dX4_heightOver_42 : decode cX4_heightOver 42 = .ok (.aload_n 0, 1) := by decide +kernel
theorem dX4_heightOver_43 : decode cX4_heightOver 43 = .ok (.getfield 25, 3) := by decide +kernel
theorem dX4_heightOver_46 : decode cX4_heightOver 46 = .ok (.iload 4, 2) := by decide +kernel
theorem dX4_heightOver_48 : decode cX4_heightOver 48 = .ok (.iaload, 1) := by decide +kernel
theorem dX4_heightOver_49 : decode cX4_heightOver 49 = .ok (.invokestatic 54, 3) := by decide +kernel
theorem dX4_heightOver_52 : decode cX4_heightOver 52 = .ok (.istore 5, 2) := by decide +kernel
theorem dX4_heightOver_54 : decode cX4_heightOver 54 = .ok (.iload 5, 2) := by decide +kernel
theorem dX4_heightOver_56 : decode cX4_heightOver 56 = .ok (.iconst 1, 1) := by decide +kernel
theorem dX4_heightOver_57 : decode cX4_heightOver 57 = .ok (.iadd, 1) := by decide +kernel
theorem dX4_heightOver_58 : decode cX4_heightOver 58 = .ok (.ireturn, 1) := by decide +kernel
theorem dX4_sizeOver_0 : decode cX4_sizeOver 0 = .ok (.iload_n 1, 1) := by decide +kernel
theorem dX4_sizeOver_1 : decode cX4_sizeOver 1 = .ok (.iconst 1, 1) := by decide +kernel
theorem dX4_sizeOver_2 : decode cX4_sizeOver 2 = .ok (.if_icmp .lt 12, 3) := by decide +kernel
theorem dX4_sizeOver_5 : decode cX4_sizeOver 5 = .ok (.aload_n 0, 1) := by decide +kernel
theorem dX4_sizeOver_6 : decode cX4_sizeOver 6 = .ok (.getfield 28, 3) := by decide +kernel
theorem dX4_sizeOver_9 : decode cX4_sizeOver 9 = .ok (.iload_n 2, 1) := by decide +kernel
theorem dX4_sizeOver_10 : decode cX4_sizeOver 10 = .ok (.iaload, 1) := by decide +kernel
theorem dX4_sizeOver_11 : decode cX4_sizeOver 11 = .ok (.goto 4, 3) := by decide +kernel
theorem dX4_sizeOver_14 : decode cX4_sizeOver 14 = .ok (.iconst 0, 1) := by decide +kernel
theorem dX4_sizeOver_15 : decode cX4_sizeOver 15 = .ok (.istore 5, 2) := by decide +kernel
theorem dX4_sizeOver_17 : decode cX4_sizeOver 17 = .ok (.iload_n 1, 1) := by decide +kernel
theorem dX4_sizeOver_18 : decode cX4_sizeOver 18 = .ok (.iconst 2, 1) := by decide +kernel
theorem dX4_sizeOver_19 : decode cX4_sizeOver 19 = .ok (.if_icmp .lt 14, 3) := by decide +kernel
theorem dX4_sizeOver_22 : decode cX4_sizeOver 22 = .ok (.iload 5, 2) := by decide +kernel
theorem dX4_sizeOver_24 : decode cX4_sizeOver 24 = .ok (.aload_n 0, 1) := by decide +kernel
theorem dX4_sizeOver_25 : decode cX4_sizeOver 25 = .ok (.getfield 28, 3) := by decide +kernel
theorem dX4_sizeOver_28 : decode cX4_sizeOver 28 = .ok (.iload_n 3, 1) := by decide +kernel
theorem dX4_sizeOver_29 : decode cX4_sizeOver 29 = .ok (.iaload, 1) := by decide +kernel
theorem dX4_sizeOver_30 : decode cX4_sizeOver 30 = .ok (.iadd, 1) := by decide +kernel
theorem dX4_sizeOver_31 : decode cX4_sizeOver 31 = .ok (.istore 5, 2) := by decide +kernel
theorem dX4_sizeOver_33 : decode cX4_sizeOver 33 = .ok (.iload_n 1, 1) := by decide +kernel
theorem dX4_sizeOver_34 : decode cX4_sizeOver 34 = .ok (.iconst 3, 1) := by decide +kernel
theorem dX4_sizeOver_35 : decode cX4_sizeOver 35 = .ok (.if_icmp .lt 15, 3) := by decide +kernel
theorem dX4_sizeOver_38 : decode cX4_sizeOver 38 = .ok (.iload 5, 2) := by decide +kernel
theorem dX4_sizeOver_40 : decode cX4_sizeOver 40 = .ok (.aload_n 0, 1) := by decide +kernel
theorem dX4_sizeOver_41 : decode cX4_sizeOver 41 = .ok (.getfield 28, 3) := by decide +kernel
theorem dX4_sizeOver_44 : decode cX4_sizeOver 44 = .ok (.iload 4, 2) := by decide +kernel
theorem dX4_sizeOver_46 : decode cX4_sizeOver 46 = .ok (.iaload, 1) := by decide +kernel
theorem dX4_sizeOver_47 : decode cX4_sizeOver 47 = .ok (.iadd, 1) := by decide +kernel
theorem dX4_sizeOver_48 : decode cX4_sizeOver 48 = .ok (.istore 5, 2) := by decide +kernel
theorem dX4_sizeOver_50 : decode cX4_sizeOver 50 = .ok (.iload 5, 2) := by decide +kernel
theorem dX4_sizeOver_52 : decode cX4_sizeOver 52 = .ok (.iconst 1, 1) := by decide +kernel
theorem dX4_sizeOver_53 : decode cX4_sizeOver 53 = .ok (.iadd, 1) := by decide +kernel
theorem dX4_sizeOver_54 : decode cX4_sizeOver 54 = .ok (.ireturn, 1) := by decide +kernel
theorem dX4_neededOver_0 : decode cX4_neededOver 0 = .ok (.getstatic 60, 3) := by decide +kernel
theorem dX4_neededOver_3 : decode cX4_neededOver 3 = .ok (.iload_n 1, 1) := by decide +kernel
theorem dX4_neededOver_4 : decode cX4_neededOver 4 = .ok (.iaload, 1) := by decide +kernel
theorem dX4_neededOver_5 : decode cX4_neededOver 5 = .ok (.istore 5, 2) := by decide +kernel
theorem dX4_neededOver_7 : decode cX4_neededOver 7 = .ok (.getstatic 39, 3) := by decide +kernel
theorem dX4_neededOver_10 : decode cX4_neededOver 10 = .ok (.iload_n 1, 1) := by decide +kernel
theorem dX4_neededOver_11 : decode cX4_neededOver 11 = .ok (.iaload, 1) := by decide +kernel
theorem dX4_neededOver_12 : decode cX4_neededOver 12 = .ok (.tableswitch 87 1 3 #[28, 42, 61], 28) := by decide +kernel
theorem dX4_neededOver_40 : decode cX4_neededOver 40 = .ok (.iconst 0, 1) := by decide +kernel
theorem dX4_neededOver_41 : decode cX4_neededOver 41 = .ok (.aload_n 0, 1) := by decide +kernel
theorem dX4_neededOver_42 : decode cX4_neededOver 42 = .ok (.getfield 22, 3) := by decide +kernel
theorem dX4_neededOver_45 : decode cX4_neededOver 45 = .ok (.iload_n 2, 1) := by decide +kernel
theorem dX4_neededOver_46 : decode cX4_neededOver 46 = .ok (.iaload, 1) := by decide +kernel
theorem dX4_neededOver_47 : decode cX4_neededOver 47 = .ok (.iload 5, 2) := by decide +kernel
theorem dX4_neededOver_49 : decode cX4_neededOver 49 = .ok (.isub, 1) := by decide +kernel
theorem dX4_neededOver_50 : decode cX4_neededOver 50 = .ok (.invokestatic 54, 3) := by decide +kernel
theorem dX4_neededOver_53 : decode cX4_neededOver 53 = .ok (.ireturn, 1) := by decide +kernel
theorem dX4_neededOver_54 : decode cX4_neededOver 54 = .ok (.aload_n 0, 1) := by decide +kernel
theorem dX4_neededOver_55 : decode cX4_neededOver 55 = .ok (.getfield 22, 3) := by decide +kernel
theorem dX4_neededOver_58 : decode cX4_neededOver 58 = .ok (.iload_n 2, 1) := by decide +kernel
theorem dX4_neededOver_59 : decode cX4_neededOver 59 = .ok (.iaload, 1) := by decide +kernel
theorem dX4_neededOver_60 : decode cX4_neededOver 60 = .ok (.aload_n 0, 1) := by decide +kernel
theorem dX4_neededOver_61 : decode cX4_neededOver 61 = .ok (.getfield 22, 3) := by decide +kernel
theorem dX4_neededOver_64 : decode cX4_neededOver 64 = .ok (.iload_n 3, 1) := by decide +kernel
theorem dX4_neededOver_65 : decode cX4_neededOver 65 = .ok (.iaload, 1) := by decide +kernel
theorem dX4_neededOver_66 : decode cX4_neededOver 66 = .ok (.iload 5, 2) := by decide +kernel
theorem dX4_neededOver_68 : decode cX4_neededOver 68 = .ok (.isub, 1) := by decide +kernel
theorem dX4_neededOver_69 : decode cX4_neededOver 69 = .ok (.invokestatic 54, 3) := by decide +kernel
theorem dX4_neededOver_72 : decode cX4_neededOver 72 = .ok (.ireturn, 1) := by decide +kernel
theorem dX4_neededOver_73 : decode cX4_neededOver 73 = .ok (.aload_n 0, 1) := by decide +kernel
theorem dX4_neededOver_74 : decode cX4_neededOver 74 = .ok (.getfield 22, 3) := by decide +kernel
theorem dX4_neededOver_77 : decode cX4_neededOver 77 = .ok (.iload_n 2, 1) := by decide +kernel
theorem dX4_neededOver_78 : decode cX4_neededOver 78 = .ok (.iaload, 1) := by decide +kernel
theorem dX4_neededOver_79 : decode cX4_neededOver 79 = .ok (.aload_n 0, 1) := by decide +kernel
theorem dX4_neededOver_80 : decode cX4_neededOver 80 = .ok (.getfield 22, 3) := by decide +kernel
theorem dX4_neededOver_83 : decode cX4_neededOver 83 = .ok (.iload_n 3, 1) := by decide +kernel
theorem dX4_neededOver_84 : decode cX4_neededOver 84 = .ok (.iaload, 1) := by decide +kernel
theorem dX4_neededOver_85 : decode cX4_neededOver 85 = .ok (.aload_n 0, 1) := by decide +kernel
theorem dX4_neededOver_86 : decode cX4_neededOver 86 = .ok (.getfield 22, 3) := by decide +kernel
theorem dX4_neededOver_89 : decode cX4_neededOver 89 = .ok (.iload 4, 2) := by decide +kernel
theorem dX4_neededOver_91 : decode cX4_neededOver 91 = .ok (.iaload, 1) := by decide +kernel
theorem dX4_neededOver_92 : decode cX4_neededOver 92 = .ok (.invokestatic 54, 3) := by decide +kernel
theorem dX4_neededOver_95 : decode cX4_neededOver 95 = .ok (.invokestatic 54, 3) := by decide +kernel
theorem dX4_neededOver_98 : decode cX4_neededOver 98 = .ok (.ireturn, 1) := by decide +kernel
theorem dX4_neededOver_99 : decode cX4_neededOver 99 = .ok (.iconst 0, 1) := by decide +kernel
theorem dX4_neededOver_100 : decode cX4_neededOver 100 = .ok (.ireturn, 1) := by decide +kernel
theorem dX5_init_0 : decode cX5_init 0 = .ok (.aload_n 0, 1) := by decide +kernel
theorem dX5_init_1 : decode cX5_init 1 = .ok (.invokespecial 7, 3) := by decide +kernel
theorem dX5_init_4 : decode cX5_init 4 = .ok (.aload_n 0, 1) := by decide +kernel
theorem dX5_init_5 : decode cX5_init 5 = .ok (.sipush 604, 3) := by decide +kernel
theorem dX5_init_8 : decode cX5_init 8 = .ok (.newarray .int, 2) := by decide +kernel
theorem dX5_init_10 : decode cX5_init 10 = .ok (.putfield 13, 3) := by decide +kernel
theorem dX5_init_13 : decode cX5_init 13 = .ok (.aload_n 0, 1) := by decide +kernel
theorem dX5_init_14 : decode cX5_init 14 = .ok (.sipush 604, 3) := by decide +kernel
theorem dX5_init_17 : decode cX5_init 17 = .ok (.newarray .int, 2) := by decide +kernel
theorem dX5_init_19 : decode cX5_init 19 = .ok (.putfield 17, 3) := by decide +kernel
theorem dX5_init_22 : decode cX5_init 22 = .ok (.aload_n 0, 1) := by decide +kernel
theorem dX5_init_23 : decode cX5_init 23 = .ok (.sipush 2416, 3) := by decide +kernel
theorem dX5_init_26 : decode cX5_init 26 = .ok (.newarray .int, 2) := by decide +kernel
theorem dX5_init_28 : decode cX5_init 28 = .ok (.putfield 20, 3) := by decide +kernel
theorem dX5_init_31 : decode cX5_init 31 = .ok (.aload_n 0, 1) := by decide +kernel
theorem dX5_init_32 : decode cX5_init 32 = .ok (.sipush 962, 3) := by decide +kernel
theorem dX5_init_35 : decode cX5_init 35 = .ok (.newarray .int, 2) := by decide +kernel
theorem dX5_init_37 : decode cX5_init 37 = .ok (.putfield 23, 3) := by decide +kernel
theorem dX5_init_40 : decode cX5_init 40 = .ok (.aload_n 0, 1) := by decide +kernel
theorem dX5_init_41 : decode cX5_init 41 = .ok (.sipush 604, 3) := by decide +kernel
theorem dX5_init_44 : decode cX5_init 44 = .ok (.newarray .int, 2) := by decide +kernel
theorem dX5_init_46 : decode cX5_init 46 = .ok (.putfield 26, 3) := by decide +kernel
theorem dX5_init_49 : decode cX5_init 49 = .ok (.aload_n 0, 1) := by decide +kernel
theorem dX5_init_50 : decode cX5_init 50 = .ok (.sipush 604, 3) := by decide +kernel
theorem dX5_init_53 : decode cX5_init 53 = .ok (.newarray .int, 2) := by decide +kernel
theorem dX5_init_55 : decode cX5_init 55 = .ok (.putfield 29, 3) := by decide +kernel
theorem dX5_init_58 : decode cX5_init 58 = .ok (.aload_n 0, 1) := by decide +kernel
theorem dX5_init_59 : decode cX5_init 59 = .ok (.sipush 604, 3) := by decide +kernel
theorem dX5_init_62 : decode cX5_init 62 = .ok (.newarray .int, 2) := by decide +kernel
theorem dX5_init_64 : decode cX5_init 64 = .ok (.putfield 32, 3) := by decide +kernel
theorem dX5_init_67 : decode cX5_init 67 = .ok (.return_, 1) := by decide +kernel
theorem dX5_clear_0 : decode cX5_clear 0 = .ok (.aload_n 0, 1) := by decide +kernel
theorem dX5_clear_1 : decode cX5_clear 1 = .ok (.iconst 0, 1) := by decide +kernel
theorem dX5_clear_2 : decode cX5_clear 2 = .ok (.putfield 35, 3) := by decide +kernel
theorem dX5_clear_5 : decode cX5_clear 5 = .ok (.aload_n 0, 1) := by decide +kernel
theorem dX5_clear_6 : decode cX5_clear 6 = .ok (.iconst 0, 1) := by decide +kernel
theorem dX5_clear_7 : decode cX5_clear 7 = .ok (.invokevirtual 39, 3) := by decide +kernel
theorem dX5_clear_10 : decode cX5_clear 10 = .ok (.pop, 1) := by decide +kernel
theorem dX5_clear_11 : decode cX5_clear 11 = .ok (.aload_n 0, 1) := by decide +kernel
theorem dX5_clear_12 : decode cX5_clear 12 = .ok (.iconst 1, 1) := by decide +kernel
theorem dX5_clear_13 : decode cX5_clear 13 = .ok (.invokevirtual 39, 3) := by decide +kernel
theorem dX5_clear_16 : decode cX5_clear 16 = .ok (.pop, 1) := by decide +kernel
theorem dX5_clear_17 : decode cX5_clear 17 = .ok (.return_, 1) := by decide +kernel
theorem dX5_letter_0 : decode cX5_letter 0 = .ok (.aload_n 0, 1) := by decide +kernel
theorem dX5_letter_1 : decode cX5_letter 1 = .ok (.iconst 3, 1) := by decide +kernel
theorem dX5_letter_2 : decode cX5_letter 2 = .ok (.invokevirtual 39, 3) := by decide +kernel
theorem dX5_letter_5 : decode cX5_letter 5 = .ok (.ireturn, 1) := by decide +kernel
theorem dX5_function_0 : decode cX5_function 0 = .ok (.aload_n 0, 1) := by decide +kernel
theorem dX5_function_1 : decode cX5_function 1 = .ok (.iconst 2, 1) := by decide +kernel
theorem dX5_function_2 : decode cX5_function 2 = .ok (.invokevirtual 39, 3) := by decide +kernel
theorem dX5_function_5 : decode cX5_function 5 = .ok (.istore 5, 2) := by decide +kernel
theorem dX5_function_7 : decode cX5_function 7 = .ok (.aload_n 0, 1) := by decide +kernel
theorem dX5_function_8 : decode cX5_function 8 = .ok (.getfield 20, 3) := by decide +kernel
theorem dX5_function_11 : decode cX5_function 11 = .ok (.iconst 4, 1) := by decide +kernel
theorem dX5_function_12 : decode cX5_function 12 = .ok (.iload 5, 2) := by decide +kernel
theorem dX5_function_14 : decode cX5_function 14 = .ok (.imul, 1) := by decide +kernel
theorem dX5_function_15 : decode cX5_function 15 = .ok (.iload_n 1, 1) := by decide +kernel
theorem dX5_function_16 : decode cX5_function 16 = .ok (.iastore, 1) := by decide +kernel
theorem dX5_function_17 : decode cX5_function 17 = .ok (.aload_n 0, 1) := by decide +kernel
theorem dX5_function_18 : decode cX5_function 18 = .ok (.getfield 20, 3) := by decide +kernel
theorem dX5_function_21 : decode cX5_function 21 = .ok (.iconst 4, 1) := by decide +kernel
theorem dX5_function_22 : decode cX5_function 22 = .ok (.iload 5, 2) := by decide +kernel
theorem dX5_function_24 : decode cX5_function 24 = .ok (.imul, 1) := by decide +kernel
theorem dX5_function_25 : decode cX5_function 25 = .ok (.iconst 1, 1) := by decide +kernel
theorem dX5_function_26 : decode cX5_function 26 = .ok (.iadd, 1) := by decide +kernel
theorem dX5_function_27 : decode cX5_function 27 = .ok (.iload_n 2, 1) := by decide +kernel
theorem dX5_function_28 : decode cX5_function 28 = .ok (.iastore, 1) := by decide +kernel
theorem dX5_function_29 : decode cX5_function 29 = .ok (.aload_n 0, 1) := by decide +kernel
theorem dX5_function_30 : decode cX5_function 30 = .ok (.getfield 20, 3) := by decide +kernel
theorem dX5_function_33 : decode cX5_function 33 = .ok (.iconst 4, 1) := by decide +kernel
theorem dX5_function_34 : decode cX5_function 34 = .ok (.iload 5, 2) := by decide +kernel
theorem dX5_function_36 : decode cX5_function 36 = .ok (.imul, 1) := by decide +kernel
theorem dX5_function_37 : decode cX5_function 37 = .ok (.iconst 2, 1) := by decide +kernel
theorem dX5_function_38 : decode cX5_function 38 = .ok (.iadd, 1) := by decide +kernel
theorem dX5_function_39 : decode cX5_function 39 = .ok (.iload_n 3, 1) := by decide +kernel
theorem dX5_function_40 : decode cX5_function 40 = .ok (.iastore, 1) := by decide +kernel
theorem dX5_function_41 : decode cX5_function 41 = .ok (.aload_n 0, 1) := by decide +kernel
theorem dX5_function_42 : decode cX5_function 42 = .ok (.getfield 20, 3) := by decide +kernel
theorem dX5_function_45 : decode cX5_function 45 = .ok (.iconst 4, 1) := by decide +kernel
theorem dX5_function_46 : decode cX5_function 46 = .ok (.iload 5, 2) := by decide +kernel
theorem dX5_function_48 : decode cX5_function 48 = .ok (.imul, 1) := by decide +kernel
theorem dX5_function_49 : decode cX5_function 49 = .ok (.iconst 3, 1) := by decide +kernel
theorem dX5_function_50 : decode cX5_function 50 = .ok (.iadd, 1) := by decide +kernel
theorem dX5_function_51 : decode cX5_function 51 = .ok (.iload 4, 2) := by decide +kernel
theorem dX5_function_53 : decode cX5_function 53 = .ok (.iastore, 1) := by decide +kernel
theorem dX5_function_54 : decode cX5_function 54 = .ok (.iload 5, 2) := by decide +kernel
theorem dX5_function_56 : decode cX5_function 56 = .ok (.ireturn, 1) := by decide +kernel
theorem dX5_chosen_0 : decode cX5_chosen 0 = .ok (.iload_n 1, 1) := by decide +kernel
theorem dX5_chosen_1 : decode cX5_chosen 1 = .ok (.istore_n 2, 1) := by decide +kernel
theorem dX5_chosen_2 : decode cX5_chosen 2 = .ok (.iconst 0, 1) := by decide +kernel
theorem dX5_chosen_3 : decode cX5_chosen 3 = .ok (.istore_n 3, 1) := by decide +kernel
theorem dX5_chosen_4 : decode cX5_chosen 4 = .ok (.iload_n 3, 1) := by decide +kernel
theorem dX5_chosen_5 : decode cX5_chosen 5 = .ok (.aload_n 0, 1) := by decide +kernel
theorem dX5_chosen_6 : decode cX5_chosen 6 = .ok (.getfield 35, 3) := by decide +kernel
theorem dX5_chosen_9 : decode cX5_chosen 9 = .ok (.if_icmp .ge 43, 3) := by decide +kernel
theorem dX5_chosen_12 : decode cX5_chosen 12 = .ok (.aload_n 0, 1) := by decide +kernel
theorem dX5_chosen_13 : decode cX5_chosen 13 = .ok (.getfield 17, 3) := by decide +kernel
theorem dX5_chosen_16 : decode cX5_chosen 16 = .ok (.iload_n 2, 1) := by decide +kernel
theorem dX5_chosen_17 : decode cX5_chosen 17 = .ok (.iaload, 1) := by decide +kernel
theorem dX5_chosen_18 : decode cX5_chosen 18 = .ok (.iload_n 2, 1) := by decide +kernel
theorem dX5_chosen_19 : decode cX5_chosen 19 = .ok (.if_icmp .eq 33, 3) := by decide +kernel
theorem dX5_chosen_22 : decode cX5_chosen 22 = .ok (.aload_n 0, 1) := by decide +kernel
theorem dX5_chosen_23 : decode cX5_chosen 23 = .ok (.getfield 17, 3) := by decide +kernel
theorem dX5_chosen_26 : decode cX5_chosen 26 = .ok (.iload_n 2, 1) := by decide +kernel
theorem dX5_chosen_27 : decode cX5_chosen 27 = .ok (.aload_n 0, 1) := by decide +kernel
theorem dX5_chosen_28 : decode cX5_chosen 28 = .ok (.getfield 17, 3) := by decide +kernel
theorem dX5_chosen_31 : decode cX5_chosen 31 = .ok (.aload_n 0, 1) := by decide +kernel
theorem dX5_chosen_32 : decode cX5_chosen 32 = .ok (.getfield 17, 3) := by decide +kernel
theorem dX5_chosen_35 : decode cX5_chosen 35 = .ok (.iload_n 2, 1) := by decide +kernel
theorem dX5_chosen_36 : decode cX5_chosen 36 = .ok (.iaload, 1) := by decide +kernel
theorem dX5_chosen_37 : decode cX5_chosen 37 = .ok (.iaload, 1) := by decide +kernel
theorem dX5_chosen_38 : decode cX5_chosen 38 = .ok (.iastore, 1) := by decide +kernel
theorem dX5_chosen_39 : decode cX5_chosen 39 = .ok (.aload_n 0, 1) := by decide +kernel
theorem dX5_chosen_40 : decode cX5_chosen 40 = .ok (.getfield 17, 3) := by decide +kernel
theorem dX5_chosen_43 : decode cX5_chosen 43 = .ok (.iload_n 2, 1) := by decide +kernel
theorem dX5_chosen_44 : decode cX5_chosen 44 = .ok (.iaload, 1) := by decide +kernel
theorem dX5_chosen_45 : decode cX5_chosen 45 = .ok (.istore_n 2, 1) := by decide +kernel
