theorem dX5_chosen_46 : decode cX5_chosen 46 = .ok (.iinc 3 1, 3) := by decide +kernel
theorem dX5_chosen_49 : decode cX5_chosen 49 = .ok (.goto (-45), 3) := by decide +kernel
theorem dX5_chosen_52 : decode cX5_chosen 52 = .ok (.iload_n 2, 1) := by decide +kernel
theorem dX5_chosen_53 : decode cX5_chosen 53 = .ok (.ireturn, 1) := by decide +kernel
theorem dX5_chosenPart_0 : decode cX5_chosenPart 0 = .ok (.aload_n 0, 1) := by decide +kernel
theorem dX5_chosenPart_1 : decode cX5_chosenPart 1 = .ok (.aload_n 0, 1) := by decide +kernel
theorem dX5_chosenPart_2 : decode cX5_chosenPart 2 = .ok (.getfield 20, 3) := by decide +kernel
theorem dX5_chosenPart_5 : decode cX5_chosenPart 5 = .ok (.iconst 4, 1) := by decide +kernel
theorem dX5_chosenPart_6 : decode cX5_chosenPart 6 = .ok (.iload_n 1, 1) := by decide +kernel
theorem dX5_chosenPart_7 : decode cX5_chosenPart 7 = .ok (.imul, 1) := by decide +kernel
theorem dX5_chosenPart_8 : decode cX5_chosenPart 8 = .ok (.iload_n 2, 1) := by decide +kernel
theorem dX5_chosenPart_9 : decode cX5_chosenPart 9 = .ok (.iadd, 1) := by decide +kernel
theorem dX5_chosenPart_10 : decode cX5_chosenPart 10 = .ok (.iaload, 1) := by decide +kernel
theorem dX5_chosenPart_11 : decode cX5_chosenPart 11 = .ok (.invokevirtual 43, 3) := by decide +kernel
theorem dX5_chosenPart_14 : decode cX5_chosenPart 14 = .ok (.ireturn, 1) := by decide +kernel
theorem dX5_makeSame_0 : decode cX5_makeSame 0 = .ok (.aload_n 0, 1) := by decide +kernel
theorem dX5_makeSame_1 : decode cX5_makeSame 1 = .ok (.iconst 0, 1) := by decide +kernel
theorem dX5_makeSame_2 : decode cX5_makeSame 2 = .ok (.putfield 46, 3) := by decide +kernel
theorem dX5_makeSame_5 : decode cX5_makeSame 5 = .ok (.aload_n 0, 1) := by decide +kernel
theorem dX5_makeSame_6 : decode cX5_makeSame 6 = .ok (.iload_n 1, 1) := by decide +kernel
theorem dX5_makeSame_7 : decode cX5_makeSame 7 = .ok (.iload_n 2, 1) := by decide +kernel
theorem dX5_makeSame_8 : decode cX5_makeSame 8 = .ok (.invokevirtual 49, 3) := by decide +kernel
theorem dX5_makeSame_11 : decode cX5_makeSame 11 = .ok (.iconst 0, 1) := by decide +kernel
theorem dX5_makeSame_12 : decode cX5_makeSame 12 = .ok (.istore_n 3, 1) := by decide +kernel
theorem dX5_makeSame_13 : decode cX5_makeSame 13 = .ok (.iload_n 3, 1) := by decide +kernel
theorem dX5_makeSame_14 : decode cX5_makeSame 14 = .ok (.sipush 481, 3) := by decide +kernel
theorem dX5_makeSame_17 : decode cX5_makeSame 17 = .ok (.if_icmp .ge 82, 3) := by decide +kernel
theorem dX5_makeSame_20 : decode cX5_makeSame 20 = .ok (.aload_n 0, 1) := by decide +kernel
theorem dX5_makeSame_21 : decode cX5_makeSame 21 = .ok (.getfield 46, 3) := by decide +kernel
theorem dX5_makeSame_24 : decode cX5_makeSame 24 = .ok (.ifCond .le 75, 3) := by decide +kernel
theorem dX5_makeSame_27 : decode cX5_makeSame 27 = .ok (.aload_n 0, 1) := by decide +kernel
theorem dX5_makeSame_28 : decode cX5_makeSame 28 = .ok (.dup, 1) := by decide +kernel
theorem dX5_makeSame_29 : decode cX5_makeSame 29 = .ok (.getfield 46, 3) := by decide +kernel
theorem dX5_makeSame_32 : decode cX5_makeSame 32 = .ok (.iconst 1, 1) := by decide +kernel
theorem dX5_makeSame_33 : decode cX5_makeSame 33 = .ok (.isub, 1) := by decide +kernel
theorem dX5_makeSame_34 : decode cX5_makeSame 34 = .ok (.putfield 46, 3) := by decide +kernel
theorem dX5_makeSame_37 : decode cX5_makeSame 37 = .ok (.aload_n 0, 1) := by decide +kernel
theorem dX5_makeSame_38 : decode cX5_makeSame 38 = .ok (.aload_n 0, 1) := by decide +kernel
theorem dX5_makeSame_39 : decode cX5_makeSame 39 = .ok (.getfield 23, 3) := by decide +kernel
theorem dX5_makeSame_42 : decode cX5_makeSame 42 = .ok (.iconst 2, 1) := by decide +kernel
theorem dX5_makeSame_43 : decode cX5_makeSame 43 = .ok (.aload_n 0, 1) := by decide +kernel
theorem dX5_makeSame_44 : decode cX5_makeSame 44 = .ok (.getfield 46, 3) := by decide +kernel
theorem dX5_makeSame_47 : decode cX5_makeSame 47 = .ok (.imul, 1) := by decide +kernel
theorem dX5_makeSame_48 : decode cX5_makeSame 48 = .ok (.iaload, 1) := by decide +kernel
theorem dX5_makeSame_49 : decode cX5_makeSame 49 = .ok (.invokevirtual 43, 3) := by decide +kernel
theorem dX5_makeSame_52 : decode cX5_makeSame 52 = .ok (.istore 4, 2) := by decide +kernel
theorem dX5_makeSame_54 : decode cX5_makeSame 54 = .ok (.aload_n 0, 1) := by decide +kernel
theorem dX5_makeSame_55 : decode cX5_makeSame 55 = .ok (.aload_n 0, 1) := by decide +kernel
theorem dX5_makeSame_56 : decode cX5_makeSame 56 = .ok (.getfield 23, 3) := by decide +kernel
theorem dX5_makeSame_59 : decode cX5_makeSame 59 = .ok (.iconst 2, 1) := by decide +kernel
theorem dX5_makeSame_60 : decode cX5_makeSame 60 = .ok (.aload_n 0, 1) := by decide +kernel
theorem dX5_makeSame_61 : decode cX5_makeSame 61 = .ok (.getfield 46, 3) := by decide +kernel
theorem dX5_makeSame_64 : decode cX5_makeSame 64 = .ok (.imul, 1) := by decide +kernel
theorem dX5_makeSame_65 : decode cX5_makeSame 65 = .ok (.iconst 1, 1) := by decide +kernel
theorem dX5_makeSame_66 : decode cX5_makeSame 66 = .ok (.iadd, 1) := by decide +kernel
theorem dX5_makeSame_67 : decode cX5_makeSame 67 = .ok (.iaload, 1) := by decide +kernel
theorem dX5_makeSame_68 : decode cX5_makeSame 68 = .ok (.invokevirtual 43, 3) := by decide +kernel
theorem dX5_makeSame_71 : decode cX5_makeSame 71 = .ok (.istore 5, 2) := by decide +kernel
theorem dX5_makeSame_73 : decode cX5_makeSame 73 = .ok (.iload 4, 2) := by decide +kernel
theorem dX5_makeSame_75 : decode cX5_makeSame 75 = .ok (.iload 5, 2) := by decide +kernel
theorem dX5_makeSame_77 : decode cX5_makeSame 77 = .ok (.if_icmp .eq 16, 3) := by decide +kernel
theorem dX5_makeSame_80 : decode cX5_makeSame 80 = .ok (.aload_n 0, 1) := by decide +kernel
theorem dX5_makeSame_81 : decode cX5_makeSame 81 = .ok (.iload 4, 2) := by decide +kernel
theorem dX5_makeSame_83 : decode cX5_makeSame 83 = .ok (.iload 5, 2) := by decide +kernel
theorem dX5_makeSame_85 : decode cX5_makeSame 85 = .ok (.invokevirtual 53, 3) := by decide +kernel
theorem dX5_makeSame_88 : decode cX5_makeSame 88 = .ok (.ifCond .ne 5, 3) := by decide +kernel
theorem dX5_makeSame_91 : decode cX5_makeSame 91 = .ok (.iconst 0, 1) := by decide +kernel
theorem dX5_makeSame_92 : decode cX5_makeSame 92 = .ok (.ireturn, 1) := by decide +kernel
theorem dX5_makeSame_93 : decode cX5_makeSame 93 = .ok (.iinc 3 1, 3) := by decide +kernel
theorem dX5_makeSame_96 : decode cX5_makeSame 96 = .ok (.goto (-83), 3) := by decide +kernel
theorem dX5_makeSame_99 : decode cX5_makeSame 99 = .ok (.iconst 1, 1) := by decide +kernel
theorem dX5_makeSame_100 : decode cX5_makeSame 100 = .ok (.ireturn, 1) := by decide +kernel
theorem dX5_noneContainsItself_0 : decode cX5_noneContainsItself 0 = .ok (.iconst 0, 1) := by decide +kernel
theorem dX5_noneContainsItself_1 : decode cX5_noneContainsItself 1 = .ok (.istore_n 1, 1) := by decide +kernel
theorem dX5_noneContainsItself_2 : decode cX5_noneContainsItself 2 = .ok (.iload_n 1, 1) := by decide +kernel
theorem dX5_noneContainsItself_3 : decode cX5_noneContainsItself 3 = .ok (.aload_n 0, 1) := by decide +kernel
theorem dX5_noneContainsItself_4 : decode cX5_noneContainsItself 4 = .ok (.getfield 35, 3) := by decide +kernel
theorem dX5_noneContainsItself_7 : decode cX5_noneContainsItself 7 = .ok (.if_icmp .ge 44, 3) := by decide +kernel
theorem dX5_noneContainsItself_10 : decode cX5_noneContainsItself 10 = .ok (.aload_n 0, 1) := by decide +kernel
theorem dX5_noneContainsItself_11 : decode cX5_noneContainsItself 11 = .ok (.iload_n 1, 1) := by decide +kernel
theorem dX5_noneContainsItself_12 : decode cX5_noneContainsItself 12 = .ok (.invokevirtual 43, 3) := by decide +kernel
theorem dX5_noneContainsItself_15 : decode cX5_noneContainsItself 15 = .ok (.istore_n 2, 1) := by decide +kernel
theorem dX5_noneContainsItself_16 : decode cX5_noneContainsItself 16 = .ok (.aload_n 0, 1) := by decide +kernel
theorem dX5_noneContainsItself_17 : decode cX5_noneContainsItself 17 = .ok (.getfield 13, 3) := by decide +kernel
theorem dX5_noneContainsItself_20 : decode cX5_noneContainsItself 20 = .ok (.iload_n 2, 1) := by decide +kernel
theorem dX5_noneContainsItself_21 : decode cX5_noneContainsItself 21 = .ok (.iaload, 1) := by decide +kernel
theorem dX5_noneContainsItself_22 : decode cX5_noneContainsItself 22 = .ok (.iconst 2, 1) := by decide +kernel
theorem dX5_noneContainsItself_23 : decode cX5_noneContainsItself 23 = .ok (.if_icmp .ne 22, 3) := by decide +kernel
theorem dX5_noneContainsItself_26 : decode cX5_noneContainsItself 26 = .ok (.aload_n 0, 1) := by decide +kernel
theorem dX5_noneContainsItself_27 : decode cX5_noneContainsItself 27 = .ok (.getfield 26, 3) := by decide +kernel
theorem dX5_noneContainsItself_30 : decode cX5_noneContainsItself 30 = .ok (.iload_n 2, 1) := by decide +kernel
theorem dX5_noneContainsItself_31 : decode cX5_noneContainsItself 31 = .ok (.iaload, 1) := by decide +kernel
theorem dX5_noneContainsItself_32 : decode cX5_noneContainsItself 32 = .ok (.ifCond .ne 13, 3) := by decide +kernel
theorem dX5_noneContainsItself_35 : decode cX5_noneContainsItself 35 = .ok (.aload_n 0, 1) := by decide +kernel
theorem dX5_noneContainsItself_36 : decode cX5_noneContainsItself 36 = .ok (.iload_n 2, 1) := by decide +kernel
theorem dX5_noneContainsItself_37 : decode cX5_noneContainsItself 37 = .ok (.invokevirtual 57, 3) := by decide +kernel
theorem dX5_noneContainsItself_40 : decode cX5_noneContainsItself 40 = .ok (.ifCond .ne 5, 3) := by decide +kernel
theorem dX5_noneContainsItself_43 : decode cX5_noneContainsItself 43 = .ok (.iconst 0, 1) := by decide +kernel
theorem dX5_noneContainsItself_44 : decode cX5_noneContainsItself 44 = .ok (.ireturn, 1) := by decide +kernel
theorem dX5_noneContainsItself_45 : decode cX5_noneContainsItself 45 = .ok (.iinc 1 1, 3) := by decide +kernel
theorem dX5_noneContainsItself_48 : decode cX5_noneContainsItself 48 = .ok (.goto (-46), 3) := by decide +kernel
theorem dX5_noneContainsItself_51 : decode cX5_noneContainsItself 51 = .ok (.iconst 1, 1) := by decide +kernel
theorem dX5_noneContainsItself_52 : decode cX5_noneContainsItself 52 = .ok (.ireturn, 1) := by decide +kernel
theorem dX5_addNode_0 : decode cX5_addNode 0 = .ok (.aload_n 0, 1) := by decide +kernel
theorem dX5_addNode_1 : decode cX5_addNode 1 = .ok (.getfield 13, 3) := by decide +kernel
theorem dX5_addNode_4 : decode cX5_addNode 4 = .ok (.aload_n 0, 1) := by decide +kernel
theorem dX5_addNode_5 : decode cX5_addNode 5 = .ok (.getfield 35, 3) := by decide +kernel
theorem dX5_addNode_8 : decode cX5_addNode 8 = .ok (.iload_n 1, 1) := by decide +kernel
theorem dX5_addNode_9 : decode cX5_addNode 9 = .ok (.iastore, 1) := by decide +kernel
theorem dX5_addNode_10 : decode cX5_addNode 10 = .ok (.aload_n 0, 1) := by decide +kernel
theorem dX5_addNode_11 : decode cX5_addNode 11 = .ok (.getfield 17, 3) := by decide +kernel
theorem dX5_addNode_14 : decode cX5_addNode 14 = .ok (.aload_n 0, 1) := by decide +kernel
theorem dX5_addNode_15 : decode cX5_addNode 15 = .ok (.getfield 35, 3) := by decide +kernel
theorem dX5_addNode_18 : decode cX5_addNode 18 = .ok (.aload_n 0, 1) := by decide +kernel
theorem dX5_addNode_19 : decode cX5_addNode 19 = .ok (.getfield 35, 3) := by decide +kernel
theorem dX5_addNode_22 : decode cX5_addNode 22 = .ok (.iastore, 1) := by decide +kernel
theorem dX5_addNode_23 : decode cX5_addNode 23 = .ok (.aload_n 0, 1) := by decide +kernel
theorem dX5_addNode_24 : decode cX5_addNode 24 = .ok (.getfield 26, 3) := by decide +kernel
theorem dX5_addNode_27 : decode cX5_addNode 27 = .ok (.aload_n 0, 1) := by decide +kernel
theorem dX5_addNode_28 : decode cX5_addNode 28 = .ok (.getfield 35, 3) := by decide +kernel
theorem dX5_addNode_31 : decode cX5_addNode 31 = .ok (.iconst 0, 1) := by decide +kernel
theorem dX5_addNode_32 : decode cX5_addNode 32 = .ok (.iastore, 1) := by decide +kernel
theorem dX5_addNode_33 : decode cX5_addNode 33 = .ok (.aload_n 0, 1) := by decide +kernel
theorem dX5_addNode_34 : decode cX5_addNode 34 = .ok (.getfield 29, 3) := by decide +kernel
theorem dX5_addNode_37 : decode cX5_addNode 37 = .ok (.aload_n 0, 1) := by decide +kernel
theorem dX5_addNode_38 : decode cX5_addNode 38 = .ok (.getfield 35, 3) := by decide +kernel
theorem dX5_addNode_41 : decode cX5_addNode 41 = .ok (.iconst 0, 1) := by decide +kernel
theorem dX5_addNode_42 : decode cX5_addNode 42 = .ok (.iastore, 1) := by decide +kernel
theorem dX5_addNode_43 : decode cX5_addNode 43 = .ok (.aload_n 0, 1) := by decide +kernel
theorem dX5_addNode_44 : decode cX5_addNode 44 = .ok (.dup, 1) := by decide +kernel
theorem dX5_addNode_45 : decode cX5_addNode 45 = .ok (.getfield 35, 3) := by decide +kernel
theorem dX5_addNode_48 : decode cX5_addNode 48 = .ok (.dup_x1, 1) := by decide +kernel
theorem dX5_addNode_49 : decode cX5_addNode 49 = .ok (.iconst 1, 1) := by decide +kernel
theorem dX5_addNode_50 : decode cX5_addNode 50 = .ok (.iadd, 1) := by decide +kernel
theorem dX5_addNode_51 : decode cX5_addNode 51 = .ok (.putfield 35, 3) := by decide +kernel
theorem dX5_addNode_54 : decode cX5_addNode 54 = .ok (.ireturn, 1) := by decide +kernel
theorem dX5_addPair_0 : decode cX5_addPair 0 = .ok (.aload_n 0, 1) := by decide +kernel
theorem dX5_addPair_1 : decode cX5_addPair 1 = .ok (.getfield 23, 3) := by decide +kernel
theorem dX5_addPair_4 : decode cX5_addPair 4 = .ok (.iconst 2, 1) := by decide +kernel
theorem dX5_addPair_5 : decode cX5_addPair 5 = .ok (.aload_n 0, 1) := by decide +kernel
theorem dX5_addPair_6 : decode cX5_addPair 6 = .ok (.getfield 46, 3) := by decide +kernel
theorem dX5_addPair_9 : decode cX5_addPair 9 = .ok (.imul, 1) := by decide +kernel
theorem dX5_addPair_10 : decode cX5_addPair 10 = .ok (.iload_n 1, 1) := by decide +kernel
theorem dX5_addPair_11 : decode cX5_addPair 11 = .ok (.iastore, 1) := by decide +kernel
theorem dX5_addPair_12 : decode cX5_addPair 12 = .ok (.aload_n 0, 1) := by decide +kernel
theorem dX5_addPair_13 : decode cX5_addPair 13 = .ok (.getfield 23, 3) := by decide +kernel
theorem dX5_addPair_16 : decode cX5_addPair 16 = .ok (.iconst 2, 1) := by decide +kernel
theorem dX5_addPair_17 : decode cX5_addPair 17 = .ok (.aload_n 0, 1) := by decide +kernel
theorem dX5_addPair_18 : decode cX5_addPair 18 = .ok (.getfield 46, 3) := by decide +kernel
theorem dX5_addPair_21 : decode cX5_addPair 21 = .ok (.imul, 1) := by decide +kernel
theorem dX5_addPair_22 : decode cX5_addPair 22 = .ok (.iconst 1, 1) := by decide +kernel
theorem dX5_addPair_23 : decode cX5_addPair 23 = .ok (.iadd, 1) := by decide +kernel
theorem dX5_addPair_24 : decode cX5_addPair 24 = .ok (.iload_n 2, 1) := by decide +kernel
theorem dX5_addPair_25 : decode cX5_addPair 25 = .ok (.iastore, 1) := by decide +kernel
theorem dX5_addPair_26 : decode cX5_addPair 26 = .ok (.aload_n 0, 1) := by decide +kernel
theorem dX5_addPair_27 : decode cX5_addPair 27 = .ok (.dup, 1) := by decide +kernel
theorem dX5_addPair_28 : decode cX5_addPair 28 = .ok (.getfield 46, 3) := by decide +kernel
theorem dX5_addPair_31 : decode cX5_addPair 31 = .ok (.iconst 1, 1) := by decide +kernel
theorem dX5_addPair_32 : decode cX5_addPair 32 = .ok (.iadd, 1) := by decide +kernel
theorem dX5_addPair_33 : decode cX5_addPair 33 = .ok (.putfield 46, 3) := by decide +kernel
theorem dX5_addPair_36 : decode cX5_addPair 36 = .ok (.return_, 1) := by decide +kernel
theorem dX5_join_0 : decode cX5_join 0 = .ok (.aload_n 0, 1) := by decide +kernel
theorem dX5_join_1 : decode cX5_join 1 = .ok (.getfield 13, 3) := by decide +kernel
theorem dX5_join_4 : decode cX5_join 4 = .ok (.iload_n 1, 1) := by decide +kernel
theorem dX5_join_5 : decode cX5_join 5 = .ok (.iaload, 1) := by decide +kernel
theorem dX5_join_6 : decode cX5_join 6 = .ok (.iconst 3, 1) := by decide +kernel
theorem dX5_join_7 : decode cX5_join 7 = .ok (.if_icmp .ne 12, 3) := by decide +kernel
theorem dX5_join_10 : decode cX5_join 10 = .ok (.aload_n 0, 1) := by decide +kernel
theorem dX5_join_11 : decode cX5_join 11 = .ok (.getfield 17, 3) := by decide +kernel
theorem dX5_join_14 : decode cX5_join 14 = .ok (.iload_n 1, 1) := by decide +kernel
theorem dX5_join_15 : decode cX5_join 15 = .ok (.iload_n 2, 1) := by decide +kernel
theorem dX5_join_16 : decode cX5_join 16 = .ok (.iastore, 1) := by decide +kernel
theorem dX5_join_17 : decode cX5_join 17 = .ok (.iconst 1, 1) := by decide +kernel
theorem dX5_join_18 : decode cX5_join 18 = .ok (.ireturn, 1) := by decide +kernel
theorem dX5_join_19 : decode cX5_join 19 = .ok (.aload_n 0, 1) := by decide +kernel
theorem dX5_join_20 : decode cX5_join 20 = .ok (.getfield 13, 3) := by decide +kernel
theorem dX5_join_23 : decode cX5_join 23 = .ok (.iload_n 2, 1) := by decide +kernel
theorem dX5_join_24 : decode cX5_join 24 = .ok (.iaload, 1) := by decide +kernel
theorem dX5_join_25 : decode cX5_join 25 = .ok (.iconst 3, 1) := by decide +kernel
theorem dX5_join_26 : decode cX5_join 26 = .ok (.if_icmp .ne 12, 3) := by decide +kernel
theorem dX5_join_29 : decode cX5_join 29 = .ok (.aload_n 0, 1) := by decide +kernel
theorem dX5_join_30 : decode cX5_join 30 = .ok (.getfield 17, 3) := by decide +kernel
theorem dX5_join_33 : decode cX5_join 33 = .ok (.iload_n 2, 1) := by decide +kernel
theorem dX5_join_34 : decode cX5_join 34 = .ok (.iload_n 1, 1) := by decide +kernel
theorem dX5_join_35 : decode cX5_join 35 = .ok (.iastore, 1) := by decide +kernel
theorem dX5_join_36 : decode cX5_join 36 = .ok (.iconst 1, 1) := by decide +kernel
theorem dX5_join_37 : decode cX5_join 37 = .ok (.ireturn, 1) := by decide +kernel
theorem dX5_join_38 : decode cX5_join 38 = .ok (.aload_n 0, 1) := by decide +kernel
theorem dX5_join_39 : decode cX5_join 39 = .ok (.getfield 13, 3) := by decide +kernel
theorem dX5_join_42 : decode cX5_join 42 = .ok (.iload_n 1, 1) := by decide +kernel
theorem dX5_join_43 : decode cX5_join 43 = .ok (.iaload, 1) := by decide +kernel
theorem dX5_join_44 : decode cX5_join 44 = .ok (.iconst 2, 1) := by decide +kernel
theorem dX5_join_45 : decode cX5_join 45 = .ok (.if_icmp .ne 13, 3) := by decide +kernel
theorem dX5_join_48 : decode cX5_join 48 = .ok (.aload_n 0, 1) := by decide +kernel
theorem dX5_join_49 : decode cX5_join 49 = .ok (.getfield 13, 3) := by decide +kernel
theorem dX5_join_52 : decode cX5_join 52 = .ok (.iload_n 2, 1) := by decide +kernel
theorem dX5_join_53 : decode cX5_join 53 = .ok (.iaload, 1) := by decide +kernel
theorem dX5_join_54 : decode cX5_join 54 = .ok (.iconst 2, 1) := by decide +kernel
theorem dX5_join_55 : decode cX5_join 55 = .ok (.if_icmp .eq 5, 3) := by decide +kernel
theorem dX5_join_58 : decode cX5_join 58 = .ok (.iconst 0, 1) := by decide +kernel
theorem dX5_join_59 : decode cX5_join 59 = .ok (.ireturn, 1) := by decide +kernel
theorem dX5_join_60 : decode cX5_join 60 = .ok (.aload_n 0, 1) := by decide +kernel
theorem dX5_join_61 : decode cX5_join 61 = .ok (.getfield 17, 3) := by decide +kernel
theorem dX5_join_64 : decode cX5_join 64 = .ok (.iload_n 1, 1) := by decide +kernel
theorem dX5_join_65 : decode cX5_join 65 = .ok (.iload_n 2, 1) := by decide +kernel
theorem dX5_join_66 : decode cX5_join 66 = .ok (.iastore, 1) := by decide +kernel
theorem dX5_join_67 : decode cX5_join 67 = .ok (.iconst 0, 1) := by decide +kernel
theorem dX5_join_68 : decode cX5_join 68 = .ok (.istore_n 3, 1) := by decide +kernel
theorem dX5_join_69 : decode cX5_join 69 = .ok (.iload_n 3, 1) := by decide +kernel
theorem dX5_join_70 : decode cX5_join 70 = .ok (.iconst 4, 1) := by decide +kernel
theorem dX5_join_71 : decode cX5_join 71 = .ok (.if_icmp .ge 33, 3) := by decide +kernel
theorem dX5_join_74 : decode cX5_join 74 = .ok (.aload_n 0, 1) := by decide +kernel
theorem dX5_join_75 : decode cX5_join 75 = .ok (.aload_n 0, 1) := by decide +kernel
theorem dX5_join_76 : decode cX5_join 76 = .ok (.getfield 20, 3) := by decide +kernel
theorem dX5_join_79 : decode cX5_join 79 = .ok (.iconst 4, 1) := by decide +kernel
theorem dX5_join_80 : decode cX5_join 80 = .ok (.iload_n 1, 1) := by decide +kernel
theorem dX5_join_81 : decode cX5_join 81 = .ok (.imul, 1) := by decide +kernel
theorem dX5_join_82 : decode cX5_join 82 = .ok (.iload_n 3, 1) := by decide +kernel
theorem dX5_join_83 : decode cX5_join 83 = .ok (.iadd, 1) := by decide +kernel
theorem dX5_join_84 : decode cX5_join 84 = .ok (.iaload, 1) := by decide +kernel
theorem dX5_join_85 : decode cX5_join 85 = .ok (.aload_n 0, 1) := by decide +kernel
theorem dX5_join_86 : decode cX5_join 86 = .ok (.getfield 20, 3) := by decide +kernel
theorem dX5_join_89 : decode cX5_join 89 = .ok (.iconst 4, 1) := by decide +kernel
theorem dX5_join_90 : decode cX5_join 90 = .ok (.iload_n 2, 1) := by decide +kernel
theorem dX5_join_91 : decode cX5_join 91 = .ok (.imul, 1) := by decide +kernel
theorem dX5_join_92 : decode cX5_join 92 = .ok (.iload_n 3, 1) := by decide +kernel
theorem dX5_join_93 : decode cX5_join 93 = .ok (.iadd, 1) := by decide +kernel
theorem dX5_join_94 : decode cX5_join 94 = .ok (.iaload, 1) := by decide +kernel
theorem dX5_join_95 : decode cX5_join 95 = .ok (.invokevirtual 49, 3) := by decide +kernel
theorem dX5_join_98 : decode cX5_join 98 = .ok (.iinc 3 1, 3) := by decide +kernel
theorem dX5_join_101 : decode cX5_join 101 = .ok (.goto (-32), 3) := by decide +kernel
theorem dX5_join_104 : decode cX5_join 104 = .ok (.iconst 1, 1) := by decide +kernel
theorem dX5_join_105 : decode cX5_join 105 = .ok (.ireturn, 1) := by decide +kernel
theorem dX5_endsEverywhere_0 : decode cX5_endsEverywhere 0 = .ok (.iconst 1, 1) := by decide +kernel
theorem dX5_endsEverywhere_1 : decode cX5_endsEverywhere 1 = .ok (.istore_n 2, 1) := by decide +kernel
theorem dX5_endsEverywhere_2 : decode cX5_endsEverywhere 2 = .ok (.aload_n 0, 1) := by decide +kernel
theorem dX5_endsEverywhere_3 : decode cX5_endsEverywhere 3 = .ok (.getfield 32, 3) := by decide +kernel
theorem dX5_endsEverywhere_6 : decode cX5_endsEverywhere 6 = .ok (.iconst 0, 1) := by decide +kernel
theorem dX5_endsEverywhere_7 : decode cX5_endsEverywhere 7 = .ok (.iload_n 1, 1) := by decide +kernel
theorem dX5_endsEverywhere_8 : decode cX5_endsEverywhere 8 = .ok (.iastore, 1) := by decide +kernel
theorem dX5_endsEverywhere_9 : decode cX5_endsEverywhere 9 = .ok (.aload_n 0, 1) := by decide +kernel
theorem dX5_endsEverywhere_10 : decode cX5_endsEverywhere 10 = .ok (.getfield 26, 3) := by decide +kernel
theorem dX5_endsEverywhere_13 : decode cX5_endsEverywhere 13 = .ok (.iload_n 1, 1) := by decide +kernel
theorem dX5_endsEverywhere_14 : decode cX5_endsEverywhere 14 = .ok (.iconst 1, 1) := by decide +kernel
theorem dX5_endsEverywhere_15 : decode cX5_endsEverywhere 15 = .ok (.iastore, 1) := by decide +kernel
theorem dX5_endsEverywhere_16 : decode cX5_endsEverywhere 16 = .ok (.iconst 0, 1) := by decide +kernel
theorem dX5_endsEverywhere_17 : decode cX5_endsEverywhere 17 = .ok (.istore_n 3, 1) := by decide +kernel
theorem dX5_endsEverywhere_18 : decode cX5_endsEverywhere 18 = .ok (.iload_n 3, 1) := by decide +kernel
theorem dX5_endsEverywhere_19 : decode cX5_endsEverywhere 19 = .ok (.sipush 3020, 3) := by decide +kernel
theorem dX5_endsEverywhere_22 : decode cX5_endsEverywhere 22 = .ok (.if_icmp .ge 138, 3) := by decide +kernel
theorem dX5_endsEverywhere_25 : decode cX5_endsEverywhere 25 = .ok (.iload_n 2, 1) := by decide +kernel
theorem dX5_endsEverywhere_26 : decode cX5_endsEverywhere 26 = .ok (.ifCond .le 134, 3) := by decide +kernel
theorem dX5_endsEverywhere_29 : decode cX5_endsEverywhere 29 = .ok (.aload_n 0, 1) := by decide +kernel
theorem dX5_endsEverywhere_30 : decode cX5_endsEverywhere 30 = .ok (.getfield 32, 3) := by decide +kernel
theorem dX5_endsEverywhere_33 : decode cX5_endsEverywhere 33 = .ok (.iload_n 2, 1) := by decide +kernel
theorem dX5_endsEverywhere_34 : decode cX5_endsEverywhere 34 = .ok (.iconst 1, 1) := by decide +kernel
theorem dX5_endsEverywhere_35 : decode cX5_endsEverywhere 35 = .ok (.isub, 1) := by decide +kernel
theorem dX5_endsEverywhere_36 : decode cX5_endsEverywhere 36 = .ok (.iaload, 1) := by decide +kernel
theorem dX5_endsEverywhere_37 : decode cX5_endsEverywhere 37 = .ok (.istore 4, 2) := by decide +kernel
theorem dX5_endsEverywhere_39 : decode cX5_endsEverywhere 39 = .ok (.aload_n 0, 1) := by decide +kernel
theorem dX5_endsEverywhere_40 : decode cX5_endsEverywhere 40 = .ok (.getfield 29, 3) := by decide +kernel
theorem dX5_endsEverywhere_43 : decode cX5_endsEverywhere 43 = .ok (.iload 4, 2) := by decide +kernel
theorem dX5_endsEverywhere_45 : decode cX5_endsEverywhere 45 = .ok (.iaload, 1) := by decide +kernel
theorem dX5_endsEverywhere_46 : decode cX5_endsEverywhere 46 = .ok (.iconst 4, 1) := by decide +kernel
theorem dX5_endsEverywhere_47 : decode cX5_endsEverywhere 47 = .ok (.if_icmp .ne 17, 3) := by decide +kernel
theorem dX5_endsEverywhere_50 : decode cX5_endsEverywhere 50 = .ok (.aload_n 0, 1) := by decide +kernel
theorem dX5_endsEverywhere_51 : decode cX5_endsEverywhere 51 = .ok (.getfield 26, 3) := by decide +kernel
theorem dX5_endsEverywhere_54 : decode cX5_endsEverywhere 54 = .ok (.iload 4, 2) := by decide +kernel
theorem dX5_endsEverywhere_56 : decode cX5_endsEverywhere 56 = .ok (.iconst 2, 1) := by decide +kernel
theorem dX5_endsEverywhere_57 : decode cX5_endsEverywhere 57 = .ok (.iastore, 1) := by decide +kernel
theorem dX5_endsEverywhere_58 : decode cX5_endsEverywhere 58 = .ok (.iinc 2 (-1), 3) := by decide +kernel
theorem dX5_endsEverywhere_61 : decode cX5_endsEverywhere 61 = .ok (.goto 93, 3) := by decide +kernel
theorem dX5_endsEverywhere_64 : decode cX5_endsEverywhere 64 = .ok (.aload_n 0, 1) := by decide +kernel
theorem dX5_endsEverywhere_65 : decode cX5_endsEverywhere 65 = .ok (.iload 4, 2) := by decide +kernel
theorem dX5_endsEverywhere_67 : decode cX5_endsEverywhere 67 = .ok (.aload_n 0, 1) := by decide +kernel
theorem dX5_endsEverywhere_68 : decode cX5_endsEverywhere 68 = .ok (.getfield 29, 3) := by decide +kernel
theorem dX5_endsEverywhere_71 : decode cX5_endsEverywhere 71 = .ok (.iload 4, 2) := by decide +kernel
theorem dX5_endsEverywhere_73 : decode cX5_endsEverywhere 73 = .ok (.iaload, 1) := by decide +kernel
theorem dX5_endsEverywhere_74 : decode cX5_endsEverywhere 74 = .ok (.invokevirtual 61, 3) := by decide +kernel
theorem dX5_endsEverywhere_77 : decode cX5_endsEverywhere 77 = .ok (.istore 5, 2) := by decide +kernel
theorem dX5_endsEverywhere_79 : decode cX5_endsEverywhere 79 = .ok (.aload_n 0, 1) := by decide +kernel
theorem dX5_endsEverywhere_80 : decode cX5_endsEverywhere 80 = .ok (.getfield 29, 3) := by decide +kernel
theorem dX5_endsEverywhere_83 : decode cX5_endsEverywhere 83 = .ok (.iload 4, 2) := by decide +kernel
theorem dX5_endsEverywhere_85 : decode cX5_endsEverywhere 85 = .ok (.dup2, 1) := by decide +kernel
theorem dX5_endsEverywhere_86 : decode cX5_endsEverywhere 86 = .ok (.iaload, 1) := by decide +kernel
theorem dX5_endsEverywhere_87 : decode cX5_endsEverywhere 87 = .ok (.iconst 1, 1) := by decide +kernel
theorem dX5_endsEverywhere_88 : decode cX5_endsEverywhere 88 = .ok (.iadd, 1) := by decide +kernel
theorem dX5_endsEverywhere_89 : decode cX5_endsEverywhere 89 = .ok (.iastore, 1) := by decide +kernel
theorem dX5_endsEverywhere_90 : decode cX5_endsEverywhere 90 = .ok (.aload_n 0, 1) := by decide +kernel
theorem dX5_endsEverywhere_91 : decode cX5_endsEverywhere 91 = .ok (.getfield 13, 3) := by decide +kernel
theorem dX5_endsEverywhere_94 : decode cX5_endsEverywhere 94 = .ok (.iload 5, 2) := by decide +kernel
theorem dX5_endsEverywhere_96 : decode cX5_endsEverywhere 96 = .ok (.iaload, 1) := by decide +kernel
theorem dX5_endsEverywhere_97 : decode cX5_endsEverywhere 97 = .ok (.iconst 2, 1) := by decide +kernel
theorem dX5_endsEverywhere_98 : decode cX5_endsEverywhere 98 = .ok (.if_icmp .ne 16, 3) := by decide +kernel
theorem dX5_endsEverywhere_101 : decode cX5_endsEverywhere 101 = .ok (.aload_n 0, 1) := by decide +kernel
theorem dX5_endsEverywhere_102 : decode cX5_endsEverywhere 102 = .ok (.getfield 26, 3) := by decide +kernel
theorem dX5_endsEverywhere_105 : decode cX5_endsEverywhere 105 = .ok (.iload 5, 2) := by decide +kernel
theorem dX5_endsEverywhere_107 : decode cX5_endsEverywhere 107 = .ok (.iaload, 1) := by decide +kernel
theorem dX5_endsEverywhere_108 : decode cX5_endsEverywhere 108 = .ok (.iconst 1, 1) := by decide +kernel
theorem dX5_endsEverywhere_109 : decode cX5_endsEverywhere 109 = .ok (.if_icmp .ne 5, 3) := by decide +kernel
theorem dX5_endsEverywhere_112 : decode cX5_endsEverywhere 112 = .ok (.iconst 0, 1) := by decide +kernel
theorem dX5_endsEverywhere_113 : decode cX5_endsEverywhere 113 = .ok (.ireturn, 1) := by decide +kernel
theorem dX5_endsEverywhere_114 : decode cX5_endsEverywhere 114 = .ok (.aload_n 0, 1) := by decide +kernel
theorem dX5_endsEverywhere_115 : decode cX5_endsEverywhere 115 = .ok (.getfield 13, 3) := by decide +kernel
theorem dX5_endsEverywhere_118 : decode cX5_endsEverywhere 118 = .ok (.iload 5, 2) := by decide +kernel
theorem dX5_endsEverywhere_120 : decode cX5_endsEverywhere 120 = .ok (.iaload, 1) := by decide +kernel
theorem dX5_endsEverywhere_121 : decode cX5_endsEverywhere 121 = .ok (.iconst 2, 1) := by decide +kernel
theorem dX5_endsEverywhere_122 : decode cX5_endsEverywhere 122 = .ok (.if_icmp .ne 32, 3) := by decide +kernel
theorem dX5_endsEverywhere_125 : decode cX5_endsEverywhere 125 = .ok (.aload_n 0, 1) := by decide +kernel
theorem dX5_endsEverywhere_126 : decode cX5_endsEverywhere 126 = .ok (.getfield 26, 3) := by decide +kernel
theorem dX5_endsEverywhere_129 : decode cX5_endsEverywhere 129 = .ok (.iload 5, 2) := by decide +kernel
theorem dX5_endsEverywhere_131 : decode cX5_endsEverywhere 131 = .ok (.iaload, 1) := by decide +kernel
theorem dX5_endsEverywhere_132 : decode cX5_endsEverywhere 132 = .ok (.ifCond .ne 22, 3) := by decide +kernel
theorem dX5_endsEverywhere_135 : decode cX5_endsEverywhere 135 = .ok (.aload_n 0, 1) := by decide +kernel
theorem dX5_endsEverywhere_136 : decode cX5_endsEverywhere 136 = .ok (.getfield 26, 3) := by decide +kernel
theorem dX5_endsEverywhere_139 : decode cX5_endsEverywhere 139 = .ok (.iload 5, 2) := by decide +kernel
theorem dX5_endsEverywhere_141 : decode cX5_endsEverywhere 141 = .ok (.iconst 1, 1) := by decide +kernel
theorem dX5_endsEverywhere_142 : decode cX5_endsEverywhere 142 = .ok (.iastore, 1) := by decide +kernel
theorem dX5_endsEverywhere_143 : decode cX5_endsEverywhere 143 = .ok (.aload_n 0, 1) := by decide +kernel
theorem dX5_endsEverywhere_144 : decode cX5_endsEverywhere 144 = .ok (.getfield 32, 3) := by decide +kernel
theorem dX5_endsEverywhere_147 : decode cX5_endsEverywhere 147 = .ok (.iload_n 2, 1) := by decide +kernel
theorem dX5_endsEverywhere_148 : decode cX5_endsEverywhere 148 = .ok (.iload 5, 2) := by decide +kernel
theorem dX5_endsEverywhere_150 : decode cX5_endsEverywhere 150 = .ok (.iastore, 1) := by decide +kernel
theorem dX5_endsEverywhere_151 : decode cX5_endsEverywhere 151 = .ok (.iinc 2 1, 3) := by decide +kernel
theorem dX5_endsEverywhere_154 : decode cX5_endsEverywhere 154 = .ok (.iinc 3 1, 3) := by decide +kernel
theorem dX5_endsEverywhere_157 : decode cX5_endsEverywhere 157 = .ok (.goto (-139), 3) := by decide +kernel
theorem dX5_endsEverywhere_160 : decode cX5_endsEverywhere 160 = .ok (.iconst 1, 1) := by decide +kernel
theorem dX5_endsEverywhere_161 : decode cX5_endsEverywhere 161 = .ok (.ireturn, 1) := by decide +kernel
theorem dX6_init_0 : decode cX6_init 0 = .ok (.aload_n 0, 1) := by decide +kernel
theorem dX6_init_1 : decode cX6_init 1 = .ok (.invokespecial 5, 3) := by decide +kernel
theorem dX6_init_4 : decode cX6_init 4 = .ok (.aload_n 0, 1) := by decide +kernel
theorem dX6_init_5 : decode cX6_init 5 = .ok (.new 11, 3) := by decide +kernel
theorem dX6_init_8 : decode cX6_init 8 = .ok (.dup, 1) := by decide +kernel
theorem dX6_init_9 : decode cX6_init 9 = .ok (.invokespecial 13, 3) := by decide +kernel
theorem dX6_init_12 : decode cX6_init 12 = .ok (.putfield 14, 3) := by decide +kernel
theorem dX6_init_15 : decode cX6_init 15 = .ok (.aload_n 0, 1) := by decide +kernel
theorem dX6_init_16 : decode cX6_init 16 = .ok (.bipush 18, 2) := by decide +kernel
theorem dX6_init_18 : decode cX6_init 18 = .ok (.newarray .int, 2) := by decide +kernel
theorem dX6_init_20 : decode cX6_init 20 = .ok (.putfield 20, 3) := by decide +kernel
theorem dX6_init_23 : decode cX6_init 23 = .ok (.aload_n 0, 1) := by decide +kernel
theorem dX6_init_24 : decode cX6_init 24 = .ok (.bipush 18, 2) := by decide +kernel
theorem dX6_init_26 : decode cX6_init 26 = .ok (.newarray .int, 2) := by decide +kernel
theorem dX6_init_28 : decode cX6_init 28 = .ok (.putfield 24, 3) := by decide +kernel
theorem dX6_init_31 : decode cX6_init 31 = .ok (.aload_n 0, 1) := by decide +kernel
theorem dX6_init_32 : decode cX6_init 32 = .ok (.aload_n 1, 1) := by decide +kernel
theorem dX6_init_33 : decode cX6_init 33 = .ok (.putfield 27, 3) := by decide +kernel
theorem dX6_init_36 : decode cX6_init 36 = .ok (.return_, 1) := by decide +kernel
theorem dX6_typeOfWhole_0 : decode cX6_typeOfWhole 0 = .ok (.aload_n 0, 1) := by decide +kernel
theorem dX6_typeOfWhole_1 : decode cX6_typeOfWhole 1 = .ok (.getfield 14, 3) := by decide +kernel
theorem dX6_typeOfWhole_4 : decode cX6_typeOfWhole 4 = .ok (.invokevirtual 31, 3) := by decide +kernel
theorem dX6_typeOfWhole_7 : decode cX6_typeOfWhole 7 = .ok (.aload_n 0, 1) := by decide +kernel
theorem dX6_typeOfWhole_8 : decode cX6_typeOfWhole 8 = .ok (.iconst 0, 1) := by decide +kernel
theorem dX6_typeOfWhole_9 : decode cX6_typeOfWhole 9 = .ok (.putfield 34, 3) := by decide +kernel
theorem dX6_typeOfWhole_12 : decode cX6_typeOfWhole 12 = .ok (.aload_n 0, 1) := by decide +kernel
theorem dX6_typeOfWhole_13 : decode cX6_typeOfWhole 13 = .ok (.getfield 14, 3) := by decide +kernel
theorem dX6_typeOfWhole_16 : decode cX6_typeOfWhole 16 = .ok (.invokevirtual 38, 3) := by decide +kernel
theorem dX6_typeOfWhole_19 : decode cX6_typeOfWhole 19 = .ok (.istore_n 2, 1) := by decide +kernel
theorem dX6_typeOfWhole_20 : decode cX6_typeOfWhole 20 = .ok (.aload_n 0, 1) := by decide +kernel
theorem dX6_typeOfWhole_21 : decode cX6_typeOfWhole 21 = .ok (.getfield 14, 3) := by decide +kernel
theorem dX6_typeOfWhole_24 : decode cX6_typeOfWhole 24 = .ok (.invokevirtual 38, 3) := by decide +kernel
theorem dX6_typeOfWhole_27 : decode cX6_typeOfWhole 27 = .ok (.istore_n 3, 1) := by decide +kernel
theorem dX6_typeOfWhole_28 : decode cX6_typeOfWhole 28 = .ok (.aload_n 0, 1) := by decide +kernel
theorem dX6_typeOfWhole_29 : decode cX6_typeOfWhole 29 = .ok (.iload_n 1, 1) := by decide +kernel
theorem dX6_typeOfWhole_30 : decode cX6_typeOfWhole 30 = .ok (.iload_n 2, 1) := by decide +kernel
theorem dX6_typeOfWhole_31 : decode cX6_typeOfWhole 31 = .ok (.iload_n 2, 1) := by decide +kernel
theorem dX6_typeOfWhole_32 : decode cX6_typeOfWhole 32 = .ok (.iload_n 3, 1) := by decide +kernel
theorem dX6_typeOfWhole_33 : decode cX6_typeOfWhole 33 = .ok (.iconst 1, 1) := by decide +kernel
theorem dX6_typeOfWhole_34 : decode cX6_typeOfWhole 34 = .ok (.invokevirtual 42, 3) := by decide +kernel
theorem dX6_typeOfWhole_37 : decode cX6_typeOfWhole 37 = .ok (.ifCond .eq 13, 3) := by decide +kernel
theorem dX6_typeOfWhole_40 : decode cX6_typeOfWhole 40 = .ok (.aload_n 0, 1) := by decide +kernel
theorem dX6_typeOfWhole_41 : decode cX6_typeOfWhole 41 = .ok (.getfield 14, 3) := by decide +kernel
theorem dX6_typeOfWhole_44 : decode cX6_typeOfWhole 44 = .ok (.invokevirtual 46, 3) := by decide +kernel
theorem dX6_typeOfWhole_47 : decode cX6_typeOfWhole 47 = .ok (.ifCond .ne 5, 3) := by decide +kernel
theorem dX6_typeOfWhole_50 : decode cX6_typeOfWhole 50 = .ok (.iconst (-1), 1) := by decide +kernel
theorem dX6_typeOfWhole_51 : decode cX6_typeOfWhole 51 = .ok (.ireturn, 1) := by decide +kernel
theorem dX6_typeOfWhole_52 : decode cX6_typeOfWhole 52 = .ok (.iload_n 3, 1) := by decide +kernel
theorem dX6_typeOfWhole_53 : decode cX6_typeOfWhole 53 = .ok (.ireturn, 1) := by decide +kernel
theorem dX6_holds_0 : decode cX6_holds 0 = .ok (.iload 5, 2) := by decide +kernel
theorem dX6_holds_2 : decode cX6_holds 2 = .ok (.bipush 9, 2) := by decide +kernel
theorem dX6_holds_4 : decode cX6_holds 4 = .ok (.if_icmp .le 5, 3) := by decide +kernel
theorem dX6_holds_7 : decode cX6_holds 7 = .ok (.iconst 0, 1) := by decide +kernel
theorem dX6_holds_8 : decode cX6_holds 8 = .ok (.ireturn, 1) := by decide +kernel
theorem dX6_holds_9 : decode cX6_holds 9 = .ok (.aload_n 0, 1) := by decide +kernel
theorem dX6_holds_10 : decode cX6_holds 10 = .ok (.getfield 27, 3) := by decide +kernel
theorem dX6_holds_13 : decode cX6_holds 13 = .ok (.getfield 50, 3) := by decide +kernel
theorem dX6_holds_16 : decode cX6_holds 16 = .ok (.iload_n 1, 1) := by decide +kernel
theorem dX6_holds_17 : decode cX6_holds 17 = .ok (.iaload, 1) := by decide +kernel
theorem dX6_holds_18 : decode cX6_holds 18 = .ok (.istore 6, 2) := by decide +kernel
theorem dX6_holds_20 : decode cX6_holds 20 = .ok (.aload_n 0, 1) := by decide +kernel
theorem dX6_holds_21 : decode cX6_holds 21 = .ok (.getfield 27, 3) := by decide +kernel
theorem dX6_holds_24 : decode cX6_holds 24 = .ok (.getfield 53, 3) := by decide +kernel
theorem dX6_holds_27 : decode cX6_holds 27 = .ok (.iload_n 1, 1) := by decide +kernel
theorem dX6_holds_28 : decode cX6_holds 28 = .ok (.iaload, 1) := by decide +kernel
theorem dX6_holds_29 : decode cX6_holds 29 = .ok (.tableswitch 320 0 11 #[63, 94, 125, 161, 191, 203, 234, 265, 277, 289, 320, 161], 63) := by decide +kernel
theorem dX6_holds_92 : decode cX6_holds 92 = .ok (.aload_n 0, 1) := by decide +kernel
theorem dX6_holds_93 : decode cX6_holds 93 = .ok (.getfield 14, 3) := by decide +kernel
theorem dX6_holds_96 : decode cX6_holds 96 = .ok (.iload_n 2, 1) := by decide +kernel
theorem dX6_holds_97 : decode cX6_holds 97 = .ok (.iconst 0, 1) := by decide +kernel
theorem dX6_holds_98 : decode cX6_holds 98 = .ok (.invokevirtual 56, 3) := by decide +kernel
theorem dX6_holds_101 : decode cX6_holds 101 = .ok (.ifCond .eq 20, 3) := by decide +kernel
theorem dX6_holds_104 : decode cX6_holds 104 = .ok (.aload_n 0, 1) := by decide +kernel
theorem dX6_holds_105 : decode cX6_holds 105 = .ok (.getfield 14, 3) := by decide +kernel
theorem dX6_holds_108 : decode cX6_holds 108 = .ok (.iload_n 3, 1) := by decide +kernel
theorem dX6_holds_109 : decode cX6_holds 109 = .ok (.iload 4, 2) := by decide +kernel
theorem dX6_holds_111 : decode cX6_holds 111 = .ok (.invokevirtual 56, 3) := by decide +kernel
theorem dX6_holds_114 : decode cX6_holds 114 = .ok (.ifCond .eq 7, 3) := by decide +kernel
theorem dX6_holds_117 : decode cX6_holds 117 = .ok (.iconst 1, 1) := by decide +kernel
theorem dX6_holds_118 : decode cX6_holds 118 = .ok (.goto 4, 3) := by decide +kernel
theorem dX6_holds_121 : decode cX6_holds 121 = .ok (.iconst 0, 1) := by decide +kernel
theorem dX6_holds_122 : decode cX6_holds 122 = .ok (.ireturn, 1) := by decide +kernel
theorem dX6_holds_123 : decode cX6_holds 123 = .ok (.aload_n 0, 1) := by decide +kernel
theorem dX6_holds_124 : decode cX6_holds 124 = .ok (.getfield 14, 3) := by decide +kernel
theorem dX6_holds_127 : decode cX6_holds 127 = .ok (.iload_n 2, 1) := by decide +kernel
theorem dX6_holds_128 : decode cX6_holds 128 = .ok (.iconst 1, 1) := by decide +kernel
theorem dX6_holds_129 : decode cX6_holds 129 = .ok (.invokevirtual 56, 3) := by decide +kernel
theorem dX6_holds_132 : decode cX6_holds 132 = .ok (.ifCond .eq 20, 3) := by decide +kernel
theorem dX6_holds_135 : decode cX6_holds 135 = .ok (.aload_n 0, 1) := by decide +kernel
theorem dX6_holds_136 : decode cX6_holds 136 = .ok (.getfield 14, 3) := by decide +kernel
theorem dX6_holds_139 : decode cX6_holds 139 = .ok (.iload_n 3, 1) := by decide +kernel
theorem dX6_holds_140 : decode cX6_holds 140 = .ok (.iload 4, 2) := by decide +kernel
theorem dX6_holds_142 : decode cX6_holds 142 = .ok (.invokevirtual 56, 3) := by decide +kernel
theorem dX6_holds_145 : decode cX6_holds 145 = .ok (.ifCond .eq 7, 3) := by decide +kernel
theorem dX6_holds_148 : decode cX6_holds 148 = .ok (.iconst 1, 1) := by decide +kernel
theorem dX6_holds_149 : decode cX6_holds 149 = .ok (.goto 4, 3) := by decide +kernel
theorem dX6_holds_152 : decode cX6_holds 152 = .ok (.iconst 0, 1) := by decide +kernel
theorem dX6_holds_153 : decode cX6_holds 153 = .ok (.ireturn, 1) := by decide +kernel
theorem dX6_holds_154 : decode cX6_holds 154 = .ok (.aload_n 0, 1) := by decide +kernel
theorem dX6_holds_155 : decode cX6_holds 155 = .ok (.getfield 14, 3) := by decide +kernel
theorem dX6_holds_158 : decode cX6_holds 158 = .ok (.iload_n 2, 1) := by decide +kernel
theorem dX6_holds_159 : decode cX6_holds 159 = .ok (.aload_n 0, 1) := by decide +kernel
theorem dX6_holds_160 : decode cX6_holds 160 = .ok (.iload 6, 2) := by decide +kernel
theorem dX6_holds_162 : decode cX6_holds 162 = .ok (.invokevirtual 60, 3) := by decide +kernel
theorem dX6_holds_165 : decode cX6_holds 165 = .ok (.invokevirtual 56, 3) := by decide +kernel
theorem dX6_holds_168 : decode cX6_holds 168 = .ok (.ifCond .eq 20, 3) := by decide +kernel
theorem dX6_holds_171 : decode cX6_holds 171 = .ok (.aload_n 0, 1) := by decide +kernel
theorem dX6_holds_172 : decode cX6_holds 172 = .ok (.getfield 14, 3) := by decide +kernel
theorem dX6_holds_175 : decode cX6_holds 175 = .ok (.iload_n 3, 1) := by decide +kernel
theorem dX6_holds_176 : decode cX6_holds 176 = .ok (.iload 4, 2) := by decide +kernel
theorem dX6_holds_178 : decode cX6_holds 178 = .ok (.invokevirtual 56, 3) := by decide +kernel
theorem dX6_holds_181 : decode cX6_holds 181 = .ok (.ifCond .eq 7, 3) := by decide +kernel
theorem dX6_holds_184 : decode cX6_holds 184 = .ok (.iconst 1, 1) := by decide +kernel
theorem dX6_holds_185 : decode cX6_holds 185 = .ok (.goto 4, 3) := by decide +kernel
theorem dX6_holds_188 : decode cX6_holds 188 = .ok (.iconst 0, 1) := by decide +kernel
theorem dX6_holds_189 : decode cX6_holds 189 = .ok (.ireturn, 1) := by decide +kernel
theorem dX6_holds_190 : decode cX6_holds 190 = .ok (.aload_n 0, 1) := by decide +kernel
theorem dX6_holds_191 : decode cX6_holds 191 = .ok (.getfield 14, 3) := by decide +kernel
theorem dX6_holds_194 : decode cX6_holds 194 = .ok (.iload_n 3, 1) := by decide +kernel
theorem dX6_holds_195 : decode cX6_holds 195 = .ok (.iload 4, 2) := by decide +kernel
theorem dX6_holds_197 : decode cX6_holds 197 = .ok (.invokevirtual 56, 3) := by decide +kernel
theorem dX6_holds_200 : decode cX6_holds 200 = .ok (.ifCond .eq 18, 3) := by decide +kernel
theorem dX6_holds_203 : decode cX6_holds 203 = .ok (.aload_n 0, 1) := by decide +kernel
theorem dX6_holds_204 : decode cX6_holds 204 = .ok (.iload_n 1, 1) := by decide +kernel
theorem dX6_holds_205 : decode cX6_holds 205 = .ok (.iload_n 2, 1) := by decide +kernel
theorem dX6_holds_206 : decode cX6_holds 206 = .ok (.iload 5, 2) := by decide +kernel
theorem dX6_holds_208 : decode cX6_holds 208 = .ok (.invokevirtual 64, 3) := by decide +kernel
theorem dX6_holds_211 : decode cX6_holds 211 = .ok (.ifCond .eq 7, 3) := by decide +kernel
theorem dX6_holds_214 : decode cX6_holds 214 = .ok (.iconst 1, 1) := by decide +kernel
theorem dX6_holds_215 : decode cX6_holds 215 = .ok (.goto 4, 3) := by decide +kernel
theorem dX6_holds_218 : decode cX6_holds 218 = .ok (.iconst 0, 1) := by decide +kernel
theorem dX6_holds_219 : decode cX6_holds 219 = .ok (.ireturn, 1) := by decide +kernel
theorem dX6_holds_220 : decode cX6_holds 220 = .ok (.aload_n 0, 1) := by decide +kernel
theorem dX6_holds_221 : decode cX6_holds 221 = .ok (.iload_n 1, 1) := by decide +kernel
theorem dX6_holds_222 : decode cX6_holds 222 = .ok (.iload_n 2, 1) := by decide +kernel
theorem dX6_holds_223 : decode cX6_holds 223 = .ok (.iload_n 3, 1) := by decide +kernel
theorem dX6_holds_224 : decode cX6_holds 224 = .ok (.iload 4, 2) := by decide +kernel
theorem dX6_holds_226 : decode cX6_holds 226 = .ok (.iload 5, 2) := by decide +kernel
theorem dX6_holds_228 : decode cX6_holds 228 = .ok (.invokevirtual 68, 3) := by decide +kernel
theorem dX6_holds_231 : decode cX6_holds 231 = .ok (.ireturn, 1) := by decide +kernel
theorem dX6_holds_232 : decode cX6_holds 232 = .ok (.aload_n 0, 1) := by decide +kernel
theorem dX6_holds_233 : decode cX6_holds 233 = .ok (.getfield 14, 3) := by decide +kernel
theorem dX6_holds_236 : decode cX6_holds 236 = .ok (.iload_n 2, 1) := by decide +kernel
theorem dX6_holds_237 : decode cX6_holds 237 = .ok (.iconst 0, 1) := by decide +kernel
theorem dX6_holds_238 : decode cX6_holds 238 = .ok (.invokevirtual 56, 3) := by decide +kernel
theorem dX6_holds_241 : decode cX6_holds 241 = .ok (.ifCond .eq 20, 3) := by decide +kernel
theorem dX6_holds_244 : decode cX6_holds 244 = .ok (.aload_n 0, 1) := by decide +kernel
theorem dX6_holds_245 : decode cX6_holds 245 = .ok (.iload_n 1, 1) := by decide +kernel
theorem dX6_holds_246 : decode cX6_holds 246 = .ok (.iload_n 3, 1) := by decide +kernel
theorem dX6_holds_247 : decode cX6_holds 247 = .ok (.iload 4, 2) := by decide +kernel
theorem dX6_holds_249 : decode cX6_holds 249 = .ok (.iload 5, 2) := by decide +kernel
theorem dX6_holds_251 : decode cX6_holds 251 = .ok (.invokevirtual 71, 3) := by decide +kernel
theorem dX6_holds_254 : decode cX6_holds 254 = .ok (.ifCond .eq 7, 3) := by decide +kernel
theorem dX6_holds_257 : decode cX6_holds 257 = .ok (.iconst 1, 1) := by decide +kernel
theorem dX6_holds_258 : decode cX6_holds 258 = .ok (.goto 4, 3) := by decide +kernel
theorem dX6_holds_261 : decode cX6_holds 261 = .ok (.iconst 0, 1) := by decide +kernel
theorem dX6_holds_262 : decode cX6_holds 262 = .ok (.ireturn, 1) := by decide +kernel
theorem dX6_holds_263 : decode cX6_holds 263 = .ok (.aload_n 0, 1) := by decide +kernel
theorem dX6_holds_264 : decode cX6_holds 264 = .ok (.getfield 14, 3) := by decide +kernel
theorem dX6_holds_267 : decode cX6_holds 267 = .ok (.iload_n 2, 1) := by decide +kernel
theorem dX6_holds_268 : decode cX6_holds 268 = .ok (.iconst 1, 1) := by decide +kernel
theorem dX6_holds_269 : decode cX6_holds 269 = .ok (.invokevirtual 56, 3) := by decide +kernel
theorem dX6_holds_272 : decode cX6_holds 272 = .ok (.ifCond .eq 20, 3) := by decide +kernel
theorem dX6_holds_275 : decode cX6_holds 275 = .ok (.aload_n 0, 1) := by decide +kernel
theorem dX6_holds_276 : decode cX6_holds 276 = .ok (.iload_n 1, 1) := by decide +kernel
theorem dX6_holds_277 : decode cX6_holds 277 = .ok (.iload_n 3, 1) := by decide +kernel
theorem dX6_holds_278 : decode cX6_holds 278 = .ok (.iload 4, 2) := by decide +kernel
theorem dX6_holds_280 : decode cX6_holds 280 = .ok (.iload 5, 2) := by decide +kernel
theorem dX6_holds_282 : decode cX6_holds 282 = .ok (.invokevirtual 71, 3) := by decide +kernel
theorem dX6_holds_285 : decode cX6_holds 285 = .ok (.ifCond .eq 7, 3) := by decide +kernel
theorem dX6_holds_288 : decode cX6_holds 288 = .ok (.iconst 1, 1) := by decide +kernel
theorem dX6_holds_289 : decode cX6_holds 289 = .ok (.goto 4, 3) := by decide +kernel
theorem dX6_holds_292 : decode cX6_holds 292 = .ok (.iconst 0, 1) := by decide +kernel
theorem dX6_holds_293 : decode cX6_holds 293 = .ok (.ireturn, 1) := by decide +kernel
theorem dX6_holds_294 : decode cX6_holds 294 = .ok (.aload_n 0, 1) := by decide +kernel
theorem dX6_holds_295 : decode cX6_holds 295 = .ok (.iload_n 1, 1) := by decide +kernel
theorem dX6_holds_296 : decode cX6_holds 296 = .ok (.iload_n 2, 1) := by decide +kernel
theorem dX6_holds_297 : decode cX6_holds 297 = .ok (.iload_n 3, 1) := by decide +kernel
theorem dX6_holds_298 : decode cX6_holds 298 = .ok (.iload 4, 2) := by decide +kernel
theorem dX6_holds_300 : decode cX6_holds 300 = .ok (.iload 5, 2) := by decide +kernel
theorem dX6_holds_302 : decode cX6_holds 302 = .ok (.invokevirtual 75, 3) := by decide +kernel
theorem dX6_holds_305 : decode cX6_holds 305 = .ok (.ireturn, 1) := by decide +kernel
theorem dX6_holds_306 : decode cX6_holds 306 = .ok (.aload_n 0, 1) := by decide +kernel
theorem dX6_holds_307 : decode cX6_holds 307 = .ok (.iload_n 1, 1) := by decide +kernel
theorem dX6_holds_308 : decode cX6_holds 308 = .ok (.iload_n 2, 1) := by decide +kernel
theorem dX6_holds_309 : decode cX6_holds 309 = .ok (.iload_n 3, 1) := by decide +kernel
theorem dX6_holds_310 : decode cX6_holds 310 = .ok (.iload 4, 2) := by decide +kernel
theorem dX6_holds_312 : decode cX6_holds 312 = .ok (.iload 5, 2) := by decide +kernel
theorem dX6_holds_314 : decode cX6_holds 314 = .ok (.invokevirtual 78, 3) := by decide +kernel
theorem dX6_holds_317 : decode cX6_holds 317 = .ok (.ireturn, 1) := by decide +kernel
theorem dX6_holds_318 : decode cX6_holds 318 = .ok (.aload_n 0, 1) := by decide +kernel
theorem dX6_holds_319 : decode cX6_holds 319 = .ok (.getfield 14, 3) := by decide +kernel
theorem dX6_holds_322 : decode cX6_holds 322 = .ok (.iload_n 3, 1) := by decide +kernel
theorem dX6_holds_323 : decode cX6_holds 323 = .ok (.iload 4, 2) := by decide +kernel
theorem dX6_holds_325 : decode cX6_holds 325 = .ok (.invokevirtual 56, 3) := by decide +kernel
theorem dX6_holds_328 : decode cX6_holds 328 = .ok (.ifCond .eq 19, 3) := by decide +kernel
theorem dX6_holds_331 : decode cX6_holds 331 = .ok (.aload_n 0, 1) := by decide +kernel
theorem dX6_holds_332 : decode cX6_holds 332 = .ok (.iload 6, 2) := by decide +kernel
theorem dX6_holds_334 : decode cX6_holds 334 = .ok (.iload_n 2, 1) := by decide +kernel
theorem dX6_holds_335 : decode cX6_holds 335 = .ok (.iload 5, 2) := by decide +kernel
theorem dX6_holds_337 : decode cX6_holds 337 = .ok (.invokevirtual 81, 3) := by decide +kernel
theorem dX6_holds_340 : decode cX6_holds 340 = .ok (.ifCond .eq 7, 3) := by decide +kernel
theorem dX6_holds_343 : decode cX6_holds 343 = .ok (.iconst 1, 1) := by decide +kernel
theorem dX6_holds_344 : decode cX6_holds 344 = .ok (.goto 4, 3) := by decide +kernel
theorem dX6_holds_347 : decode cX6_holds 347 = .ok (.iconst 0, 1) := by decide +kernel
theorem dX6_holds_348 : decode cX6_holds 348 = .ok (.ireturn, 1) := by decide +kernel
theorem dX6_holds_349 : decode cX6_holds 349 = .ok (.aload_n 0, 1) := by decide +kernel
theorem dX6_holds_350 : decode cX6_holds 350 = .ok (.iload 6, 2) := by decide +kernel
theorem dX6_holds_352 : decode cX6_holds 352 = .ok (.iload_n 2, 1) := by decide +kernel
theorem dX6_holds_353 : decode cX6_holds 353 = .ok (.iload_n 3, 1) := by decide +kernel
theorem dX6_holds_354 : decode cX6_holds 354 = .ok (.iload 4, 2) := by decide +kernel
theorem dX6_holds_356 : decode cX6_holds 356 = .ok (.iload 5, 2) := by decide +kernel
theorem dX6_holds_358 : decode cX6_holds 358 = .ok (.invokevirtual 84, 3) := by decide +kernel
theorem dX6_holds_361 : decode cX6_holds 361 = .ok (.ireturn, 1) := by decide +kernel
theorem dX6_typeOfVariable_0 : decode cX6_typeOfVariable 0 = .ok (.aload_n 0, 1) := by decide +kernel
theorem dX6_typeOfVariable_1 : decode cX6_typeOfVariable 1 = .ok (.getfield 34, 3) := by decide +kernel
theorem dX6_typeOfVariable_4 : decode cX6_typeOfVariable 4 = .ok (.iconst 1, 1) := by decide +kernel
theorem dX6_typeOfVariable_5 : decode cX6_typeOfVariable 5 = .ok (.isub, 1) := by decide +kernel
theorem dX6_typeOfVariable_6 : decode cX6_typeOfVariable 6 = .ok (.iload_n 1, 1) := by decide +kernel
theorem dX6_typeOfVariable_7 : decode cX6_typeOfVariable 7 = .ok (.isub, 1) := by decide +kernel
theorem dX6_typeOfVariable_8 : decode cX6_typeOfVariable 8 = .ok (.istore_n 2, 1) := by decide +kernel
theorem dX6_typeOfVariable_9 : decode cX6_typeOfVariable 9 = .ok (.iload_n 2, 1) := by decide +kernel
theorem dX6_typeOfVariable_10 : decode cX6_typeOfVariable 10 = .ok (.ifCond .ge 11, 3) := by decide +kernel
theorem dX6_typeOfVariable_13 : decode cX6_typeOfVariable 13 = .ok (.aload_n 0, 1) := by decide +kernel
theorem dX6_typeOfVariable_14 : decode cX6_typeOfVariable 14 = .ok (.getfield 14, 3) := by decide +kernel
theorem dX6_typeOfVariable_17 : decode cX6_typeOfVariable 17 = .ok (.invokevirtual 38, 3) := by decide +kernel
theorem dX6_typeOfVariable_20 : decode cX6_typeOfVariable 20 = .ok (.ireturn, 1) := by decide +kernel
theorem dX6_typeOfVariable_21 : decode cX6_typeOfVariable 21 = .ok (.aload_n 0, 1) := by decide +kernel
theorem dX6_typeOfVariable_22 : decode cX6_typeOfVariable 22 = .ok (.getfield 24, 3) := by decide +kernel
theorem dX6_typeOfVariable_25 : decode cX6_typeOfVariable 25 = .ok (.iload_n 2, 1) := by decide +kernel
theorem dX6_typeOfVariable_26 : decode cX6_typeOfVariable 26 = .ok (.iaload, 1) := by decide +kernel
theorem dX6_typeOfVariable_27 : decode cX6_typeOfVariable 27 = .ok (.iconst (-1), 1) := by decide +kernel
theorem dX6_typeOfVariable_28 : decode cX6_typeOfVariable 28 = .ok (.if_icmp .ne 10, 3) := by decide +kernel
theorem dX6_typeOfVariable_31 : decode cX6_typeOfVariable 31 = .ok (.aload_n 0, 1) := by decide +kernel
theorem dX6_typeOfVariable_32 : decode cX6_typeOfVariable 32 = .ok (.getfield 20, 3) := by decide +kernel
theorem dX6_typeOfVariable_35 : decode cX6_typeOfVariable 35 = .ok (.iload_n 2, 1) := by decide +kernel
theorem dX6_typeOfVariable_36 : decode cX6_typeOfVariable 36 = .ok (.iaload, 1) := by decide +kernel
theorem dX6_typeOfVariable_37 : decode cX6_typeOfVariable 37 = .ok (.ireturn, 1) := by decide +kernel
theorem dX6_typeOfVariable_38 : decode cX6_typeOfVariable 38 = .ok (.aload_n 0, 1) := by decide +kernel
theorem dX6_typeOfVariable_39 : decode cX6_typeOfVariable 39 = .ok (.getfield 14, 3) := by decide +kernel
theorem dX6_typeOfVariable_42 : decode cX6_typeOfVariable 42 = .ok (.invokevirtual 38, 3) := by decide +kernel
theorem dX6_typeOfVariable_45 : decode cX6_typeOfVariable 45 = .ok (.istore_n 3, 1) := by decide +kernel
theorem dX6_typeOfVariable_46 : decode cX6_typeOfVariable 46 = .ok (.aload_n 0, 1) := by decide +kernel
theorem dX6_typeOfVariable_47 : decode cX6_typeOfVariable 47 = .ok (.getfield 14, 3) := by decide +kernel
theorem dX6_typeOfVariable_50 : decode cX6_typeOfVariable 50 = .ok (.aload_n 0, 1) := by decide +kernel
theorem dX6_typeOfVariable_51 : decode cX6_typeOfVariable 51 = .ok (.getfield 20, 3) := by decide +kernel
theorem dX6_typeOfVariable_54 : decode cX6_typeOfVariable 54 = .ok (.iload_n 2, 1) := by decide +kernel
theorem dX6_typeOfVariable_55 : decode cX6_typeOfVariable 55 = .ok (.iaload, 1) := by decide +kernel
theorem dX6_typeOfVariable_56 : decode cX6_typeOfVariable 56 = .ok (.iload_n 3, 1) := by decide +kernel
theorem dX6_typeOfVariable_57 : decode cX6_typeOfVariable 57 = .ok (.aload_n 0, 1) := by decide +kernel
theorem dX6_typeOfVariable_58 : decode cX6_typeOfVariable 58 = .ok (.getfield 24, 3) := by decide +kernel
theorem dX6_typeOfVariable_61 : decode cX6_typeOfVariable 61 = .ok (.iload_n 2, 1) := by decide +kernel
theorem dX6_typeOfVariable_62 : decode cX6_typeOfVariable 62 = .ok (.iaload, 1) := by decide +kernel
theorem dX6_typeOfVariable_63 : decode cX6_typeOfVariable 63 = .ok (.iload_n 3, 1) := by decide +kernel
theorem dX6_typeOfVariable_64 : decode cX6_typeOfVariable 64 = .ok (.invokevirtual 87, 3) := by decide +kernel
theorem dX6_typeOfVariable_67 : decode cX6_typeOfVariable 67 = .ok (.ireturn, 1) := by decide +kernel
theorem dX6_bind_0 : decode cX6_bind 0 = .ok (.aload_n 0, 1) := by decide +kernel
theorem dX6_bind_1 : decode cX6_bind 1 = .ok (.getfield 20, 3) := by decide +kernel
theorem dX6_bind_4 : decode cX6_bind 4 = .ok (.aload_n 0, 1) := by decide +kernel
theorem dX6_bind_5 : decode cX6_bind 5 = .ok (.getfield 34, 3) := by decide +kernel
theorem dX6_bind_8 : decode cX6_bind 8 = .ok (.iload_n 1, 1) := by decide +kernel
theorem dX6_bind_9 : decode cX6_bind 9 = .ok (.iastore, 1) := by decide +kernel
theorem dX6_bind_10 : decode cX6_bind 10 = .ok (.aload_n 0, 1) := by decide +kernel
theorem dX6_bind_11 : decode cX6_bind 11 = .ok (.getfield 24, 3) := by decide +kernel
theorem dX6_bind_14 : decode cX6_bind 14 = .ok (.aload_n 0, 1) := by decide +kernel
theorem dX6_bind_15 : decode cX6_bind 15 = .ok (.getfield 34, 3) := by decide +kernel
theorem dX6_bind_18 : decode cX6_bind 18 = .ok (.iload_n 2, 1) := by decide +kernel
theorem dX6_bind_19 : decode cX6_bind 19 = .ok (.iastore, 1) := by decide +kernel
theorem dX6_bind_20 : decode cX6_bind 20 = .ok (.aload_n 0, 1) := by decide +kernel
theorem dX6_bind_21 : decode cX6_bind 21 = .ok (.dup, 1) := by decide +kernel
theorem dX6_bind_22 : decode cX6_bind 22 = .ok (.getfield 34, 3) := by decide +kernel
theorem dX6_bind_25 : decode cX6_bind 25 = .ok (.iconst 1, 1) := by decide +kernel
theorem dX6_bind_26 : decode cX6_bind 26 = .ok (.iadd, 1) := by decide +kernel
theorem dX6_bind_27 : decode cX6_bind 27 = .ok (.putfield 34, 3) := by decide +kernel
theorem dX6_bind_30 : decode cX6_bind 30 = .ok (.return_, 1) := by decide +kernel
theorem dX6_functionHolds_0 : decode cX6_functionHolds 0 = .ok (.aload_n 0, 1) := by decide +kernel
theorem dX6_functionHolds_1 : decode cX6_functionHolds 1 = .ok (.getfield 14, 3) := by decide +kernel
theorem dX6_functionHolds_4 : decode cX6_functionHolds 4 = .ok (.invokevirtual 38, 3) := by decide +kernel
theorem dX6_functionHolds_7 : decode cX6_functionHolds 7 = .ok (.istore 4, 2) := by decide +kernel
theorem dX6_functionHolds_9 : decode cX6_functionHolds 9 = .ok (.aload_n 0, 1) := by decide +kernel
theorem dX6_functionHolds_10 : decode cX6_functionHolds 10 = .ok (.getfield 14, 3) := by decide +kernel
theorem dX6_functionHolds_13 : decode cX6_functionHolds 13 = .ok (.invokevirtual 38, 3) := by decide +kernel
theorem dX6_functionHolds_16 : decode cX6_functionHolds 16 = .ok (.istore 5, 2) := by decide +kernel
theorem dX6_functionHolds_18 : decode cX6_functionHolds 18 = .ok (.aload_n 0, 1) := by decide +kernel
theorem dX6_functionHolds_19 : decode cX6_functionHolds 19 = .ok (.getfield 14, 3) := by decide +kernel
theorem dX6_functionHolds_22 : decode cX6_functionHolds 22 = .ok (.invokevirtual 38, 3) := by decide +kernel
theorem dX6_functionHolds_25 : decode cX6_functionHolds 25 = .ok (.istore 6, 2) := by decide +kernel
theorem dX6_functionHolds_27 : decode cX6_functionHolds 27 = .ok (.aload_n 0, 1) := by decide +kernel
theorem dX6_functionHolds_28 : decode cX6_functionHolds 28 = .ok (.getfield 14, 3) := by decide +kernel
theorem dX6_functionHolds_31 : decode cX6_functionHolds 31 = .ok (.invokevirtual 38, 3) := by decide +kernel
theorem dX6_functionHolds_34 : decode cX6_functionHolds 34 = .ok (.istore 7, 2) := by decide +kernel
theorem dX6_functionHolds_36 : decode cX6_functionHolds 36 = .ok (.aload_n 0, 1) := by decide +kernel
theorem dX6_functionHolds_37 : decode cX6_functionHolds 37 = .ok (.getfield 14, 3) := by decide +kernel
theorem dX6_functionHolds_40 : decode cX6_functionHolds 40 = .ok (.iload 4, 2) := by decide +kernel
theorem dX6_functionHolds_42 : decode cX6_functionHolds 42 = .ok (.iload 5, 2) := by decide +kernel
theorem dX6_functionHolds_44 : decode cX6_functionHolds 44 = .ok (.iload 6, 2) := by decide +kernel
theorem dX6_functionHolds_46 : decode cX6_functionHolds 46 = .ok (.iload 7, 2) := by decide +kernel
theorem dX6_functionHolds_48 : decode cX6_functionHolds 48 = .ok (.invokevirtual 87, 3) := by decide +kernel
theorem dX6_functionHolds_51 : decode cX6_functionHolds 51 = .ok (.istore 8, 2) := by decide +kernel
theorem dX6_functionHolds_53 : decode cX6_functionHolds 53 = .ok (.aload_n 0, 1) := by decide +kernel
theorem dX6_functionHolds_54 : decode cX6_functionHolds 54 = .ok (.getfield 34, 3) := by decide +kernel
theorem dX6_functionHolds_57 : decode cX6_functionHolds 57 = .ok (.istore 9, 2) := by decide +kernel
theorem dX6_functionHolds_59 : decode cX6_functionHolds 59 = .ok (.aload_n 0, 1) := by decide +kernel
theorem dX6_functionHolds_60 : decode cX6_functionHolds 60 = .ok (.getfield 27, 3) := by decide +kernel
theorem dX6_functionHolds_63 : decode cX6_functionHolds 63 = .ok (.getfield 53, 3) := by decide +kernel
theorem dX6_functionHolds_66 : decode cX6_functionHolds 66 = .ok (.iload_n 1, 1) := by decide +kernel
theorem dX6_functionHolds_67 : decode cX6_functionHolds 67 = .ok (.iaload, 1) := by decide +kernel
theorem dX6_functionHolds_68 : decode cX6_functionHolds 68 = .ok (.bipush 11, 2) := by decide +kernel
theorem dX6_functionHolds_70 : decode cX6_functionHolds 70 = .ok (.if_icmp .ne 10, 3) := by decide +kernel
theorem dX6_functionHolds_73 : decode cX6_functionHolds 73 = .ok (.aload_n 0, 1) := by decide +kernel
theorem dX6_functionHolds_74 : decode cX6_functionHolds 74 = .ok (.iload 8, 2) := by decide +kernel
theorem dX6_functionHolds_76 : decode cX6_functionHolds 76 = .ok (.iconst (-1), 1) := by decide +kernel
theorem dX6_functionHolds_77 : decode cX6_functionHolds 77 = .ok (.invokevirtual 93, 3) := by decide +kernel
theorem dX6_functionHolds_80 : decode cX6_functionHolds 80 = .ok (.aload_n 0, 1) := by decide +kernel
theorem dX6_functionHolds_81 : decode cX6_functionHolds 81 = .ok (.iload 4, 2) := by decide +kernel
theorem dX6_functionHolds_83 : decode cX6_functionHolds 83 = .ok (.iconst (-1), 1) := by decide +kernel
theorem dX6_functionHolds_84 : decode cX6_functionHolds 84 = .ok (.invokevirtual 93, 3) := by decide +kernel
theorem dX6_functionHolds_87 : decode cX6_functionHolds 87 = .ok (.aload_n 0, 1) := by decide +kernel
theorem dX6_functionHolds_88 : decode cX6_functionHolds 88 = .ok (.aload_n 0, 1) := by decide +kernel
theorem dX6_functionHolds_89 : decode cX6_functionHolds 89 = .ok (.getfield 27, 3) := by decide +kernel
theorem dX6_functionHolds_92 : decode cX6_functionHolds 92 = .ok (.getfield 50, 3) := by decide +kernel
theorem dX6_functionHolds_95 : decode cX6_functionHolds 95 = .ok (.iload_n 1, 1) := by decide +kernel
theorem dX6_functionHolds_96 : decode cX6_functionHolds 96 = .ok (.iaload, 1) := by decide +kernel
theorem dX6_functionHolds_97 : decode cX6_functionHolds 97 = .ok (.iload 6, 2) := by decide +kernel
theorem dX6_functionHolds_99 : decode cX6_functionHolds 99 = .ok (.iload 5, 2) := by decide +kernel
theorem dX6_functionHolds_101 : decode cX6_functionHolds 101 = .ok (.iload 7, 2) := by decide +kernel
theorem dX6_functionHolds_103 : decode cX6_functionHolds 103 = .ok (.iload_n 3, 1) := by decide +kernel
theorem dX6_functionHolds_104 : decode cX6_functionHolds 104 = .ok (.iconst 1, 1) := by decide +kernel
theorem dX6_functionHolds_105 : decode cX6_functionHolds 105 = .ok (.iadd, 1) := by decide +kernel
theorem dX6_functionHolds_106 : decode cX6_functionHolds 106 = .ok (.invokevirtual 42, 3) := by decide +kernel
theorem dX6_functionHolds_109 : decode cX6_functionHolds 109 = .ok (.istore 10, 2) := by decide +kernel
theorem dX6_functionHolds_111 : decode cX6_functionHolds 111 = .ok (.aload_n 0, 1) := by decide +kernel
theorem dX6_functionHolds_112 : decode cX6_functionHolds 112 = .ok (.iload 9, 2) := by decide +kernel
theorem dX6_functionHolds_114 : decode cX6_functionHolds 114 = .ok (.putfield 34, 3) := by decide +kernel
theorem dX6_functionHolds_117 : decode cX6_functionHolds 117 = .ok (.iload 10, 2) := by decide +kernel
theorem dX6_functionHolds_119 : decode cX6_functionHolds 119 = .ok (.ifCond .eq 20, 3) := by decide +kernel
theorem dX6_functionHolds_122 : decode cX6_functionHolds 122 = .ok (.aload_n 0, 1) := by decide +kernel
theorem dX6_functionHolds_123 : decode cX6_functionHolds 123 = .ok (.getfield 14, 3) := by decide +kernel
theorem dX6_functionHolds_126 : decode cX6_functionHolds 126 = .ok (.iload_n 2, 1) := by decide +kernel
theorem dX6_functionHolds_127 : decode cX6_functionHolds 127 = .ok (.iload 8, 2) := by decide +kernel
theorem dX6_functionHolds_129 : decode cX6_functionHolds 129 = .ok (.invokevirtual 56, 3) := by decide +kernel
theorem dX6_functionHolds_132 : decode cX6_functionHolds 132 = .ok (.ifCond .eq 7, 3) := by decide +kernel
theorem dX6_functionHolds_135 : decode cX6_functionHolds 135 = .ok (.iconst 1, 1) := by decide +kernel
theorem dX6_functionHolds_136 : decode cX6_functionHolds 136 = .ok (.goto 4, 3) := by decide +kernel
theorem dX6_functionHolds_139 : decode cX6_functionHolds 139 = .ok (.iconst 0, 1) := by decide +kernel
theorem dX6_functionHolds_140 : decode cX6_functionHolds 140 = .ok (.ireturn, 1) := by decide +kernel
theorem dX6_callHolds_0 : decode cX6_callHolds 0 = .ok (.aload_n 0, 1) := by decide +kernel
theorem dX6_callHolds_1 : decode cX6_callHolds 1 = .ok (.getfield 14, 3) := by decide +kernel
theorem dX6_callHolds_4 : decode cX6_callHolds 4 = .ok (.invokevirtual 38, 3) := by decide +kernel
theorem dX6_callHolds_7 : decode cX6_callHolds 7 = .ok (.istore 6, 2) := by decide +kernel
theorem dX6_callHolds_9 : decode cX6_callHolds 9 = .ok (.aload_n 0, 1) := by decide +kernel
theorem dX6_callHolds_10 : decode cX6_callHolds 10 = .ok (.getfield 14, 3) := by decide +kernel
theorem dX6_callHolds_13 : decode cX6_callHolds 13 = .ok (.invokevirtual 38, 3) := by decide +kernel
theorem dX6_callHolds_16 : decode cX6_callHolds 16 = .ok (.istore 7, 2) := by decide +kernel
theorem dX6_callHolds_18 : decode cX6_callHolds 18 = .ok (.aload_n 0, 1) := by decide +kernel
theorem dX6_callHolds_19 : decode cX6_callHolds 19 = .ok (.getfield 14, 3) := by decide +kernel
theorem dX6_callHolds_22 : decode cX6_callHolds 22 = .ok (.invokevirtual 38, 3) := by decide +kernel
theorem dX6_callHolds_25 : decode cX6_callHolds 25 = .ok (.istore 8, 2) := by decide +kernel
theorem dX6_callHolds_27 : decode cX6_callHolds 27 = .ok (.aload_n 0, 1) := by decide +kernel
theorem dX6_callHolds_28 : decode cX6_callHolds 28 = .ok (.getfield 14, 3) := by decide +kernel
theorem dX6_callHolds_31 : decode cX6_callHolds 31 = .ok (.iload 6, 2) := by decide +kernel
theorem dX6_callHolds_33 : decode cX6_callHolds 33 = .ok (.iload_n 3, 1) := by decide +kernel
theorem dX6_callHolds_34 : decode cX6_callHolds 34 = .ok (.iload_n 2, 1) := by decide +kernel
theorem dX6_callHolds_35 : decode cX6_callHolds 35 = .ok (.iload 7, 2) := by decide +kernel
theorem dX6_callHolds_37 : decode cX6_callHolds 37 = .ok (.invokevirtual 87, 3) := by decide +kernel
theorem dX6_callHolds_40 : decode cX6_callHolds 40 = .ok (.istore 9, 2) := by decide +kernel
theorem dX6_callHolds_42 : decode cX6_callHolds 42 = .ok (.aload_n 0, 1) := by decide +kernel
theorem dX6_callHolds_43 : decode cX6_callHolds 43 = .ok (.aload_n 0, 1) := by decide +kernel
theorem dX6_callHolds_44 : decode cX6_callHolds 44 = .ok (.getfield 27, 3) := by decide +kernel
theorem dX6_callHolds_47 : decode cX6_callHolds 47 = .ok (.getfield 50, 3) := by decide +kernel
theorem dX6_callHolds_50 : decode cX6_callHolds 50 = .ok (.iload_n 1, 1) := by decide +kernel
theorem dX6_callHolds_51 : decode cX6_callHolds 51 = .ok (.iaload, 1) := by decide +kernel
theorem dX6_callHolds_52 : decode cX6_callHolds 52 = .ok (.iload 9, 2) := by decide +kernel
theorem dX6_callHolds_54 : decode cX6_callHolds 54 = .ok (.iload 8, 2) := by decide +kernel
theorem dX6_callHolds_56 : decode cX6_callHolds 56 = .ok (.iload 4, 2) := by decide +kernel
theorem dX6_callHolds_58 : decode cX6_callHolds 58 = .ok (.iload 5, 2) := by decide +kernel
theorem dX6_callHolds_60 : decode cX6_callHolds 60 = .ok (.iconst 1, 1) := by decide +kernel
theorem dX6_callHolds_61 : decode cX6_callHolds 61 = .ok (.iadd, 1) := by decide +kernel
theorem dX6_callHolds_62 : decode cX6_callHolds 62 = .ok (.invokevirtual 42, 3) := by decide +kernel
theorem dX6_callHolds_65 : decode cX6_callHolds 65 = .ok (.ifCond .eq 33, 3) := by decide +kernel
theorem dX6_callHolds_68 : decode cX6_callHolds 68 = .ok (.aload_n 0, 1) := by decide +kernel
theorem dX6_callHolds_69 : decode cX6_callHolds 69 = .ok (.aload_n 0, 1) := by decide +kernel
theorem dX6_callHolds_70 : decode cX6_callHolds 70 = .ok (.getfield 27, 3) := by decide +kernel
theorem dX6_callHolds_73 : decode cX6_callHolds 73 = .ok (.getfield 97, 3) := by decide +kernel
theorem dX6_callHolds_76 : decode cX6_callHolds 76 = .ok (.iload_n 1, 1) := by decide +kernel
theorem dX6_callHolds_77 : decode cX6_callHolds 77 = .ok (.iaload, 1) := by decide +kernel
theorem dX6_callHolds_78 : decode cX6_callHolds 78 = .ok (.iload 6, 2) := by decide +kernel
theorem dX6_callHolds_80 : decode cX6_callHolds 80 = .ok (.iload 7, 2) := by decide +kernel
theorem dX6_callHolds_82 : decode cX6_callHolds 82 = .ok (.iload 8, 2) := by decide +kernel
theorem dX6_callHolds_84 : decode cX6_callHolds 84 = .ok (.iload 5, 2) := by decide +kernel
theorem dX6_callHolds_86 : decode cX6_callHolds 86 = .ok (.iconst 1, 1) := by decide +kernel
theorem dX6_callHolds_87 : decode cX6_callHolds 87 = .ok (.iadd, 1) := by decide +kernel
theorem dX6_callHolds_88 : decode cX6_callHolds 88 = .ok (.invokevirtual 42, 3) := by decide +kernel
theorem dX6_callHolds_91 : decode cX6_callHolds 91 = .ok (.ifCond .eq 7, 3) := by decide +kernel
theorem dX6_callHolds_94 : decode cX6_callHolds 94 = .ok (.iconst 1, 1) := by decide +kernel
theorem dX6_callHolds_95 : decode cX6_callHolds 95 = .ok (.goto 4, 3) := by decide +kernel
theorem dX6_callHolds_98 : decode cX6_callHolds 98 = .ok (.iconst 0, 1) := by decide +kernel
theorem dX6_callHolds_99 : decode cX6_callHolds 99 = .ok (.ireturn, 1) := by decide +kernel
theorem dX6_numbersHold_0 : decode cX6_numbersHold 0 = .ok (.aload_n 0, 1) := by decide +kernel
theorem dX6_numbersHold_1 : decode cX6_numbersHold 1 = .ok (.getfield 14, 3) := by decide +kernel
theorem dX6_numbersHold_4 : decode cX6_numbersHold 4 = .ok (.invokevirtual 38, 3) := by decide +kernel
theorem dX6_numbersHold_7 : decode cX6_numbersHold 7 = .ok (.istore 5, 2) := by decide +kernel
theorem dX6_numbersHold_9 : decode cX6_numbersHold 9 = .ok (.aload_n 0, 1) := by decide +kernel
theorem dX6_numbersHold_10 : decode cX6_numbersHold 10 = .ok (.aload_n 0, 1) := by decide +kernel
theorem dX6_numbersHold_11 : decode cX6_numbersHold 11 = .ok (.getfield 27, 3) := by decide +kernel
theorem dX6_numbersHold_14 : decode cX6_numbersHold 14 = .ok (.getfield 50, 3) := by decide +kernel
theorem dX6_numbersHold_17 : decode cX6_numbersHold 17 = .ok (.iload_n 1, 1) := by decide +kernel
theorem dX6_numbersHold_18 : decode cX6_numbersHold 18 = .ok (.iaload, 1) := by decide +kernel
theorem dX6_numbersHold_19 : decode cX6_numbersHold 19 = .ok (.iconst 0, 1) := by decide +kernel
theorem dX6_numbersHold_20 : decode cX6_numbersHold 20 = .ok (.iload 5, 2) := by decide +kernel
theorem dX6_numbersHold_22 : decode cX6_numbersHold 22 = .ok (.iload_n 3, 1) := by decide +kernel
theorem dX6_numbersHold_23 : decode cX6_numbersHold 23 = .ok (.iload 4, 2) := by decide +kernel
theorem dX6_numbersHold_25 : decode cX6_numbersHold 25 = .ok (.iconst 1, 1) := by decide +kernel
theorem dX6_numbersHold_26 : decode cX6_numbersHold 26 = .ok (.iadd, 1) := by decide +kernel
theorem dX6_numbersHold_27 : decode cX6_numbersHold 27 = .ok (.invokevirtual 42, 3) := by decide +kernel
theorem dX6_numbersHold_30 : decode cX6_numbersHold 30 = .ok (.ifCond .eq 31, 3) := by decide +kernel
theorem dX6_numbersHold_33 : decode cX6_numbersHold 33 = .ok (.aload_n 0, 1) := by decide +kernel
theorem dX6_numbersHold_34 : decode cX6_numbersHold 34 = .ok (.aload_n 0, 1) := by decide +kernel
theorem dX6_numbersHold_35 : decode cX6_numbersHold 35 = .ok (.getfield 27, 3) := by decide +kernel
theorem dX6_numbersHold_38 : decode cX6_numbersHold 38 = .ok (.getfield 97, 3) := by decide +kernel
theorem dX6_numbersHold_41 : decode cX6_numbersHold 41 = .ok (.iload_n 1, 1) := by decide +kernel
theorem dX6_numbersHold_42 : decode cX6_numbersHold 42 = .ok (.iaload, 1) := by decide +kernel
theorem dX6_numbersHold_43 : decode cX6_numbersHold 43 = .ok (.iconst 0, 1) := by decide +kernel
theorem dX6_numbersHold_44 : decode cX6_numbersHold 44 = .ok (.iload_n 2, 1) := by decide +kernel
theorem dX6_numbersHold_45 : decode cX6_numbersHold 45 = .ok (.iload 5, 2) := by decide +kernel
theorem dX6_numbersHold_47 : decode cX6_numbersHold 47 = .ok (.iload 4, 2) := by decide +kernel
theorem dX6_numbersHold_49 : decode cX6_numbersHold 49 = .ok (.iconst 1, 1) := by decide +kernel
theorem dX6_numbersHold_50 : decode cX6_numbersHold 50 = .ok (.iadd, 1) := by decide +kernel
theorem dX6_numbersHold_51 : decode cX6_numbersHold 51 = .ok (.invokevirtual 42, 3) := by decide +kernel
theorem dX6_numbersHold_54 : decode cX6_numbersHold 54 = .ok (.ifCond .eq 7, 3) := by decide +kernel
theorem dX6_numbersHold_57 : decode cX6_numbersHold 57 = .ok (.iconst 1, 1) := by decide +kernel
theorem dX6_numbersHold_58 : decode cX6_numbersHold 58 = .ok (.goto 4, 3) := by decide +kernel
theorem dX6_numbersHold_61 : decode cX6_numbersHold 61 = .ok (.iconst 0, 1) := by decide +kernel
theorem dX6_numbersHold_62 : decode cX6_numbersHold 62 = .ok (.ireturn, 1) := by decide +kernel
theorem dX6_ifHolds_0 : decode cX6_ifHolds 0 = .ok (.aload_n 0, 1) := by decide +kernel
theorem dX6_ifHolds_1 : decode cX6_ifHolds 1 = .ok (.getfield 14, 3) := by decide +kernel
theorem dX6_ifHolds_4 : decode cX6_ifHolds 4 = .ok (.invokevirtual 38, 3) := by decide +kernel
theorem dX6_ifHolds_7 : decode cX6_ifHolds 7 = .ok (.istore 6, 2) := by decide +kernel
theorem dX6_ifHolds_9 : decode cX6_ifHolds 9 = .ok (.aload_n 0, 1) := by decide +kernel
theorem dX6_ifHolds_10 : decode cX6_ifHolds 10 = .ok (.aload_n 0, 1) := by decide +kernel
theorem dX6_ifHolds_11 : decode cX6_ifHolds 11 = .ok (.getfield 27, 3) := by decide +kernel
theorem dX6_ifHolds_14 : decode cX6_ifHolds 14 = .ok (.getfield 50, 3) := by decide +kernel
theorem dX6_ifHolds_17 : decode cX6_ifHolds 17 = .ok (.iload_n 1, 1) := by decide +kernel
theorem dX6_ifHolds_18 : decode cX6_ifHolds 18 = .ok (.iaload, 1) := by decide +kernel
theorem dX6_ifHolds_19 : decode cX6_ifHolds 19 = .ok (.iconst 1, 1) := by decide +kernel
theorem dX6_ifHolds_20 : decode cX6_ifHolds 20 = .ok (.iload 6, 2) := by decide +kernel
theorem dX6_ifHolds_22 : decode cX6_ifHolds 22 = .ok (.iload 4, 2) := by decide +kernel
theorem dX6_ifHolds_24 : decode cX6_ifHolds 24 = .ok (.iload 5, 2) := by decide +kernel
theorem dX6_ifHolds_26 : decode cX6_ifHolds 26 = .ok (.iconst 1, 1) := by decide +kernel
theorem dX6_ifHolds_27 : decode cX6_ifHolds 27 = .ok (.iadd, 1) := by decide +kernel
theorem dX6_ifHolds_28 : decode cX6_ifHolds 28 = .ok (.invokevirtual 42, 3) := by decide +kernel
theorem dX6_ifHolds_31 : decode cX6_ifHolds 31 = .ok (.ifCond .eq 55, 3) := by decide +kernel
theorem dX6_ifHolds_34 : decode cX6_ifHolds 34 = .ok (.aload_n 0, 1) := by decide +kernel
theorem dX6_ifHolds_35 : decode cX6_ifHolds 35 = .ok (.aload_n 0, 1) := by decide +kernel
theorem dX6_ifHolds_36 : decode cX6_ifHolds 36 = .ok (.getfield 27, 3) := by decide +kernel
theorem dX6_ifHolds_39 : decode cX6_ifHolds 39 = .ok (.getfield 97, 3) := by decide +kernel
theorem dX6_ifHolds_42 : decode cX6_ifHolds 42 = .ok (.iload_n 1, 1) := by decide +kernel
theorem dX6_ifHolds_43 : decode cX6_ifHolds 43 = .ok (.iaload, 1) := by decide +kernel
theorem dX6_ifHolds_44 : decode cX6_ifHolds 44 = .ok (.iload_n 2, 1) := by decide +kernel
theorem dX6_ifHolds_45 : decode cX6_ifHolds 45 = .ok (.iload_n 3, 1) := by decide +kernel
theorem dX6_ifHolds_46 : decode cX6_ifHolds 46 = .ok (.iload 6, 2) := by decide +kernel
theorem dX6_ifHolds_48 : decode cX6_ifHolds 48 = .ok (.iload 5, 2) := by decide +kernel
theorem dX6_ifHolds_50 : decode cX6_ifHolds 50 = .ok (.iconst 1, 1) := by decide +kernel
theorem dX6_ifHolds_51 : decode cX6_ifHolds 51 = .ok (.iadd, 1) := by decide +kernel
theorem dX6_ifHolds_52 : decode cX6_ifHolds 52 = .ok (.invokevirtual 42, 3) := by decide +kernel
theorem dX6_ifHolds_55 : decode cX6_ifHolds 55 = .ok (.ifCond .eq 31, 3) := by decide +kernel
theorem dX6_ifHolds_58 : decode cX6_ifHolds 58 = .ok (.aload_n 0, 1) := by decide +kernel
theorem dX6_ifHolds_59 : decode cX6_ifHolds 59 = .ok (.aload_n 0, 1) := by decide +kernel
theorem dX6_ifHolds_60 : decode cX6_ifHolds 60 = .ok (.getfield 27, 3) := by decide +kernel
theorem dX6_ifHolds_63 : decode cX6_ifHolds 63 = .ok (.getfield 100, 3) := by decide +kernel
theorem dX6_ifHolds_66 : decode cX6_ifHolds 66 = .ok (.iload_n 1, 1) := by decide +kernel
theorem dX6_ifHolds_67 : decode cX6_ifHolds 67 = .ok (.iaload, 1) := by decide +kernel
theorem dX6_ifHolds_68 : decode cX6_ifHolds 68 = .ok (.iload_n 2, 1) := by decide +kernel
theorem dX6_ifHolds_69 : decode cX6_ifHolds 69 = .ok (.iload_n 3, 1) := by decide +kernel
theorem dX6_ifHolds_70 : decode cX6_ifHolds 70 = .ok (.iload 6, 2) := by decide +kernel
theorem dX6_ifHolds_72 : decode cX6_ifHolds 72 = .ok (.iload 5, 2) := by decide +kernel
theorem dX6_ifHolds_74 : decode cX6_ifHolds 74 = .ok (.iconst 1, 1) := by decide +kernel
theorem dX6_ifHolds_75 : decode cX6_ifHolds 75 = .ok (.iadd, 1) := by decide +kernel
theorem dX6_ifHolds_76 : decode cX6_ifHolds 76 = .ok (.invokevirtual 42, 3) := by decide +kernel
theorem dX6_ifHolds_79 : decode cX6_ifHolds 79 = .ok (.ifCond .eq 7, 3) := by decide +kernel
theorem dX6_ifHolds_82 : decode cX6_ifHolds 82 = .ok (.iconst 1, 1) := by decide +kernel
theorem dX6_ifHolds_83 : decode cX6_ifHolds 83 = .ok (.goto 4, 3) := by decide +kernel
theorem dX6_ifHolds_86 : decode cX6_ifHolds 86 = .ok (.iconst 0, 1) := by decide +kernel
theorem dX6_ifHolds_87 : decode cX6_ifHolds 87 = .ok (.ireturn, 1) := by decide +kernel
theorem dX6_letHolds_0 : decode cX6_letHolds 0 = .ok (.aload_n 0, 1) := by decide +kernel
theorem dX6_letHolds_1 : decode cX6_letHolds 1 = .ok (.getfield 14, 3) := by decide +kernel
theorem dX6_letHolds_4 : decode cX6_letHolds 4 = .ok (.invokevirtual 38, 3) := by decide +kernel
theorem dX6_letHolds_7 : decode cX6_letHolds 7 = .ok (.istore 6, 2) := by decide +kernel
theorem dX6_letHolds_9 : decode cX6_letHolds 9 = .ok (.aload_n 0, 1) := by decide +kernel
theorem dX6_letHolds_10 : decode cX6_letHolds 10 = .ok (.getfield 14, 3) := by decide +kernel
theorem dX6_letHolds_13 : decode cX6_letHolds 13 = .ok (.invokevirtual 38, 3) := by decide +kernel
theorem dX6_letHolds_16 : decode cX6_letHolds 16 = .ok (.istore 7, 2) := by decide +kernel
theorem dX6_letHolds_18 : decode cX6_letHolds 18 = .ok (.aload_n 0, 1) := by decide +kernel
theorem dX6_letHolds_19 : decode cX6_letHolds 19 = .ok (.aload_n 0, 1) := by decide +kernel
theorem dX6_letHolds_20 : decode cX6_letHolds 20 = .ok (.getfield 27, 3) := by decide +kernel
theorem dX6_letHolds_23 : decode cX6_letHolds 23 = .ok (.getfield 50, 3) := by decide +kernel
theorem dX6_letHolds_26 : decode cX6_letHolds 26 = .ok (.iload_n 1, 1) := by decide +kernel
theorem dX6_letHolds_27 : decode cX6_letHolds 27 = .ok (.iaload, 1) := by decide +kernel
theorem dX6_letHolds_28 : decode cX6_letHolds 28 = .ok (.iload 6, 2) := by decide +kernel
theorem dX6_letHolds_30 : decode cX6_letHolds 30 = .ok (.iload 7, 2) := by decide +kernel
theorem dX6_letHolds_32 : decode cX6_letHolds 32 = .ok (.iload 4, 2) := by decide +kernel
theorem dX6_letHolds_34 : decode cX6_letHolds 34 = .ok (.iload 5, 2) := by decide +kernel
theorem dX6_letHolds_36 : decode cX6_letHolds 36 = .ok (.iconst 1, 1) := by decide +kernel
theorem dX6_letHolds_37 : decode cX6_letHolds 37 = .ok (.iadd, 1) := by decide +kernel
theorem dX6_letHolds_38 : decode cX6_letHolds 38 = .ok (.invokevirtual 42, 3) := by decide +kernel
theorem dX6_letHolds_41 : decode cX6_letHolds 41 = .ok (.ifCond .ne 5, 3) := by decide +kernel
theorem dX6_letHolds_44 : decode cX6_letHolds 44 = .ok (.iconst 0, 1) := by decide +kernel
theorem dX6_letHolds_45 : decode cX6_letHolds 45 = .ok (.ireturn, 1) := by decide +kernel
theorem dX6_letHolds_46 : decode cX6_letHolds 46 = .ok (.aload_n 0, 1) := by decide +kernel
theorem dX6_letHolds_47 : decode cX6_letHolds 47 = .ok (.iload 6, 2) := by decide +kernel
theorem dX6_letHolds_49 : decode cX6_letHolds 49 = .ok (.iconst (-1), 1) := by decide +kernel
theorem dX6_letHolds_50 : decode cX6_letHolds 50 = .ok (.invokevirtual 93, 3) := by decide +kernel
theorem dX6_letHolds_53 : decode cX6_letHolds 53 = .ok (.aload_n 0, 1) := by decide +kernel
theorem dX6_letHolds_54 : decode cX6_letHolds 54 = .ok (.aload_n 0, 1) := by decide +kernel
theorem dX6_letHolds_55 : decode cX6_letHolds 55 = .ok (.getfield 27, 3) := by decide +kernel
theorem dX6_letHolds_58 : decode cX6_letHolds 58 = .ok (.getfield 97, 3) := by decide +kernel
theorem dX6_letHolds_61 : decode cX6_letHolds 61 = .ok (.iload_n 1, 1) := by decide +kernel
theorem dX6_letHolds_62 : decode cX6_letHolds 62 = .ok (.iaload, 1) := by decide +kernel
theorem dX6_letHolds_63 : decode cX6_letHolds 63 = .ok (.iload_n 2, 1) := by decide +kernel
theorem dX6_letHolds_64 : decode cX6_letHolds 64 = .ok (.iload_n 3, 1) := by decide +kernel
theorem dX6_letHolds_65 : decode cX6_letHolds 65 = .ok (.iload 7, 2) := by decide +kernel
theorem dX6_letHolds_67 : decode cX6_letHolds 67 = .ok (.iload 5, 2) := by decide +kernel
theorem dX6_letHolds_69 : decode cX6_letHolds 69 = .ok (.iconst 1, 1) := by decide +kernel
theorem dX6_letHolds_70 : decode cX6_letHolds 70 = .ok (.iadd, 1) := by decide +kernel
theorem dX6_letHolds_71 : decode cX6_letHolds 71 = .ok (.invokevirtual 42, 3) := by decide +kernel
theorem dX6_letHolds_74 : decode cX6_letHolds 74 = .ok (.istore 8, 2) := by decide +kernel
theorem dX6_letHolds_76 : decode cX6_letHolds 76 = .ok (.aload_n 0, 1) := by decide +kernel
theorem dX6_letHolds_77 : decode cX6_letHolds 77 = .ok (.dup, 1) := by decide +kernel
theorem dX6_letHolds_78 : decode cX6_letHolds 78 = .ok (.getfield 34, 3) := by decide +kernel
theorem dX6_letHolds_81 : decode cX6_letHolds 81 = .ok (.iconst 1, 1) := by decide +kernel
theorem dX6_letHolds_82 : decode cX6_letHolds 82 = .ok (.isub, 1) := by decide +kernel
theorem dX6_letHolds_83 : decode cX6_letHolds 83 = .ok (.putfield 34, 3) := by decide +kernel
theorem dX6_letHolds_86 : decode cX6_letHolds 86 = .ok (.iload 8, 2) := by decide +kernel
theorem dX6_letHolds_88 : decode cX6_letHolds 88 = .ok (.ireturn, 1) := by decide +kernel
theorem dX6_takeHolds_0 : decode cX6_takeHolds 0 = .ok (.aload_n 0, 1) := by decide +kernel
theorem dX6_takeHolds_1 : decode cX6_takeHolds 1 = .ok (.iload_n 2, 1) := by decide +kernel
theorem dX6_takeHolds_2 : decode cX6_takeHolds 2 = .ok (.iload_n 3, 1) := by decide +kernel
theorem dX6_takeHolds_3 : decode cX6_takeHolds 3 = .ok (.invokevirtual 93, 3) := by decide +kernel
theorem dX6_takeHolds_6 : decode cX6_takeHolds 6 = .ok (.aload_n 0, 1) := by decide +kernel
theorem dX6_takeHolds_7 : decode cX6_takeHolds 7 = .ok (.iload_n 1, 1) := by decide +kernel
theorem dX6_takeHolds_8 : decode cX6_takeHolds 8 = .ok (.iload 4, 2) := by decide +kernel
theorem dX6_takeHolds_10 : decode cX6_takeHolds 10 = .ok (.iload 5, 2) := by decide +kernel
theorem dX6_takeHolds_12 : decode cX6_takeHolds 12 = .ok (.invokevirtual 81, 3) := by decide +kernel
theorem dX6_takeHolds_15 : decode cX6_takeHolds 15 = .ok (.istore 6, 2) := by decide +kernel
theorem dX6_takeHolds_17 : decode cX6_takeHolds 17 = .ok (.aload_n 0, 1) := by decide +kernel
theorem dX6_takeHolds_18 : decode cX6_takeHolds 18 = .ok (.dup, 1) := by decide +kernel
theorem dX6_takeHolds_19 : decode cX6_takeHolds 19 = .ok (.getfield 34, 3) := by decide +kernel
theorem dX6_takeHolds_22 : decode cX6_takeHolds 22 = .ok (.iconst 1, 1) := by decide +kernel
theorem dX6_takeHolds_23 : decode cX6_takeHolds 23 = .ok (.isub, 1) := by decide +kernel
theorem dX6_takeHolds_24 : decode cX6_takeHolds 24 = .ok (.putfield 34, 3) := by decide +kernel
theorem dX6_takeHolds_27 : decode cX6_takeHolds 27 = .ok (.iload 6, 2) := by decide +kernel
theorem dX6_takeHolds_29 : decode cX6_takeHolds 29 = .ok (.ireturn, 1) := by decide +kernel
theorem dX6_wholeHolds_0 : decode cX6_wholeHolds 0 = .ok (.aload_n 0, 1) := by decide +kernel
theorem dX6_wholeHolds_1 : decode cX6_wholeHolds 1 = .ok (.getfield 14, 3) := by decide +kernel
theorem dX6_wholeHolds_4 : decode cX6_wholeHolds 4 = .ok (.invokevirtual 38, 3) := by decide +kernel
theorem dX6_wholeHolds_7 : decode cX6_wholeHolds 7 = .ok (.istore 4, 2) := by decide +kernel
theorem dX6_wholeHolds_9 : decode cX6_wholeHolds 9 = .ok (.aload_n 0, 1) := by decide +kernel
theorem dX6_wholeHolds_10 : decode cX6_wholeHolds 10 = .ok (.iload_n 1, 1) := by decide +kernel
theorem dX6_wholeHolds_11 : decode cX6_wholeHolds 11 = .ok (.iload 4, 2) := by decide +kernel
theorem dX6_wholeHolds_13 : decode cX6_wholeHolds 13 = .ok (.iload 4, 2) := by decide +kernel
theorem dX6_wholeHolds_15 : decode cX6_wholeHolds 15 = .ok (.iload_n 2, 1) := by decide +kernel
theorem dX6_wholeHolds_16 : decode cX6_wholeHolds 16 = .ok (.iload_n 3, 1) := by decide +kernel
theorem dX6_wholeHolds_17 : decode cX6_wholeHolds 17 = .ok (.iconst 1, 1) := by decide +kernel
theorem dX6_wholeHolds_18 : decode cX6_wholeHolds 18 = .ok (.iadd, 1) := by decide +kernel
theorem dX6_wholeHolds_19 : decode cX6_wholeHolds 19 = .ok (.invokevirtual 42, 3) := by decide +kernel
theorem dX6_wholeHolds_22 : decode cX6_wholeHolds 22 = .ok (.ireturn, 1) := by decide +kernel
theorem dX7_init_0 : decode cX7_init 0 = .ok (.aload_n 0, 1) := by decide +kernel
theorem dX7_init_1 : decode cX7_init 1 = .ok (.invokespecial 1, 3) := by decide +kernel
theorem dX7_init_4 : decode cX7_init 4 = .ok (.aload_n 0, 1) := by decide +kernel
theorem dX7_init_5 : decode cX7_init 5 = .ok (.sipush 200, 3) := by decide +kernel
theorem dX7_init_8 : decode cX7_init 8 = .ok (.newarray .int, 2) := by decide +kernel
theorem dX7_init_10 : decode cX7_init 10 = .ok (.putfield 9, 3) := by decide +kernel
theorem dX7_init_13 : decode cX7_init 13 = .ok (.aload_n 0, 1) := by decide +kernel
theorem dX7_init_14 : decode cX7_init 14 = .ok (.sipush 200, 3) := by decide +kernel
theorem dX7_init_17 : decode cX7_init 17 = .ok (.newarray .int, 2) := by decide +kernel
theorem dX7_init_19 : decode cX7_init 19 = .ok (.putfield 15, 3) := by decide +kernel
theorem dX7_init_22 : decode cX7_init 22 = .ok (.aload_n 0, 1) := by decide +kernel
theorem dX7_init_23 : decode cX7_init 23 = .ok (.sipush 200, 3) := by decide +kernel
theorem dX7_init_26 : decode cX7_init 26 = .ok (.newarray .int, 2) := by decide +kernel
theorem dX7_init_28 : decode cX7_init 28 = .ok (.putfield 18, 3) := by decide +kernel
theorem dX7_init_31 : decode cX7_init 31 = .ok (.return_, 1) := by decide +kernel
theorem dX7_clear_0 : decode cX7_clear 0 = .ok (.aload_n 0, 1) := by decide +kernel
theorem dX7_clear_1 : decode cX7_clear 1 = .ok (.iconst 0, 1) := by decide +kernel
theorem dX7_clear_2 : decode cX7_clear 2 = .ok (.putfield 21, 3) := by decide +kernel
theorem dX7_clear_5 : decode cX7_clear 5 = .ok (.return_, 1) := by decide +kernel
theorem dX7_add_0 : decode cX7_add 0 = .ok (.aload_n 0, 1) := by decide +kernel
theorem dX7_add_1 : decode cX7_add 1 = .ok (.getfield 9, 3) := by decide +kernel
theorem dX7_add_4 : decode cX7_add 4 = .ok (.aload_n 0, 1) := by decide +kernel
theorem dX7_add_5 : decode cX7_add 5 = .ok (.getfield 21, 3) := by decide +kernel
theorem dX7_add_8 : decode cX7_add 8 = .ok (.iload_n 1, 1) := by decide +kernel
theorem dX7_add_9 : decode cX7_add 9 = .ok (.iastore, 1) := by decide +kernel
theorem dX7_add_10 : decode cX7_add 10 = .ok (.aload_n 0, 1) := by decide +kernel
theorem dX7_add_11 : decode cX7_add 11 = .ok (.getfield 15, 3) := by decide +kernel
theorem dX7_add_14 : decode cX7_add 14 = .ok (.aload_n 0, 1) := by decide +kernel
theorem dX7_add_15 : decode cX7_add 15 = .ok (.getfield 21, 3) := by decide +kernel
theorem dX7_add_18 : decode cX7_add 18 = .ok (.iload_n 2, 1) := by decide +kernel
theorem dX7_add_19 : decode cX7_add 19 = .ok (.iastore, 1) := by decide +kernel
theorem dX7_add_20 : decode cX7_add 20 = .ok (.aload_n 0, 1) := by decide +kernel
theorem dX7_add_21 : decode cX7_add 21 = .ok (.getfield 18, 3) := by decide +kernel
theorem dX7_add_24 : decode cX7_add 24 = .ok (.aload_n 0, 1) := by decide +kernel
theorem dX7_add_25 : decode cX7_add 25 = .ok (.getfield 21, 3) := by decide +kernel
theorem dX7_add_28 : decode cX7_add 28 = .ok (.iload_n 3, 1) := by decide +kernel
theorem dX7_add_29 : decode cX7_add 29 = .ok (.iastore, 1) := by decide +kernel
theorem dX7_add_30 : decode cX7_add 30 = .ok (.aload_n 0, 1) := by decide +kernel
theorem dX7_add_31 : decode cX7_add 31 = .ok (.dup, 1) := by decide +kernel
theorem dX7_add_32 : decode cX7_add 32 = .ok (.getfield 21, 3) := by decide +kernel
theorem dX7_add_35 : decode cX7_add 35 = .ok (.dup_x1, 1) := by decide +kernel
theorem dX7_add_36 : decode cX7_add 36 = .ok (.iconst 1, 1) := by decide +kernel
theorem dX7_add_37 : decode cX7_add 37 = .ok (.iadd, 1) := by decide +kernel
theorem dX7_add_38 : decode cX7_add 38 = .ok (.putfield 21, 3) := by decide +kernel
theorem dX7_add_41 : decode cX7_add 41 = .ok (.ireturn, 1) := by decide +kernel
theorem dX8_init_0 : decode cX8_init 0 = .ok (.aload_n 0, 1) := by decide +kernel
theorem dX8_init_1 : decode cX8_init 1 = .ok (.invokespecial 1, 3) := by decide +kernel
theorem dX8_init_4 : decode cX8_init 4 = .ok (.aload_n 0, 1) := by decide +kernel
theorem dX8_init_5 : decode cX8_init 5 = .ok (.sipush 200, 3) := by decide +kernel
theorem dX8_init_8 : decode cX8_init 8 = .ok (.newarray .int, 2) := by decide +kernel
theorem dX8_init_10 : decode cX8_init 10 = .ok (.putfield 9, 3) := by decide +kernel
theorem dX8_init_13 : decode cX8_init 13 = .ok (.aload_n 0, 1) := by decide +kernel
theorem dX8_init_14 : decode cX8_init 14 = .ok (.sipush 200, 3) := by decide +kernel
theorem dX8_init_17 : decode cX8_init 17 = .ok (.newarray .int, 2) := by decide +kernel
theorem dX8_init_19 : decode cX8_init 19 = .ok (.putfield 15, 3) := by decide +kernel
theorem dX8_init_22 : decode cX8_init 22 = .ok (.aload_n 0, 1) := by decide +kernel
theorem dX8_init_23 : decode cX8_init 23 = .ok (.sipush 200, 3) := by decide +kernel
theorem dX8_init_26 : decode cX8_init 26 = .ok (.newarray .int, 2) := by decide +kernel
theorem dX8_init_28 : decode cX8_init 28 = .ok (.putfield 18, 3) := by decide +kernel
theorem dX8_init_31 : decode cX8_init 31 = .ok (.aload_n 0, 1) := by decide +kernel
theorem dX8_init_32 : decode cX8_init 32 = .ok (.sipush 200, 3) := by decide +kernel
theorem dX8_init_35 : decode cX8_init 35 = .ok (.newarray .int, 2) := by decide +kernel
theorem dX8_init_37 : decode cX8_init 37 = .ok (.putfield 21, 3) := by decide +kernel
theorem dX8_init_40 : decode cX8_init 40 = .ok (.return_, 1) := by decide +kernel
theorem dX8_clear_0 : decode cX8_clear 0 = .ok (.aload_n 0, 1) := by decide +kernel
theorem dX8_clear_1 : decode cX8_clear 1 = .ok (.iconst 0, 1) := by decide +kernel
theorem dX8_clear_2 : decode cX8_clear 2 = .ok (.putfield 24, 3) := by decide +kernel
theorem dX8_clear_5 : decode cX8_clear 5 = .ok (.return_, 1) := by decide +kernel
theorem dX8_add_0 : decode cX8_add 0 = .ok (.aload_n 0, 1) := by decide +kernel
theorem dX8_add_1 : decode cX8_add 1 = .ok (.getfield 9, 3) := by decide +kernel
theorem dX8_add_4 : decode cX8_add 4 = .ok (.aload_n 0, 1) := by decide +kernel
theorem dX8_add_5 : decode cX8_add 5 = .ok (.getfield 24, 3) := by decide +kernel
theorem dX8_add_8 : decode cX8_add 8 = .ok (.iload_n 1, 1) := by decide +kernel
theorem dX8_add_9 : decode cX8_add 9 = .ok (.iastore, 1) := by decide +kernel
theorem dX8_add_10 : decode cX8_add 10 = .ok (.aload_n 0, 1) := by decide +kernel
theorem dX8_add_11 : decode cX8_add 11 = .ok (.getfield 15, 3) := by decide +kernel
theorem dX8_add_14 : decode cX8_add 14 = .ok (.aload_n 0, 1) := by decide +kernel
theorem dX8_add_15 : decode cX8_add 15 = .ok (.getfield 24, 3) := by decide +kernel
theorem dX8_add_18 : decode cX8_add 18 = .ok (.iload_n 2, 1) := by decide +kernel
theorem dX8_add_19 : decode cX8_add 19 = .ok (.iastore, 1) := by decide +kernel
theorem dX8_add_20 : decode cX8_add 20 = .ok (.aload_n 0, 1) := by decide +kernel
theorem dX8_add_21 : decode cX8_add 21 = .ok (.getfield 18, 3) := by decide +kernel
theorem dX8_add_24 : decode cX8_add 24 = .ok (.aload_n 0, 1) := by decide +kernel
theorem dX8_add_25 : decode cX8_add 25 = .ok (.getfield 24, 3) := by decide +kernel
theorem dX8_add_28 : decode cX8_add 28 = .ok (.iload_n 3, 1) := by decide +kernel
theorem dX8_add_29 : decode cX8_add 29 = .ok (.iastore, 1) := by decide +kernel
theorem dX8_add_30 : decode cX8_add 30 = .ok (.aload_n 0, 1) := by decide +kernel
theorem dX8_add_31 : decode cX8_add 31 = .ok (.getfield 21, 3) := by decide +kernel
theorem dX8_add_34 : decode cX8_add 34 = .ok (.aload_n 0, 1) := by decide +kernel
theorem dX8_add_35 : decode cX8_add 35 = .ok (.getfield 24, 3) := by decide +kernel
theorem dX8_add_38 : decode cX8_add 38 = .ok (.iload 4, 2) := by decide +kernel
theorem dX8_add_40 : decode cX8_add 40 = .ok (.iastore, 1) := by decide +kernel
theorem dX8_add_41 : decode cX8_add 41 = .ok (.aload_n 0, 1) := by decide +kernel
theorem dX8_add_42 : decode cX8_add 42 = .ok (.dup, 1) := by decide +kernel
theorem dX8_add_43 : decode cX8_add 43 = .ok (.getfield 24, 3) := by decide +kernel
theorem dX8_add_46 : decode cX8_add 46 = .ok (.dup_x1, 1) := by decide +kernel
theorem dX8_add_47 : decode cX8_add 47 = .ok (.iconst 1, 1) := by decide +kernel
theorem dX8_add_48 : decode cX8_add 48 = .ok (.iadd, 1) := by decide +kernel
theorem dX8_add_49 : decode cX8_add 49 = .ok (.putfield 24, 3) := by decide +kernel
theorem dX8_add_52 : decode cX8_add 52 = .ok (.ireturn, 1) := by decide +kernel
theorem dX9_init_0 : decode cX9_init 0 = .ok (.aload_n 0, 1) := by decide +kernel
theorem dX9_init_1 : decode cX9_init 1 = .ok (.invokespecial 1, 3) := by decide +kernel
theorem dX9_init_4 : decode cX9_init 4 = .ok (.new 7, 3) := by decide +kernel
theorem dX9_init_7 : decode cX9_init 7 = .ok (.dup, 1) := by decide +kernel
theorem dX9_init_8 : decode cX9_init 8 = .ok (.invokespecial 9, 3) := by decide +kernel
theorem dX9_init_11 : decode cX9_init 11 = .ok (.astore_n 1, 1) := by decide +kernel
theorem dX9_init_12 : decode cX9_init 12 = .ok (.aload_n 0, 1) := by decide +kernel
theorem dX9_init_13 : decode cX9_init 13 = .ok (.aload_n 1, 1) := by decide +kernel
theorem dX9_init_14 : decode cX9_init 14 = .ok (.putfield 10, 3) := by decide +kernel
theorem dX9_init_17 : decode cX9_init 17 = .ok (.aload_n 0, 1) := by decide +kernel
theorem dX9_init_18 : decode cX9_init 18 = .ok (.new 16, 3) := by decide +kernel
theorem dX9_init_21 : decode cX9_init 21 = .ok (.dup, 1) := by decide +kernel
theorem dX9_init_22 : decode cX9_init 22 = .ok (.aload_n 1, 1) := by decide +kernel
theorem dX9_init_23 : decode cX9_init 23 = .ok (.invokespecial 18, 3) := by decide +kernel
theorem dX9_init_26 : decode cX9_init 26 = .ok (.putfield 21, 3) := by decide +kernel
theorem dX9_init_29 : decode cX9_init 29 = .ok (.aload_n 0, 1) := by decide +kernel
theorem dX9_init_30 : decode cX9_init 30 = .ok (.new 25, 3) := by decide +kernel
theorem dX9_init_33 : decode cX9_init 33 = .ok (.dup, 1) := by decide +kernel
theorem dX9_init_34 : decode cX9_init 34 = .ok (.aload_n 1, 1) := by decide +kernel
theorem dX9_init_35 : decode cX9_init 35 = .ok (.invokespecial 27, 3) := by decide +kernel
theorem dX9_init_38 : decode cX9_init 38 = .ok (.putfield 28, 3) := by decide +kernel
theorem dX9_init_41 : decode cX9_init 41 = .ok (.aload_n 0, 1) := by decide +kernel
theorem dX9_init_42 : decode cX9_init 42 = .ok (.new 32, 3) := by decide +kernel
theorem dX9_init_45 : decode cX9_init 45 = .ok (.dup, 1) := by decide +kernel
theorem dX9_init_46 : decode cX9_init 46 = .ok (.invokespecial 34, 3) := by decide +kernel
theorem dX9_init_49 : decode cX9_init 49 = .ok (.putfield 35, 3) := by decide +kernel
theorem dX9_init_52 : decode cX9_init 52 = .ok (.return_, 1) := by decide +kernel
theorem dX9_make_0 : decode cX9_make 0 = .ok (.aload_n 0, 1) := by decide +kernel
theorem dX9_make_1 : decode cX9_make 1 = .ok (.getfield 10, 3) := by decide +kernel
theorem dX9_make_4 : decode cX9_make 4 = .ok (.iload_n 1, 1) := by decide +kernel
theorem dX9_make_5 : decode cX9_make 5 = .ok (.iload_n 2, 1) := by decide +kernel
theorem dX9_make_6 : decode cX9_make 6 = .ok (.iload_n 3, 1) := by decide +kernel
theorem dX9_make_7 : decode cX9_make 7 = .ok (.iload 4, 2) := by decide +kernel
theorem dX9_make_9 : decode cX9_make 9 = .ok (.invokevirtual 39, 3) := by decide +kernel
theorem dX9_make_12 : decode cX9_make 12 = .ok (.ifCond .ne 11, 3) := by decide +kernel
theorem dX9_make_15 : decode cX9_make 15 = .ok (.new 43, 3) := by decide +kernel
theorem dX9_make_18 : decode cX9_make 18 = .ok (.dup, 1) := by decide +kernel
theorem dX9_make_19 : decode cX9_make 19 = .ok (.invokespecial 45, 3) := by decide +kernel
theorem dX9_make_22 : decode cX9_make 22 = .ok (.athrow, 1) := by decide +kernel
theorem dX9_make_23 : decode cX9_make 23 = .ok (.aload_n 0, 1) := by decide +kernel
theorem dX9_make_24 : decode cX9_make 24 = .ok (.getfield 10, 3) := by decide +kernel
theorem dX9_make_27 : decode cX9_make 27 = .ok (.iload_n 1, 1) := by decide +kernel
theorem dX9_make_28 : decode cX9_make 28 = .ok (.iload_n 2, 1) := by decide +kernel
theorem dX9_make_29 : decode cX9_make 29 = .ok (.iload_n 3, 1) := by decide +kernel
theorem dX9_make_30 : decode cX9_make 30 = .ok (.iload 4, 2) := by decide +kernel
theorem dX9_make_32 : decode cX9_make 32 = .ok (.invokevirtual 46, 3) := by decide +kernel
theorem dX9_make_35 : decode cX9_make 35 = .ok (.ifCond .ne 11, 3) := by decide +kernel
theorem dX9_make_38 : decode cX9_make 38 = .ok (.new 49, 3) := by decide +kernel
theorem dX9_make_41 : decode cX9_make 41 = .ok (.dup, 1) := by decide +kernel
theorem dX9_make_42 : decode cX9_make 42 = .ok (.invokespecial 51, 3) := by decide +kernel
theorem dX9_make_45 : decode cX9_make 45 = .ok (.athrow, 1) := by decide +kernel
theorem dX9_make_46 : decode cX9_make 46 = .ok (.aload_n 0, 1) := by decide +kernel
theorem dX9_make_47 : decode cX9_make 47 = .ok (.getfield 10, 3) := by decide +kernel
theorem dX9_make_50 : decode cX9_make 50 = .ok (.iload_n 1, 1) := by decide +kernel
theorem dX9_make_51 : decode cX9_make 51 = .ok (.iload_n 2, 1) := by decide +kernel
theorem dX9_make_52 : decode cX9_make 52 = .ok (.iload_n 3, 1) := by decide +kernel
theorem dX9_make_53 : decode cX9_make 53 = .ok (.iload 4, 2) := by decide +kernel
theorem dX9_make_55 : decode cX9_make 55 = .ok (.invokevirtual 52, 3) := by decide +kernel
theorem dX9_make_58 : decode cX9_make 58 = .ok (.ireturn, 1) := by decide +kernel
theorem dX9_open_0 : decode cX9_open 0 = .ok (.aload_n 0, 1) := by decide +kernel
theorem dX9_open_1 : decode cX9_open 1 = .ok (.getfield 10, 3) := by decide +kernel
theorem dX9_open_4 : decode cX9_open 4 = .ok (.iload_n 1, 1) := by decide +kernel
theorem dX9_open_5 : decode cX9_open 5 = .ok (.invokevirtual 56, 3) := by decide +kernel
theorem dX9_open_8 : decode cX9_open 8 = .ok (.ifCond .ne 11, 3) := by decide +kernel
theorem dX9_open_11 : decode cX9_open 11 = .ok (.new 60, 3) := by decide +kernel
theorem dX9_open_14 : decode cX9_open 14 = .ok (.dup, 1) := by decide +kernel
theorem dX9_open_15 : decode cX9_open 15 = .ok (.invokespecial 62, 3) := by decide +kernel
theorem dX9_open_18 : decode cX9_open 18 = .ok (.athrow, 1) := by decide +kernel
theorem dX9_open_19 : decode cX9_open 19 = .ok (.aload_n 0, 1) := by decide +kernel
theorem dX9_open_20 : decode cX9_open 20 = .ok (.getfield 10, 3) := by decide +kernel
theorem dX9_open_23 : decode cX9_open 23 = .ok (.getfield 63, 3) := by decide +kernel
theorem dX9_open_26 : decode cX9_open 26 = .ok (.iload_n 1, 1) := by decide +kernel
theorem dX9_open_27 : decode cX9_open 27 = .ok (.iaload, 1) := by decide +kernel
theorem dX9_open_28 : decode cX9_open 28 = .ok (.ireturn, 1) := by decide +kernel
theorem dX9_work_0 : decode cX9_work 0 = .ok (.aload_n 0, 1) := by decide +kernel
theorem dX9_work_1 : decode cX9_work 1 = .ok (.getfield 10, 3) := by decide +kernel
theorem dX9_work_4 : decode cX9_work 4 = .ok (.iload_n 1, 1) := by decide +kernel
theorem dX9_work_5 : decode cX9_work 5 = .ok (.invokevirtual 67, 3) := by decide +kernel
theorem dX9_work_8 : decode cX9_work 8 = .ok (.ifCond .ne 11, 3) := by decide +kernel
theorem dX9_work_11 : decode cX9_work 11 = .ok (.new 60, 3) := by decide +kernel
theorem dX9_work_14 : decode cX9_work 14 = .ok (.dup, 1) := by decide +kernel
theorem dX9_work_15 : decode cX9_work 15 = .ok (.invokespecial 62, 3) := by decide +kernel
theorem dX9_work_18 : decode cX9_work 18 = .ok (.athrow, 1) := by decide +kernel
theorem dX9_work_19 : decode cX9_work 19 = .ok (.iload_n 2, 1) := by decide +kernel
theorem dX9_work_20 : decode cX9_work 20 = .ok (.iconst 1, 1) := by decide +kernel
theorem dX9_work_21 : decode cX9_work 21 = .ok (.if_icmp .lt 10, 3) := by decide +kernel
theorem dX9_work_24 : decode cX9_work 24 = .ok (.iload_n 2, 1) := by decide +kernel
theorem dX9_work_25 : decode cX9_work 25 = .ok (.sipush 200, 3) := by decide +kernel
theorem dX9_work_28 : decode cX9_work 28 = .ok (.if_icmp .le 11, 3) := by decide +kernel
theorem dX9_work_31 : decode cX9_work 31 = .ok (.new 70, 3) := by decide +kernel
theorem dX9_work_34 : decode cX9_work 34 = .ok (.dup, 1) := by decide +kernel
theorem dX9_work_35 : decode cX9_work 35 = .ok (.invokespecial 72, 3) := by decide +kernel
theorem dX9_work_38 : decode cX9_work 38 = .ok (.athrow, 1) := by decide +kernel
theorem dX9_work_39 : decode cX9_work 39 = .ok (.aload_n 0, 1) := by decide +kernel
theorem dX9_work_40 : decode cX9_work 40 = .ok (.getfield 21, 3) := by decide +kernel
theorem dX9_work_43 : decode cX9_work 43 = .ok (.iload_n 1, 1) := by decide +kernel
theorem dX9_work_44 : decode cX9_work 44 = .ok (.iload_n 2, 1) := by decide +kernel
theorem dX9_work_45 : decode cX9_work 45 = .ok (.invokevirtual 73, 3) := by decide +kernel
theorem dX9_work_48 : decode cX9_work 48 = .ok (.istore_n 3, 1) := by decide +kernel
theorem dX9_work_49 : decode cX9_work 49 = .ok (.iload_n 3, 1) := by decide +kernel
theorem dX9_work_50 : decode cX9_work 50 = .ok (.iconst 1, 1) := by decide +kernel
theorem dX9_work_51 : decode cX9_work 51 = .ok (.if_icmp .ne 21, 3) := by decide +kernel
theorem dX9_work_54 : decode cX9_work 54 = .ok (.aload_n 0, 1) := by decide +kernel
theorem dX9_work_55 : decode cX9_work 55 = .ok (.dup, 1) := by decide +kernel
theorem dX9_work_56 : decode cX9_work 56 = .ok (.getfield 77, 3) := by decide +kernel
theorem dX9_work_59 : decode cX9_work 59 = .ok (.iconst 1, 1) := by decide +kernel
theorem dX9_work_60 : decode cX9_work 60 = .ok (.iadd, 1) := by decide +kernel
theorem dX9_work_61 : decode cX9_work 61 = .ok (.putfield 77, 3) := by decide +kernel
theorem dX9_work_64 : decode cX9_work 64 = .ok (.new 43, 3) := by decide +kernel
theorem dX9_work_67 : decode cX9_work 67 = .ok (.dup, 1) := by decide +kernel
theorem dX9_work_68 : decode cX9_work 68 = .ok (.invokespecial 45, 3) := by decide +kernel
theorem dX9_work_71 : decode cX9_work 71 = .ok (.athrow, 1) := by decide +kernel
theorem dX9_work_72 : decode cX9_work 72 = .ok (.iload_n 3, 1) := by decide +kernel
theorem dX9_work_73 : decode cX9_work 73 = .ok (.ifCond .eq 21, 3) := by decide +kernel
theorem dX9_work_76 : decode cX9_work 76 = .ok (.aload_n 0, 1) := by decide +kernel
theorem dX9_work_77 : decode cX9_work 77 = .ok (.dup, 1) := by decide +kernel
theorem dX9_work_78 : decode cX9_work 78 = .ok (.getfield 81, 3) := by decide +kernel
theorem dX9_work_81 : decode cX9_work 81 = .ok (.iconst 1, 1) := by decide +kernel
theorem dX9_work_82 : decode cX9_work 82 = .ok (.iadd, 1) := by decide +kernel
theorem dX9_work_83 : decode cX9_work 83 = .ok (.putfield 81, 3) := by decide +kernel
theorem dX9_work_86 : decode cX9_work 86 = .ok (.new 49, 3) := by decide +kernel
theorem dX9_work_89 : decode cX9_work 89 = .ok (.dup, 1) := by decide +kernel
theorem dX9_work_90 : decode cX9_work 90 = .ok (.invokespecial 51, 3) := by decide +kernel
theorem dX9_work_93 : decode cX9_work 93 = .ok (.athrow, 1) := by decide +kernel
theorem dX9_work_94 : decode cX9_work 94 = .ok (.aload_n 0, 1) := by decide +kernel
theorem dX9_work_95 : decode cX9_work 95 = .ok (.invokevirtual 84, 3) := by decide +kernel
theorem dX9_work_98 : decode cX9_work 98 = .ok (.ireturn, 1) := by decide +kernel
theorem dX9_value_0 : decode cX9_value 0 = .ok (.aload_n 0, 1) := by decide +kernel
theorem dX9_value_1 : decode cX9_value 1 = .ok (.getfield 88, 3) := by decide +kernel
theorem dX9_value_4 : decode cX9_value 4 = .ok (.ireturn, 1) := by decide +kernel
theorem dX9_steps_0 : decode cX9_steps 0 = .ok (.aload_n 0, 1) := by decide +kernel
theorem dX9_steps_1 : decode cX9_steps 1 = .ok (.getfield 91, 3) := by decide +kernel
theorem dX9_steps_4 : decode cX9_steps 4 = .ok (.ireturn, 1) := by decide +kernel
theorem dX9_type_0 : decode cX9_type 0 = .ok (.aload_n 0, 1) := by decide +kernel
theorem dX9_type_1 : decode cX9_type 1 = .ok (.getfield 10, 3) := by decide +kernel
theorem dX9_type_4 : decode cX9_type 4 = .ok (.iload_n 1, 1) := by decide +kernel
theorem dX9_type_5 : decode cX9_type 5 = .ok (.invokevirtual 67, 3) := by decide +kernel
theorem dX9_type_8 : decode cX9_type 8 = .ok (.ifCond .ne 11, 3) := by decide +kernel
theorem dX9_type_11 : decode cX9_type 11 = .ok (.new 60, 3) := by decide +kernel
theorem dX9_type_14 : decode cX9_type 14 = .ok (.dup, 1) := by decide +kernel
theorem dX9_type_15 : decode cX9_type 15 = .ok (.invokespecial 62, 3) := by decide +kernel
theorem dX9_type_18 : decode cX9_type 18 = .ok (.athrow, 1) := by decide +kernel
theorem dX9_type_19 : decode cX9_type 19 = .ok (.aload_n 0, 1) := by decide +kernel
theorem dX9_type_20 : decode cX9_type 20 = .ok (.getfield 28, 3) := by decide +kernel
theorem dX9_type_23 : decode cX9_type 23 = .ok (.iload_n 1, 1) := by decide +kernel
theorem dX9_type_24 : decode cX9_type 24 = .ok (.invokevirtual 94, 3) := by decide +kernel
theorem dX9_type_27 : decode cX9_type 27 = .ok (.istore_n 2, 1) := by decide +kernel
theorem dX9_type_28 : decode cX9_type 28 = .ok (.iload_n 2, 1) := by decide +kernel
theorem dX9_type_29 : decode cX9_type 29 = .ok (.iconst (-1), 1) := by decide +kernel
theorem dX9_type_30 : decode cX9_type 30 = .ok (.if_icmp .ne 21, 3) := by decide +kernel
theorem dX9_type_33 : decode cX9_type 33 = .ok (.aload_n 0, 1) := by decide +kernel
theorem dX9_type_34 : decode cX9_type 34 = .ok (.dup, 1) := by decide +kernel
theorem dX9_type_35 : decode cX9_type 35 = .ok (.getfield 98, 3) := by decide +kernel
theorem dX9_type_38 : decode cX9_type 38 = .ok (.iconst 1, 1) := by decide +kernel
theorem dX9_type_39 : decode cX9_type 39 = .ok (.iadd, 1) := by decide +kernel
theorem dX9_type_40 : decode cX9_type 40 = .ok (.putfield 98, 3) := by decide +kernel
theorem dX9_type_43 : decode cX9_type 43 = .ok (.new 43, 3) := by decide +kernel
theorem dX9_type_46 : decode cX9_type 46 = .ok (.dup, 1) := by decide +kernel
theorem dX9_type_47 : decode cX9_type 47 = .ok (.invokespecial 45, 3) := by decide +kernel
theorem dX9_type_50 : decode cX9_type 50 = .ok (.athrow, 1) := by decide +kernel
theorem dX9_type_51 : decode cX9_type 51 = .ok (.aload_n 0, 1) := by decide +kernel
theorem dX9_type_52 : decode cX9_type 52 = .ok (.dup, 1) := by decide +kernel
theorem dX9_type_53 : decode cX9_type 53 = .ok (.getfield 101, 3) := by decide +kernel
theorem dX9_type_56 : decode cX9_type 56 = .ok (.iconst 1, 1) := by decide +kernel
theorem dX9_type_57 : decode cX9_type 57 = .ok (.iadd, 1) := by decide +kernel
theorem dX9_type_58 : decode cX9_type 58 = .ok (.putfield 101, 3) := by decide +kernel
theorem dX9_type_61 : decode cX9_type 61 = .ok (.aload_n 0, 1) := by decide +kernel
theorem dX9_type_62 : decode cX9_type 62 = .ok (.getfield 35, 3) := by decide +kernel
theorem dX9_type_65 : decode cX9_type 65 = .ok (.aload_n 0, 1) := by decide +kernel
theorem dX9_type_66 : decode cX9_type 66 = .ok (.getfield 28, 3) := by decide +kernel
theorem dX9_type_69 : decode cX9_type 69 = .ok (.getfield 104, 3) := by decide +kernel
theorem dX9_type_72 : decode cX9_type 72 = .ok (.iload_n 2, 1) := by decide +kernel
theorem dX9_type_73 : decode cX9_type 73 = .ok (.invokevirtual 108, 3) := by decide +kernel
theorem dX9_type_76 : decode cX9_type 76 = .ok (.aload_n 0, 1) := by decide +kernel
theorem dX9_type_77 : decode cX9_type 77 = .ok (.getfield 35, 3) := by decide +kernel
theorem dX9_type_80 : decode cX9_type 80 = .ok (.iconst 0, 1) := by decide +kernel
theorem dX9_type_81 : decode cX9_type 81 = .ok (.invokevirtual 112, 3) := by decide +kernel
theorem dX9_type_84 : decode cX9_type 84 = .ok (.ireturn, 1) := by decide +kernel
theorem dX9_part_0 : decode cX9_part 0 = .ok (.aload_n 0, 1) := by decide +kernel
theorem dX9_part_1 : decode cX9_part 1 = .ok (.getfield 35, 3) := by decide +kernel
theorem dX9_part_4 : decode cX9_part 4 = .ok (.iload_n 1, 1) := by decide +kernel
theorem dX9_part_5 : decode cX9_part 5 = .ok (.invokevirtual 112, 3) := by decide +kernel
theorem dX9_part_8 : decode cX9_part 8 = .ok (.ireturn, 1) := by decide +kernel
theorem dX9_count_0 : decode cX9_count 0 = .ok (.iload_n 1, 1) := by decide +kernel
theorem dX9_count_1 : decode cX9_count 1 = .ok (.tableswitch 72 0 5 #[39, 47, 52, 57, 62, 67], 39) := by decide +kernel
theorem dX9_count_40 : decode cX9_count 40 = .ok (.aload_n 0, 1) := by decide +kernel
theorem dX9_count_41 : decode cX9_count 41 = .ok (.getfield 10, 3) := by decide +kernel
theorem dX9_count_44 : decode cX9_count 44 = .ok (.getfield 115, 3) := by decide +kernel
theorem dX9_count_47 : decode cX9_count 47 = .ok (.ireturn, 1) := by decide +kernel
theorem dX9_count_48 : decode cX9_count 48 = .ok (.aload_n 0, 1) := by decide +kernel
theorem dX9_count_49 : decode cX9_count 49 = .ok (.getfield 118, 3) := by decide +kernel
theorem dX9_count_52 : decode cX9_count 52 = .ok (.ireturn, 1) := by decide +kernel
theorem dX9_count_53 : decode cX9_count 53 = .ok (.aload_n 0, 1) := by decide +kernel
theorem dX9_count_54 : decode cX9_count 54 = .ok (.getfield 77, 3) := by decide +kernel
theorem dX9_count_57 : decode cX9_count 57 = .ok (.ireturn, 1) := by decide +kernel
theorem dX9_count_58 : decode cX9_count 58 = .ok (.aload_n 0, 1) := by decide +kernel
theorem dX9_count_59 : decode cX9_count 59 = .ok (.getfield 81, 3) := by decide +kernel
theorem dX9_count_62 : decode cX9_count 62 = .ok (.ireturn, 1) := by decide +kernel
theorem dX9_count_63 : decode cX9_count 63 = .ok (.aload_n 0, 1) := by decide +kernel
theorem dX9_count_64 : decode cX9_count 64 = .ok (.getfield 101, 3) := by decide +kernel
theorem dX9_count_67 : decode cX9_count 67 = .ok (.ireturn, 1) := by decide +kernel
theorem dX9_count_68 : decode cX9_count 68 = .ok (.aload_n 0, 1) := by decide +kernel
theorem dX9_count_69 : decode cX9_count 69 = .ok (.getfield 98, 3) := by decide +kernel
theorem dX9_count_72 : decode cX9_count 72 = .ok (.ireturn, 1) := by decide +kernel
theorem dX9_count_73 : decode cX9_count 73 = .ok (.iconst (-1), 1) := by decide +kernel
theorem dX9_count_74 : decode cX9_count 74 = .ok (.ireturn, 1) := by decide +kernel
theorem dX9_mean_0 : decode cX9_mean 0 = .ok (.aload_n 0, 1) := by decide +kernel
theorem dX9_mean_1 : decode cX9_mean 1 = .ok (.getfield 118, 3) := by decide +kernel
theorem dX9_mean_4 : decode cX9_mean 4 = .ok (.ifCond .ne 5, 3) := by decide +kernel
theorem dX9_mean_7 : decode cX9_mean 7 = .ok (.fconst 0, 1) := by decide +kernel
theorem dX9_mean_8 : decode cX9_mean 8 = .ok (.freturn, 1) := by decide +kernel
theorem dX9_mean_9 : decode cX9_mean 9 = .ok (.aload_n 0, 1) := by decide +kernel
theorem dX9_mean_10 : decode cX9_mean 10 = .ok (.getfield 121, 3) := by decide +kernel
theorem dX9_mean_13 : decode cX9_mean 13 = .ok (.l2f, 1) := by decide +kernel
theorem dX9_mean_14 : decode cX9_mean 14 = .ok (.aload_n 0, 1) := by decide +kernel
theorem dX9_mean_15 : decode cX9_mean 15 = .ok (.getfield 118, 3) := by decide +kernel
theorem dX9_mean_18 : decode cX9_mean 18 = .ok (.i2f, 1) := by decide +kernel
theorem dX9_mean_19 : decode cX9_mean 19 = .ok (.fdiv, 1) := by decide +kernel
theorem dX9_mean_20 : decode cX9_mean 20 = .ok (.freturn, 1) := by decide +kernel
theorem dX9_keepValue_0 : decode cX9_keepValue 0 = .ok (.aload_n 0, 1) := by decide +kernel
theorem dX9_keepValue_1 : decode cX9_keepValue 1 = .ok (.aload_n 0, 1) := by decide +kernel
theorem dX9_keepValue_2 : decode cX9_keepValue 2 = .ok (.getfield 21, 3) := by decide +kernel
theorem dX9_keepValue_5 : decode cX9_keepValue 5 = .ok (.invokevirtual 125, 3) := by decide +kernel
theorem dX9_keepValue_8 : decode cX9_keepValue 8 = .ok (.putfield 88, 3) := by decide +kernel
theorem dX9_keepValue_11 : decode cX9_keepValue 11 = .ok (.aload_n 0, 1) := by decide +kernel
theorem dX9_keepValue_12 : decode cX9_keepValue 12 = .ok (.aload_n 0, 1) := by decide +kernel
theorem dX9_keepValue_13 : decode cX9_keepValue 13 = .ok (.getfield 21, 3) := by decide +kernel
theorem dX9_keepValue_16 : decode cX9_keepValue 16 = .ok (.getfield 128, 3) := by decide +kernel
theorem dX9_keepValue_19 : decode cX9_keepValue 19 = .ok (.putfield 91, 3) := by decide +kernel
theorem dX9_keepValue_22 : decode cX9_keepValue 22 = .ok (.aload_n 0, 1) := by decide +kernel
theorem dX9_keepValue_23 : decode cX9_keepValue 23 = .ok (.dup, 1) := by decide +kernel
theorem dX9_keepValue_24 : decode cX9_keepValue 24 = .ok (.getfield 121, 3) := by decide +kernel
theorem dX9_keepValue_27 : decode cX9_keepValue 27 = .ok (.aload_n 0, 1) := by decide +kernel
theorem dX9_keepValue_28 : decode cX9_keepValue 28 = .ok (.getfield 91, 3) := by decide +kernel
theorem dX9_keepValue_31 : decode cX9_keepValue 31 = .ok (.i2l, 1) := by decide +kernel
theorem dX9_keepValue_32 : decode cX9_keepValue 32 = .ok (.ladd, 1) := by decide +kernel
theorem dX9_keepValue_33 : decode cX9_keepValue 33 = .ok (.putfield 121, 3) := by decide +kernel
theorem dX9_keepValue_36 : decode cX9_keepValue 36 = .ok (.aload_n 0, 1) := by decide +kernel
theorem dX9_keepValue_37 : decode cX9_keepValue 37 = .ok (.dup, 1) := by decide +kernel
theorem dX9_keepValue_38 : decode cX9_keepValue 38 = .ok (.getfield 118, 3) := by decide +kernel
theorem dX9_keepValue_41 : decode cX9_keepValue 41 = .ok (.iconst 1, 1) := by decide +kernel
theorem dX9_keepValue_42 : decode cX9_keepValue 42 = .ok (.iadd, 1) := by decide +kernel
theorem dX9_keepValue_43 : decode cX9_keepValue 43 = .ok (.putfield 118, 3) := by decide +kernel
theorem dX9_keepValue_46 : decode cX9_keepValue 46 = .ok (.aload_n 0, 1) := by decide +kernel
theorem dX9_keepValue_47 : decode cX9_keepValue 47 = .ok (.getfield 21, 3) := by decide +kernel
theorem dX9_keepValue_50 : decode cX9_keepValue 50 = .ok (.invokevirtual 131, 3) := by decide +kernel
theorem dX9_keepValue_53 : decode cX9_keepValue 53 = .ok (.ireturn, 1) := by decide +kernel
theorem dJ9_max_7cf53_0 : decode cJ9_max_7cf53 0 = .ok (.iload_n 0, 1) := by decide +kernel
theorem dJ9_max_7cf53_1 : decode cJ9_max_7cf53 1 = .ok (.iload_n 1, 1) := by decide +kernel
theorem dJ9_max_7cf53_2 : decode cJ9_max_7cf53 2 = .ok (.if_icmp .lt 7, 3) := by decide +kernel
theorem dJ9_max_7cf53_5 : decode cJ9_max_7cf53 5 = .ok (.iload_n 0, 1) := by decide +kernel
theorem dJ9_max_7cf53_6 : decode cJ9_max_7cf53 6 = .ok (.goto 4, 3) := by decide +kernel
theorem dJ9_max_7cf53_9 : decode cJ9_max_7cf53 9 = .ok (.iload_n 1, 1) := by decide +kernel
theorem dJ9_max_7cf53_10 : decode cJ9_max_7cf53 10 = .ok (.ireturn, 1) := by decide +kernel
theorem dJ9_min_7cf53_0 : decode cJ9_min_7cf53 0 = .ok (.iload_n 0, 1) := by decide +kernel
theorem dJ9_min_7cf53_1 : decode cJ9_min_7cf53 1 = .ok (.iload_n 1, 1) := by decide +kernel
theorem dJ9_min_7cf53_2 : decode cJ9_min_7cf53 2 = .ok (.if_icmp .gt 7, 3) := by decide +kernel
theorem dJ9_min_7cf53_5 : decode cJ9_min_7cf53 5 = .ok (.iload_n 0, 1) := by decide +kernel
theorem dJ9_min_7cf53_6 : decode cJ9_min_7cf53 6 = .ok (.goto 4, 3) := by decide +kernel
theorem dJ9_min_7cf53_9 : decode cJ9_min_7cf53 9 = .ok (.iload_n 1, 1) := by decide +kernel
theorem dJ9_min_7cf53_10 : decode cJ9_min_7cf53 10 = .ok (.ireturn, 1) := by decide +kernel
theorem dJ7_fill_53178_0 : decode cJ7_fill_53178 0 = .ok (.iconst 0, 1) := by decide +kernel
theorem dJ7_fill_53178_1 : decode cJ7_fill_53178 1 = .ok (.istore_n 2, 1) := by decide +kernel
theorem dJ7_fill_53178_2 : decode cJ7_fill_53178 2 = .ok (.aload_n 0, 1) := by decide +kernel
theorem dJ7_fill_53178_3 : decode cJ7_fill_53178 3 = .ok (.arraylength, 1) := by decide +kernel
theorem dJ7_fill_53178_4 : decode cJ7_fill_53178 4 = .ok (.istore_n 3, 1) := by decide +kernel
theorem dJ7_fill_53178_5 : decode cJ7_fill_53178 5 = .ok (.iload_n 2, 1) := by decide +kernel
theorem dJ7_fill_53178_6 : decode cJ7_fill_53178 6 = .ok (.iload_n 3, 1) := by decide +kernel
theorem dJ7_fill_53178_7 : decode cJ7_fill_53178 7 = .ok (.if_icmp .ge 13, 3) := by decide +kernel
theorem dJ7_fill_53178_10 : decode cJ7_fill_53178 10 = .ok (.aload_n 0, 1) := by decide +kernel
theorem dJ7_fill_53178_11 : decode cJ7_fill_53178 11 = .ok (.iload_n 2, 1) := by decide +kernel
theorem dJ7_fill_53178_12 : decode cJ7_fill_53178 12 = .ok (.iload_n 1, 1) := by decide +kernel
theorem dJ7_fill_53178_13 : decode cJ7_fill_53178 13 = .ok (.iastore, 1) := by decide +kernel
theorem dJ7_fill_53178_14 : decode cJ7_fill_53178 14 = .ok (.iinc 2 1, 3) := by decide +kernel
theorem dJ7_fill_53178_17 : decode cJ7_fill_53178 17 = .ok (.goto (-12), 3) := by decide +kernel
theorem dJ7_fill_53178_20 : decode cJ7_fill_53178 20 = .ok (.return_, 1) := by decide +kernel
