/-! decode rows (printed) -/
theorem dX1_init_0 : decode cX1_init 0 = .ok (.aload_n 0, 1) := by decide +kernel
theorem dX1_init_1 : decode cX1_init 1 = .ok (.invokespecial 1, 3) := by decide +kernel
theorem dX1_init_4 : decode cX1_init 4 = .ok (.aload_n 0, 1) := by decide +kernel
theorem dX1_init_5 : decode cX1_init 5 = .ok (.bipush 8, 2) := by decide +kernel
theorem dX1_init_7 : decode cX1_init 7 = .ok (.newarray .int, 2) := by decide +kernel
theorem dX1_init_9 : decode cX1_init 9 = .ok (.putfield 9, 3) := by decide +kernel
theorem dX1_init_12 : decode cX1_init 12 = .ok (.aload_n 0, 1) := by decide +kernel
theorem dX1_init_13 : decode cX1_init 13 = .ok (.new 13, 3) := by decide +kernel
theorem dX1_init_16 : decode cX1_init 16 = .ok (.dup, 1) := by decide +kernel
theorem dX1_init_17 : decode cX1_init 17 = .ok (.iload_n 1, 1) := by decide +kernel
theorem dX1_init_18 : decode cX1_init 18 = .ok (.invokespecial 15, 3) := by decide +kernel
theorem dX1_init_21 : decode cX1_init 21 = .ok (.putfield 18, 3) := by decide +kernel
theorem dX1_init_24 : decode cX1_init 24 = .ok (.aload_n 0, 1) := by decide +kernel
theorem dX1_init_25 : decode cX1_init 25 = .ok (.new 13, 3) := by decide +kernel
theorem dX1_init_28 : decode cX1_init 28 = .ok (.dup, 1) := by decide +kernel
theorem dX1_init_29 : decode cX1_init 29 = .ok (.iload_n 1, 1) := by decide +kernel
theorem dX1_init_30 : decode cX1_init 30 = .ok (.invokespecial 15, 3) := by decide +kernel
theorem dX1_init_33 : decode cX1_init 33 = .ok (.putfield 22, 3) := by decide +kernel
theorem dX1_init_36 : decode cX1_init 36 = .ok (.return_, 1) := by decide +kernel
theorem dX0_init_0 : decode cX0_init 0 = .ok (.aload_n 0, 1) := by decide +kernel
theorem dX0_init_1 : decode cX0_init 1 = .ok (.invokespecial 3, 3) := by decide +kernel
theorem dX0_init_4 : decode cX0_init 4 = .ok (.aload_n 0, 1) := by decide +kernel
theorem dX0_init_5 : decode cX0_init 5 = .ok (.bipush 16, 2) := by decide +kernel
theorem dX0_init_7 : decode cX0_init 7 = .ok (.iload_n 1, 1) := by decide +kernel
theorem dX0_init_8 : decode cX0_init 8 = .ok (.sipush 2047, 3) := by decide +kernel
theorem dX0_init_11 : decode cX0_init 11 = .ok (.iand, 1) := by decide +kernel
theorem dX0_init_12 : decode cX0_init 12 = .ok (.iadd, 1) := by decide +kernel
theorem dX0_init_13 : decode cX0_init 13 = .ok (.newarray .int, 2) := by decide +kernel
theorem dX0_init_15 : decode cX0_init 15 = .ok (.putfield 11, 3) := by decide +kernel
theorem dX0_init_18 : decode cX0_init 18 = .ok (.return_, 1) := by decide +kernel
theorem dX1_collect_0 : decode cX1_collect 0 = .ok (.aload_n 0, 1) := by decide +kernel
theorem dX1_collect_1 : decode cX1_collect 1 = .ok (.invokevirtual 39, 3) := by decide +kernel
theorem dX1_collect_4 : decode cX1_collect 4 = .ok (.aload_n 0, 1) := by decide +kernel
theorem dX1_collect_5 : decode cX1_collect 5 = .ok (.getfield 18, 3) := by decide +kernel
theorem dX1_collect_8 : decode cX1_collect 8 = .ok (.getfield 84, 3) := by decide +kernel
theorem dX1_collect_11 : decode cX1_collect 11 = .ok (.ireturn, 1) := by decide +kernel
theorem dX1_moveToSpare_0 : decode cX1_moveToSpare 0 = .ok (.aload_n 0, 1) := by decide +kernel
theorem dX1_moveToSpare_1 : decode cX1_moveToSpare 1 = .ok (.getfield 18, 3) := by decide +kernel
theorem dX1_moveToSpare_4 : decode cX1_moveToSpare 4 = .ok (.astore_n 1, 1) := by decide +kernel
theorem dX1_moveToSpare_5 : decode cX1_moveToSpare 5 = .ok (.aload_n 0, 1) := by decide +kernel
theorem dX1_moveToSpare_6 : decode cX1_moveToSpare 6 = .ok (.getfield 22, 3) := by decide +kernel
theorem dX1_moveToSpare_9 : decode cX1_moveToSpare 9 = .ok (.astore_n 2, 1) := by decide +kernel
theorem dX1_moveToSpare_10 : decode cX1_moveToSpare 10 = .ok (.aload_n 2, 1) := by decide +kernel
theorem dX1_moveToSpare_11 : decode cX1_moveToSpare 11 = .ok (.invokevirtual 126, 3) := by decide +kernel
theorem dX1_moveToSpare_14 : decode cX1_moveToSpare 14 = .ok (.iconst 0, 1) := by decide +kernel
theorem dX1_moveToSpare_15 : decode cX1_moveToSpare 15 = .ok (.istore_n 3, 1) := by decide +kernel
theorem dX1_moveToSpare_16 : decode cX1_moveToSpare 16 = .ok (.iload_n 3, 1) := by decide +kernel
theorem dX1_moveToSpare_17 : decode cX1_moveToSpare 17 = .ok (.bipush 8, 2) := by decide +kernel
theorem dX1_moveToSpare_19 : decode cX1_moveToSpare 19 = .ok (.if_icmp .ge 26, 3) := by decide +kernel
theorem dX1_moveToSpare_22 : decode cX1_moveToSpare 22 = .ok (.aload_n 0, 1) := by decide +kernel
theorem dX1_moveToSpare_23 : decode cX1_moveToSpare 23 = .ok (.getfield 9, 3) := by decide +kernel
theorem dX1_moveToSpare_26 : decode cX1_moveToSpare 26 = .ok (.iload_n 3, 1) := by decide +kernel
theorem dX1_moveToSpare_27 : decode cX1_moveToSpare 27 = .ok (.aload_n 1, 1) := by decide +kernel
theorem dX1_moveToSpare_28 : decode cX1_moveToSpare 28 = .ok (.aload_n 0, 1) := by decide +kernel
theorem dX1_moveToSpare_29 : decode cX1_moveToSpare 29 = .ok (.getfield 9, 3) := by decide +kernel
theorem dX1_moveToSpare_32 : decode cX1_moveToSpare 32 = .ok (.iload_n 3, 1) := by decide +kernel
theorem dX1_moveToSpare_33 : decode cX1_moveToSpare 33 = .ok (.iaload, 1) := by decide +kernel
theorem dX1_moveToSpare_34 : decode cX1_moveToSpare 34 = .ok (.aload_n 2, 1) := by decide +kernel
theorem dX1_moveToSpare_35 : decode cX1_moveToSpare 35 = .ok (.invokevirtual 129, 3) := by decide +kernel
theorem dX1_moveToSpare_38 : decode cX1_moveToSpare 38 = .ok (.iastore, 1) := by decide +kernel
theorem dX1_moveToSpare_39 : decode cX1_moveToSpare 39 = .ok (.iinc 3 1, 3) := by decide +kernel
theorem dX1_moveToSpare_42 : decode cX1_moveToSpare 42 = .ok (.goto (-26), 3) := by decide +kernel
theorem dX1_moveToSpare_45 : decode cX1_moveToSpare 45 = .ok (.aload_n 1, 1) := by decide +kernel
theorem dX1_moveToSpare_46 : decode cX1_moveToSpare 46 = .ok (.aload_n 2, 1) := by decide +kernel
theorem dX1_moveToSpare_47 : decode cX1_moveToSpare 47 = .ok (.invokestatic 133, 3) := by decide +kernel
theorem dX1_moveToSpare_50 : decode cX1_moveToSpare 50 = .ok (.aload_n 0, 1) := by decide +kernel
theorem dX1_moveToSpare_51 : decode cX1_moveToSpare 51 = .ok (.aload_n 2, 1) := by decide +kernel
theorem dX1_moveToSpare_52 : decode cX1_moveToSpare 52 = .ok (.putfield 18, 3) := by decide +kernel
theorem dX1_moveToSpare_55 : decode cX1_moveToSpare 55 = .ok (.aload_n 0, 1) := by decide +kernel
theorem dX1_moveToSpare_56 : decode cX1_moveToSpare 56 = .ok (.aload_n 1, 1) := by decide +kernel
theorem dX1_moveToSpare_57 : decode cX1_moveToSpare 57 = .ok (.putfield 22, 3) := by decide +kernel
theorem dX1_moveToSpare_60 : decode cX1_moveToSpare 60 = .ok (.aload_n 0, 1) := by decide +kernel
theorem dX1_moveToSpare_61 : decode cX1_moveToSpare 61 = .ok (.dup, 1) := by decide +kernel
theorem dX1_moveToSpare_62 : decode cX1_moveToSpare 62 = .ok (.getfield 109, 3) := by decide +kernel
theorem dX1_moveToSpare_65 : decode cX1_moveToSpare 65 = .ok (.iconst 1, 1) := by decide +kernel
theorem dX1_moveToSpare_66 : decode cX1_moveToSpare 66 = .ok (.iadd, 1) := by decide +kernel
theorem dX1_moveToSpare_67 : decode cX1_moveToSpare 67 = .ok (.putfield 109, 3) := by decide +kernel
theorem dX1_moveToSpare_70 : decode cX1_moveToSpare 70 = .ok (.aload_n 0, 1) := by decide +kernel
theorem dX1_moveToSpare_71 : decode cX1_moveToSpare 71 = .ok (.dup, 1) := by decide +kernel
theorem dX1_moveToSpare_72 : decode cX1_moveToSpare 72 = .ok (.getfield 112, 3) := by decide +kernel
theorem dX1_moveToSpare_75 : decode cX1_moveToSpare 75 = .ok (.aload_n 2, 1) := by decide +kernel
theorem dX1_moveToSpare_76 : decode cX1_moveToSpare 76 = .ok (.getfield 84, 3) := by decide +kernel
theorem dX1_moveToSpare_79 : decode cX1_moveToSpare 79 = .ok (.iadd, 1) := by decide +kernel
theorem dX1_moveToSpare_80 : decode cX1_moveToSpare 80 = .ok (.putfield 112, 3) := by decide +kernel
theorem dX1_moveToSpare_83 : decode cX1_moveToSpare 83 = .ok (.return_, 1) := by decide +kernel
theorem dX0_empty_0 : decode cX0_empty 0 = .ok (.aload_n 0, 1) := by decide +kernel
theorem dX0_empty_1 : decode cX0_empty 1 = .ok (.iconst 0, 1) := by decide +kernel
theorem dX0_empty_2 : decode cX0_empty 2 = .ok (.putfield 15, 3) := by decide +kernel
theorem dX0_empty_5 : decode cX0_empty 5 = .ok (.aload_n 0, 1) := by decide +kernel
theorem dX0_empty_6 : decode cX0_empty 6 = .ok (.iconst 0, 1) := by decide +kernel
theorem dX0_empty_7 : decode cX0_empty 7 = .ok (.putfield 19, 3) := by decide +kernel
theorem dX0_empty_10 : decode cX0_empty 10 = .ok (.return_, 1) := by decide +kernel
theorem dX0_movedValue_0 : decode cX0_movedValue 0 = .ok (.iload_n 1, 1) := by decide +kernel
theorem dX0_movedValue_1 : decode cX0_movedValue 1 = .ok (.invokestatic 32, 3) := by decide +kernel
theorem dX0_movedValue_4 : decode cX0_movedValue 4 = .ok (.ifCond .ne 5, 3) := by decide +kernel
theorem dX0_movedValue_7 : decode cX0_movedValue 7 = .ok (.iload_n 1, 1) := by decide +kernel
theorem dX0_movedValue_8 : decode cX0_movedValue 8 = .ok (.ireturn, 1) := by decide +kernel
theorem dX0_movedValue_9 : decode cX0_movedValue 9 = .ok (.iload_n 1, 1) := by decide +kernel
theorem dX0_movedValue_10 : decode cX0_movedValue 10 = .ok (.invokestatic 44, 3) := by decide +kernel
theorem dX0_movedValue_13 : decode cX0_movedValue 13 = .ok (.istore_n 3, 1) := by decide +kernel
theorem dX0_movedValue_14 : decode cX0_movedValue 14 = .ok (.aload_n 0, 1) := by decide +kernel
theorem dX0_movedValue_15 : decode cX0_movedValue 15 = .ok (.iload_n 3, 1) := by decide +kernel
theorem dX0_movedValue_16 : decode cX0_movedValue 16 = .ok (.invokevirtual 22, 3) := by decide +kernel
theorem dX0_movedValue_19 : decode cX0_movedValue 19 = .ok (.ifCond .lt 16, 3) := by decide +kernel
theorem dX0_movedValue_22 : decode cX0_movedValue 22 = .ok (.aload_n 0, 1) := by decide +kernel
theorem dX0_movedValue_23 : decode cX0_movedValue 23 = .ok (.iload_n 3, 1) := by decide +kernel
theorem dX0_movedValue_24 : decode cX0_movedValue 24 = .ok (.aload_n 0, 1) := by decide +kernel
theorem dX0_movedValue_25 : decode cX0_movedValue 25 = .ok (.iload_n 3, 1) := by decide +kernel
theorem dX0_movedValue_26 : decode cX0_movedValue 26 = .ok (.aload_n 2, 1) := by decide +kernel
theorem dX0_movedValue_27 : decode cX0_movedValue 27 = .ok (.invokevirtual 47, 3) := by decide +kernel
theorem dX0_movedValue_30 : decode cX0_movedValue 30 = .ok (.iconst (-1), 1) := by decide +kernel
theorem dX0_movedValue_31 : decode cX0_movedValue 31 = .ok (.ixor, 1) := by decide +kernel
theorem dX0_movedValue_32 : decode cX0_movedValue 32 = .ok (.invokevirtual 40, 3) := by decide +kernel
theorem dX0_movedValue_35 : decode cX0_movedValue 35 = .ok (.aload_n 0, 1) := by decide +kernel
theorem dX0_movedValue_36 : decode cX0_movedValue 36 = .ok (.iload_n 3, 1) := by decide +kernel
theorem dX0_movedValue_37 : decode cX0_movedValue 37 = .ok (.invokevirtual 22, 3) := by decide +kernel
theorem dX0_movedValue_40 : decode cX0_movedValue 40 = .ok (.iconst (-1), 1) := by decide +kernel
theorem dX0_movedValue_41 : decode cX0_movedValue 41 = .ok (.ixor, 1) := by decide +kernel
theorem dX0_movedValue_42 : decode cX0_movedValue 42 = .ok (.invokestatic 51, 3) := by decide +kernel
theorem dX0_movedValue_45 : decode cX0_movedValue 45 = .ok (.ireturn, 1) := by decide +kernel
theorem dX1_isReference_0 : decode cX1_isReference 0 = .ok (.iload_n 0, 1) := by decide +kernel
theorem dX1_isReference_1 : decode cX1_isReference 1 = .ok (.iconst 1, 1) := by decide +kernel
theorem dX1_isReference_2 : decode cX1_isReference 2 = .ok (.iand, 1) := by decide +kernel
theorem dX1_isReference_3 : decode cX1_isReference 3 = .ok (.ifCond .eq 7, 3) := by decide +kernel
theorem dX1_isReference_6 : decode cX1_isReference 6 = .ok (.iconst 1, 1) := by decide +kernel
theorem dX1_isReference_7 : decode cX1_isReference 7 = .ok (.goto 4, 3) := by decide +kernel
theorem dX1_isReference_10 : decode cX1_isReference 10 = .ok (.iconst 0, 1) := by decide +kernel
theorem dX1_isReference_11 : decode cX1_isReference 11 = .ok (.ireturn, 1) := by decide +kernel
theorem dX1_content_0 : decode cX1_content 0 = .ok (.iload_n 0, 1) := by decide +kernel
theorem dX1_content_1 : decode cX1_content 1 = .ok (.iconst 1, 1) := by decide +kernel
theorem dX1_content_2 : decode cX1_content 2 = .ok (.ishr, 1) := by decide +kernel
theorem dX1_content_3 : decode cX1_content 3 = .ok (.ireturn, 1) := by decide +kernel
theorem dX0_wordAt_0 : decode cX0_wordAt 0 = .ok (.iload_n 1, 1) := by decide +kernel
theorem dX0_wordAt_1 : decode cX0_wordAt 1 = .ok (.ifCond .lt 21, 3) := by decide +kernel
theorem dX0_wordAt_4 : decode cX0_wordAt 4 = .ok (.iload_n 1, 1) := by decide +kernel
theorem dX0_wordAt_5 : decode cX0_wordAt 5 = .ok (.aload_n 0, 1) := by decide +kernel
theorem dX0_wordAt_6 : decode cX0_wordAt 6 = .ok (.getfield 11, 3) := by decide +kernel
theorem dX0_wordAt_9 : decode cX0_wordAt 9 = .ok (.arraylength, 1) := by decide +kernel
theorem dX0_wordAt_10 : decode cX0_wordAt 10 = .ok (.if_icmp .ge 12, 3) := by decide +kernel
theorem dX0_wordAt_13 : decode cX0_wordAt 13 = .ok (.aload_n 0, 1) := by decide +kernel
theorem dX0_wordAt_14 : decode cX0_wordAt 14 = .ok (.getfield 11, 3) := by decide +kernel
theorem dX0_wordAt_17 : decode cX0_wordAt 17 = .ok (.iload_n 1, 1) := by decide +kernel
theorem dX0_wordAt_18 : decode cX0_wordAt 18 = .ok (.iaload, 1) := by decide +kernel
theorem dX0_wordAt_19 : decode cX0_wordAt 19 = .ok (.goto 4, 3) := by decide +kernel
theorem dX0_wordAt_22 : decode cX0_wordAt 22 = .ok (.iconst 0, 1) := by decide +kernel
theorem dX0_wordAt_23 : decode cX0_wordAt 23 = .ok (.ireturn, 1) := by decide +kernel
theorem dX0_moveObject_0 : decode cX0_moveObject 0 = .ok (.aload_n 2, 1) := by decide +kernel
theorem dX0_moveObject_1 : decode cX0_moveObject 1 = .ok (.getfield 15, 3) := by decide +kernel
theorem dX0_moveObject_4 : decode cX0_moveObject 4 = .ok (.istore_n 3, 1) := by decide +kernel
theorem dX0_moveObject_5 : decode cX0_moveObject 5 = .ok (.aload_n 0, 1) := by decide +kernel
theorem dX0_moveObject_6 : decode cX0_moveObject 6 = .ok (.iload_n 1, 1) := by decide +kernel
theorem dX0_moveObject_7 : decode cX0_moveObject 7 = .ok (.invokevirtual 26, 3) := by decide +kernel
theorem dX0_moveObject_10 : decode cX0_moveObject 10 = .ok (.istore 4, 2) := by decide +kernel
theorem dX0_moveObject_12 : decode cX0_moveObject 12 = .ok (.iconst 0, 1) := by decide +kernel
theorem dX0_moveObject_13 : decode cX0_moveObject 13 = .ok (.istore 5, 2) := by decide +kernel
theorem dX0_moveObject_15 : decode cX0_moveObject 15 = .ok (.iload 5, 2) := by decide +kernel
theorem dX0_moveObject_17 : decode cX0_moveObject 17 = .ok (.iload 4, 2) := by decide +kernel
theorem dX0_moveObject_19 : decode cX0_moveObject 19 = .ok (.if_icmp .gt 21, 3) := by decide +kernel
theorem dX0_moveObject_22 : decode cX0_moveObject 22 = .ok (.aload_n 2, 1) := by decide +kernel
theorem dX0_moveObject_23 : decode cX0_moveObject 23 = .ok (.aload_n 0, 1) := by decide +kernel
theorem dX0_moveObject_24 : decode cX0_moveObject 24 = .ok (.iload_n 1, 1) := by decide +kernel
theorem dX0_moveObject_25 : decode cX0_moveObject 25 = .ok (.iload 5, 2) := by decide +kernel
theorem dX0_moveObject_27 : decode cX0_moveObject 27 = .ok (.iadd, 1) := by decide +kernel
theorem dX0_moveObject_28 : decode cX0_moveObject 28 = .ok (.invokevirtual 22, 3) := by decide +kernel
theorem dX0_moveObject_31 : decode cX0_moveObject 31 = .ok (.invokevirtual 36, 3) := by decide +kernel
theorem dX0_moveObject_34 : decode cX0_moveObject 34 = .ok (.iinc 5 1, 3) := by decide +kernel
theorem dX0_moveObject_37 : decode cX0_moveObject 37 = .ok (.goto (-22), 3) := by decide +kernel
theorem dX0_moveObject_40 : decode cX0_moveObject 40 = .ok (.aload_n 2, 1) := by decide +kernel
theorem dX0_moveObject_41 : decode cX0_moveObject 41 = .ok (.dup, 1) := by decide +kernel
theorem dX0_moveObject_42 : decode cX0_moveObject 42 = .ok (.getfield 19, 3) := by decide +kernel
theorem dX0_moveObject_45 : decode cX0_moveObject 45 = .ok (.iconst 1, 1) := by decide +kernel
theorem dX0_moveObject_46 : decode cX0_moveObject 46 = .ok (.iadd, 1) := by decide +kernel
theorem dX0_moveObject_47 : decode cX0_moveObject 47 = .ok (.putfield 19, 3) := by decide +kernel
theorem dX0_moveObject_50 : decode cX0_moveObject 50 = .ok (.iload_n 3, 1) := by decide +kernel
theorem dX0_moveObject_51 : decode cX0_moveObject 51 = .ok (.ireturn, 1) := by decide +kernel
theorem dX0_fieldsAt_0 : decode cX0_fieldsAt 0 = .ok (.aload_n 0, 1) := by decide +kernel
theorem dX0_fieldsAt_1 : decode cX0_fieldsAt 1 = .ok (.iload_n 1, 1) := by decide +kernel
theorem dX0_fieldsAt_2 : decode cX0_fieldsAt 2 = .ok (.invokevirtual 22, 3) := by decide +kernel
theorem dX0_fieldsAt_5 : decode cX0_fieldsAt 5 = .ok (.iconst 1, 1) := by decide +kernel
theorem dX0_fieldsAt_6 : decode cX0_fieldsAt 6 = .ok (.ishr, 1) := by decide +kernel
theorem dX0_fieldsAt_7 : decode cX0_fieldsAt 7 = .ok (.ireturn, 1) := by decide +kernel
theorem dX0_addWord_0 : decode cX0_addWord 0 = .ok (.aload_n 0, 1) := by decide +kernel
theorem dX0_addWord_1 : decode cX0_addWord 1 = .ok (.aload_n 0, 1) := by decide +kernel
theorem dX0_addWord_2 : decode cX0_addWord 2 = .ok (.getfield 15, 3) := by decide +kernel
theorem dX0_addWord_5 : decode cX0_addWord 5 = .ok (.iload_n 1, 1) := by decide +kernel
theorem dX0_addWord_6 : decode cX0_addWord 6 = .ok (.invokevirtual 40, 3) := by decide +kernel
theorem dX0_addWord_9 : decode cX0_addWord 9 = .ok (.aload_n 0, 1) := by decide +kernel
theorem dX0_addWord_10 : decode cX0_addWord 10 = .ok (.dup, 1) := by decide +kernel
theorem dX0_addWord_11 : decode cX0_addWord 11 = .ok (.getfield 15, 3) := by decide +kernel
theorem dX0_addWord_14 : decode cX0_addWord 14 = .ok (.iconst 1, 1) := by decide +kernel
theorem dX0_addWord_15 : decode cX0_addWord 15 = .ok (.iadd, 1) := by decide +kernel
theorem dX0_addWord_16 : decode cX0_addWord 16 = .ok (.putfield 15, 3) := by decide +kernel
theorem dX0_addWord_19 : decode cX0_addWord 19 = .ok (.return_, 1) := by decide +kernel
theorem dX0_setWord_0 : decode cX0_setWord 0 = .ok (.iload_n 1, 1) := by decide +kernel
theorem dX0_setWord_1 : decode cX0_setWord 1 = .ok (.ifCond .lt 19, 3) := by decide +kernel
theorem dX0_setWord_4 : decode cX0_setWord 4 = .ok (.iload_n 1, 1) := by decide +kernel
theorem dX0_setWord_5 : decode cX0_setWord 5 = .ok (.aload_n 0, 1) := by decide +kernel
theorem dX0_setWord_6 : decode cX0_setWord 6 = .ok (.getfield 11, 3) := by decide +kernel
theorem dX0_setWord_9 : decode cX0_setWord 9 = .ok (.arraylength, 1) := by decide +kernel
theorem dX0_setWord_10 : decode cX0_setWord 10 = .ok (.if_icmp .ge 10, 3) := by decide +kernel
theorem dX0_setWord_13 : decode cX0_setWord 13 = .ok (.aload_n 0, 1) := by decide +kernel
theorem dX0_setWord_14 : decode cX0_setWord 14 = .ok (.getfield 11, 3) := by decide +kernel
theorem dX0_setWord_17 : decode cX0_setWord 17 = .ok (.iload_n 1, 1) := by decide +kernel
theorem dX0_setWord_18 : decode cX0_setWord 18 = .ok (.iload_n 2, 1) := by decide +kernel
theorem dX0_setWord_19 : decode cX0_setWord 19 = .ok (.iastore, 1) := by decide +kernel
theorem dX0_setWord_20 : decode cX0_setWord 20 = .ok (.return_, 1) := by decide +kernel
theorem dX1_asReference_0 : decode cX1_asReference 0 = .ok (.iload_n 0, 1) := by decide +kernel
theorem dX1_asReference_1 : decode cX1_asReference 1 = .ok (.iconst 1, 1) := by decide +kernel
theorem dX1_asReference_2 : decode cX1_asReference 2 = .ok (.ishl, 1) := by decide +kernel
theorem dX1_asReference_3 : decode cX1_asReference 3 = .ok (.iconst 1, 1) := by decide +kernel
theorem dX1_asReference_4 : decode cX1_asReference 4 = .ok (.ior, 1) := by decide +kernel
theorem dX1_asReference_5 : decode cX1_asReference 5 = .ok (.ireturn, 1) := by decide +kernel
theorem dX1_moveWhatFieldsReferTo_0 : decode cX1_moveWhatFieldsReferTo 0 = .ok (.iconst 0, 1) := by decide +kernel
theorem dX1_moveWhatFieldsReferTo_1 : decode cX1_moveWhatFieldsReferTo 1 = .ok (.istore_n 2, 1) := by decide +kernel
theorem dX1_moveWhatFieldsReferTo_2 : decode cX1_moveWhatFieldsReferTo 2 = .ok (.iconst 0, 1) := by decide +kernel
theorem dX1_moveWhatFieldsReferTo_3 : decode cX1_moveWhatFieldsReferTo 3 = .ok (.istore_n 3, 1) := by decide +kernel
theorem dX1_moveWhatFieldsReferTo_4 : decode cX1_moveWhatFieldsReferTo 4 = .ok (.iconst 0, 1) := by decide +kernel
theorem dX1_moveWhatFieldsReferTo_5 : decode cX1_moveWhatFieldsReferTo 5 = .ok (.istore 4, 2) := by decide +kernel
theorem dX1_moveWhatFieldsReferTo_7 : decode cX1_moveWhatFieldsReferTo 7 = .ok (.iload 4, 2) := by decide +kernel
theorem dX1_moveWhatFieldsReferTo_9 : decode cX1_moveWhatFieldsReferTo 9 = .ok (.aload_n 1, 1) := by decide +kernel
theorem dX1_moveWhatFieldsReferTo_10 : decode cX1_moveWhatFieldsReferTo 10 = .ok (.getfield 106, 3) := by decide +kernel
theorem dX1_moveWhatFieldsReferTo_13 : decode cX1_moveWhatFieldsReferTo 13 = .ok (.arraylength, 1) := by decide +kernel
theorem dX1_moveWhatFieldsReferTo_14 : decode cX1_moveWhatFieldsReferTo 14 = .ok (.if_icmp .ge 67, 3) := by decide +kernel
theorem dX1_moveWhatFieldsReferTo_17 : decode cX1_moveWhatFieldsReferTo 17 = .ok (.iload 4, 2) := by decide +kernel
theorem dX1_moveWhatFieldsReferTo_19 : decode cX1_moveWhatFieldsReferTo 19 = .ok (.aload_n 1, 1) := by decide +kernel
theorem dX1_moveWhatFieldsReferTo_20 : decode cX1_moveWhatFieldsReferTo 20 = .ok (.getfield 84, 3) := by decide +kernel
theorem dX1_moveWhatFieldsReferTo_23 : decode cX1_moveWhatFieldsReferTo 23 = .ok (.if_icmp .ge 58, 3) := by decide +kernel
theorem dX1_moveWhatFieldsReferTo_26 : decode cX1_moveWhatFieldsReferTo 26 = .ok (.iload 4, 2) := by decide +kernel
theorem dX1_moveWhatFieldsReferTo_28 : decode cX1_moveWhatFieldsReferTo 28 = .ok (.iload_n 3, 1) := by decide +kernel
theorem dX1_moveWhatFieldsReferTo_29 : decode cX1_moveWhatFieldsReferTo 29 = .ok (.if_icmp .ne 25, 3) := by decide +kernel
theorem dX1_moveWhatFieldsReferTo_32 : decode cX1_moveWhatFieldsReferTo 32 = .ok (.aload_n 1, 1) := by decide +kernel
theorem dX1_moveWhatFieldsReferTo_33 : decode cX1_moveWhatFieldsReferTo 33 = .ok (.iload 4, 2) := by decide +kernel
theorem dX1_moveWhatFieldsReferTo_35 : decode cX1_moveWhatFieldsReferTo 35 = .ok (.invokevirtual 67, 3) := by decide +kernel
theorem dX1_moveWhatFieldsReferTo_38 : decode cX1_moveWhatFieldsReferTo 38 = .ok (.istore_n 2, 1) := by decide +kernel
theorem dX1_moveWhatFieldsReferTo_39 : decode cX1_moveWhatFieldsReferTo 39 = .ok (.iload 4, 2) := by decide +kernel
theorem dX1_moveWhatFieldsReferTo_41 : decode cX1_moveWhatFieldsReferTo 41 = .ok (.iconst 1, 1) := by decide +kernel
theorem dX1_moveWhatFieldsReferTo_42 : decode cX1_moveWhatFieldsReferTo 42 = .ok (.iadd, 1) := by decide +kernel
theorem dX1_moveWhatFieldsReferTo_43 : decode cX1_moveWhatFieldsReferTo 43 = .ok (.aload_n 1, 1) := by decide +kernel
theorem dX1_moveWhatFieldsReferTo_44 : decode cX1_moveWhatFieldsReferTo 44 = .ok (.iload 4, 2) := by decide +kernel
theorem dX1_moveWhatFieldsReferTo_46 : decode cX1_moveWhatFieldsReferTo 46 = .ok (.invokevirtual 88, 3) := by decide +kernel
theorem dX1_moveWhatFieldsReferTo_49 : decode cX1_moveWhatFieldsReferTo 49 = .ok (.iadd, 1) := by decide +kernel
theorem dX1_moveWhatFieldsReferTo_50 : decode cX1_moveWhatFieldsReferTo 50 = .ok (.istore_n 3, 1) := by decide +kernel
theorem dX1_moveWhatFieldsReferTo_51 : decode cX1_moveWhatFieldsReferTo 51 = .ok (.goto 24, 3) := by decide +kernel
theorem dX1_moveWhatFieldsReferTo_54 : decode cX1_moveWhatFieldsReferTo 54 = .ok (.iload_n 2, 1) := by decide +kernel
theorem dX1_moveWhatFieldsReferTo_55 : decode cX1_moveWhatFieldsReferTo 55 = .ok (.ifCond .ne 20, 3) := by decide +kernel
theorem dX1_moveWhatFieldsReferTo_58 : decode cX1_moveWhatFieldsReferTo 58 = .ok (.aload_n 1, 1) := by decide +kernel
theorem dX1_moveWhatFieldsReferTo_59 : decode cX1_moveWhatFieldsReferTo 59 = .ok (.iload 4, 2) := by decide +kernel
theorem dX1_moveWhatFieldsReferTo_61 : decode cX1_moveWhatFieldsReferTo 61 = .ok (.aload_n 0, 1) := by decide +kernel
theorem dX1_moveWhatFieldsReferTo_62 : decode cX1_moveWhatFieldsReferTo 62 = .ok (.aload_n 1, 1) := by decide +kernel
theorem dX1_moveWhatFieldsReferTo_63 : decode cX1_moveWhatFieldsReferTo 63 = .ok (.iload 4, 2) := by decide +kernel
theorem dX1_moveWhatFieldsReferTo_65 : decode cX1_moveWhatFieldsReferTo 65 = .ok (.invokevirtual 81, 3) := by decide +kernel
theorem dX1_moveWhatFieldsReferTo_68 : decode cX1_moveWhatFieldsReferTo 68 = .ok (.aload_n 1, 1) := by decide +kernel
theorem dX1_moveWhatFieldsReferTo_69 : decode cX1_moveWhatFieldsReferTo 69 = .ok (.invokevirtual 129, 3) := by decide +kernel
theorem dX1_moveWhatFieldsReferTo_72 : decode cX1_moveWhatFieldsReferTo 72 = .ok (.invokevirtual 76, 3) := by decide +kernel
theorem dX1_moveWhatFieldsReferTo_75 : decode cX1_moveWhatFieldsReferTo 75 = .ok (.iinc 4 1, 3) := by decide +kernel
theorem dX1_moveWhatFieldsReferTo_78 : decode cX1_moveWhatFieldsReferTo 78 = .ok (.goto (-71), 3) := by decide +kernel
theorem dX1_moveWhatFieldsReferTo_81 : decode cX1_moveWhatFieldsReferTo 81 = .ok (.return_, 1) := by decide +kernel
theorem dX0_kindAt_0 : decode cX0_kindAt 0 = .ok (.aload_n 0, 1) := by decide +kernel
theorem dX0_kindAt_1 : decode cX0_kindAt 1 = .ok (.iload_n 1, 1) := by decide +kernel
theorem dX0_kindAt_2 : decode cX0_kindAt 2 = .ok (.invokevirtual 22, 3) := by decide +kernel
theorem dX0_kindAt_5 : decode cX0_kindAt 5 = .ok (.iconst 1, 1) := by decide +kernel
theorem dX0_kindAt_6 : decode cX0_kindAt 6 = .ok (.iand, 1) := by decide +kernel
theorem dX0_kindAt_7 : decode cX0_kindAt 7 = .ok (.ireturn, 1) := by decide +kernel
theorem dX1_make_0 : decode cX1_make 0 = .ok (.iload_n 1, 1) := by decide +kernel
theorem dX1_make_1 : decode cX1_make 1 = .ok (.invokestatic 25, 3) := by decide +kernel
theorem dX1_make_4 : decode cX1_make 4 = .ok (.iload_n 2, 1) := by decide +kernel
theorem dX1_make_5 : decode cX1_make 5 = .ok (.ifCond .eq 8, 3) := by decide +kernel
theorem dX1_make_8 : decode cX1_make 8 = .ok (.iload_n 2, 1) := by decide +kernel
theorem dX1_make_9 : decode cX1_make 9 = .ok (.iconst 1, 1) := by decide +kernel
theorem dX1_make_10 : decode cX1_make 10 = .ok (.if_icmp .ne 14, 3) := by decide +kernel
theorem dX1_make_13 : decode cX1_make 13 = .ok (.iload_n 3, 1) := by decide +kernel
theorem dX1_make_14 : decode cX1_make 14 = .ok (.ifCond .lt 10, 3) := by decide +kernel
theorem dX1_make_17 : decode cX1_make 17 = .ok (.iload_n 3, 1) := by decide +kernel
theorem dX1_make_18 : decode cX1_make 18 = .ok (.sipush 200, 3) := by decide +kernel
theorem dX1_make_21 : decode cX1_make 21 = .ok (.if_icmp .le 13, 3) := by decide +kernel
theorem dX1_make_24 : decode cX1_make 24 = .ok (.new 28, 3) := by decide +kernel
theorem dX1_make_27 : decode cX1_make 27 = .ok (.dup, 1) := by decide +kernel
theorem dX1_make_28 : decode cX1_make 28 = .ok (.ldc 30, 2) := by decide +kernel
theorem dX1_make_30 : decode cX1_make 30 = .ok (.invokespecial 32, 3) := by decide +kernel
theorem dX1_make_33 : decode cX1_make 33 = .ok (.athrow, 1) := by decide +kernel
theorem dX1_make_34 : decode cX1_make 34 = .ok (.aload_n 0, 1) := by decide +kernel
theorem dX1_make_35 : decode cX1_make 35 = .ok (.getfield 18, 3) := by decide +kernel
theorem dX1_make_38 : decode cX1_make 38 = .ok (.iconst 1, 1) := by decide +kernel
theorem dX1_make_39 : decode cX1_make 39 = .ok (.iload_n 3, 1) := by decide +kernel
theorem dX1_make_40 : decode cX1_make 40 = .ok (.iadd, 1) := by decide +kernel
theorem dX1_make_41 : decode cX1_make 41 = .ok (.invokevirtual 35, 3) := by decide +kernel
theorem dX1_make_44 : decode cX1_make 44 = .ok (.ifCond .ne 7, 3) := by decide +kernel
theorem dX1_make_47 : decode cX1_make 47 = .ok (.aload_n 0, 1) := by decide +kernel
theorem dX1_make_48 : decode cX1_make 48 = .ok (.invokevirtual 39, 3) := by decide +kernel
theorem dX1_make_51 : decode cX1_make 51 = .ok (.aload_n 0, 1) := by decide +kernel
theorem dX1_make_52 : decode cX1_make 52 = .ok (.getfield 18, 3) := by decide +kernel
theorem dX1_make_55 : decode cX1_make 55 = .ok (.iconst 1, 1) := by decide +kernel
theorem dX1_make_56 : decode cX1_make 56 = .ok (.iload_n 3, 1) := by decide +kernel
theorem dX1_make_57 : decode cX1_make 57 = .ok (.iadd, 1) := by decide +kernel
theorem dX1_make_58 : decode cX1_make 58 = .ok (.invokevirtual 35, 3) := by decide +kernel
theorem dX1_make_61 : decode cX1_make 61 = .ok (.ifCond .ne 13, 3) := by decide +kernel
theorem dX1_make_64 : decode cX1_make 64 = .ok (.new 42, 3) := by decide +kernel
theorem dX1_make_67 : decode cX1_make 67 = .ok (.dup, 1) := by decide +kernel
theorem dX1_make_68 : decode cX1_make 68 = .ok (.ldc 44, 2) := by decide +kernel
theorem dX1_make_70 : decode cX1_make 70 = .ok (.invokespecial 46, 3) := by decide +kernel
theorem dX1_make_73 : decode cX1_make 73 = .ok (.athrow, 1) := by decide +kernel
theorem dX1_make_74 : decode cX1_make 74 = .ok (.aload_n 0, 1) := by decide +kernel
theorem dX1_make_75 : decode cX1_make 75 = .ok (.getfield 18, 3) := by decide +kernel
theorem dX1_make_78 : decode cX1_make 78 = .ok (.iload_n 2, 1) := by decide +kernel
theorem dX1_make_79 : decode cX1_make 79 = .ok (.iload_n 3, 1) := by decide +kernel
theorem dX1_make_80 : decode cX1_make 80 = .ok (.invokevirtual 47, 3) := by decide +kernel
theorem dX1_make_83 : decode cX1_make 83 = .ok (.istore 4, 2) := by decide +kernel
theorem dX1_make_85 : decode cX1_make 85 = .ok (.aload_n 0, 1) := by decide +kernel
theorem dX1_make_86 : decode cX1_make 86 = .ok (.getfield 9, 3) := by decide +kernel
theorem dX1_make_89 : decode cX1_make 89 = .ok (.iload_n 1, 1) := by decide +kernel
theorem dX1_make_90 : decode cX1_make 90 = .ok (.iload 4, 2) := by decide +kernel
theorem dX1_make_92 : decode cX1_make 92 = .ok (.invokestatic 51, 3) := by decide +kernel
theorem dX1_make_95 : decode cX1_make 95 = .ok (.iastore, 1) := by decide +kernel
theorem dX1_make_96 : decode cX1_make 96 = .ok (.iload 4, 2) := by decide +kernel
theorem dX1_make_98 : decode cX1_make 98 = .ok (.ireturn, 1) := by decide +kernel
theorem dX1_requireRegister_0 : decode cX1_requireRegister 0 = .ok (.iload_n 0, 1) := by decide +kernel
theorem dX1_requireRegister_1 : decode cX1_requireRegister 1 = .ok (.ifCond .lt 9, 3) := by decide +kernel
theorem dX1_requireRegister_4 : decode cX1_requireRegister 4 = .ok (.iload_n 0, 1) := by decide +kernel
theorem dX1_requireRegister_5 : decode cX1_requireRegister 5 = .ok (.bipush 8, 2) := by decide +kernel
theorem dX1_requireRegister_7 : decode cX1_requireRegister 7 = .ok (.if_icmp .lt 13, 3) := by decide +kernel
theorem dX1_requireRegister_10 : decode cX1_requireRegister 10 = .ok (.new 28, 3) := by decide +kernel
theorem dX1_requireRegister_13 : decode cX1_requireRegister 13 = .ok (.dup, 1) := by decide +kernel
theorem dX1_requireRegister_14 : decode cX1_requireRegister 14 = .ok (.ldc 120, 2) := by decide +kernel
theorem dX1_requireRegister_16 : decode cX1_requireRegister 16 = .ok (.invokespecial 32, 3) := by decide +kernel
theorem dX1_requireRegister_19 : decode cX1_requireRegister 19 = .ok (.athrow, 1) := by decide +kernel
theorem dX1_requireRegister_20 : decode cX1_requireRegister 20 = .ok (.return_, 1) := by decide +kernel
theorem dX0_hasRoomFor_0 : decode cX0_hasRoomFor 0 = .ok (.iload_n 1, 1) := by decide +kernel
theorem dX0_hasRoomFor_1 : decode cX0_hasRoomFor 1 = .ok (.aload_n 0, 1) := by decide +kernel
theorem dX0_hasRoomFor_2 : decode cX0_hasRoomFor 2 = .ok (.getfield 11, 3) := by decide +kernel
theorem dX0_hasRoomFor_5 : decode cX0_hasRoomFor 5 = .ok (.arraylength, 1) := by decide +kernel
theorem dX0_hasRoomFor_6 : decode cX0_hasRoomFor 6 = .ok (.aload_n 0, 1) := by decide +kernel
theorem dX0_hasRoomFor_7 : decode cX0_hasRoomFor 7 = .ok (.getfield 15, 3) := by decide +kernel
theorem dX0_hasRoomFor_10 : decode cX0_hasRoomFor 10 = .ok (.isub, 1) := by decide +kernel
theorem dX0_hasRoomFor_11 : decode cX0_hasRoomFor 11 = .ok (.if_icmp .gt 7, 3) := by decide +kernel
theorem dX0_hasRoomFor_14 : decode cX0_hasRoomFor 14 = .ok (.iconst 1, 1) := by decide +kernel
theorem dX0_hasRoomFor_15 : decode cX0_hasRoomFor 15 = .ok (.goto 4, 3) := by decide +kernel
theorem dX0_hasRoomFor_18 : decode cX0_hasRoomFor 18 = .ok (.iconst 0, 1) := by decide +kernel
theorem dX0_hasRoomFor_19 : decode cX0_hasRoomFor 19 = .ok (.ireturn, 1) := by decide +kernel
theorem dX0_addObject_0 : decode cX0_addObject 0 = .ok (.aload_n 0, 1) := by decide +kernel
theorem dX0_addObject_1 : decode cX0_addObject 1 = .ok (.getfield 15, 3) := by decide +kernel
theorem dX0_addObject_4 : decode cX0_addObject 4 = .ok (.istore_n 3, 1) := by decide +kernel
theorem dX0_addObject_5 : decode cX0_addObject 5 = .ok (.aload_n 0, 1) := by decide +kernel
theorem dX0_addObject_6 : decode cX0_addObject 6 = .ok (.iload_n 2, 1) := by decide +kernel
theorem dX0_addObject_7 : decode cX0_addObject 7 = .ok (.iconst 1, 1) := by decide +kernel
theorem dX0_addObject_8 : decode cX0_addObject 8 = .ok (.ishl, 1) := by decide +kernel
theorem dX0_addObject_9 : decode cX0_addObject 9 = .ok (.iload_n 1, 1) := by decide +kernel
theorem dX0_addObject_10 : decode cX0_addObject 10 = .ok (.ior, 1) := by decide +kernel
theorem dX0_addObject_11 : decode cX0_addObject 11 = .ok (.invokevirtual 36, 3) := by decide +kernel
theorem dX0_addObject_14 : decode cX0_addObject 14 = .ok (.iconst 0, 1) := by decide +kernel
theorem dX0_addObject_15 : decode cX0_addObject 15 = .ok (.istore 4, 2) := by decide +kernel
theorem dX0_addObject_17 : decode cX0_addObject 17 = .ok (.iload 4, 2) := by decide +kernel
theorem dX0_addObject_19 : decode cX0_addObject 19 = .ok (.iload_n 2, 1) := by decide +kernel
theorem dX0_addObject_20 : decode cX0_addObject 20 = .ok (.if_icmp .ge 14, 3) := by decide +kernel
theorem dX0_addObject_23 : decode cX0_addObject 23 = .ok (.aload_n 0, 1) := by decide +kernel
theorem dX0_addObject_24 : decode cX0_addObject 24 = .ok (.iconst 0, 1) := by decide +kernel
theorem dX0_addObject_25 : decode cX0_addObject 25 = .ok (.invokevirtual 36, 3) := by decide +kernel
theorem dX0_addObject_28 : decode cX0_addObject 28 = .ok (.iinc 4 1, 3) := by decide +kernel
theorem dX0_addObject_31 : decode cX0_addObject 31 = .ok (.goto (-14), 3) := by decide +kernel
theorem dX0_addObject_34 : decode cX0_addObject 34 = .ok (.aload_n 0, 1) := by decide +kernel
theorem dX0_addObject_35 : decode cX0_addObject 35 = .ok (.dup, 1) := by decide +kernel
theorem dX0_addObject_36 : decode cX0_addObject 36 = .ok (.getfield 19, 3) := by decide +kernel
theorem dX0_addObject_39 : decode cX0_addObject 39 = .ok (.iconst 1, 1) := by decide +kernel
theorem dX0_addObject_40 : decode cX0_addObject 40 = .ok (.iadd, 1) := by decide +kernel
theorem dX0_addObject_41 : decode cX0_addObject 41 = .ok (.putfield 19, 3) := by decide +kernel
theorem dX0_addObject_44 : decode cX0_addObject 44 = .ok (.iload_n 3, 1) := by decide +kernel
theorem dX0_addObject_45 : decode cX0_addObject 45 = .ok (.ireturn, 1) := by decide +kernel
theorem dX1_number_0 : decode cX1_number 0 = .ok (.iload_n 1, 1) := by decide +kernel
theorem dX1_number_1 : decode cX1_number 1 = .ok (.invokestatic 25, 3) := by decide +kernel
theorem dX1_number_4 : decode cX1_number 4 = .ok (.aload_n 0, 1) := by decide +kernel
theorem dX1_number_5 : decode cX1_number 5 = .ok (.getfield 9, 3) := by decide +kernel
theorem dX1_number_8 : decode cX1_number 8 = .ok (.iload_n 1, 1) := by decide +kernel
theorem dX1_number_9 : decode cX1_number 9 = .ok (.iload_n 2, 1) := by decide +kernel
theorem dX1_number_10 : decode cX1_number 10 = .ok (.invokestatic 55, 3) := by decide +kernel
theorem dX1_number_13 : decode cX1_number 13 = .ok (.iastore, 1) := by decide +kernel
theorem dX1_number_14 : decode cX1_number 14 = .ok (.aload_n 0, 1) := by decide +kernel
theorem dX1_number_15 : decode cX1_number 15 = .ok (.getfield 9, 3) := by decide +kernel
theorem dX1_number_18 : decode cX1_number 18 = .ok (.iload_n 1, 1) := by decide +kernel
theorem dX1_number_19 : decode cX1_number 19 = .ok (.iaload, 1) := by decide +kernel
theorem dX1_number_20 : decode cX1_number 20 = .ok (.invokestatic 58, 3) := by decide +kernel
theorem dX1_number_23 : decode cX1_number 23 = .ok (.ireturn, 1) := by decide +kernel
theorem dX1_asNumber_0 : decode cX1_asNumber 0 = .ok (.iload_n 0, 1) := by decide +kernel
theorem dX1_asNumber_1 : decode cX1_asNumber 1 = .ok (.iconst 1, 1) := by decide +kernel
theorem dX1_asNumber_2 : decode cX1_asNumber 2 = .ok (.ishl, 1) := by decide +kernel
theorem dX1_asNumber_3 : decode cX1_asNumber 3 = .ok (.ireturn, 1) := by decide +kernel
theorem dX1_copy_0 : decode cX1_copy 0 = .ok (.iload_n 1, 1) := by decide +kernel
theorem dX1_copy_1 : decode cX1_copy 1 = .ok (.invokestatic 25, 3) := by decide +kernel
theorem dX1_copy_4 : decode cX1_copy 4 = .ok (.iload_n 2, 1) := by decide +kernel
theorem dX1_copy_5 : decode cX1_copy 5 = .ok (.invokestatic 25, 3) := by decide +kernel
theorem dX1_copy_8 : decode cX1_copy 8 = .ok (.aload_n 0, 1) := by decide +kernel
theorem dX1_copy_9 : decode cX1_copy 9 = .ok (.getfield 9, 3) := by decide +kernel
theorem dX1_copy_12 : decode cX1_copy 12 = .ok (.iload_n 1, 1) := by decide +kernel
theorem dX1_copy_13 : decode cX1_copy 13 = .ok (.aload_n 0, 1) := by decide +kernel
theorem dX1_copy_14 : decode cX1_copy 14 = .ok (.getfield 9, 3) := by decide +kernel
theorem dX1_copy_17 : decode cX1_copy 17 = .ok (.iload_n 2, 1) := by decide +kernel
theorem dX1_copy_18 : decode cX1_copy 18 = .ok (.iaload, 1) := by decide +kernel
theorem dX1_copy_19 : decode cX1_copy 19 = .ok (.iastore, 1) := by decide +kernel
theorem dX1_copy_20 : decode cX1_copy 20 = .ok (.aload_n 0, 1) := by decide +kernel
theorem dX1_copy_21 : decode cX1_copy 21 = .ok (.getfield 9, 3) := by decide +kernel
theorem dX1_copy_24 : decode cX1_copy 24 = .ok (.iload_n 1, 1) := by decide +kernel
theorem dX1_copy_25 : decode cX1_copy 25 = .ok (.iaload, 1) := by decide +kernel
theorem dX1_copy_26 : decode cX1_copy 26 = .ok (.invokestatic 61, 3) := by decide +kernel
theorem dX1_copy_29 : decode cX1_copy 29 = .ok (.ireturn, 1) := by decide +kernel
theorem dX1_put_0 : decode cX1_put 0 = .ok (.iload_n 1, 1) := by decide +kernel
theorem dX1_put_1 : decode cX1_put 1 = .ok (.invokestatic 25, 3) := by decide +kernel
theorem dX1_put_4 : decode cX1_put 4 = .ok (.iload_n 3, 1) := by decide +kernel
theorem dX1_put_5 : decode cX1_put 5 = .ok (.invokestatic 25, 3) := by decide +kernel
theorem dX1_put_8 : decode cX1_put 8 = .ok (.aload_n 0, 1) := by decide +kernel
theorem dX1_put_9 : decode cX1_put 9 = .ok (.iload_n 1, 1) := by decide +kernel
theorem dX1_put_10 : decode cX1_put 10 = .ok (.invokevirtual 64, 3) := by decide +kernel
theorem dX1_put_13 : decode cX1_put 13 = .ok (.istore 4, 2) := by decide +kernel
theorem dX1_put_15 : decode cX1_put 15 = .ok (.aload_n 0, 1) := by decide +kernel
theorem dX1_put_16 : decode cX1_put 16 = .ok (.getfield 9, 3) := by decide +kernel
theorem dX1_put_19 : decode cX1_put 19 = .ok (.iload_n 3, 1) := by decide +kernel
theorem dX1_put_20 : decode cX1_put 20 = .ok (.iaload, 1) := by decide +kernel
theorem dX1_put_21 : decode cX1_put 21 = .ok (.istore 5, 2) := by decide +kernel
theorem dX1_put_23 : decode cX1_put 23 = .ok (.aload_n 0, 1) := by decide +kernel
theorem dX1_put_24 : decode cX1_put 24 = .ok (.getfield 18, 3) := by decide +kernel
theorem dX1_put_27 : decode cX1_put 27 = .ok (.iload 4, 2) := by decide +kernel
theorem dX1_put_29 : decode cX1_put 29 = .ok (.invokevirtual 67, 3) := by decide +kernel
theorem dX1_put_32 : decode cX1_put 32 = .ok (.iconst 1, 1) := by decide +kernel
theorem dX1_put_33 : decode cX1_put 33 = .ok (.if_icmp .ne 7, 3) := by decide +kernel
theorem dX1_put_36 : decode cX1_put 36 = .ok (.iconst 1, 1) := by decide +kernel
theorem dX1_put_37 : decode cX1_put 37 = .ok (.goto 4, 3) := by decide +kernel
theorem dX1_put_40 : decode cX1_put 40 = .ok (.iconst 0, 1) := by decide +kernel
theorem dX1_put_41 : decode cX1_put 41 = .ok (.istore 6, 2) := by decide +kernel
theorem dX1_put_43 : decode cX1_put 43 = .ok (.iload 6, 2) := by decide +kernel
theorem dX1_put_45 : decode cX1_put 45 = .ok (.ifCond .eq 21, 3) := by decide +kernel
theorem dX1_put_48 : decode cX1_put 48 = .ok (.iload 5, 2) := by decide +kernel
theorem dX1_put_50 : decode cX1_put 50 = .ok (.invokestatic 61, 3) := by decide +kernel
theorem dX1_put_53 : decode cX1_put 53 = .ok (.ifCond .eq 13, 3) := by decide +kernel
theorem dX1_put_56 : decode cX1_put 56 = .ok (.new 42, 3) := by decide +kernel
theorem dX1_put_59 : decode cX1_put 59 = .ok (.dup, 1) := by decide +kernel
theorem dX1_put_60 : decode cX1_put 60 = .ok (.ldc 70, 2) := by decide +kernel
theorem dX1_put_62 : decode cX1_put 62 = .ok (.invokespecial 46, 3) := by decide +kernel
theorem dX1_put_65 : decode cX1_put 65 = .ok (.athrow, 1) := by decide +kernel
theorem dX1_put_66 : decode cX1_put 66 = .ok (.aload_n 0, 1) := by decide +kernel
theorem dX1_put_67 : decode cX1_put 67 = .ok (.iload 4, 2) := by decide +kernel
theorem dX1_put_69 : decode cX1_put 69 = .ok (.iload_n 2, 1) := by decide +kernel
theorem dX1_put_70 : decode cX1_put 70 = .ok (.invokevirtual 72, 3) := by decide +kernel
theorem dX1_put_73 : decode cX1_put 73 = .ok (.aload_n 0, 1) := by decide +kernel
theorem dX1_put_74 : decode cX1_put 74 = .ok (.getfield 18, 3) := by decide +kernel
theorem dX1_put_77 : decode cX1_put 77 = .ok (.iload 4, 2) := by decide +kernel
theorem dX1_put_79 : decode cX1_put 79 = .ok (.iconst 1, 1) := by decide +kernel
theorem dX1_put_80 : decode cX1_put 80 = .ok (.iadd, 1) := by decide +kernel
theorem dX1_put_81 : decode cX1_put 81 = .ok (.iload_n 2, 1) := by decide +kernel
theorem dX1_put_82 : decode cX1_put 82 = .ok (.iadd, 1) := by decide +kernel
theorem dX1_put_83 : decode cX1_put 83 = .ok (.iload 6, 2) := by decide +kernel
theorem dX1_put_85 : decode cX1_put 85 = .ok (.ifCond .eq 11, 3) := by decide +kernel
theorem dX1_put_88 : decode cX1_put 88 = .ok (.iload 5, 2) := by decide +kernel
theorem dX1_put_90 : decode cX1_put 90 = .ok (.invokestatic 58, 3) := by decide +kernel
theorem dX1_put_93 : decode cX1_put 93 = .ok (.goto 5, 3) := by decide +kernel
theorem dX1_put_96 : decode cX1_put 96 = .ok (.iload 5, 2) := by decide +kernel
theorem dX1_put_98 : decode cX1_put 98 = .ok (.invokevirtual 76, 3) := by decide +kernel
theorem dX1_put_101 : decode cX1_put 101 = .ok (.return_, 1) := by decide +kernel
theorem dX1_objectOf_0 : decode cX1_objectOf 0 = .ok (.aload_n 0, 1) := by decide +kernel
theorem dX1_objectOf_1 : decode cX1_objectOf 1 = .ok (.getfield 9, 3) := by decide +kernel
theorem dX1_objectOf_4 : decode cX1_objectOf 4 = .ok (.iload_n 1, 1) := by decide +kernel
theorem dX1_objectOf_5 : decode cX1_objectOf 5 = .ok (.iaload, 1) := by decide +kernel
theorem dX1_objectOf_6 : decode cX1_objectOf 6 = .ok (.istore_n 2, 1) := by decide +kernel
theorem dX1_objectOf_7 : decode cX1_objectOf 7 = .ok (.iload_n 2, 1) := by decide +kernel
theorem dX1_objectOf_8 : decode cX1_objectOf 8 = .ok (.invokestatic 61, 3) := by decide +kernel
theorem dX1_objectOf_11 : decode cX1_objectOf 11 = .ok (.ifCond .ne 13, 3) := by decide +kernel
theorem dX1_objectOf_14 : decode cX1_objectOf 14 = .ok (.new 42, 3) := by decide +kernel
theorem dX1_objectOf_17 : decode cX1_objectOf 17 = .ok (.dup, 1) := by decide +kernel
theorem dX1_objectOf_18 : decode cX1_objectOf 18 = .ok (.ldc 124, 2) := by decide +kernel
theorem dX1_objectOf_20 : decode cX1_objectOf 20 = .ok (.invokespecial 46, 3) := by decide +kernel
theorem dX1_objectOf_23 : decode cX1_objectOf 23 = .ok (.athrow, 1) := by decide +kernel
theorem dX1_objectOf_24 : decode cX1_objectOf 24 = .ok (.iload_n 2, 1) := by decide +kernel
theorem dX1_objectOf_25 : decode cX1_objectOf 25 = .ok (.invokestatic 58, 3) := by decide +kernel
theorem dX1_objectOf_28 : decode cX1_objectOf 28 = .ok (.ireturn, 1) := by decide +kernel
theorem dX1_requireField_0 : decode cX1_requireField 0 = .ok (.iload_n 2, 1) := by decide +kernel
theorem dX1_requireField_1 : decode cX1_requireField 1 = .ok (.ifCond .lt 15, 3) := by decide +kernel
theorem dX1_requireField_4 : decode cX1_requireField 4 = .ok (.iload_n 2, 1) := by decide +kernel
theorem dX1_requireField_5 : decode cX1_requireField 5 = .ok (.aload_n 0, 1) := by decide +kernel
theorem dX1_requireField_6 : decode cX1_requireField 6 = .ok (.getfield 18, 3) := by decide +kernel
theorem dX1_requireField_9 : decode cX1_requireField 9 = .ok (.iload_n 1, 1) := by decide +kernel
theorem dX1_requireField_10 : decode cX1_requireField 10 = .ok (.invokevirtual 88, 3) := by decide +kernel
theorem dX1_requireField_13 : decode cX1_requireField 13 = .ok (.if_icmp .lt 13, 3) := by decide +kernel
theorem dX1_requireField_16 : decode cX1_requireField 16 = .ok (.new 91, 3) := by decide +kernel
theorem dX1_requireField_19 : decode cX1_requireField 19 = .ok (.dup, 1) := by decide +kernel
theorem dX1_requireField_20 : decode cX1_requireField 20 = .ok (.ldc 122, 2) := by decide +kernel
theorem dX1_requireField_22 : decode cX1_requireField 22 = .ok (.invokespecial 95, 3) := by decide +kernel
theorem dX1_requireField_25 : decode cX1_requireField 25 = .ok (.athrow, 1) := by decide +kernel
theorem dX1_requireField_26 : decode cX1_requireField 26 = .ok (.return_, 1) := by decide +kernel
theorem dX1_raw_0 : decode cX1_raw 0 = .ok (.iload_n 1, 1) := by decide +kernel
theorem dX1_raw_1 : decode cX1_raw 1 = .ok (.invokestatic 25, 3) := by decide +kernel
theorem dX1_raw_4 : decode cX1_raw 4 = .ok (.aload_n 0, 1) := by decide +kernel
theorem dX1_raw_5 : decode cX1_raw 5 = .ok (.iload_n 1, 1) := by decide +kernel
theorem dX1_raw_6 : decode cX1_raw 6 = .ok (.invokevirtual 64, 3) := by decide +kernel
theorem dX1_raw_9 : decode cX1_raw 9 = .ok (.istore 4, 2) := by decide +kernel
theorem dX1_raw_11 : decode cX1_raw 11 = .ok (.aload_n 0, 1) := by decide +kernel
theorem dX1_raw_12 : decode cX1_raw 12 = .ok (.getfield 18, 3) := by decide +kernel
theorem dX1_raw_15 : decode cX1_raw 15 = .ok (.iload 4, 2) := by decide +kernel
theorem dX1_raw_17 : decode cX1_raw 17 = .ok (.invokevirtual 67, 3) := by decide +kernel
theorem dX1_raw_20 : decode cX1_raw 20 = .ok (.iconst 1, 1) := by decide +kernel
theorem dX1_raw_21 : decode cX1_raw 21 = .ok (.if_icmp .eq 13, 3) := by decide +kernel
theorem dX1_raw_24 : decode cX1_raw 24 = .ok (.new 42, 3) := by decide +kernel
theorem dX1_raw_27 : decode cX1_raw 27 = .ok (.dup, 1) := by decide +kernel
theorem dX1_raw_28 : decode cX1_raw 28 = .ok (.ldc 79, 2) := by decide +kernel
theorem dX1_raw_30 : decode cX1_raw 30 = .ok (.invokespecial 46, 3) := by decide +kernel
theorem dX1_raw_33 : decode cX1_raw 33 = .ok (.athrow, 1) := by decide +kernel
theorem dX1_raw_34 : decode cX1_raw 34 = .ok (.aload_n 0, 1) := by decide +kernel
theorem dX1_raw_35 : decode cX1_raw 35 = .ok (.iload 4, 2) := by decide +kernel
theorem dX1_raw_37 : decode cX1_raw 37 = .ok (.iload_n 2, 1) := by decide +kernel
theorem dX1_raw_38 : decode cX1_raw 38 = .ok (.invokevirtual 72, 3) := by decide +kernel
theorem dX1_raw_41 : decode cX1_raw 41 = .ok (.aload_n 0, 1) := by decide +kernel
theorem dX1_raw_42 : decode cX1_raw 42 = .ok (.getfield 18, 3) := by decide +kernel
theorem dX1_raw_45 : decode cX1_raw 45 = .ok (.iload 4, 2) := by decide +kernel
theorem dX1_raw_47 : decode cX1_raw 47 = .ok (.iconst 1, 1) := by decide +kernel
theorem dX1_raw_48 : decode cX1_raw 48 = .ok (.iadd, 1) := by decide +kernel
theorem dX1_raw_49 : decode cX1_raw 49 = .ok (.iload_n 2, 1) := by decide +kernel
theorem dX1_raw_50 : decode cX1_raw 50 = .ok (.iadd, 1) := by decide +kernel
theorem dX1_raw_51 : decode cX1_raw 51 = .ok (.invokevirtual 81, 3) := by decide +kernel
theorem dX1_raw_54 : decode cX1_raw 54 = .ok (.istore 5, 2) := by decide +kernel
theorem dX1_raw_56 : decode cX1_raw 56 = .ok (.aload_n 0, 1) := by decide +kernel
theorem dX1_raw_57 : decode cX1_raw 57 = .ok (.getfield 18, 3) := by decide +kernel
theorem dX1_raw_60 : decode cX1_raw 60 = .ok (.iload 4, 2) := by decide +kernel
theorem dX1_raw_62 : decode cX1_raw 62 = .ok (.iconst 1, 1) := by decide +kernel
theorem dX1_raw_63 : decode cX1_raw 63 = .ok (.iadd, 1) := by decide +kernel
theorem dX1_raw_64 : decode cX1_raw 64 = .ok (.iload_n 2, 1) := by decide +kernel
theorem dX1_raw_65 : decode cX1_raw 65 = .ok (.iadd, 1) := by decide +kernel
theorem dX1_raw_66 : decode cX1_raw 66 = .ok (.iload_n 3, 1) := by decide +kernel
theorem dX1_raw_67 : decode cX1_raw 67 = .ok (.invokevirtual 76, 3) := by decide +kernel
theorem dX1_raw_70 : decode cX1_raw 70 = .ok (.iload 5, 2) := by decide +kernel
theorem dX1_raw_72 : decode cX1_raw 72 = .ok (.ireturn, 1) := by decide +kernel
theorem dX1_get_0 : decode cX1_get 0 = .ok (.iload_n 1, 1) := by decide +kernel
theorem dX1_get_1 : decode cX1_get 1 = .ok (.invokestatic 25, 3) := by decide +kernel
theorem dX1_get_4 : decode cX1_get 4 = .ok (.iload_n 2, 1) := by decide +kernel
theorem dX1_get_5 : decode cX1_get 5 = .ok (.invokestatic 25, 3) := by decide +kernel
theorem dX1_get_8 : decode cX1_get 8 = .ok (.aload_n 0, 1) := by decide +kernel
theorem dX1_get_9 : decode cX1_get 9 = .ok (.iload_n 2, 1) := by decide +kernel
theorem dX1_get_10 : decode cX1_get 10 = .ok (.invokevirtual 64, 3) := by decide +kernel
theorem dX1_get_13 : decode cX1_get 13 = .ok (.istore 4, 2) := by decide +kernel
theorem dX1_get_15 : decode cX1_get 15 = .ok (.aload_n 0, 1) := by decide +kernel
theorem dX1_get_16 : decode cX1_get 16 = .ok (.iload 4, 2) := by decide +kernel
theorem dX1_get_18 : decode cX1_get 18 = .ok (.iload_n 3, 1) := by decide +kernel
theorem dX1_get_19 : decode cX1_get 19 = .ok (.invokevirtual 72, 3) := by decide +kernel
theorem dX1_get_22 : decode cX1_get 22 = .ok (.aload_n 0, 1) := by decide +kernel
theorem dX1_get_23 : decode cX1_get 23 = .ok (.getfield 18, 3) := by decide +kernel
theorem dX1_get_26 : decode cX1_get 26 = .ok (.iload 4, 2) := by decide +kernel
theorem dX1_get_28 : decode cX1_get 28 = .ok (.iconst 1, 1) := by decide +kernel
theorem dX1_get_29 : decode cX1_get 29 = .ok (.iadd, 1) := by decide +kernel
theorem dX1_get_30 : decode cX1_get 30 = .ok (.iload_n 3, 1) := by decide +kernel
theorem dX1_get_31 : decode cX1_get 31 = .ok (.iadd, 1) := by decide +kernel
theorem dX1_get_32 : decode cX1_get 32 = .ok (.invokevirtual 81, 3) := by decide +kernel
theorem dX1_get_35 : decode cX1_get 35 = .ok (.istore 5, 2) := by decide +kernel
theorem dX1_get_37 : decode cX1_get 37 = .ok (.aload_n 0, 1) := by decide +kernel
theorem dX1_get_38 : decode cX1_get 38 = .ok (.getfield 9, 3) := by decide +kernel
theorem dX1_get_41 : decode cX1_get 41 = .ok (.iload_n 1, 1) := by decide +kernel
theorem dX1_get_42 : decode cX1_get 42 = .ok (.aload_n 0, 1) := by decide +kernel
theorem dX1_get_43 : decode cX1_get 43 = .ok (.getfield 18, 3) := by decide +kernel
theorem dX1_get_46 : decode cX1_get 46 = .ok (.iload 4, 2) := by decide +kernel
theorem dX1_get_48 : decode cX1_get 48 = .ok (.invokevirtual 67, 3) := by decide +kernel
theorem dX1_get_51 : decode cX1_get 51 = .ok (.iconst 1, 1) := by decide +kernel
theorem dX1_get_52 : decode cX1_get 52 = .ok (.if_icmp .ne 11, 3) := by decide +kernel
theorem dX1_get_55 : decode cX1_get 55 = .ok (.iload 5, 2) := by decide +kernel
theorem dX1_get_57 : decode cX1_get 57 = .ok (.invokestatic 55, 3) := by decide +kernel
theorem dX1_get_60 : decode cX1_get 60 = .ok (.goto 5, 3) := by decide +kernel
theorem dX1_get_63 : decode cX1_get 63 = .ok (.iload 5, 2) := by decide +kernel
theorem dX1_get_65 : decode cX1_get 65 = .ok (.iastore, 1) := by decide +kernel
theorem dX1_get_66 : decode cX1_get 66 = .ok (.aload_n 0, 1) := by decide +kernel
theorem dX1_get_67 : decode cX1_get 67 = .ok (.getfield 9, 3) := by decide +kernel
theorem dX1_get_70 : decode cX1_get 70 = .ok (.iload_n 1, 1) := by decide +kernel
theorem dX1_get_71 : decode cX1_get 71 = .ok (.iaload, 1) := by decide +kernel
theorem dX1_get_72 : decode cX1_get 72 = .ok (.invokestatic 61, 3) := by decide +kernel
theorem dX1_get_75 : decode cX1_get 75 = .ok (.ireturn, 1) := by decide +kernel
theorem dX1_about_0 : decode cX1_about 0 = .ok (.iload_n 1, 1) := by decide +kernel
theorem dX1_about_1 : decode cX1_about 1 = .ok (.invokestatic 25, 3) := by decide +kernel
theorem dX1_about_4 : decode cX1_about 4 = .ok (.aload_n 0, 1) := by decide +kernel
theorem dX1_about_5 : decode cX1_about 5 = .ok (.getfield 9, 3) := by decide +kernel
theorem dX1_about_8 : decode cX1_about 8 = .ok (.iload_n 1, 1) := by decide +kernel
theorem dX1_about_9 : decode cX1_about 9 = .ok (.iaload, 1) := by decide +kernel
theorem dX1_about_10 : decode cX1_about 10 = .ok (.istore_n 3, 1) := by decide +kernel
theorem dX1_about_11 : decode cX1_about 11 = .ok (.iload_n 3, 1) := by decide +kernel
theorem dX1_about_12 : decode cX1_about 12 = .ok (.invokestatic 61, 3) := by decide +kernel
theorem dX1_about_15 : decode cX1_about 15 = .ok (.istore 4, 2) := by decide +kernel
theorem dX1_about_17 : decode cX1_about 17 = .ok (.iload_n 3, 1) := by decide +kernel
theorem dX1_about_18 : decode cX1_about 18 = .ok (.invokestatic 58, 3) := by decide +kernel
theorem dX1_about_21 : decode cX1_about 21 = .ok (.istore 5, 2) := by decide +kernel
theorem dX1_about_23 : decode cX1_about 23 = .ok (.iload_n 2, 1) := by decide +kernel
theorem dX1_about_24 : decode cX1_about 24 = .ok (.tableswitch 94 0 3 #[32, 44, 56, 75], 32) := by decide +kernel
theorem dX1_about_56 : decode cX1_about 56 = .ok (.iload 4, 2) := by decide +kernel
theorem dX1_about_58 : decode cX1_about 58 = .ok (.ifCond .eq 8, 3) := by decide +kernel
theorem dX1_about_61 : decode cX1_about 61 = .ok (.iload 5, 2) := by decide +kernel
theorem dX1_about_63 : decode cX1_about 63 = .ok (.goto 4, 3) := by decide +kernel
theorem dX1_about_66 : decode cX1_about 66 = .ok (.iconst (-1), 1) := by decide +kernel
theorem dX1_about_67 : decode cX1_about 67 = .ok (.ireturn, 1) := by decide +kernel
theorem dX1_about_68 : decode cX1_about 68 = .ok (.iload 4, 2) := by decide +kernel
theorem dX1_about_70 : decode cX1_about 70 = .ok (.ifCond .eq 7, 3) := by decide +kernel
theorem dX1_about_73 : decode cX1_about 73 = .ok (.iconst 0, 1) := by decide +kernel
theorem dX1_about_74 : decode cX1_about 74 = .ok (.goto 5, 3) := by decide +kernel
theorem dX1_about_77 : decode cX1_about 77 = .ok (.iload 5, 2) := by decide +kernel
theorem dX1_about_79 : decode cX1_about 79 = .ok (.ireturn, 1) := by decide +kernel
theorem dX1_about_80 : decode cX1_about 80 = .ok (.iload 4, 2) := by decide +kernel
theorem dX1_about_82 : decode cX1_about 82 = .ok (.ifCond .eq 15, 3) := by decide +kernel
theorem dX1_about_85 : decode cX1_about 85 = .ok (.aload_n 0, 1) := by decide +kernel
theorem dX1_about_86 : decode cX1_about 86 = .ok (.getfield 18, 3) := by decide +kernel
theorem dX1_about_89 : decode cX1_about 89 = .ok (.iload 5, 2) := by decide +kernel
theorem dX1_about_91 : decode cX1_about 91 = .ok (.invokevirtual 67, 3) := by decide +kernel
theorem dX1_about_94 : decode cX1_about 94 = .ok (.goto 4, 3) := by decide +kernel
theorem dX1_about_97 : decode cX1_about 97 = .ok (.iconst (-1), 1) := by decide +kernel
theorem dX1_about_98 : decode cX1_about 98 = .ok (.ireturn, 1) := by decide +kernel
theorem dX1_about_99 : decode cX1_about 99 = .ok (.iload 4, 2) := by decide +kernel
theorem dX1_about_101 : decode cX1_about 101 = .ok (.ifCond .eq 15, 3) := by decide +kernel
theorem dX1_about_104 : decode cX1_about 104 = .ok (.aload_n 0, 1) := by decide +kernel
theorem dX1_about_105 : decode cX1_about 105 = .ok (.getfield 18, 3) := by decide +kernel
theorem dX1_about_108 : decode cX1_about 108 = .ok (.iload 5, 2) := by decide +kernel
theorem dX1_about_110 : decode cX1_about 110 = .ok (.invokevirtual 88, 3) := by decide +kernel
theorem dX1_about_113 : decode cX1_about 113 = .ok (.goto 4, 3) := by decide +kernel
theorem dX1_about_116 : decode cX1_about 116 = .ok (.iconst (-1), 1) := by decide +kernel
theorem dX1_about_117 : decode cX1_about 117 = .ok (.ireturn, 1) := by decide +kernel
theorem dX1_about_118 : decode cX1_about 118 = .ok (.new 91, 3) := by decide +kernel
theorem dX1_about_121 : decode cX1_about 121 = .ok (.dup, 1) := by decide +kernel
theorem dX1_about_122 : decode cX1_about 122 = .ok (.ldc 93, 2) := by decide +kernel
theorem dX1_about_124 : decode cX1_about 124 = .ok (.invokespecial 95, 3) := by decide +kernel
theorem dX1_about_127 : decode cX1_about 127 = .ok (.athrow, 1) := by decide +kernel
theorem dX1_look_0 : decode cX1_look 0 = .ok (.aload_n 0, 1) := by decide +kernel
theorem dX1_look_1 : decode cX1_look 1 = .ok (.getfield 18, 3) := by decide +kernel
theorem dX1_look_4 : decode cX1_look 4 = .ok (.iload_n 1, 1) := by decide +kernel
theorem dX1_look_5 : decode cX1_look 5 = .ok (.invokevirtual 96, 3) := by decide +kernel
theorem dX1_look_8 : decode cX1_look 8 = .ok (.ifCond .ne 13, 3) := by decide +kernel
theorem dX1_look_11 : decode cX1_look 11 = .ok (.new 91, 3) := by decide +kernel
theorem dX1_look_14 : decode cX1_look 14 = .ok (.dup, 1) := by decide +kernel
theorem dX1_look_15 : decode cX1_look 15 = .ok (.ldc 99, 2) := by decide +kernel
theorem dX1_look_17 : decode cX1_look 17 = .ok (.invokespecial 95, 3) := by decide +kernel
theorem dX1_look_20 : decode cX1_look 20 = .ok (.athrow, 1) := by decide +kernel
theorem dX1_look_21 : decode cX1_look 21 = .ok (.aload_n 0, 1) := by decide +kernel
theorem dX1_look_22 : decode cX1_look 22 = .ok (.getfield 18, 3) := by decide +kernel
theorem dX1_look_25 : decode cX1_look 25 = .ok (.iload_n 1, 1) := by decide +kernel
theorem dX1_look_26 : decode cX1_look 26 = .ok (.invokevirtual 101, 3) := by decide +kernel
theorem dX1_look_29 : decode cX1_look 29 = .ok (.istore_n 3, 1) := by decide +kernel
theorem dX1_look_30 : decode cX1_look 30 = .ok (.aload_n 0, 1) := by decide +kernel
theorem dX1_look_31 : decode cX1_look 31 = .ok (.getfield 18, 3) := by decide +kernel
theorem dX1_look_34 : decode cX1_look 34 = .ok (.iload_n 1, 1) := by decide +kernel
theorem dX1_look_35 : decode cX1_look 35 = .ok (.invokevirtual 81, 3) := by decide +kernel
theorem dX1_look_38 : decode cX1_look 38 = .ok (.istore 4, 2) := by decide +kernel
theorem dX1_look_40 : decode cX1_look 40 = .ok (.iload_n 2, 1) := by decide +kernel
theorem dX1_look_41 : decode cX1_look 41 = .ok (.lookupswitch 50 #[(0, 27), (1, 29)], 27) := by decide +kernel
theorem dX1_look_68 : decode cX1_look 68 = .ok (.iload_n 3, 1) := by decide +kernel
theorem dX1_look_69 : decode cX1_look 69 = .ok (.ireturn, 1) := by decide +kernel
theorem dX1_look_70 : decode cX1_look 70 = .ok (.iload_n 3, 1) := by decide +kernel
theorem dX1_look_71 : decode cX1_look 71 = .ok (.iconst 1, 1) := by decide +kernel
theorem dX1_look_72 : decode cX1_look 72 = .ok (.if_icmp .eq 8, 3) := by decide +kernel
theorem dX1_look_75 : decode cX1_look 75 = .ok (.iload_n 3, 1) := by decide +kernel
theorem dX1_look_76 : decode cX1_look 76 = .ok (.iconst 2, 1) := by decide +kernel
theorem dX1_look_77 : decode cX1_look 77 = .ok (.if_icmp .ne 11, 3) := by decide +kernel
theorem dX1_look_80 : decode cX1_look 80 = .ok (.iload 4, 2) := by decide +kernel
theorem dX1_look_82 : decode cX1_look 82 = .ok (.invokestatic 58, 3) := by decide +kernel
theorem dX1_look_85 : decode cX1_look 85 = .ok (.goto 5, 3) := by decide +kernel
theorem dX1_look_88 : decode cX1_look 88 = .ok (.iload 4, 2) := by decide +kernel
theorem dX1_look_90 : decode cX1_look 90 = .ok (.ireturn, 1) := by decide +kernel
theorem dX1_look_91 : decode cX1_look 91 = .ok (.new 91, 3) := by decide +kernel
theorem dX1_look_94 : decode cX1_look 94 = .ok (.dup, 1) := by decide +kernel
theorem dX1_look_95 : decode cX1_look 95 = .ok (.ldc 104, 2) := by decide +kernel
theorem dX1_look_97 : decode cX1_look 97 = .ok (.invokespecial 95, 3) := by decide +kernel
theorem dX1_look_100 : decode cX1_look 100 = .ok (.athrow, 1) := by decide +kernel
theorem dX0_holds_0 : decode cX0_holds 0 = .ok (.iload_n 1, 1) := by decide +kernel
theorem dX0_holds_1 : decode cX0_holds 1 = .ok (.ifCond .lt 15, 3) := by decide +kernel
theorem dX0_holds_4 : decode cX0_holds 4 = .ok (.iload_n 1, 1) := by decide +kernel
theorem dX0_holds_5 : decode cX0_holds 5 = .ok (.aload_n 0, 1) := by decide +kernel
theorem dX0_holds_6 : decode cX0_holds 6 = .ok (.getfield 15, 3) := by decide +kernel
theorem dX0_holds_9 : decode cX0_holds 9 = .ok (.if_icmp .ge 7, 3) := by decide +kernel
theorem dX0_holds_12 : decode cX0_holds 12 = .ok (.iconst 1, 1) := by decide +kernel
theorem dX0_holds_13 : decode cX0_holds 13 = .ok (.goto 4, 3) := by decide +kernel
theorem dX0_holds_16 : decode cX0_holds 16 = .ok (.iconst 0, 1) := by decide +kernel
theorem dX0_holds_17 : decode cX0_holds 17 = .ok (.ireturn, 1) := by decide +kernel
theorem dX0_sortAt_0 : decode cX0_sortAt 0 = .ok (.iconst 0, 1) := by decide +kernel
theorem dX0_sortAt_1 : decode cX0_sortAt 1 = .ok (.istore_n 2, 1) := by decide +kernel
theorem dX0_sortAt_2 : decode cX0_sortAt 2 = .ok (.iconst 0, 1) := by decide +kernel
theorem dX0_sortAt_3 : decode cX0_sortAt 3 = .ok (.istore_n 3, 1) := by decide +kernel
theorem dX0_sortAt_4 : decode cX0_sortAt 4 = .ok (.iconst 0, 1) := by decide +kernel
theorem dX0_sortAt_5 : decode cX0_sortAt 5 = .ok (.istore 4, 2) := by decide +kernel
theorem dX0_sortAt_7 : decode cX0_sortAt 7 = .ok (.iload 4, 2) := by decide +kernel
theorem dX0_sortAt_9 : decode cX0_sortAt 9 = .ok (.iload_n 1, 1) := by decide +kernel
theorem dX0_sortAt_10 : decode cX0_sortAt 10 = .ok (.if_icmp .gt 39, 3) := by decide +kernel
theorem dX0_sortAt_13 : decode cX0_sortAt 13 = .ok (.iload 4, 2) := by decide +kernel
theorem dX0_sortAt_15 : decode cX0_sortAt 15 = .ok (.aload_n 0, 1) := by decide +kernel
theorem dX0_sortAt_16 : decode cX0_sortAt 16 = .ok (.getfield 15, 3) := by decide +kernel
theorem dX0_sortAt_19 : decode cX0_sortAt 19 = .ok (.if_icmp .ge 30, 3) := by decide +kernel
theorem dX0_sortAt_22 : decode cX0_sortAt 22 = .ok (.iload 4, 2) := by decide +kernel
theorem dX0_sortAt_24 : decode cX0_sortAt 24 = .ok (.iload_n 3, 1) := by decide +kernel
theorem dX0_sortAt_25 : decode cX0_sortAt 25 = .ok (.if_icmp .ne 18, 3) := by decide +kernel
theorem dX0_sortAt_28 : decode cX0_sortAt 28 = .ok (.iload 4, 2) := by decide +kernel
theorem dX0_sortAt_30 : decode cX0_sortAt 30 = .ok (.istore_n 2, 1) := by decide +kernel
theorem dX0_sortAt_31 : decode cX0_sortAt 31 = .ok (.iload 4, 2) := by decide +kernel
theorem dX0_sortAt_33 : decode cX0_sortAt 33 = .ok (.iconst 1, 1) := by decide +kernel
theorem dX0_sortAt_34 : decode cX0_sortAt 34 = .ok (.iadd, 1) := by decide +kernel
theorem dX0_sortAt_35 : decode cX0_sortAt 35 = .ok (.aload_n 0, 1) := by decide +kernel
theorem dX0_sortAt_36 : decode cX0_sortAt 36 = .ok (.iload 4, 2) := by decide +kernel
theorem dX0_sortAt_38 : decode cX0_sortAt 38 = .ok (.invokevirtual 26, 3) := by decide +kernel
theorem dX0_sortAt_41 : decode cX0_sortAt 41 = .ok (.iadd, 1) := by decide +kernel
theorem dX0_sortAt_42 : decode cX0_sortAt 42 = .ok (.istore_n 3, 1) := by decide +kernel
theorem dX0_sortAt_43 : decode cX0_sortAt 43 = .ok (.iinc 4 1, 3) := by decide +kernel
theorem dX0_sortAt_46 : decode cX0_sortAt 46 = .ok (.goto (-39), 3) := by decide +kernel
theorem dX0_sortAt_49 : decode cX0_sortAt 49 = .ok (.iload_n 1, 1) := by decide +kernel
theorem dX0_sortAt_50 : decode cX0_sortAt 50 = .ok (.iload_n 2, 1) := by decide +kernel
theorem dX0_sortAt_51 : decode cX0_sortAt 51 = .ok (.if_icmp .ne 5, 3) := by decide +kernel
theorem dX0_sortAt_54 : decode cX0_sortAt 54 = .ok (.iconst 0, 1) := by decide +kernel
theorem dX0_sortAt_55 : decode cX0_sortAt 55 = .ok (.ireturn, 1) := by decide +kernel
theorem dX0_sortAt_56 : decode cX0_sortAt 56 = .ok (.aload_n 0, 1) := by decide +kernel
theorem dX0_sortAt_57 : decode cX0_sortAt 57 = .ok (.iload_n 2, 1) := by decide +kernel
theorem dX0_sortAt_58 : decode cX0_sortAt 58 = .ok (.invokevirtual 29, 3) := by decide +kernel
theorem dX0_sortAt_61 : decode cX0_sortAt 61 = .ok (.iconst 1, 1) := by decide +kernel
theorem dX0_sortAt_62 : decode cX0_sortAt 62 = .ok (.if_icmp .ne 5, 3) := by decide +kernel
theorem dX0_sortAt_65 : decode cX0_sortAt 65 = .ok (.iconst 3, 1) := by decide +kernel
theorem dX0_sortAt_66 : decode cX0_sortAt 66 = .ok (.ireturn, 1) := by decide +kernel
theorem dX0_sortAt_67 : decode cX0_sortAt 67 = .ok (.aload_n 0, 1) := by decide +kernel
theorem dX0_sortAt_68 : decode cX0_sortAt 68 = .ok (.iload_n 1, 1) := by decide +kernel
theorem dX0_sortAt_69 : decode cX0_sortAt 69 = .ok (.invokevirtual 22, 3) := by decide +kernel
theorem dX0_sortAt_72 : decode cX0_sortAt 72 = .ok (.invokestatic 32, 3) := by decide +kernel
theorem dX0_sortAt_75 : decode cX0_sortAt 75 = .ok (.ifCond .eq 7, 3) := by decide +kernel
theorem dX0_sortAt_78 : decode cX0_sortAt 78 = .ok (.iconst 2, 1) := by decide +kernel
theorem dX0_sortAt_79 : decode cX0_sortAt 79 = .ok (.goto 4, 3) := by decide +kernel
theorem dX0_sortAt_82 : decode cX0_sortAt 82 = .ok (.iconst 1, 1) := by decide +kernel
theorem dX0_sortAt_83 : decode cX0_sortAt 83 = .ok (.ireturn, 1) := by decide +kernel
theorem dX1_count_0 : decode cX1_count 0 = .ok (.iload_n 1, 1) := by decide +kernel
theorem dX1_count_1 : decode cX1_count 1 = .ok (.tableswitch 70 0 4 #[35, 44, 52, 57, 62], 35) := by decide +kernel
theorem dX1_count_36 : decode cX1_count 36 = .ok (.aload_n 0, 1) := by decide +kernel
theorem dX1_count_37 : decode cX1_count 37 = .ok (.getfield 18, 3) := by decide +kernel
theorem dX1_count_40 : decode cX1_count 40 = .ok (.getfield 106, 3) := by decide +kernel
theorem dX1_count_43 : decode cX1_count 43 = .ok (.arraylength, 1) := by decide +kernel
theorem dX1_count_44 : decode cX1_count 44 = .ok (.ireturn, 1) := by decide +kernel
theorem dX1_count_45 : decode cX1_count 45 = .ok (.aload_n 0, 1) := by decide +kernel
theorem dX1_count_46 : decode cX1_count 46 = .ok (.getfield 18, 3) := by decide +kernel
theorem dX1_count_49 : decode cX1_count 49 = .ok (.getfield 84, 3) := by decide +kernel
theorem dX1_count_52 : decode cX1_count 52 = .ok (.ireturn, 1) := by decide +kernel
theorem dX1_count_53 : decode cX1_count 53 = .ok (.aload_n 0, 1) := by decide +kernel
theorem dX1_count_54 : decode cX1_count 54 = .ok (.getfield 109, 3) := by decide +kernel
theorem dX1_count_57 : decode cX1_count 57 = .ok (.ireturn, 1) := by decide +kernel
theorem dX1_count_58 : decode cX1_count 58 = .ok (.aload_n 0, 1) := by decide +kernel
theorem dX1_count_59 : decode cX1_count 59 = .ok (.getfield 112, 3) := by decide +kernel
theorem dX1_count_62 : decode cX1_count 62 = .ok (.ireturn, 1) := by decide +kernel
theorem dX1_count_63 : decode cX1_count 63 = .ok (.aload_n 0, 1) := by decide +kernel
theorem dX1_count_64 : decode cX1_count 64 = .ok (.getfield 18, 3) := by decide +kernel
theorem dX1_count_67 : decode cX1_count 67 = .ok (.getfield 115, 3) := by decide +kernel
theorem dX1_count_70 : decode cX1_count 70 = .ok (.ireturn, 1) := by decide +kernel
theorem dX1_count_71 : decode cX1_count 71 = .ok (.new 91, 3) := by decide +kernel
theorem dX1_count_74 : decode cX1_count 74 = .ok (.dup, 1) := by decide +kernel
theorem dX1_count_75 : decode cX1_count 75 = .ok (.ldc 118, 2) := by decide +kernel
theorem dX1_count_77 : decode cX1_count 77 = .ok (.invokespecial 95, 3) := by decide +kernel
theorem dX1_count_80 : decode cX1_count 80 = .ok (.athrow, 1) := by decide +kernel
