theorem dX0_init_0 : decode cX0_init 0 = .ok (.aload_n 0, 1) := by decide +kernel
theorem dX0_init_1 : decode cX0_init 1 = .ok (.invokespecial 3, 3) := by decide +kernel
theorem dX0_init_4 : decode cX0_init 4 = .ok (.aload_n 0, 1) := by decide +kernel
theorem dX0_init_5 : decode cX0_init 5 = .ok (.bipush 8, 2) := by decide +kernel
theorem dX0_init_7 : decode cX0_init 7 = .ok (.anewarray 9, 3) := by decide +kernel
theorem dX0_init_10 : decode cX0_init 10 = .ok (.putfield 11, 3) := by decide +kernel
theorem dX0_init_13 : decode cX0_init 13 = .ok (.aload_n 0, 1) := by decide +kernel
theorem dX0_init_14 : decode cX0_init 14 = .ok (.bipush 8, 2) := by decide +kernel
theorem dX0_init_16 : decode cX0_init 16 = .ok (.newarray .int, 2) := by decide +kernel
theorem dX0_init_18 : decode cX0_init 18 = .ok (.putfield 17, 3) := by decide +kernel
theorem dX0_init_21 : decode cX0_init 21 = .ok (.aload_n 0, 1) := by decide +kernel
theorem dX0_init_22 : decode cX0_init 22 = .ok (.bipush 8, 2) := by decide +kernel
theorem dX0_init_24 : decode cX0_init 24 = .ok (.newarray .int, 2) := by decide +kernel
theorem dX0_init_26 : decode cX0_init 26 = .ok (.putfield 21, 3) := by decide +kernel
theorem dX0_init_29 : decode cX0_init 29 = .ok (.aload_n 0, 1) := by decide +kernel
theorem dX0_init_30 : decode cX0_init 30 = .ok (.bipush 8, 2) := by decide +kernel
theorem dX0_init_32 : decode cX0_init 32 = .ok (.bipush 16, 2) := by decide +kernel
theorem dX0_init_34 : decode cX0_init 34 = .ok (.multianewarray 24 2, 4) := by decide +kernel
theorem dX0_init_38 : decode cX0_init 38 = .ok (.putfield 26, 3) := by decide +kernel
theorem dX0_init_41 : decode cX0_init 41 = .ok (.aload_n 0, 1) := by decide +kernel
theorem dX0_init_42 : decode cX0_init 42 = .ok (.iconst 0, 1) := by decide +kernel
theorem dX0_init_43 : decode cX0_init 43 = .ok (.putfield 29, 3) := by decide +kernel
theorem dX0_init_46 : decode cX0_init 46 = .ok (.iconst 0, 1) := by decide +kernel
theorem dX0_init_47 : decode cX0_init 47 = .ok (.istore_n 1, 1) := by decide +kernel
theorem dX0_init_48 : decode cX0_init 48 = .ok (.iload_n 1, 1) := by decide +kernel
theorem dX0_init_49 : decode cX0_init 49 = .ok (.bipush 8, 2) := by decide +kernel
theorem dX0_init_51 : decode cX0_init 51 = .ok (.if_icmp .ge 22, 3) := by decide +kernel
theorem dX0_init_54 : decode cX0_init 54 = .ok (.aload_n 0, 1) := by decide +kernel
theorem dX0_init_55 : decode cX0_init 55 = .ok (.getfield 11, 3) := by decide +kernel
theorem dX0_init_58 : decode cX0_init 58 = .ok (.iload_n 1, 1) := by decide +kernel
theorem dX0_init_59 : decode cX0_init 59 = .ok (.new 9, 3) := by decide +kernel
theorem dX0_init_62 : decode cX0_init 62 = .ok (.dup, 1) := by decide +kernel
theorem dX0_init_63 : decode cX0_init 63 = .ok (.invokespecial 33, 3) := by decide +kernel
theorem dX0_init_66 : decode cX0_init 66 = .ok (.aastore, 1) := by decide +kernel
theorem dX0_init_67 : decode cX0_init 67 = .ok (.iinc 1 1, 3) := by decide +kernel
theorem dX0_init_70 : decode cX0_init 70 = .ok (.goto (-22), 3) := by decide +kernel
theorem dX0_init_73 : decode cX0_init 73 = .ok (.aload_n 0, 1) := by decide +kernel
theorem dX0_init_74 : decode cX0_init 74 = .ok (.getfield 21, 3) := by decide +kernel
theorem dX0_init_77 : decode cX0_init 77 = .ok (.iconst (-1), 1) := by decide +kernel
theorem dX0_init_78 : decode cX0_init 78 = .ok (.invokestatic 34, 3) := by decide +kernel
theorem dX0_init_81 : decode cX0_init 81 = .ok (.return_, 1) := by decide +kernel
theorem dX0_clear_0 : decode cX0_clear 0 = .ok (.aload_n 0, 1) := by decide +kernel
theorem dX0_clear_1 : decode cX0_clear 1 = .ok (.iconst 0, 1) := by decide +kernel
theorem dX0_clear_2 : decode cX0_clear 2 = .ok (.putfield 29, 3) := by decide +kernel
theorem dX0_clear_5 : decode cX0_clear 5 = .ok (.aload_n 0, 1) := by decide +kernel
theorem dX0_clear_6 : decode cX0_clear 6 = .ok (.getfield 21, 3) := by decide +kernel
theorem dX0_clear_9 : decode cX0_clear 9 = .ok (.iconst (-1), 1) := by decide +kernel
theorem dX0_clear_10 : decode cX0_clear 10 = .ok (.invokestatic 34, 3) := by decide +kernel
theorem dX0_clear_13 : decode cX0_clear 13 = .ok (.return_, 1) := by decide +kernel
theorem dX0_has_0 : decode cX0_has 0 = .ok (.iload_n 1, 1) := by decide +kernel
theorem dX0_has_1 : decode cX0_has 1 = .ok (.ifCond .lt 21, 3) := by decide +kernel
theorem dX0_has_4 : decode cX0_has 4 = .ok (.iload_n 1, 1) := by decide +kernel
theorem dX0_has_5 : decode cX0_has 5 = .ok (.aload_n 0, 1) := by decide +kernel
theorem dX0_has_6 : decode cX0_has 6 = .ok (.getfield 29, 3) := by decide +kernel
theorem dX0_has_9 : decode cX0_has 9 = .ok (.if_icmp .ge 13, 3) := by decide +kernel
theorem dX0_has_12 : decode cX0_has 12 = .ok (.iload_n 1, 1) := by decide +kernel
theorem dX0_has_13 : decode cX0_has 13 = .ok (.bipush 8, 2) := by decide +kernel
theorem dX0_has_15 : decode cX0_has 15 = .ok (.if_icmp .ge 7, 3) := by decide +kernel
theorem dX0_has_18 : decode cX0_has 18 = .ok (.iconst 1, 1) := by decide +kernel
theorem dX0_has_19 : decode cX0_has 19 = .ok (.goto 4, 3) := by decide +kernel
theorem dX0_has_22 : decode cX0_has 22 = .ok (.iconst 0, 1) := by decide +kernel
theorem dX0_has_23 : decode cX0_has 23 = .ok (.ireturn, 1) := by decide +kernel
theorem dX0_keep_0 : decode cX0_keep 0 = .ok (.aload_n 0, 1) := by decide +kernel
theorem dX0_keep_1 : decode cX0_keep 1 = .ok (.invokevirtual 40, 3) := by decide +kernel
theorem dX0_keep_4 : decode cX0_keep 4 = .ok (.aload_n 2, 1) := by decide +kernel
theorem dX0_keep_5 : decode cX0_keep 5 = .ok (.invokevirtual 43, 3) := by decide +kernel
theorem dX0_keep_8 : decode cX0_keep 8 = .ok (.istore 4, 2) := by decide +kernel
theorem dX0_keep_10 : decode cX0_keep 10 = .ok (.iconst 0, 1) := by decide +kernel
theorem dX0_keep_11 : decode cX0_keep 11 = .ok (.istore 5, 2) := by decide +kernel
theorem dX0_keep_13 : decode cX0_keep 13 = .ok (.iload 5, 2) := by decide +kernel
theorem dX0_keep_15 : decode cX0_keep 15 = .ok (.bipush 8, 2) := by decide +kernel
theorem dX0_keep_17 : decode cX0_keep 17 = .ok (.if_icmp .ge 49, 3) := by decide +kernel
theorem dX0_keep_20 : decode cX0_keep 20 = .ok (.iload 4, 2) := by decide +kernel
theorem dX0_keep_22 : decode cX0_keep 22 = .ok (.ifCond .eq 44, 3) := by decide +kernel
theorem dX0_keep_25 : decode cX0_keep 25 = .ok (.iload 4, 2) := by decide +kernel
theorem dX0_keep_27 : decode cX0_keep 27 = .ok (.invokestatic 49, 3) := by decide +kernel
theorem dX0_keep_30 : decode cX0_keep 30 = .ok (.istore 6, 2) := by decide +kernel
theorem dX0_keep_32 : decode cX0_keep 32 = .ok (.aload_n 2, 1) := by decide +kernel
theorem dX0_keep_33 : decode cX0_keep 33 = .ok (.iload 4, 2) := by decide +kernel
theorem dX0_keep_35 : decode cX0_keep 35 = .ok (.invokevirtual 53, 3) := by decide +kernel
theorem dX0_keep_38 : decode cX0_keep 38 = .ok (.istore 7, 2) := by decide +kernel
theorem dX0_keep_40 : decode cX0_keep 40 = .ok (.aload_n 0, 1) := by decide +kernel
theorem dX0_keep_41 : decode cX0_keep 41 = .ok (.aload_n 1, 1) := by decide +kernel
theorem dX0_keep_42 : decode cX0_keep 42 = .ok (.iload 6, 2) := by decide +kernel
theorem dX0_keep_44 : decode cX0_keep 44 = .ok (.iload 7, 2) := by decide +kernel
theorem dX0_keep_46 : decode cX0_keep 46 = .ok (.invokevirtual 56, 3) := by decide +kernel
theorem dX0_keep_49 : decode cX0_keep 49 = .ok (.iload 4, 2) := by decide +kernel
theorem dX0_keep_51 : decode cX0_keep 51 = .ok (.iload 6, 2) := by decide +kernel
theorem dX0_keep_53 : decode cX0_keep 53 = .ok (.iload 7, 2) := by decide +kernel
theorem dX0_keep_55 : decode cX0_keep 55 = .ok (.invokestatic 60, 3) := by decide +kernel
theorem dX0_keep_58 : decode cX0_keep 58 = .ok (.istore 4, 2) := by decide +kernel
theorem dX0_keep_60 : decode cX0_keep 60 = .ok (.iinc 5 1, 3) := by decide +kernel
theorem dX0_keep_63 : decode cX0_keep 63 = .ok (.goto (-50), 3) := by decide +kernel
theorem dX0_keep_66 : decode cX0_keep 66 = .ok (.aload_n 0, 1) := by decide +kernel
theorem dX0_keep_67 : decode cX0_keep 67 = .ok (.aload_n 3, 1) := by decide +kernel
theorem dX0_keep_68 : decode cX0_keep 68 = .ok (.invokevirtual 64, 3) := by decide +kernel
theorem dX0_keep_71 : decode cX0_keep 71 = .ok (.aload_n 0, 1) := by decide +kernel
theorem dX0_keep_72 : decode cX0_keep 72 = .ok (.invokevirtual 68, 3) := by decide +kernel
theorem dX0_keep_75 : decode cX0_keep 75 = .ok (.return_, 1) := by decide +kernel
theorem dX0_addLeaf_0 : decode cX0_addLeaf 0 = .ok (.aload_n 0, 1) := by decide +kernel
theorem dX0_addLeaf_1 : decode cX0_addLeaf 1 = .ok (.getfield 29, 3) := by decide +kernel
theorem dX0_addLeaf_4 : decode cX0_addLeaf 4 = .ok (.bipush 8, 2) := by decide +kernel
theorem dX0_addLeaf_6 : decode cX0_addLeaf 6 = .ok (.if_icmp .ge 55, 3) := by decide +kernel
theorem dX0_addLeaf_9 : decode cX0_addLeaf 9 = .ok (.aload_n 1, 1) := by decide +kernel
theorem dX0_addLeaf_10 : decode cX0_addLeaf 10 = .ok (.iload_n 2, 1) := by decide +kernel
theorem dX0_addLeaf_11 : decode cX0_addLeaf 11 = .ok (.iload_n 3, 1) := by decide +kernel
theorem dX0_addLeaf_12 : decode cX0_addLeaf 12 = .ok (.invokevirtual 71, 3) := by decide +kernel
theorem dX0_addLeaf_15 : decode cX0_addLeaf 15 = .ok (.ifCond .eq 46, 3) := by decide +kernel
theorem dX0_addLeaf_18 : decode cX0_addLeaf 18 = .ok (.aload_n 1, 1) := by decide +kernel
theorem dX0_addLeaf_19 : decode cX0_addLeaf 19 = .ok (.aload_n 0, 1) := by decide +kernel
theorem dX0_addLeaf_20 : decode cX0_addLeaf 20 = .ok (.getfield 11, 3) := by decide +kernel
theorem dX0_addLeaf_23 : decode cX0_addLeaf 23 = .ok (.aload_n 0, 1) := by decide +kernel
theorem dX0_addLeaf_24 : decode cX0_addLeaf 24 = .ok (.getfield 29, 3) := by decide +kernel
theorem dX0_addLeaf_27 : decode cX0_addLeaf 27 = .ok (.aaload, 1) := by decide +kernel
theorem dX0_addLeaf_28 : decode cX0_addLeaf 28 = .ok (.invokevirtual 77, 3) := by decide +kernel
theorem dX0_addLeaf_31 : decode cX0_addLeaf 31 = .ok (.aload_n 0, 1) := by decide +kernel
theorem dX0_addLeaf_32 : decode cX0_addLeaf 32 = .ok (.getfield 21, 3) := by decide +kernel
theorem dX0_addLeaf_35 : decode cX0_addLeaf 35 = .ok (.iload_n 2, 1) := by decide +kernel
theorem dX0_addLeaf_36 : decode cX0_addLeaf 36 = .ok (.aload_n 0, 1) := by decide +kernel
theorem dX0_addLeaf_37 : decode cX0_addLeaf 37 = .ok (.getfield 29, 3) := by decide +kernel
theorem dX0_addLeaf_40 : decode cX0_addLeaf 40 = .ok (.iastore, 1) := by decide +kernel
theorem dX0_addLeaf_41 : decode cX0_addLeaf 41 = .ok (.aload_n 0, 1) := by decide +kernel
theorem dX0_addLeaf_42 : decode cX0_addLeaf 42 = .ok (.getfield 21, 3) := by decide +kernel
theorem dX0_addLeaf_45 : decode cX0_addLeaf 45 = .ok (.iload_n 3, 1) := by decide +kernel
theorem dX0_addLeaf_46 : decode cX0_addLeaf 46 = .ok (.aload_n 0, 1) := by decide +kernel
theorem dX0_addLeaf_47 : decode cX0_addLeaf 47 = .ok (.getfield 29, 3) := by decide +kernel
theorem dX0_addLeaf_50 : decode cX0_addLeaf 50 = .ok (.iastore, 1) := by decide +kernel
theorem dX0_addLeaf_51 : decode cX0_addLeaf 51 = .ok (.aload_n 0, 1) := by decide +kernel
theorem dX0_addLeaf_52 : decode cX0_addLeaf 52 = .ok (.dup, 1) := by decide +kernel
theorem dX0_addLeaf_53 : decode cX0_addLeaf 53 = .ok (.getfield 29, 3) := by decide +kernel
theorem dX0_addLeaf_56 : decode cX0_addLeaf 56 = .ok (.iconst 1, 1) := by decide +kernel
theorem dX0_addLeaf_57 : decode cX0_addLeaf 57 = .ok (.iadd, 1) := by decide +kernel
theorem dX0_addLeaf_58 : decode cX0_addLeaf 58 = .ok (.putfield 29, 3) := by decide +kernel
theorem dX0_addLeaf_61 : decode cX0_addLeaf 61 = .ok (.return_, 1) := by decide +kernel
theorem dX0_keepLists_0 : decode cX0_keepLists 0 = .ok (.iconst 0, 1) := by decide +kernel
theorem dX0_keepLists_1 : decode cX0_keepLists 1 = .ok (.istore_n 2, 1) := by decide +kernel
theorem dX0_keepLists_2 : decode cX0_keepLists 2 = .ok (.iload_n 2, 1) := by decide +kernel
theorem dX0_keepLists_3 : decode cX0_keepLists 3 = .ok (.aload_n 1, 1) := by decide +kernel
theorem dX0_keepLists_4 : decode cX0_keepLists 4 = .ok (.getfield 81, 3) := by decide +kernel
theorem dX0_keepLists_7 : decode cX0_keepLists 7 = .ok (.if_icmp .ge 31, 3) := by decide +kernel
theorem dX0_keepLists_10 : decode cX0_keepLists 10 = .ok (.aload_n 1, 1) := by decide +kernel
theorem dX0_keepLists_11 : decode cX0_keepLists 11 = .ok (.getfield 84, 3) := by decide +kernel
theorem dX0_keepLists_14 : decode cX0_keepLists 14 = .ok (.iload_n 2, 1) := by decide +kernel
theorem dX0_keepLists_15 : decode cX0_keepLists 15 = .ok (.aaload, 1) := by decide +kernel
theorem dX0_keepLists_16 : decode cX0_keepLists 16 = .ok (.getfield 88, 3) := by decide +kernel
theorem dX0_keepLists_19 : decode cX0_keepLists 19 = .ok (.iconst 0, 1) := by decide +kernel
theorem dX0_keepLists_20 : decode cX0_keepLists 20 = .ok (.aload_n 0, 1) := by decide +kernel
theorem dX0_keepLists_21 : decode cX0_keepLists 21 = .ok (.getfield 26, 3) := by decide +kernel
theorem dX0_keepLists_24 : decode cX0_keepLists 24 = .ok (.iload_n 2, 1) := by decide +kernel
theorem dX0_keepLists_25 : decode cX0_keepLists 25 = .ok (.aaload, 1) := by decide +kernel
theorem dX0_keepLists_26 : decode cX0_keepLists 26 = .ok (.iconst 0, 1) := by decide +kernel
theorem dX0_keepLists_27 : decode cX0_keepLists 27 = .ok (.bipush 16, 2) := by decide +kernel
theorem dX0_keepLists_29 : decode cX0_keepLists 29 = .ok (.invokestatic 92, 3) := by decide +kernel
theorem dX0_keepLists_32 : decode cX0_keepLists 32 = .ok (.iinc 2 1, 3) := by decide +kernel
theorem dX0_keepLists_35 : decode cX0_keepLists 35 = .ok (.goto (-33), 3) := by decide +kernel
theorem dX0_keepLists_38 : decode cX0_keepLists 38 = .ok (.return_, 1) := by decide +kernel
theorem dX0_putInOrder_0 : decode cX0_putInOrder 0 = .ok (.iconst 0, 1) := by decide +kernel
theorem dX0_putInOrder_1 : decode cX0_putInOrder 1 = .ok (.istore_n 1, 1) := by decide +kernel
theorem dX0_putInOrder_2 : decode cX0_putInOrder 2 = .ok (.iload_n 1, 1) := by decide +kernel
theorem dX0_putInOrder_3 : decode cX0_putInOrder 3 = .ok (.aload_n 0, 1) := by decide +kernel
theorem dX0_putInOrder_4 : decode cX0_putInOrder 4 = .ok (.getfield 29, 3) := by decide +kernel
theorem dX0_putInOrder_7 : decode cX0_putInOrder 7 = .ok (.if_icmp .ge 70, 3) := by decide +kernel
theorem dX0_putInOrder_10 : decode cX0_putInOrder 10 = .ok (.iload_n 1, 1) := by decide +kernel
theorem dX0_putInOrder_11 : decode cX0_putInOrder 11 = .ok (.istore_n 2, 1) := by decide +kernel
theorem dX0_putInOrder_12 : decode cX0_putInOrder 12 = .ok (.iload_n 2, 1) := by decide +kernel
theorem dX0_putInOrder_13 : decode cX0_putInOrder 13 = .ok (.ifCond .le 51, 3) := by decide +kernel
theorem dX0_putInOrder_16 : decode cX0_putInOrder 16 = .ok (.aload_n 0, 1) := by decide +kernel
theorem dX0_putInOrder_17 : decode cX0_putInOrder 17 = .ok (.getfield 11, 3) := by decide +kernel
theorem dX0_putInOrder_20 : decode cX0_putInOrder 20 = .ok (.aload_n 0, 1) := by decide +kernel
theorem dX0_putInOrder_21 : decode cX0_putInOrder 21 = .ok (.getfield 17, 3) := by decide +kernel
theorem dX0_putInOrder_24 : decode cX0_putInOrder 24 = .ok (.iload_n 2, 1) := by decide +kernel
theorem dX0_putInOrder_25 : decode cX0_putInOrder 25 = .ok (.iconst 1, 1) := by decide +kernel
theorem dX0_putInOrder_26 : decode cX0_putInOrder 26 = .ok (.isub, 1) := by decide +kernel
theorem dX0_putInOrder_27 : decode cX0_putInOrder 27 = .ok (.iaload, 1) := by decide +kernel
theorem dX0_putInOrder_28 : decode cX0_putInOrder 28 = .ok (.aaload, 1) := by decide +kernel
theorem dX0_putInOrder_29 : decode cX0_putInOrder 29 = .ok (.getfield 98, 3) := by decide +kernel
theorem dX0_putInOrder_32 : decode cX0_putInOrder 32 = .ok (.aload_n 0, 1) := by decide +kernel
theorem dX0_putInOrder_33 : decode cX0_putInOrder 33 = .ok (.getfield 11, 3) := by decide +kernel
theorem dX0_putInOrder_36 : decode cX0_putInOrder 36 = .ok (.iload_n 1, 1) := by decide +kernel
theorem dX0_putInOrder_37 : decode cX0_putInOrder 37 = .ok (.aaload, 1) := by decide +kernel
theorem dX0_putInOrder_38 : decode cX0_putInOrder 38 = .ok (.getfield 98, 3) := by decide +kernel
theorem dX0_putInOrder_41 : decode cX0_putInOrder 41 = .ok (.if_icmp .le 23, 3) := by decide +kernel
theorem dX0_putInOrder_44 : decode cX0_putInOrder 44 = .ok (.aload_n 0, 1) := by decide +kernel
theorem dX0_putInOrder_45 : decode cX0_putInOrder 45 = .ok (.getfield 17, 3) := by decide +kernel
theorem dX0_putInOrder_48 : decode cX0_putInOrder 48 = .ok (.iload_n 2, 1) := by decide +kernel
theorem dX0_putInOrder_49 : decode cX0_putInOrder 49 = .ok (.aload_n 0, 1) := by decide +kernel
theorem dX0_putInOrder_50 : decode cX0_putInOrder 50 = .ok (.getfield 17, 3) := by decide +kernel
theorem dX0_putInOrder_53 : decode cX0_putInOrder 53 = .ok (.iload_n 2, 1) := by decide +kernel
theorem dX0_putInOrder_54 : decode cX0_putInOrder 54 = .ok (.iconst 1, 1) := by decide +kernel
theorem dX0_putInOrder_55 : decode cX0_putInOrder 55 = .ok (.isub, 1) := by decide +kernel
theorem dX0_putInOrder_56 : decode cX0_putInOrder 56 = .ok (.iaload, 1) := by decide +kernel
theorem dX0_putInOrder_57 : decode cX0_putInOrder 57 = .ok (.iastore, 1) := by decide +kernel
theorem dX0_putInOrder_58 : decode cX0_putInOrder 58 = .ok (.iinc 2 (-1), 3) := by decide +kernel
theorem dX0_putInOrder_61 : decode cX0_putInOrder 61 = .ok (.goto (-49), 3) := by decide +kernel
theorem dX0_putInOrder_64 : decode cX0_putInOrder 64 = .ok (.aload_n 0, 1) := by decide +kernel
theorem dX0_putInOrder_65 : decode cX0_putInOrder 65 = .ok (.getfield 17, 3) := by decide +kernel
theorem dX0_putInOrder_68 : decode cX0_putInOrder 68 = .ok (.iload_n 2, 1) := by decide +kernel
theorem dX0_putInOrder_69 : decode cX0_putInOrder 69 = .ok (.iload_n 1, 1) := by decide +kernel
theorem dX0_putInOrder_70 : decode cX0_putInOrder 70 = .ok (.iastore, 1) := by decide +kernel
theorem dX0_putInOrder_71 : decode cX0_putInOrder 71 = .ok (.iinc 1 1, 3) := by decide +kernel
theorem dX0_putInOrder_74 : decode cX0_putInOrder 74 = .ok (.goto (-72), 3) := by decide +kernel
theorem dX0_putInOrder_77 : decode cX0_putInOrder 77 = .ok (.return_, 1) := by decide +kernel
theorem dX0_hasNext_0 : decode cX0_hasNext 0 = .ok (.iload_n 1, 1) := by decide +kernel
theorem dX0_hasNext_1 : decode cX0_hasNext 1 = .ok (.ifCond .lt 17, 3) := by decide +kernel
theorem dX0_hasNext_4 : decode cX0_hasNext 4 = .ok (.iload_n 1, 1) := by decide +kernel
theorem dX0_hasNext_5 : decode cX0_hasNext 5 = .ok (.iconst 1, 1) := by decide +kernel
theorem dX0_hasNext_6 : decode cX0_hasNext 6 = .ok (.iadd, 1) := by decide +kernel
theorem dX0_hasNext_7 : decode cX0_hasNext 7 = .ok (.aload_n 0, 1) := by decide +kernel
theorem dX0_hasNext_8 : decode cX0_hasNext 8 = .ok (.getfield 29, 3) := by decide +kernel
theorem dX0_hasNext_11 : decode cX0_hasNext 11 = .ok (.if_icmp .ge 7, 3) := by decide +kernel
theorem dX0_hasNext_14 : decode cX0_hasNext 14 = .ok (.iconst 1, 1) := by decide +kernel
theorem dX0_hasNext_15 : decode cX0_hasNext 15 = .ok (.goto 4, 3) := by decide +kernel
theorem dX0_hasNext_18 : decode cX0_hasNext 18 = .ok (.iconst 0, 1) := by decide +kernel
theorem dX0_hasNext_19 : decode cX0_hasNext 19 = .ok (.ireturn, 1) := by decide +kernel
theorem dX0_gapBehind_0 : decode cX0_gapBehind 0 = .ok (.aload_n 0, 1) := by decide +kernel
theorem dX0_gapBehind_1 : decode cX0_gapBehind 1 = .ok (.getfield 11, 3) := by decide +kernel
theorem dX0_gapBehind_4 : decode cX0_gapBehind 4 = .ok (.aload_n 0, 1) := by decide +kernel
theorem dX0_gapBehind_5 : decode cX0_gapBehind 5 = .ok (.getfield 17, 3) := by decide +kernel
theorem dX0_gapBehind_8 : decode cX0_gapBehind 8 = .ok (.iload_n 1, 1) := by decide +kernel
theorem dX0_gapBehind_9 : decode cX0_gapBehind 9 = .ok (.iconst 1, 1) := by decide +kernel
theorem dX0_gapBehind_10 : decode cX0_gapBehind 10 = .ok (.iadd, 1) := by decide +kernel
theorem dX0_gapBehind_11 : decode cX0_gapBehind 11 = .ok (.iaload, 1) := by decide +kernel
theorem dX0_gapBehind_12 : decode cX0_gapBehind 12 = .ok (.aaload, 1) := by decide +kernel
theorem dX0_gapBehind_13 : decode cX0_gapBehind 13 = .ok (.getfield 98, 3) := by decide +kernel
theorem dX0_gapBehind_16 : decode cX0_gapBehind 16 = .ok (.aload_n 0, 1) := by decide +kernel
theorem dX0_gapBehind_17 : decode cX0_gapBehind 17 = .ok (.getfield 11, 3) := by decide +kernel
theorem dX0_gapBehind_20 : decode cX0_gapBehind 20 = .ok (.aload_n 0, 1) := by decide +kernel
theorem dX0_gapBehind_21 : decode cX0_gapBehind 21 = .ok (.getfield 17, 3) := by decide +kernel
theorem dX0_gapBehind_24 : decode cX0_gapBehind 24 = .ok (.iload_n 1, 1) := by decide +kernel
theorem dX0_gapBehind_25 : decode cX0_gapBehind 25 = .ok (.iaload, 1) := by decide +kernel
theorem dX0_gapBehind_26 : decode cX0_gapBehind 26 = .ok (.aaload, 1) := by decide +kernel
theorem dX0_gapBehind_27 : decode cX0_gapBehind 27 = .ok (.getfield 98, 3) := by decide +kernel
theorem dX0_gapBehind_30 : decode cX0_gapBehind 30 = .ok (.bipush 32, 2) := by decide +kernel
theorem dX0_gapBehind_32 : decode cX0_gapBehind 32 = .ok (.iadd, 1) := by decide +kernel
theorem dX0_gapBehind_33 : decode cX0_gapBehind 33 = .ok (.isub, 1) := by decide +kernel
theorem dX0_gapBehind_34 : decode cX0_gapBehind 34 = .ok (.ireturn, 1) := by decide +kernel
theorem dX0_clashesBehind_0 : decode cX0_clashesBehind 0 = .ok (.aload_n 0, 1) := by decide +kernel
theorem dX0_clashesBehind_1 : decode cX0_clashesBehind 1 = .ok (.iload_n 1, 1) := by decide +kernel
theorem dX0_clashesBehind_2 : decode cX0_clashesBehind 2 = .ok (.invokevirtual 101, 3) := by decide +kernel
theorem dX0_clashesBehind_5 : decode cX0_clashesBehind 5 = .ok (.ifCond .eq 26, 3) := by decide +kernel
theorem dX0_clashesBehind_8 : decode cX0_clashesBehind 8 = .ok (.aload_n 0, 1) := by decide +kernel
theorem dX0_clashesBehind_9 : decode cX0_clashesBehind 9 = .ok (.iload_n 1, 1) := by decide +kernel
theorem dX0_clashesBehind_10 : decode cX0_clashesBehind 10 = .ok (.invokevirtual 105, 3) := by decide +kernel
theorem dX0_clashesBehind_13 : decode cX0_clashesBehind 13 = .ok (.ifCond .lt 14, 3) := by decide +kernel
theorem dX0_clashesBehind_16 : decode cX0_clashesBehind 16 = .ok (.aload_n 0, 1) := by decide +kernel
theorem dX0_clashesBehind_17 : decode cX0_clashesBehind 17 = .ok (.iload_n 1, 1) := by decide +kernel
theorem dX0_clashesBehind_18 : decode cX0_clashesBehind 18 = .ok (.invokevirtual 105, 3) := by decide +kernel
theorem dX0_clashesBehind_21 : decode cX0_clashesBehind 21 = .ok (.bipush 32, 2) := by decide +kernel
theorem dX0_clashesBehind_23 : decode cX0_clashesBehind 23 = .ok (.irem, 1) := by decide +kernel
theorem dX0_clashesBehind_24 : decode cX0_clashesBehind 24 = .ok (.ifCond .eq 7, 3) := by decide +kernel
theorem dX0_clashesBehind_27 : decode cX0_clashesBehind 27 = .ok (.iconst 1, 1) := by decide +kernel
theorem dX0_clashesBehind_28 : decode cX0_clashesBehind 28 = .ok (.goto 4, 3) := by decide +kernel
theorem dX0_clashesBehind_31 : decode cX0_clashesBehind 31 = .ok (.iconst 0, 1) := by decide +kernel
theorem dX0_clashesBehind_32 : decode cX0_clashesBehind 32 = .ok (.ireturn, 1) := by decide +kernel
theorem dX0_lostBehind_0 : decode cX0_lostBehind 0 = .ok (.aload_n 0, 1) := by decide +kernel
theorem dX0_lostBehind_1 : decode cX0_lostBehind 1 = .ok (.iload_n 1, 1) := by decide +kernel
theorem dX0_lostBehind_2 : decode cX0_lostBehind 2 = .ok (.invokevirtual 101, 3) := by decide +kernel
theorem dX0_lostBehind_5 : decode cX0_lostBehind 5 = .ok (.ifCond .eq 11, 3) := by decide +kernel
theorem dX0_lostBehind_8 : decode cX0_lostBehind 8 = .ok (.aload_n 0, 1) := by decide +kernel
theorem dX0_lostBehind_9 : decode cX0_lostBehind 9 = .ok (.iload_n 1, 1) := by decide +kernel
theorem dX0_lostBehind_10 : decode cX0_lostBehind 10 = .ok (.invokevirtual 108, 3) := by decide +kernel
theorem dX0_lostBehind_13 : decode cX0_lostBehind 13 = .ok (.ifCond .eq 7, 3) := by decide +kernel
theorem dX0_lostBehind_16 : decode cX0_lostBehind 16 = .ok (.iconst (-1), 1) := by decide +kernel
theorem dX0_lostBehind_17 : decode cX0_lostBehind 17 = .ok (.goto 11, 3) := by decide +kernel
theorem dX0_lostBehind_20 : decode cX0_lostBehind 20 = .ok (.aload_n 0, 1) := by decide +kernel
theorem dX0_lostBehind_21 : decode cX0_lostBehind 21 = .ok (.iload_n 1, 1) := by decide +kernel
theorem dX0_lostBehind_22 : decode cX0_lostBehind 22 = .ok (.invokevirtual 105, 3) := by decide +kernel
theorem dX0_lostBehind_25 : decode cX0_lostBehind 25 = .ok (.bipush 32, 2) := by decide +kernel
theorem dX0_lostBehind_27 : decode cX0_lostBehind 27 = .ok (.idiv, 1) := by decide +kernel
theorem dX0_lostBehind_28 : decode cX0_lostBehind 28 = .ok (.ireturn, 1) := by decide +kernel
theorem dX0_breaksBehind_0 : decode cX0_breaksBehind 0 = .ok (.aload_n 0, 1) := by decide +kernel
theorem dX0_breaksBehind_1 : decode cX0_breaksBehind 1 = .ok (.iload_n 1, 1) := by decide +kernel
theorem dX0_breaksBehind_2 : decode cX0_breaksBehind 2 = .ok (.invokevirtual 111, 3) := by decide +kernel
theorem dX0_breaksBehind_5 : decode cX0_breaksBehind 5 = .ok (.ifCond .ne 40, 3) := by decide +kernel
theorem dX0_breaksBehind_8 : decode cX0_breaksBehind 8 = .ok (.aload_n 0, 1) := by decide +kernel
theorem dX0_breaksBehind_9 : decode cX0_breaksBehind 9 = .ok (.getfield 11, 3) := by decide +kernel
theorem dX0_breaksBehind_12 : decode cX0_breaksBehind 12 = .ok (.aload_n 0, 1) := by decide +kernel
theorem dX0_breaksBehind_13 : decode cX0_breaksBehind 13 = .ok (.getfield 17, 3) := by decide +kernel
theorem dX0_breaksBehind_16 : decode cX0_breaksBehind 16 = .ok (.iload_n 1, 1) := by decide +kernel
theorem dX0_breaksBehind_17 : decode cX0_breaksBehind 17 = .ok (.iaload, 1) := by decide +kernel
theorem dX0_breaksBehind_18 : decode cX0_breaksBehind 18 = .ok (.aaload, 1) := by decide +kernel
theorem dX0_breaksBehind_19 : decode cX0_breaksBehind 19 = .ok (.getfield 114, 3) := by decide +kernel
theorem dX0_breaksBehind_22 : decode cX0_breaksBehind 22 = .ok (.aload_n 0, 1) := by decide +kernel
theorem dX0_breaksBehind_23 : decode cX0_breaksBehind 23 = .ok (.getfield 11, 3) := by decide +kernel
theorem dX0_breaksBehind_26 : decode cX0_breaksBehind 26 = .ok (.aload_n 0, 1) := by decide +kernel
theorem dX0_breaksBehind_27 : decode cX0_breaksBehind 27 = .ok (.getfield 17, 3) := by decide +kernel
theorem dX0_breaksBehind_30 : decode cX0_breaksBehind 30 = .ok (.iload_n 1, 1) := by decide +kernel
theorem dX0_breaksBehind_31 : decode cX0_breaksBehind 31 = .ok (.iconst 1, 1) := by decide +kernel
theorem dX0_breaksBehind_32 : decode cX0_breaksBehind 32 = .ok (.iadd, 1) := by decide +kernel
theorem dX0_breaksBehind_33 : decode cX0_breaksBehind 33 = .ok (.iaload, 1) := by decide +kernel
theorem dX0_breaksBehind_34 : decode cX0_breaksBehind 34 = .ok (.aaload, 1) := by decide +kernel
theorem dX0_breaksBehind_35 : decode cX0_breaksBehind 35 = .ok (.getfield 114, 3) := by decide +kernel
theorem dX0_breaksBehind_38 : decode cX0_breaksBehind 38 = .ok (.if_icmp .ne 7, 3) := by decide +kernel
theorem dX0_breaksBehind_41 : decode cX0_breaksBehind 41 = .ok (.iconst 1, 1) := by decide +kernel
theorem dX0_breaksBehind_42 : decode cX0_breaksBehind 42 = .ok (.goto 4, 3) := by decide +kernel
theorem dX0_breaksBehind_45 : decode cX0_breaksBehind 45 = .ok (.iconst 0, 1) := by decide +kernel
theorem dX0_breaksBehind_46 : decode cX0_breaksBehind 46 = .ok (.ireturn, 1) := by decide +kernel
theorem dX0_allQuarrels_0 : decode cX0_allQuarrels 0 = .ok (.iconst 0, 1) := by decide +kernel
theorem dX0_allQuarrels_1 : decode cX0_allQuarrels 1 = .ok (.istore_n 1, 1) := by decide +kernel
theorem dX0_allQuarrels_2 : decode cX0_allQuarrels 2 = .ok (.iconst 0, 1) := by decide +kernel
theorem dX0_allQuarrels_3 : decode cX0_allQuarrels 3 = .ok (.istore_n 2, 1) := by decide +kernel
theorem dX0_allQuarrels_4 : decode cX0_allQuarrels 4 = .ok (.iload_n 2, 1) := by decide +kernel
theorem dX0_allQuarrels_5 : decode cX0_allQuarrels 5 = .ok (.aload_n 0, 1) := by decide +kernel
theorem dX0_allQuarrels_6 : decode cX0_allQuarrels 6 = .ok (.getfield 29, 3) := by decide +kernel
theorem dX0_allQuarrels_9 : decode cX0_allQuarrels 9 = .ok (.if_icmp .ge 21, 3) := by decide +kernel
theorem dX0_allQuarrels_12 : decode cX0_allQuarrels 12 = .ok (.iload_n 1, 1) := by decide +kernel
theorem dX0_allQuarrels_13 : decode cX0_allQuarrels 13 = .ok (.aload_n 0, 1) := by decide +kernel
theorem dX0_allQuarrels_14 : decode cX0_allQuarrels 14 = .ok (.getfield 11, 3) := by decide +kernel
theorem dX0_allQuarrels_17 : decode cX0_allQuarrels 17 = .ok (.iload_n 2, 1) := by decide +kernel
theorem dX0_allQuarrels_18 : decode cX0_allQuarrels 18 = .ok (.aaload, 1) := by decide +kernel
theorem dX0_allQuarrels_19 : decode cX0_allQuarrels 19 = .ok (.getfield 117, 3) := by decide +kernel
theorem dX0_allQuarrels_22 : decode cX0_allQuarrels 22 = .ok (.iadd, 1) := by decide +kernel
theorem dX0_allQuarrels_23 : decode cX0_allQuarrels 23 = .ok (.istore_n 1, 1) := by decide +kernel
theorem dX0_allQuarrels_24 : decode cX0_allQuarrels 24 = .ok (.iinc 2 1, 3) := by decide +kernel
theorem dX0_allQuarrels_27 : decode cX0_allQuarrels 27 = .ok (.goto (-23), 3) := by decide +kernel
theorem dX0_allQuarrels_30 : decode cX0_allQuarrels 30 = .ok (.iload_n 1, 1) := by decide +kernel
theorem dX0_allQuarrels_31 : decode cX0_allQuarrels 31 = .ok (.ireturn, 1) := by decide +kernel
theorem dX0_clashes_0 : decode cX0_clashes 0 = .ok (.iconst 0, 1) := by decide +kernel
theorem dX0_clashes_1 : decode cX0_clashes 1 = .ok (.istore_n 1, 1) := by decide +kernel
theorem dX0_clashes_2 : decode cX0_clashes 2 = .ok (.iconst 0, 1) := by decide +kernel
theorem dX0_clashes_3 : decode cX0_clashes 3 = .ok (.istore_n 2, 1) := by decide +kernel
theorem dX0_clashes_4 : decode cX0_clashes 4 = .ok (.iload_n 2, 1) := by decide +kernel
theorem dX0_clashes_5 : decode cX0_clashes 5 = .ok (.aload_n 0, 1) := by decide +kernel
theorem dX0_clashes_6 : decode cX0_clashes 6 = .ok (.getfield 29, 3) := by decide +kernel
theorem dX0_clashes_9 : decode cX0_clashes 9 = .ok (.if_icmp .ge 25, 3) := by decide +kernel
theorem dX0_clashes_12 : decode cX0_clashes 12 = .ok (.iload_n 1, 1) := by decide +kernel
theorem dX0_clashes_13 : decode cX0_clashes 13 = .ok (.aload_n 0, 1) := by decide +kernel
theorem dX0_clashes_14 : decode cX0_clashes 14 = .ok (.iload_n 2, 1) := by decide +kernel
theorem dX0_clashes_15 : decode cX0_clashes 15 = .ok (.invokevirtual 108, 3) := by decide +kernel
theorem dX0_clashes_18 : decode cX0_clashes 18 = .ok (.ifCond .eq 7, 3) := by decide +kernel
theorem dX0_clashes_21 : decode cX0_clashes 21 = .ok (.iconst 1, 1) := by decide +kernel
theorem dX0_clashes_22 : decode cX0_clashes 22 = .ok (.goto 4, 3) := by decide +kernel
theorem dX0_clashes_25 : decode cX0_clashes 25 = .ok (.iconst 0, 1) := by decide +kernel
theorem dX0_clashes_26 : decode cX0_clashes 26 = .ok (.iadd, 1) := by decide +kernel
theorem dX0_clashes_27 : decode cX0_clashes 27 = .ok (.istore_n 1, 1) := by decide +kernel
theorem dX0_clashes_28 : decode cX0_clashes 28 = .ok (.iinc 2 1, 3) := by decide +kernel
theorem dX0_clashes_31 : decode cX0_clashes 31 = .ok (.goto (-27), 3) := by decide +kernel
theorem dX0_clashes_34 : decode cX0_clashes 34 = .ok (.iload_n 1, 1) := by decide +kernel
theorem dX0_clashes_35 : decode cX0_clashes 35 = .ok (.ireturn, 1) := by decide +kernel
theorem dX0_breaks_0 : decode cX0_breaks 0 = .ok (.iconst 0, 1) := by decide +kernel
theorem dX0_breaks_1 : decode cX0_breaks 1 = .ok (.istore_n 1, 1) := by decide +kernel
theorem dX0_breaks_2 : decode cX0_breaks 2 = .ok (.iconst 0, 1) := by decide +kernel
theorem dX0_breaks_3 : decode cX0_breaks 3 = .ok (.istore_n 2, 1) := by decide +kernel
theorem dX0_breaks_4 : decode cX0_breaks 4 = .ok (.iload_n 2, 1) := by decide +kernel
theorem dX0_breaks_5 : decode cX0_breaks 5 = .ok (.aload_n 0, 1) := by decide +kernel
theorem dX0_breaks_6 : decode cX0_breaks 6 = .ok (.getfield 29, 3) := by decide +kernel
theorem dX0_breaks_9 : decode cX0_breaks 9 = .ok (.if_icmp .ge 25, 3) := by decide +kernel
theorem dX0_breaks_12 : decode cX0_breaks 12 = .ok (.iload_n 1, 1) := by decide +kernel
theorem dX0_breaks_13 : decode cX0_breaks 13 = .ok (.aload_n 0, 1) := by decide +kernel
theorem dX0_breaks_14 : decode cX0_breaks 14 = .ok (.iload_n 2, 1) := by decide +kernel
theorem dX0_breaks_15 : decode cX0_breaks 15 = .ok (.invokevirtual 120, 3) := by decide +kernel
theorem dX0_breaks_18 : decode cX0_breaks 18 = .ok (.ifCond .eq 7, 3) := by decide +kernel
theorem dX0_breaks_21 : decode cX0_breaks 21 = .ok (.iconst 1, 1) := by decide +kernel
theorem dX0_breaks_22 : decode cX0_breaks 22 = .ok (.goto 4, 3) := by decide +kernel
theorem dX0_breaks_25 : decode cX0_breaks 25 = .ok (.iconst 0, 1) := by decide +kernel
theorem dX0_breaks_26 : decode cX0_breaks 26 = .ok (.iadd, 1) := by decide +kernel
theorem dX0_breaks_27 : decode cX0_breaks 27 = .ok (.istore_n 1, 1) := by decide +kernel
theorem dX0_breaks_28 : decode cX0_breaks 28 = .ok (.iinc 2 1, 3) := by decide +kernel
theorem dX0_breaks_31 : decode cX0_breaks 31 = .ok (.goto (-27), 3) := by decide +kernel
theorem dX0_breaks_34 : decode cX0_breaks 34 = .ok (.iload_n 1, 1) := by decide +kernel
theorem dX0_breaks_35 : decode cX0_breaks 35 = .ok (.ireturn, 1) := by decide +kernel
theorem dX0_allLost_0 : decode cX0_allLost 0 = .ok (.iconst 0, 1) := by decide +kernel
theorem dX0_allLost_1 : decode cX0_allLost 1 = .ok (.istore_n 1, 1) := by decide +kernel
theorem dX0_allLost_2 : decode cX0_allLost 2 = .ok (.iconst 0, 1) := by decide +kernel
theorem dX0_allLost_3 : decode cX0_allLost 3 = .ok (.istore_n 2, 1) := by decide +kernel
theorem dX0_allLost_4 : decode cX0_allLost 4 = .ok (.iload_n 2, 1) := by decide +kernel
theorem dX0_allLost_5 : decode cX0_allLost 5 = .ok (.aload_n 0, 1) := by decide +kernel
theorem dX0_allLost_6 : decode cX0_allLost 6 = .ok (.getfield 29, 3) := by decide +kernel
theorem dX0_allLost_9 : decode cX0_allLost 9 = .ok (.if_icmp .ge 21, 3) := by decide +kernel
theorem dX0_allLost_12 : decode cX0_allLost 12 = .ok (.iload_n 1, 1) := by decide +kernel
theorem dX0_allLost_13 : decode cX0_allLost 13 = .ok (.iconst 0, 1) := by decide +kernel
theorem dX0_allLost_14 : decode cX0_allLost 14 = .ok (.aload_n 0, 1) := by decide +kernel
theorem dX0_allLost_15 : decode cX0_allLost 15 = .ok (.iload_n 2, 1) := by decide +kernel
theorem dX0_allLost_16 : decode cX0_allLost 16 = .ok (.invokevirtual 111, 3) := by decide +kernel
theorem dX0_allLost_19 : decode cX0_allLost 19 = .ok (.invokestatic 123, 3) := by decide +kernel
theorem dX0_allLost_22 : decode cX0_allLost 22 = .ok (.iadd, 1) := by decide +kernel
theorem dX0_allLost_23 : decode cX0_allLost 23 = .ok (.istore_n 1, 1) := by decide +kernel
theorem dX0_allLost_24 : decode cX0_allLost 24 = .ok (.iinc 2 1, 3) := by decide +kernel
theorem dX0_allLost_27 : decode cX0_allLost 27 = .ok (.goto (-23), 3) := by decide +kernel
theorem dX0_allLost_30 : decode cX0_allLost 30 = .ok (.iload_n 1, 1) := by decide +kernel
theorem dX0_allLost_31 : decode cX0_allLost 31 = .ok (.ireturn, 1) := by decide +kernel
theorem dX1_init_0 : decode cX1_init 0 = .ok (.aload_n 0, 1) := by decide +kernel
theorem dX1_init_1 : decode cX1_init 1 = .ok (.invokespecial 3, 3) := by decide +kernel
theorem dX1_init_4 : decode cX1_init 4 = .ok (.aload_n 0, 1) := by decide +kernel
theorem dX1_init_5 : decode cX1_init 5 = .ok (.iconst 2, 1) := by decide +kernel
theorem dX1_init_6 : decode cX1_init 6 = .ok (.putfield 9, 3) := by decide +kernel
theorem dX1_init_9 : decode cX1_init 9 = .ok (.aload_n 0, 1) := by decide +kernel
theorem dX1_init_10 : decode cX1_init 10 = .ok (.iconst 0, 1) := by decide +kernel
theorem dX1_init_11 : decode cX1_init 11 = .ok (.putfield 15, 3) := by decide +kernel
theorem dX1_init_14 : decode cX1_init 14 = .ok (.aload_n 0, 1) := by decide +kernel
theorem dX1_init_15 : decode cX1_init 15 = .ok (.iconst 0, 1) := by decide +kernel
theorem dX1_init_16 : decode cX1_init 16 = .ok (.putfield 18, 3) := by decide +kernel
theorem dX1_init_19 : decode cX1_init 19 = .ok (.aload_n 0, 1) := by decide +kernel
theorem dX1_init_20 : decode cX1_init 20 = .ok (.bipush 16, 2) := by decide +kernel
theorem dX1_init_22 : decode cX1_init 22 = .ok (.newarray .int, 2) := by decide +kernel
theorem dX1_init_24 : decode cX1_init 24 = .ok (.putfield 21, 3) := by decide +kernel
theorem dX1_init_27 : decode cX1_init 27 = .ok (.return_, 1) := by decide +kernel
theorem dX1_mayLieAs_0 : decode cX1_mayLieAs 0 = .ok (.aload_n 0, 1) := by decide +kernel
theorem dX1_mayLieAs_1 : decode cX1_mayLieAs 1 = .ok (.getfield 9, 3) := by decide +kernel
theorem dX1_mayLieAs_4 : decode cX1_mayLieAs 4 = .ok (.iload_n 1, 1) := by decide +kernel
theorem dX1_mayLieAs_5 : decode cX1_mayLieAs 5 = .ok (.if_icmp .eq 11, 3) := by decide +kernel
theorem dX1_mayLieAs_8 : decode cX1_mayLieAs 8 = .ok (.aload_n 0, 1) := by decide +kernel
theorem dX1_mayLieAs_9 : decode cX1_mayLieAs 9 = .ok (.getfield 9, 3) := by decide +kernel
theorem dX1_mayLieAs_12 : decode cX1_mayLieAs 12 = .ok (.iconst 2, 1) := by decide +kernel
theorem dX1_mayLieAs_13 : decode cX1_mayLieAs 13 = .ok (.if_icmp .ne 7, 3) := by decide +kernel
theorem dX1_mayLieAs_16 : decode cX1_mayLieAs 16 = .ok (.iconst 1, 1) := by decide +kernel
theorem dX1_mayLieAs_17 : decode cX1_mayLieAs 17 = .ok (.goto 4, 3) := by decide +kernel
theorem dX1_mayLieAs_20 : decode cX1_mayLieAs 20 = .ok (.iconst 0, 1) := by decide +kernel
theorem dX1_mayLieAs_21 : decode cX1_mayLieAs 21 = .ok (.ireturn, 1) := by decide +kernel
theorem dX1_isLike_0 : decode cX1_isLike 0 = .ok (.aload_n 0, 1) := by decide +kernel
theorem dX1_isLike_1 : decode cX1_isLike 1 = .ok (.getfield 15, 3) := by decide +kernel
theorem dX1_isLike_4 : decode cX1_isLike 4 = .ok (.aload_n 1, 1) := by decide +kernel
theorem dX1_isLike_5 : decode cX1_isLike 5 = .ok (.getfield 15, 3) := by decide +kernel
theorem dX1_isLike_8 : decode cX1_isLike 8 = .ok (.if_icmp .ne 18, 3) := by decide +kernel
theorem dX1_isLike_11 : decode cX1_isLike 11 = .ok (.aload_n 0, 1) := by decide +kernel
theorem dX1_isLike_12 : decode cX1_isLike 12 = .ok (.getfield 18, 3) := by decide +kernel
theorem dX1_isLike_15 : decode cX1_isLike 15 = .ok (.aload_n 1, 1) := by decide +kernel
theorem dX1_isLike_16 : decode cX1_isLike 16 = .ok (.getfield 18, 3) := by decide +kernel
theorem dX1_isLike_19 : decode cX1_isLike 19 = .ok (.if_icmp .ne 7, 3) := by decide +kernel
theorem dX1_isLike_22 : decode cX1_isLike 22 = .ok (.iconst 1, 1) := by decide +kernel
theorem dX1_isLike_23 : decode cX1_isLike 23 = .ok (.goto 4, 3) := by decide +kernel
theorem dX1_isLike_26 : decode cX1_isLike 26 = .ok (.iconst 0, 1) := by decide +kernel
theorem dX1_isLike_27 : decode cX1_isLike 27 = .ok (.ireturn, 1) := by decide +kernel
theorem dX2_init_0 : decode cX2_init 0 = .ok (.aload_n 0, 1) := by decide +kernel
theorem dX2_init_1 : decode cX2_init 1 = .ok (.invokespecial 3, 3) := by decide +kernel
theorem dX2_init_4 : decode cX2_init 4 = .ok (.aload_n 0, 1) := by decide +kernel
theorem dX2_init_5 : decode cX2_init 5 = .ok (.bipush 8, 2) := by decide +kernel
theorem dX2_init_7 : decode cX2_init 7 = .ok (.anewarray 9, 3) := by decide +kernel
theorem dX2_init_10 : decode cX2_init 10 = .ok (.putfield 11, 3) := by decide +kernel
theorem dX2_init_13 : decode cX2_init 13 = .ok (.aload_n 0, 1) := by decide +kernel
theorem dX2_init_14 : decode cX2_init 14 = .ok (.iconst 0, 1) := by decide +kernel
theorem dX2_init_15 : decode cX2_init 15 = .ok (.putfield 17, 3) := by decide +kernel
theorem dX2_init_18 : decode cX2_init 18 = .ok (.iconst 0, 1) := by decide +kernel
theorem dX2_init_19 : decode cX2_init 19 = .ok (.istore_n 1, 1) := by decide +kernel
theorem dX2_init_20 : decode cX2_init 20 = .ok (.iload_n 1, 1) := by decide +kernel
theorem dX2_init_21 : decode cX2_init 21 = .ok (.bipush 8, 2) := by decide +kernel
theorem dX2_init_23 : decode cX2_init 23 = .ok (.if_icmp .ge 22, 3) := by decide +kernel
theorem dX2_init_26 : decode cX2_init 26 = .ok (.aload_n 0, 1) := by decide +kernel
theorem dX2_init_27 : decode cX2_init 27 = .ok (.getfield 11, 3) := by decide +kernel
theorem dX2_init_30 : decode cX2_init 30 = .ok (.iload_n 1, 1) := by decide +kernel
theorem dX2_init_31 : decode cX2_init 31 = .ok (.new 9, 3) := by decide +kernel
theorem dX2_init_34 : decode cX2_init 34 = .ok (.dup, 1) := by decide +kernel
theorem dX2_init_35 : decode cX2_init 35 = .ok (.invokespecial 21, 3) := by decide +kernel
theorem dX2_init_38 : decode cX2_init 38 = .ok (.aastore, 1) := by decide +kernel
theorem dX2_init_39 : decode cX2_init 39 = .ok (.iinc 1 1, 3) := by decide +kernel
theorem dX2_init_42 : decode cX2_init 42 = .ok (.goto (-22), 3) := by decide +kernel
theorem dX2_init_45 : decode cX2_init 45 = .ok (.return_, 1) := by decide +kernel
theorem dX2_has_0 : decode cX2_has 0 = .ok (.iload_n 1, 1) := by decide +kernel
theorem dX2_has_1 : decode cX2_has 1 = .ok (.ifCond .lt 21, 3) := by decide +kernel
theorem dX2_has_4 : decode cX2_has 4 = .ok (.iload_n 1, 1) := by decide +kernel
theorem dX2_has_5 : decode cX2_has 5 = .ok (.aload_n 0, 1) := by decide +kernel
theorem dX2_has_6 : decode cX2_has 6 = .ok (.getfield 17, 3) := by decide +kernel
theorem dX2_has_9 : decode cX2_has 9 = .ok (.if_icmp .ge 13, 3) := by decide +kernel
theorem dX2_has_12 : decode cX2_has 12 = .ok (.iload_n 1, 1) := by decide +kernel
theorem dX2_has_13 : decode cX2_has 13 = .ok (.bipush 8, 2) := by decide +kernel
theorem dX2_has_15 : decode cX2_has 15 = .ok (.if_icmp .ge 7, 3) := by decide +kernel
theorem dX2_has_18 : decode cX2_has 18 = .ok (.iconst 1, 1) := by decide +kernel
theorem dX2_has_19 : decode cX2_has 19 = .ok (.goto 4, 3) := by decide +kernel
theorem dX2_has_22 : decode cX2_has 22 = .ok (.iconst 0, 1) := by decide +kernel
theorem dX2_has_23 : decode cX2_has 23 = .ok (.ireturn, 1) := by decide +kernel
theorem dX2_add_0 : decode cX2_add 0 = .ok (.aload_n 0, 1) := by decide +kernel
theorem dX2_add_1 : decode cX2_add 1 = .ok (.getfield 17, 3) := by decide +kernel
theorem dX2_add_4 : decode cX2_add 4 = .ok (.bipush 8, 2) := by decide +kernel
theorem dX2_add_6 : decode cX2_add 6 = .ok (.if_icmp .lt 5, 3) := by decide +kernel
theorem dX2_add_9 : decode cX2_add 9 = .ok (.iconst (-1), 1) := by decide +kernel
theorem dX2_add_10 : decode cX2_add 10 = .ok (.ireturn, 1) := by decide +kernel
theorem dX2_add_11 : decode cX2_add 11 = .ok (.aload_n 0, 1) := by decide +kernel
theorem dX2_add_12 : decode cX2_add 12 = .ok (.getfield 11, 3) := by decide +kernel
theorem dX2_add_15 : decode cX2_add 15 = .ok (.aload_n 0, 1) := by decide +kernel
theorem dX2_add_16 : decode cX2_add 16 = .ok (.getfield 17, 3) := by decide +kernel
theorem dX2_add_19 : decode cX2_add 19 = .ok (.aaload, 1) := by decide +kernel
theorem dX2_add_20 : decode cX2_add 20 = .ok (.astore 4, 2) := by decide +kernel
theorem dX2_add_22 : decode cX2_add 22 = .ok (.aload 4, 2) := by decide +kernel
theorem dX2_add_24 : decode cX2_add 24 = .ok (.iload_n 1, 1) := by decide +kernel
theorem dX2_add_25 : decode cX2_add 25 = .ok (.putfield 22, 3) := by decide +kernel
theorem dX2_add_28 : decode cX2_add 28 = .ok (.aload 4, 2) := by decide +kernel
theorem dX2_add_30 : decode cX2_add 30 = .ok (.iload_n 2, 1) := by decide +kernel
theorem dX2_add_31 : decode cX2_add 31 = .ok (.putfield 25, 3) := by decide +kernel
theorem dX2_add_34 : decode cX2_add 34 = .ok (.aload 4, 2) := by decide +kernel
theorem dX2_add_36 : decode cX2_add 36 = .ok (.iload_n 3, 1) := by decide +kernel
theorem dX2_add_37 : decode cX2_add 37 = .ok (.putfield 28, 3) := by decide +kernel
theorem dX2_add_40 : decode cX2_add 40 = .ok (.aload 4, 2) := by decide +kernel
theorem dX2_add_42 : decode cX2_add 42 = .ok (.getfield 31, 3) := by decide +kernel
theorem dX2_add_45 : decode cX2_add 45 = .ok (.ldc 35, 2) := by decide +kernel
theorem dX2_add_47 : decode cX2_add 47 = .ok (.invokestatic 36, 3) := by decide +kernel
theorem dX2_add_50 : decode cX2_add 50 = .ok (.aload_n 0, 1) := by decide +kernel
theorem dX2_add_51 : decode cX2_add 51 = .ok (.dup, 1) := by decide +kernel
theorem dX2_add_52 : decode cX2_add 52 = .ok (.getfield 17, 3) := by decide +kernel
theorem dX2_add_55 : decode cX2_add 55 = .ok (.iconst 1, 1) := by decide +kernel
theorem dX2_add_56 : decode cX2_add 56 = .ok (.iadd, 1) := by decide +kernel
theorem dX2_add_57 : decode cX2_add 57 = .ok (.putfield 17, 3) := by decide +kernel
theorem dX2_add_60 : decode cX2_add 60 = .ok (.aload_n 0, 1) := by decide +kernel
theorem dX2_add_61 : decode cX2_add 61 = .ok (.getfield 17, 3) := by decide +kernel
theorem dX2_add_64 : decode cX2_add 64 = .ok (.iconst 1, 1) := by decide +kernel
theorem dX2_add_65 : decode cX2_add 65 = .ok (.isub, 1) := by decide +kernel
theorem dX2_add_66 : decode cX2_add 66 = .ok (.ireturn, 1) := by decide +kernel
theorem dX3_init_0 : decode cX3_init 0 = .ok (.aload_n 0, 1) := by decide +kernel
theorem dX3_init_1 : decode cX3_init 1 = .ok (.invokespecial 3, 3) := by decide +kernel
theorem dX3_init_4 : decode cX3_init 4 = .ok (.aload_n 0, 1) := by decide +kernel
theorem dX3_init_5 : decode cX3_init 5 = .ok (.iconst (-1), 1) := by decide +kernel
theorem dX3_init_6 : decode cX3_init 6 = .ok (.putfield 9, 3) := by decide +kernel
theorem dX3_init_9 : decode cX3_init 9 = .ok (.aload_n 0, 1) := by decide +kernel
theorem dX3_init_10 : decode cX3_init 10 = .ok (.iconst (-1), 1) := by decide +kernel
theorem dX3_init_11 : decode cX3_init 11 = .ok (.putfield 15, 3) := by decide +kernel
theorem dX3_init_14 : decode cX3_init 14 = .ok (.aload_n 0, 1) := by decide +kernel
theorem dX3_init_15 : decode cX3_init 15 = .ok (.iconst (-1), 1) := by decide +kernel
theorem dX3_init_16 : decode cX3_init 16 = .ok (.putfield 18, 3) := by decide +kernel
theorem dX3_init_19 : decode cX3_init 19 = .ok (.aload_n 0, 1) := by decide +kernel
theorem dX3_init_20 : decode cX3_init 20 = .ok (.iconst (-1), 1) := by decide +kernel
theorem dX3_init_21 : decode cX3_init 21 = .ok (.putfield 21, 3) := by decide +kernel
theorem dX3_init_24 : decode cX3_init 24 = .ok (.aload_n 0, 1) := by decide +kernel
theorem dX3_init_25 : decode cX3_init 25 = .ok (.iconst 0, 1) := by decide +kernel
theorem dX3_init_26 : decode cX3_init 26 = .ok (.putfield 24, 3) := by decide +kernel
theorem dX3_init_29 : decode cX3_init 29 = .ok (.aload_n 0, 1) := by decide +kernel
theorem dX3_init_30 : decode cX3_init 30 = .ok (.iconst 0, 1) := by decide +kernel
theorem dX3_init_31 : decode cX3_init 31 = .ok (.putfield 27, 3) := by decide +kernel
theorem dX3_init_34 : decode cX3_init 34 = .ok (.aload_n 0, 1) := by decide +kernel
theorem dX3_init_35 : decode cX3_init 35 = .ok (.iconst 0, 1) := by decide +kernel
theorem dX3_init_36 : decode cX3_init 36 = .ok (.putfield 30, 3) := by decide +kernel
theorem dX3_init_39 : decode cX3_init 39 = .ok (.return_, 1) := by decide +kernel
theorem dX3_lie_0 : decode cX3_lie 0 = .ok (.aload_n 0, 1) := by decide +kernel
theorem dX3_lie_1 : decode cX3_lie 1 = .ok (.iload_n 1, 1) := by decide +kernel
theorem dX3_lie_2 : decode cX3_lie 2 = .ok (.putfield 9, 3) := by decide +kernel
theorem dX3_lie_5 : decode cX3_lie 5 = .ok (.aload_n 0, 1) := by decide +kernel
theorem dX3_lie_6 : decode cX3_lie 6 = .ok (.iload_n 2, 1) := by decide +kernel
theorem dX3_lie_7 : decode cX3_lie 7 = .ok (.putfield 15, 3) := by decide +kernel
theorem dX3_lie_10 : decode cX3_lie 10 = .ok (.aload_n 0, 1) := by decide +kernel
theorem dX3_lie_11 : decode cX3_lie 11 = .ok (.iload_n 3, 1) := by decide +kernel
theorem dX3_lie_12 : decode cX3_lie 12 = .ok (.putfield 18, 3) := by decide +kernel
theorem dX3_lie_15 : decode cX3_lie 15 = .ok (.aload_n 0, 1) := by decide +kernel
theorem dX3_lie_16 : decode cX3_lie 16 = .ok (.iload 4, 2) := by decide +kernel
theorem dX3_lie_18 : decode cX3_lie 18 = .ok (.putfield 21, 3) := by decide +kernel
theorem dX3_lie_21 : decode cX3_lie 21 = .ok (.return_, 1) := by decide +kernel
theorem dX3_partOf_0 : decode cX3_partOf 0 = .ok (.iload_n 1, 1) := by decide +kernel
theorem dX3_partOf_1 : decode cX3_partOf 1 = .ok (.aload_n 0, 1) := by decide +kernel
theorem dX3_partOf_2 : decode cX3_partOf 2 = .ok (.getfield 9, 3) := by decide +kernel
theorem dX3_partOf_5 : decode cX3_partOf 5 = .ok (.if_icmp .ne 7, 3) := by decide +kernel
theorem dX3_partOf_8 : decode cX3_partOf 8 = .ok (.iconst 0, 1) := by decide +kernel
theorem dX3_partOf_9 : decode cX3_partOf 9 = .ok (.goto 4, 3) := by decide +kernel
theorem dX3_partOf_12 : decode cX3_partOf 12 = .ok (.iconst 1, 1) := by decide +kernel
theorem dX3_partOf_13 : decode cX3_partOf 13 = .ok (.ireturn, 1) := by decide +kernel
theorem dX4_init_0 : decode cX4_init 0 = .ok (.aload_n 0, 1) := by decide +kernel
theorem dX4_init_1 : decode cX4_init 1 = .ok (.invokespecial 3, 3) := by decide +kernel
theorem dX4_init_4 : decode cX4_init 4 = .ok (.aload_n 0, 1) := by decide +kernel
theorem dX4_init_5 : decode cX4_init 5 = .ok (.bipush 8, 2) := by decide +kernel
theorem dX4_init_7 : decode cX4_init 7 = .ok (.bipush 8, 2) := by decide +kernel
theorem dX4_init_9 : decode cX4_init 9 = .ok (.multianewarray 9 2, 4) := by decide +kernel
theorem dX4_init_13 : decode cX4_init 13 = .ok (.putfield 11, 3) := by decide +kernel
theorem dX4_init_16 : decode cX4_init 16 = .ok (.aload_n 0, 1) := by decide +kernel
theorem dX4_init_17 : decode cX4_init 17 = .ok (.sipush 256, 3) := by decide +kernel
theorem dX4_init_20 : decode cX4_init 20 = .ok (.newarray .int, 2) := by decide +kernel
theorem dX4_init_22 : decode cX4_init 22 = .ok (.putfield 16, 3) := by decide +kernel
theorem dX4_init_25 : decode cX4_init 25 = .ok (.aload_n 0, 1) := by decide +kernel
theorem dX4_init_26 : decode cX4_init 26 = .ok (.sipush 256, 3) := by decide +kernel
theorem dX4_init_29 : decode cX4_init 29 = .ok (.newarray .int, 2) := by decide +kernel
theorem dX4_init_31 : decode cX4_init 31 = .ok (.putfield 20, 3) := by decide +kernel
theorem dX4_init_34 : decode cX4_init 34 = .ok (.aload_n 0, 1) := by decide +kernel
theorem dX4_init_35 : decode cX4_init 35 = .ok (.iconst 0, 1) := by decide +kernel
theorem dX4_init_36 : decode cX4_init 36 = .ok (.putfield 23, 3) := by decide +kernel
theorem dX4_init_39 : decode cX4_init 39 = .ok (.return_, 1) := by decide +kernel
theorem dX4_settle_0 : decode cX4_settle 0 = .ok (.iload_n 2, 1) := by decide +kernel
theorem dX4_settle_1 : decode cX4_settle 1 = .ok (.bipush 8, 2) := by decide +kernel
theorem dX4_settle_3 : decode cX4_settle 3 = .ok (.invokestatic 27, 3) := by decide +kernel
theorem dX4_settle_6 : decode cX4_settle 6 = .ok (.istore 4, 2) := by decide +kernel
theorem dX4_settle_8 : decode cX4_settle 8 = .ok (.aload_n 0, 1) := by decide +kernel
theorem dX4_settle_9 : decode cX4_settle 9 = .ok (.iconst 1, 1) := by decide +kernel
theorem dX4_settle_10 : decode cX4_settle 10 = .ok (.iload 4, 2) := by decide +kernel
theorem dX4_settle_12 : decode cX4_settle 12 = .ok (.ishl, 1) := by decide +kernel
theorem dX4_settle_13 : decode cX4_settle 13 = .ok (.iconst 1, 1) := by decide +kernel
theorem dX4_settle_14 : decode cX4_settle 14 = .ok (.isub, 1) := by decide +kernel
theorem dX4_settle_15 : decode cX4_settle 15 = .ok (.putfield 23, 3) := by decide +kernel
theorem dX4_settle_18 : decode cX4_settle 18 = .ok (.iconst 0, 1) := by decide +kernel
theorem dX4_settle_19 : decode cX4_settle 19 = .ok (.istore 5, 2) := by decide +kernel
theorem dX4_settle_21 : decode cX4_settle 21 = .ok (.iload 5, 2) := by decide +kernel
theorem dX4_settle_23 : decode cX4_settle 23 = .ok (.iload 4, 2) := by decide +kernel
theorem dX4_settle_25 : decode cX4_settle 25 = .ok (.if_icmp .ge 60, 3) := by decide +kernel
theorem dX4_settle_28 : decode cX4_settle 28 = .ok (.iload 5, 2) := by decide +kernel
theorem dX4_settle_30 : decode cX4_settle 30 = .ok (.istore 6, 2) := by decide +kernel
theorem dX4_settle_32 : decode cX4_settle 32 = .ok (.iload 6, 2) := by decide +kernel
theorem dX4_settle_34 : decode cX4_settle 34 = .ok (.iload 4, 2) := by decide +kernel
theorem dX4_settle_36 : decode cX4_settle 36 = .ok (.if_icmp .ge 43, 3) := by decide +kernel
theorem dX4_settle_39 : decode cX4_settle 39 = .ok (.aload_n 0, 1) := by decide +kernel
theorem dX4_settle_40 : decode cX4_settle 40 = .ok (.getfield 11, 3) := by decide +kernel
theorem dX4_settle_43 : decode cX4_settle 43 = .ok (.iload 5, 2) := by decide +kernel
theorem dX4_settle_45 : decode cX4_settle 45 = .ok (.aaload, 1) := by decide +kernel
theorem dX4_settle_46 : decode cX4_settle 46 = .ok (.iload 6, 2) := by decide +kernel
theorem dX4_settle_48 : decode cX4_settle 48 = .ok (.aload_n 1, 1) := by decide +kernel
theorem dX4_settle_49 : decode cX4_settle 49 = .ok (.iload 5, 2) := by decide +kernel
theorem dX4_settle_51 : decode cX4_settle 51 = .ok (.iload 6, 2) := by decide +kernel
theorem dX4_settle_53 : decode cX4_settle 53 = .ok (.invokevirtual 33, 3) := by decide +kernel
theorem dX4_settle_56 : decode cX4_settle 56 = .ok (.ifCond .eq 15, 3) := by decide +kernel
theorem dX4_settle_59 : decode cX4_settle 59 = .ok (.aload_n 1, 1) := by decide +kernel
theorem dX4_settle_60 : decode cX4_settle 60 = .ok (.getfield 39, 3) := by decide +kernel
theorem dX4_settle_63 : decode cX4_settle 63 = .ok (.getfield 43, 3) := by decide +kernel
theorem dX4_settle_66 : decode cX4_settle 66 = .ok (.iload_n 3, 1) := by decide +kernel
theorem dX4_settle_67 : decode cX4_settle 67 = .ok (.iadd, 1) := by decide +kernel
theorem dX4_settle_68 : decode cX4_settle 68 = .ok (.goto 4, 3) := by decide +kernel
theorem dX4_settle_71 : decode cX4_settle 71 = .ok (.iconst (-1), 1) := by decide +kernel
theorem dX4_settle_72 : decode cX4_settle 72 = .ok (.iastore, 1) := by decide +kernel
theorem dX4_settle_73 : decode cX4_settle 73 = .ok (.iinc 6 1, 3) := by decide +kernel
theorem dX4_settle_76 : decode cX4_settle 76 = .ok (.goto (-44), 3) := by decide +kernel
theorem dX4_settle_79 : decode cX4_settle 79 = .ok (.iinc 5 1, 3) := by decide +kernel
theorem dX4_settle_82 : decode cX4_settle 82 = .ok (.goto (-61), 3) := by decide +kernel
theorem dX4_settle_85 : decode cX4_settle 85 = .ok (.aload_n 0, 1) := by decide +kernel
theorem dX4_settle_86 : decode cX4_settle 86 = .ok (.getfield 16, 3) := by decide +kernel
theorem dX4_settle_89 : decode cX4_settle 89 = .ok (.iconst 0, 1) := by decide +kernel
theorem dX4_settle_90 : decode cX4_settle 90 = .ok (.iconst 0, 1) := by decide +kernel
theorem dX4_settle_91 : decode cX4_settle 91 = .ok (.iastore, 1) := by decide +kernel
theorem dX4_settle_92 : decode cX4_settle 92 = .ok (.iconst 1, 1) := by decide +kernel
theorem dX4_settle_93 : decode cX4_settle 93 = .ok (.istore 5, 2) := by decide +kernel
theorem dX4_settle_95 : decode cX4_settle 95 = .ok (.iload 5, 2) := by decide +kernel
theorem dX4_settle_97 : decode cX4_settle 97 = .ok (.aload_n 0, 1) := by decide +kernel
theorem dX4_settle_98 : decode cX4_settle 98 = .ok (.getfield 23, 3) := by decide +kernel
theorem dX4_settle_101 : decode cX4_settle 101 = .ok (.if_icmp .gt 17, 3) := by decide +kernel
theorem dX4_settle_104 : decode cX4_settle 104 = .ok (.aload_n 0, 1) := by decide +kernel
theorem dX4_settle_105 : decode cX4_settle 105 = .ok (.iload 5, 2) := by decide +kernel
theorem dX4_settle_107 : decode cX4_settle 107 = .ok (.iload 4, 2) := by decide +kernel
theorem dX4_settle_109 : decode cX4_settle 109 = .ok (.invokevirtual 48, 3) := by decide +kernel
theorem dX4_settle_112 : decode cX4_settle 112 = .ok (.iinc 5 1, 3) := by decide +kernel
theorem dX4_settle_115 : decode cX4_settle 115 = .ok (.goto (-20), 3) := by decide +kernel
theorem dX4_settle_118 : decode cX4_settle 118 = .ok (.return_, 1) := by decide +kernel
theorem dX4_settleSet_0 : decode cX4_settleSet 0 = .ok (.iload_n 1, 1) := by decide +kernel
theorem dX4_settleSet_1 : decode cX4_settleSet 1 = .ok (.invokestatic 52, 3) := by decide +kernel
theorem dX4_settleSet_4 : decode cX4_settleSet 4 = .ok (.istore_n 3, 1) := by decide +kernel
theorem dX4_settleSet_5 : decode cX4_settleSet 5 = .ok (.aload_n 0, 1) := by decide +kernel
theorem dX4_settleSet_6 : decode cX4_settleSet 6 = .ok (.getfield 16, 3) := by decide +kernel
theorem dX4_settleSet_9 : decode cX4_settleSet 9 = .ok (.iload_n 1, 1) := by decide +kernel
theorem dX4_settleSet_10 : decode cX4_settleSet 10 = .ok (.iconst (-1), 1) := by decide +kernel
theorem dX4_settleSet_11 : decode cX4_settleSet 11 = .ok (.iastore, 1) := by decide +kernel
theorem dX4_settleSet_12 : decode cX4_settleSet 12 = .ok (.iload_n 3, 1) := by decide +kernel
theorem dX4_settleSet_13 : decode cX4_settleSet 13 = .ok (.istore 4, 2) := by decide +kernel
theorem dX4_settleSet_15 : decode cX4_settleSet 15 = .ok (.iload 4, 2) := by decide +kernel
theorem dX4_settleSet_17 : decode cX4_settleSet 17 = .ok (.iload_n 2, 1) := by decide +kernel
theorem dX4_settleSet_18 : decode cX4_settleSet 18 = .ok (.if_icmp .ge 95, 3) := by decide +kernel
theorem dX4_settleSet_21 : decode cX4_settleSet 21 = .ok (.iload_n 1, 1) := by decide +kernel
theorem dX4_settleSet_22 : decode cX4_settleSet 22 = .ok (.iload 4, 2) := by decide +kernel
theorem dX4_settleSet_24 : decode cX4_settleSet 24 = .ok (.invokestatic 56, 3) := by decide +kernel
theorem dX4_settleSet_27 : decode cX4_settleSet 27 = .ok (.ifCond .eq 80, 3) := by decide +kernel
theorem dX4_settleSet_30 : decode cX4_settleSet 30 = .ok (.aload_n 0, 1) := by decide +kernel
theorem dX4_settleSet_31 : decode cX4_settleSet 31 = .ok (.getfield 11, 3) := by decide +kernel
theorem dX4_settleSet_34 : decode cX4_settleSet 34 = .ok (.iload_n 3, 1) := by decide +kernel
theorem dX4_settleSet_35 : decode cX4_settleSet 35 = .ok (.aaload, 1) := by decide +kernel
theorem dX4_settleSet_36 : decode cX4_settleSet 36 = .ok (.iload 4, 2) := by decide +kernel
theorem dX4_settleSet_38 : decode cX4_settleSet 38 = .ok (.iaload, 1) := by decide +kernel
theorem dX4_settleSet_39 : decode cX4_settleSet 39 = .ok (.iconst (-1), 1) := by decide +kernel
theorem dX4_settleSet_40 : decode cX4_settleSet 40 = .ok (.if_icmp .ne 6, 3) := by decide +kernel
theorem dX4_settleSet_43 : decode cX4_settleSet 43 = .ok (.goto 64, 3) := by decide +kernel
theorem dX4_settleSet_46 : decode cX4_settleSet 46 = .ok (.aload_n 0, 1) := by decide +kernel
theorem dX4_settleSet_47 : decode cX4_settleSet 47 = .ok (.getfield 11, 3) := by decide +kernel
theorem dX4_settleSet_50 : decode cX4_settleSet 50 = .ok (.iload_n 3, 1) := by decide +kernel
theorem dX4_settleSet_51 : decode cX4_settleSet 51 = .ok (.aaload, 1) := by decide +kernel
theorem dX4_settleSet_52 : decode cX4_settleSet 52 = .ok (.iload 4, 2) := by decide +kernel
theorem dX4_settleSet_54 : decode cX4_settleSet 54 = .ok (.iaload, 1) := by decide +kernel
theorem dX4_settleSet_55 : decode cX4_settleSet 55 = .ok (.aload_n 0, 1) := by decide +kernel
theorem dX4_settleSet_56 : decode cX4_settleSet 56 = .ok (.getfield 16, 3) := by decide +kernel
theorem dX4_settleSet_59 : decode cX4_settleSet 59 = .ok (.iload_n 1, 1) := by decide +kernel
theorem dX4_settleSet_60 : decode cX4_settleSet 60 = .ok (.iload_n 3, 1) := by decide +kernel
theorem dX4_settleSet_61 : decode cX4_settleSet 61 = .ok (.iload 4, 2) := by decide +kernel
theorem dX4_settleSet_63 : decode cX4_settleSet 63 = .ok (.invokestatic 59, 3) := by decide +kernel
theorem dX4_settleSet_66 : decode cX4_settleSet 66 = .ok (.iaload, 1) := by decide +kernel
theorem dX4_settleSet_67 : decode cX4_settleSet 67 = .ok (.iadd, 1) := by decide +kernel
theorem dX4_settleSet_68 : decode cX4_settleSet 68 = .ok (.istore 5, 2) := by decide +kernel
theorem dX4_settleSet_70 : decode cX4_settleSet 70 = .ok (.aload_n 0, 1) := by decide +kernel
theorem dX4_settleSet_71 : decode cX4_settleSet 71 = .ok (.getfield 16, 3) := by decide +kernel
theorem dX4_settleSet_74 : decode cX4_settleSet 74 = .ok (.iload_n 1, 1) := by decide +kernel
theorem dX4_settleSet_75 : decode cX4_settleSet 75 = .ok (.iaload, 1) := by decide +kernel
theorem dX4_settleSet_76 : decode cX4_settleSet 76 = .ok (.iconst (-1), 1) := by decide +kernel
theorem dX4_settleSet_77 : decode cX4_settleSet 77 = .ok (.if_icmp .eq 14, 3) := by decide +kernel
theorem dX4_settleSet_80 : decode cX4_settleSet 80 = .ok (.iload 5, 2) := by decide +kernel
theorem dX4_settleSet_82 : decode cX4_settleSet 82 = .ok (.aload_n 0, 1) := by decide +kernel
theorem dX4_settleSet_83 : decode cX4_settleSet 83 = .ok (.getfield 16, 3) := by decide +kernel
theorem dX4_settleSet_86 : decode cX4_settleSet 86 = .ok (.iload_n 1, 1) := by decide +kernel
theorem dX4_settleSet_87 : decode cX4_settleSet 87 = .ok (.iaload, 1) := by decide +kernel
theorem dX4_settleSet_88 : decode cX4_settleSet 88 = .ok (.if_icmp .ge 19, 3) := by decide +kernel
theorem dX4_settleSet_91 : decode cX4_settleSet 91 = .ok (.aload_n 0, 1) := by decide +kernel
theorem dX4_settleSet_92 : decode cX4_settleSet 92 = .ok (.getfield 16, 3) := by decide +kernel
theorem dX4_settleSet_95 : decode cX4_settleSet 95 = .ok (.iload_n 1, 1) := by decide +kernel
theorem dX4_settleSet_96 : decode cX4_settleSet 96 = .ok (.iload 5, 2) := by decide +kernel
theorem dX4_settleSet_98 : decode cX4_settleSet 98 = .ok (.iastore, 1) := by decide +kernel
theorem dX4_settleSet_99 : decode cX4_settleSet 99 = .ok (.aload_n 0, 1) := by decide +kernel
theorem dX4_settleSet_100 : decode cX4_settleSet 100 = .ok (.getfield 20, 3) := by decide +kernel
theorem dX4_settleSet_103 : decode cX4_settleSet 103 = .ok (.iload_n 1, 1) := by decide +kernel
theorem dX4_settleSet_104 : decode cX4_settleSet 104 = .ok (.iload 4, 2) := by decide +kernel
theorem dX4_settleSet_106 : decode cX4_settleSet 106 = .ok (.iastore, 1) := by decide +kernel
theorem dX4_settleSet_107 : decode cX4_settleSet 107 = .ok (.iinc 4 1, 3) := by decide +kernel
theorem dX4_settleSet_110 : decode cX4_settleSet 110 = .ok (.goto (-95), 3) := by decide +kernel
theorem dX4_settleSet_113 : decode cX4_settleSet 113 = .ok (.return_, 1) := by decide +kernel
theorem dX4_wholeSet_0 : decode cX4_wholeSet 0 = .ok (.aload_n 0, 1) := by decide +kernel
theorem dX4_wholeSet_1 : decode cX4_wholeSet 1 = .ok (.getfield 23, 3) := by decide +kernel
theorem dX4_wholeSet_4 : decode cX4_wholeSet 4 = .ok (.ireturn, 1) := by decide +kernel
theorem dX4_sum_0 : decode cX4_sum 0 = .ok (.aload_n 0, 1) := by decide +kernel
theorem dX4_sum_1 : decode cX4_sum 1 = .ok (.getfield 16, 3) := by decide +kernel
theorem dX4_sum_4 : decode cX4_sum 4 = .ok (.aload_n 0, 1) := by decide +kernel
theorem dX4_sum_5 : decode cX4_sum 5 = .ok (.getfield 23, 3) := by decide +kernel
theorem dX4_sum_8 : decode cX4_sum 8 = .ok (.iaload, 1) := by decide +kernel
theorem dX4_sum_9 : decode cX4_sum 9 = .ok (.ireturn, 1) := by decide +kernel
theorem dX4_mateOfFirst_0 : decode cX4_mateOfFirst 0 = .ok (.iload_n 1, 1) := by decide +kernel
theorem dX4_mateOfFirst_1 : decode cX4_mateOfFirst 1 = .ok (.aload_n 0, 1) := by decide +kernel
theorem dX4_mateOfFirst_2 : decode cX4_mateOfFirst 2 = .ok (.getfield 23, 3) := by decide +kernel
theorem dX4_mateOfFirst_5 : decode cX4_mateOfFirst 5 = .ok (.invokestatic 63, 3) := by decide +kernel
theorem dX4_mateOfFirst_8 : decode cX4_mateOfFirst 8 = .ok (.ifCond .eq 12, 3) := by decide +kernel
theorem dX4_mateOfFirst_11 : decode cX4_mateOfFirst 11 = .ok (.aload_n 0, 1) := by decide +kernel
theorem dX4_mateOfFirst_12 : decode cX4_mateOfFirst 12 = .ok (.getfield 20, 3) := by decide +kernel
theorem dX4_mateOfFirst_15 : decode cX4_mateOfFirst 15 = .ok (.iload_n 1, 1) := by decide +kernel
theorem dX4_mateOfFirst_16 : decode cX4_mateOfFirst 16 = .ok (.iaload, 1) := by decide +kernel
theorem dX4_mateOfFirst_17 : decode cX4_mateOfFirst 17 = .ok (.goto 4, 3) := by decide +kernel
theorem dX4_mateOfFirst_20 : decode cX4_mateOfFirst 20 = .ok (.iconst (-1), 1) := by decide +kernel
theorem dX4_mateOfFirst_21 : decode cX4_mateOfFirst 21 = .ok (.ireturn, 1) := by decide +kernel
theorem dX4_firstOf_0 : decode cX4_firstOf 0 = .ok (.iconst 0, 1) := by decide +kernel
theorem dX4_firstOf_1 : decode cX4_firstOf 1 = .ok (.istore_n 1, 1) := by decide +kernel
theorem dX4_firstOf_2 : decode cX4_firstOf 2 = .ok (.iload_n 1, 1) := by decide +kernel
theorem dX4_firstOf_3 : decode cX4_firstOf 3 = .ok (.bipush 8, 2) := by decide +kernel
theorem dX4_firstOf_5 : decode cX4_firstOf 5 = .ok (.if_icmp .ge 19, 3) := by decide +kernel
theorem dX4_firstOf_8 : decode cX4_firstOf 8 = .ok (.iload_n 0, 1) := by decide +kernel
theorem dX4_firstOf_9 : decode cX4_firstOf 9 = .ok (.iload_n 1, 1) := by decide +kernel
theorem dX4_firstOf_10 : decode cX4_firstOf 10 = .ok (.invokestatic 56, 3) := by decide +kernel
theorem dX4_firstOf_13 : decode cX4_firstOf 13 = .ok (.ifCond .eq 5, 3) := by decide +kernel
theorem dX4_firstOf_16 : decode cX4_firstOf 16 = .ok (.iload_n 1, 1) := by decide +kernel
theorem dX4_firstOf_17 : decode cX4_firstOf 17 = .ok (.ireturn, 1) := by decide +kernel
theorem dX4_firstOf_18 : decode cX4_firstOf 18 = .ok (.iinc 1 1, 3) := by decide +kernel
theorem dX4_firstOf_21 : decode cX4_firstOf 21 = .ok (.goto (-19), 3) := by decide +kernel
theorem dX4_firstOf_24 : decode cX4_firstOf 24 = .ok (.bipush 8, 2) := by decide +kernel
theorem dX4_firstOf_26 : decode cX4_firstOf 26 = .ok (.ireturn, 1) := by decide +kernel
theorem dX4_isIn_0 : decode cX4_isIn 0 = .ok (.iload_n 0, 1) := by decide +kernel
theorem dX4_isIn_1 : decode cX4_isIn 1 = .ok (.iload_n 1, 1) := by decide +kernel
theorem dX4_isIn_2 : decode cX4_isIn 2 = .ok (.ishr, 1) := by decide +kernel
theorem dX4_isIn_3 : decode cX4_isIn 3 = .ok (.iconst 1, 1) := by decide +kernel
theorem dX4_isIn_4 : decode cX4_isIn 4 = .ok (.iand, 1) := by decide +kernel
theorem dX4_isIn_5 : decode cX4_isIn 5 = .ok (.iconst 1, 1) := by decide +kernel
theorem dX4_isIn_6 : decode cX4_isIn 6 = .ok (.if_icmp .ne 7, 3) := by decide +kernel
theorem dX4_isIn_9 : decode cX4_isIn 9 = .ok (.iconst 1, 1) := by decide +kernel
theorem dX4_isIn_10 : decode cX4_isIn 10 = .ok (.goto 4, 3) := by decide +kernel
theorem dX4_isIn_13 : decode cX4_isIn 13 = .ok (.iconst 0, 1) := by decide +kernel
theorem dX4_isIn_14 : decode cX4_isIn 14 = .ok (.ireturn, 1) := by decide +kernel
theorem dX4_without_0 : decode cX4_without 0 = .ok (.iload_n 0, 1) := by decide +kernel
theorem dX4_without_1 : decode cX4_without 1 = .ok (.iconst 1, 1) := by decide +kernel
theorem dX4_without_2 : decode cX4_without 2 = .ok (.iload_n 1, 1) := by decide +kernel
theorem dX4_without_3 : decode cX4_without 3 = .ok (.ishl, 1) := by decide +kernel
theorem dX4_without_4 : decode cX4_without 4 = .ok (.iconst (-1), 1) := by decide +kernel
theorem dX4_without_5 : decode cX4_without 5 = .ok (.ixor, 1) := by decide +kernel
theorem dX4_without_6 : decode cX4_without 6 = .ok (.iand, 1) := by decide +kernel
theorem dX4_without_7 : decode cX4_without 7 = .ok (.iconst 1, 1) := by decide +kernel
theorem dX4_without_8 : decode cX4_without 8 = .ok (.iload_n 2, 1) := by decide +kernel
theorem dX4_without_9 : decode cX4_without 9 = .ok (.ishl, 1) := by decide +kernel
theorem dX4_without_10 : decode cX4_without 10 = .ok (.iconst (-1), 1) := by decide +kernel
theorem dX4_without_11 : decode cX4_without 11 = .ok (.ixor, 1) := by decide +kernel
theorem dX4_without_12 : decode cX4_without 12 = .ok (.iand, 1) := by decide +kernel
theorem dX4_without_13 : decode cX4_without 13 = .ok (.ireturn, 1) := by decide +kernel
theorem dX5_init_0 : decode cX5_init 0 = .ok (.aload_n 0, 1) := by decide +kernel
theorem dX5_init_1 : decode cX5_init 1 = .ok (.invokespecial 3, 3) := by decide +kernel
theorem dX5_init_4 : decode cX5_init 4 = .ok (.aload_n 0, 1) := by decide +kernel
theorem dX5_init_5 : decode cX5_init 5 = .ok (.new 9, 3) := by decide +kernel
theorem dX5_init_8 : decode cX5_init 8 = .ok (.dup, 1) := by decide +kernel
theorem dX5_init_9 : decode cX5_init 9 = .ok (.invokespecial 11, 3) := by decide +kernel
theorem dX5_init_12 : decode cX5_init 12 = .ok (.putfield 12, 3) := by decide +kernel
theorem dX5_init_15 : decode cX5_init 15 = .ok (.aload_n 0, 1) := by decide +kernel
theorem dX5_init_16 : decode cX5_init 16 = .ok (.new 18, 3) := by decide +kernel
theorem dX5_init_19 : decode cX5_init 19 = .ok (.dup, 1) := by decide +kernel
theorem dX5_init_20 : decode cX5_init 20 = .ok (.invokespecial 20, 3) := by decide +kernel
theorem dX5_init_23 : decode cX5_init 23 = .ok (.putfield 21, 3) := by decide +kernel
theorem dX5_init_26 : decode cX5_init 26 = .ok (.aload_n 0, 1) := by decide +kernel
theorem dX5_init_27 : decode cX5_init 27 = .ok (.new 25, 3) := by decide +kernel
theorem dX5_init_30 : decode cX5_init 30 = .ok (.dup, 1) := by decide +kernel
theorem dX5_init_31 : decode cX5_init 31 = .ok (.invokespecial 27, 3) := by decide +kernel
theorem dX5_init_34 : decode cX5_init 34 = .ok (.putfield 28, 3) := by decide +kernel
theorem dX5_init_37 : decode cX5_init 37 = .ok (.aload_n 0, 1) := by decide +kernel
theorem dX5_init_38 : decode cX5_init 38 = .ok (.bipush 16, 2) := by decide +kernel
theorem dX5_init_40 : decode cX5_init 40 = .ok (.sipush 129, 3) := by decide +kernel
theorem dX5_init_43 : decode cX5_init 43 = .ok (.multianewarray 32 2, 4) := by decide +kernel
theorem dX5_init_47 : decode cX5_init 47 = .ok (.putfield 34, 3) := by decide +kernel
theorem dX5_init_50 : decode cX5_init 50 = .ok (.aload_n 0, 1) := by decide +kernel
theorem dX5_init_51 : decode cX5_init 51 = .ok (.sipush 129, 3) := by decide +kernel
theorem dX5_init_54 : decode cX5_init 54 = .ok (.newarray .int, 2) := by decide +kernel
theorem dX5_init_56 : decode cX5_init 56 = .ok (.putfield 37, 3) := by decide +kernel
theorem dX5_init_59 : decode cX5_init 59 = .ok (.return_, 1) := by decide +kernel
theorem dX5_weighAll_0 : decode cX5_weighAll 0 = .ok (.iconst 0, 1) := by decide +kernel
theorem dX5_weighAll_1 : decode cX5_weighAll 1 = .ok (.istore_n 1, 1) := by decide +kernel
theorem dX5_weighAll_2 : decode cX5_weighAll 2 = .ok (.iload_n 1, 1) := by decide +kernel
theorem dX5_weighAll_3 : decode cX5_weighAll 3 = .ok (.aload_n 0, 1) := by decide +kernel
theorem dX5_weighAll_4 : decode cX5_weighAll 4 = .ok (.getfield 21, 3) := by decide +kernel
theorem dX5_weighAll_7 : decode cX5_weighAll 7 = .ok (.getfield 41, 3) := by decide +kernel
theorem dX5_weighAll_10 : decode cX5_weighAll 10 = .ok (.if_icmp .ge 14, 3) := by decide +kernel
theorem dX5_weighAll_13 : decode cX5_weighAll 13 = .ok (.aload_n 0, 1) := by decide +kernel
theorem dX5_weighAll_14 : decode cX5_weighAll 14 = .ok (.iload_n 1, 1) := by decide +kernel
theorem dX5_weighAll_15 : decode cX5_weighAll 15 = .ok (.invokevirtual 45, 3) := by decide +kernel
theorem dX5_weighAll_18 : decode cX5_weighAll 18 = .ok (.iinc 1 1, 3) := by decide +kernel
theorem dX5_weighAll_21 : decode cX5_weighAll 21 = .ok (.goto (-19), 3) := by decide +kernel
theorem dX5_weighAll_24 : decode cX5_weighAll 24 = .ok (.return_, 1) := by decide +kernel
theorem dX5_weigh_0 : decode cX5_weigh 0 = .ok (.aload_n 0, 1) := by decide +kernel
theorem dX5_weigh_1 : decode cX5_weigh 1 = .ok (.getfield 21, 3) := by decide +kernel
theorem dX5_weigh_4 : decode cX5_weigh 4 = .ok (.iload_n 1, 1) := by decide +kernel
theorem dX5_weigh_5 : decode cX5_weigh 5 = .ok (.invokevirtual 49, 3) := by decide +kernel
theorem dX5_weigh_8 : decode cX5_weigh 8 = .ok (.ifCond .eq 43, 3) := by decide +kernel
theorem dX5_weigh_11 : decode cX5_weigh 11 = .ok (.aload_n 0, 1) := by decide +kernel
theorem dX5_weigh_12 : decode cX5_weigh 12 = .ok (.aload_n 0, 1) := by decide +kernel
theorem dX5_weigh_13 : decode cX5_weigh 13 = .ok (.iload_n 1, 1) := by decide +kernel
theorem dX5_weigh_14 : decode cX5_weigh 14 = .ok (.iconst 0, 1) := by decide +kernel
theorem dX5_weigh_15 : decode cX5_weigh 15 = .ok (.invokevirtual 53, 3) := by decide +kernel
theorem dX5_weigh_18 : decode cX5_weigh 18 = .ok (.aload_n 0, 1) := by decide +kernel
theorem dX5_weigh_19 : decode cX5_weigh 19 = .ok (.getfield 21, 3) := by decide +kernel
theorem dX5_weigh_22 : decode cX5_weigh 22 = .ok (.getfield 57, 3) := by decide +kernel
theorem dX5_weigh_25 : decode cX5_weigh 25 = .ok (.iload_n 1, 1) := by decide +kernel
theorem dX5_weigh_26 : decode cX5_weigh 26 = .ok (.aaload, 1) := by decide +kernel
theorem dX5_weigh_27 : decode cX5_weigh 27 = .ok (.iconst 0, 1) := by decide +kernel
theorem dX5_weigh_28 : decode cX5_weigh 28 = .ok (.invokevirtual 61, 3) := by decide +kernel
theorem dX5_weigh_31 : decode cX5_weigh 31 = .ok (.aload_n 0, 1) := by decide +kernel
theorem dX5_weigh_32 : decode cX5_weigh 32 = .ok (.aload_n 0, 1) := by decide +kernel
theorem dX5_weigh_33 : decode cX5_weigh 33 = .ok (.iload_n 1, 1) := by decide +kernel
theorem dX5_weigh_34 : decode cX5_weigh 34 = .ok (.iconst 1, 1) := by decide +kernel
theorem dX5_weigh_35 : decode cX5_weigh 35 = .ok (.invokevirtual 53, 3) := by decide +kernel
theorem dX5_weigh_38 : decode cX5_weigh 38 = .ok (.aload_n 0, 1) := by decide +kernel
theorem dX5_weigh_39 : decode cX5_weigh 39 = .ok (.getfield 21, 3) := by decide +kernel
theorem dX5_weigh_42 : decode cX5_weigh 42 = .ok (.getfield 57, 3) := by decide +kernel
theorem dX5_weigh_45 : decode cX5_weigh 45 = .ok (.iload_n 1, 1) := by decide +kernel
theorem dX5_weigh_46 : decode cX5_weigh 46 = .ok (.aaload, 1) := by decide +kernel
theorem dX5_weigh_47 : decode cX5_weigh 47 = .ok (.iconst 1, 1) := by decide +kernel
theorem dX5_weigh_48 : decode cX5_weigh 48 = .ok (.invokevirtual 61, 3) := by decide +kernel
theorem dX5_weigh_51 : decode cX5_weigh 51 = .ok (.return_, 1) := by decide +kernel
theorem dX5_fillRow_0 : decode cX5_fillRow 0 = .ok (.aload_n 1, 1) := by decide +kernel
theorem dX5_fillRow_1 : decode cX5_fillRow 1 = .ok (.iconst 0, 1) := by decide +kernel
theorem dX5_fillRow_2 : decode cX5_fillRow 2 = .ok (.invokestatic 65, 3) := by decide +kernel
theorem dX5_fillRow_5 : decode cX5_fillRow 5 = .ok (.iconst 0, 1) := by decide +kernel
theorem dX5_fillRow_6 : decode cX5_fillRow 6 = .ok (.istore 4, 2) := by decide +kernel
theorem dX5_fillRow_8 : decode cX5_fillRow 8 = .ok (.iload 4, 2) := by decide +kernel
theorem dX5_fillRow_10 : decode cX5_fillRow 10 = .ok (.bipush 16, 2) := by decide +kernel
theorem dX5_fillRow_12 : decode cX5_fillRow 12 = .ok (.if_icmp .ge 39, 3) := by decide +kernel
theorem dX5_fillRow_15 : decode cX5_fillRow 15 = .ok (.aload_n 2, 1) := by decide +kernel
theorem dX5_fillRow_16 : decode cX5_fillRow 16 = .ok (.getfield 71, 3) := by decide +kernel
theorem dX5_fillRow_19 : decode cX5_fillRow 19 = .ok (.iload 4, 2) := by decide +kernel
theorem dX5_fillRow_21 : decode cX5_fillRow 21 = .ok (.iaload, 1) := by decide +kernel
theorem dX5_fillRow_22 : decode cX5_fillRow 22 = .ok (.ldc 76, 2) := by decide +kernel
theorem dX5_fillRow_24 : decode cX5_fillRow 24 = .ok (.if_icmp .eq 21, 3) := by decide +kernel
theorem dX5_fillRow_27 : decode cX5_fillRow 27 = .ok (.aload_n 0, 1) := by decide +kernel
theorem dX5_fillRow_28 : decode cX5_fillRow 28 = .ok (.aload_n 1, 1) := by decide +kernel
theorem dX5_fillRow_29 : decode cX5_fillRow 29 = .ok (.aload_n 2, 1) := by decide +kernel
theorem dX5_fillRow_30 : decode cX5_fillRow 30 = .ok (.getfield 71, 3) := by decide +kernel
theorem dX5_fillRow_33 : decode cX5_fillRow 33 = .ok (.iload 4, 2) := by decide +kernel
theorem dX5_fillRow_35 : decode cX5_fillRow 35 = .ok (.iaload, 1) := by decide +kernel
theorem dX5_fillRow_36 : decode cX5_fillRow 36 = .ok (.iload_n 3, 1) := by decide +kernel
theorem dX5_fillRow_37 : decode cX5_fillRow 37 = .ok (.iload 4, 2) := by decide +kernel
theorem dX5_fillRow_39 : decode cX5_fillRow 39 = .ok (.invokestatic 77, 3) := by decide +kernel
theorem dX5_fillRow_42 : decode cX5_fillRow 42 = .ok (.invokevirtual 81, 3) := by decide +kernel
theorem dX5_fillRow_45 : decode cX5_fillRow 45 = .ok (.iinc 4 1, 3) := by decide +kernel
theorem dX5_fillRow_48 : decode cX5_fillRow 48 = .ok (.goto (-40), 3) := by decide +kernel
theorem dX5_fillRow_51 : decode cX5_fillRow 51 = .ok (.return_, 1) := by decide +kernel
theorem dX5_addSpot_0 : decode cX5_addSpot 0 = .ok (.aload_n 0, 1) := by decide +kernel
theorem dX5_addSpot_1 : decode cX5_addSpot 1 = .ok (.getfield 12, 3) := by decide +kernel
theorem dX5_addSpot_4 : decode cX5_addSpot 4 = .ok (.invokevirtual 85, 3) := by decide +kernel
theorem dX5_addSpot_7 : decode cX5_addSpot 7 = .ok (.istore 4, 2) := by decide +kernel
theorem dX5_addSpot_9 : decode cX5_addSpot 9 = .ok (.iconst 0, 1) := by decide +kernel
theorem dX5_addSpot_10 : decode cX5_addSpot 10 = .ok (.istore 5, 2) := by decide +kernel
theorem dX5_addSpot_12 : decode cX5_addSpot 12 = .ok (.iload 5, 2) := by decide +kernel
theorem dX5_addSpot_14 : decode cX5_addSpot 14 = .ok (.iload 4, 2) := by decide +kernel
theorem dX5_addSpot_16 : decode cX5_addSpot 16 = .ok (.if_icmp .ge 42, 3) := by decide +kernel
theorem dX5_addSpot_19 : decode cX5_addSpot 19 = .ok (.iload 5, 2) := by decide +kernel
theorem dX5_addSpot_21 : decode cX5_addSpot 21 = .ok (.aload_n 1, 1) := by decide +kernel
theorem dX5_addSpot_22 : decode cX5_addSpot 22 = .ok (.arraylength, 1) := by decide +kernel
theorem dX5_addSpot_23 : decode cX5_addSpot 23 = .ok (.if_icmp .ge 35, 3) := by decide +kernel
theorem dX5_addSpot_26 : decode cX5_addSpot 26 = .ok (.iload_n 2, 1) := by decide +kernel
theorem dX5_addSpot_27 : decode cX5_addSpot 27 = .ok (.aload_n 0, 1) := by decide +kernel
theorem dX5_addSpot_28 : decode cX5_addSpot 28 = .ok (.getfield 12, 3) := by decide +kernel
theorem dX5_addSpot_31 : decode cX5_addSpot 31 = .ok (.iload 5, 2) := by decide +kernel
theorem dX5_addSpot_33 : decode cX5_addSpot 33 = .ok (.iload_n 3, 1) := by decide +kernel
theorem dX5_addSpot_34 : decode cX5_addSpot 34 = .ok (.iadd, 1) := by decide +kernel
theorem dX5_addSpot_35 : decode cX5_addSpot 35 = .ok (.invokevirtual 89, 3) := by decide +kernel
theorem dX5_addSpot_38 : decode cX5_addSpot 38 = .ok (.invokestatic 93, 3) := by decide +kernel
theorem dX5_addSpot_41 : decode cX5_addSpot 41 = .ok (.ifCond .ne 11, 3) := by decide +kernel
theorem dX5_addSpot_44 : decode cX5_addSpot 44 = .ok (.aload_n 1, 1) := by decide +kernel
theorem dX5_addSpot_45 : decode cX5_addSpot 45 = .ok (.iload 5, 2) := by decide +kernel
theorem dX5_addSpot_47 : decode cX5_addSpot 47 = .ok (.dup2, 1) := by decide +kernel
theorem dX5_addSpot_48 : decode cX5_addSpot 48 = .ok (.iaload, 1) := by decide +kernel
theorem dX5_addSpot_49 : decode cX5_addSpot 49 = .ok (.iconst 1, 1) := by decide +kernel
theorem dX5_addSpot_50 : decode cX5_addSpot 50 = .ok (.iadd, 1) := by decide +kernel
theorem dX5_addSpot_51 : decode cX5_addSpot 51 = .ok (.iastore, 1) := by decide +kernel
theorem dX5_addSpot_52 : decode cX5_addSpot 52 = .ok (.iinc 5 1, 3) := by decide +kernel
theorem dX5_addSpot_55 : decode cX5_addSpot 55 = .ok (.goto (-43), 3) := by decide +kernel
theorem dX5_addSpot_58 : decode cX5_addSpot 58 = .ok (.return_, 1) := by decide +kernel
theorem dX5_rowOf_0 : decode cX5_rowOf 0 = .ok (.aload_n 0, 1) := by decide +kernel
theorem dX5_rowOf_1 : decode cX5_rowOf 1 = .ok (.getfield 21, 3) := by decide +kernel
theorem dX5_rowOf_4 : decode cX5_rowOf 4 = .ok (.iload_n 1, 1) := by decide +kernel
theorem dX5_rowOf_5 : decode cX5_rowOf 5 = .ok (.invokevirtual 49, 3) := by decide +kernel
theorem dX5_rowOf_8 : decode cX5_rowOf 8 = .ok (.ifCond .eq 24, 3) := by decide +kernel
theorem dX5_rowOf_11 : decode cX5_rowOf 11 = .ok (.iload_n 2, 1) := by decide +kernel
theorem dX5_rowOf_12 : decode cX5_rowOf 12 = .ok (.iconst 1, 1) := by decide +kernel
theorem dX5_rowOf_13 : decode cX5_rowOf 13 = .ok (.invokestatic 97, 3) := by decide +kernel
theorem dX5_rowOf_16 : decode cX5_rowOf 16 = .ok (.ifCond .eq 16, 3) := by decide +kernel
theorem dX5_rowOf_19 : decode cX5_rowOf 19 = .ok (.aload_n 0, 1) := by decide +kernel
theorem dX5_rowOf_20 : decode cX5_rowOf 20 = .ok (.getfield 34, 3) := by decide +kernel
theorem dX5_rowOf_23 : decode cX5_rowOf 23 = .ok (.iconst 2, 1) := by decide +kernel
theorem dX5_rowOf_24 : decode cX5_rowOf 24 = .ok (.iload_n 1, 1) := by decide +kernel
theorem dX5_rowOf_25 : decode cX5_rowOf 25 = .ok (.imul, 1) := by decide +kernel
theorem dX5_rowOf_26 : decode cX5_rowOf 26 = .ok (.iload_n 2, 1) := by decide +kernel
theorem dX5_rowOf_27 : decode cX5_rowOf 27 = .ok (.iadd, 1) := by decide +kernel
theorem dX5_rowOf_28 : decode cX5_rowOf 28 = .ok (.aaload, 1) := by decide +kernel
theorem dX5_rowOf_29 : decode cX5_rowOf 29 = .ok (.goto 7, 3) := by decide +kernel
theorem dX5_rowOf_32 : decode cX5_rowOf 32 = .ok (.aload_n 0, 1) := by decide +kernel
theorem dX5_rowOf_33 : decode cX5_rowOf 33 = .ok (.getfield 37, 3) := by decide +kernel
theorem dX5_rowOf_36 : decode cX5_rowOf 36 = .ok (.areturn, 1) := by decide +kernel
theorem dX5_quarrelsAs_0 : decode cX5_quarrelsAs 0 = .ok (.iload_n 3, 1) := by decide +kernel
theorem dX5_quarrelsAs_1 : decode cX5_quarrelsAs 1 = .ok (.sipush 128, 3) := by decide +kernel
theorem dX5_quarrelsAs_4 : decode cX5_quarrelsAs 4 = .ok (.invokestatic 97, 3) := by decide +kernel
theorem dX5_quarrelsAs_7 : decode cX5_quarrelsAs 7 = .ok (.ifCond .eq 14, 3) := by decide +kernel
theorem dX5_quarrelsAs_10 : decode cX5_quarrelsAs 10 = .ok (.aload_n 0, 1) := by decide +kernel
theorem dX5_quarrelsAs_11 : decode cX5_quarrelsAs 11 = .ok (.iload_n 1, 1) := by decide +kernel
theorem dX5_quarrelsAs_12 : decode cX5_quarrelsAs 12 = .ok (.iload_n 2, 1) := by decide +kernel
theorem dX5_quarrelsAs_13 : decode cX5_quarrelsAs 13 = .ok (.invokevirtual 53, 3) := by decide +kernel
theorem dX5_quarrelsAs_16 : decode cX5_quarrelsAs 16 = .ok (.iload_n 3, 1) := by decide +kernel
theorem dX5_quarrelsAs_17 : decode cX5_quarrelsAs 17 = .ok (.iaload, 1) := by decide +kernel
theorem dX5_quarrelsAs_18 : decode cX5_quarrelsAs 18 = .ok (.goto 4, 3) := by decide +kernel
theorem dX5_quarrelsAs_21 : decode cX5_quarrelsAs 21 = .ok (.iconst (-1), 1) := by decide +kernel
theorem dX5_quarrelsAs_22 : decode cX5_quarrelsAs 22 = .ok (.ireturn, 1) := by decide +kernel
theorem dX5_seekBest_0 : decode cX5_seekBest 0 = .ok (.aload_n 0, 1) := by decide +kernel
theorem dX5_seekBest_1 : decode cX5_seekBest 1 = .ok (.getfield 28, 3) := by decide +kernel
theorem dX5_seekBest_4 : decode cX5_seekBest 4 = .ok (.iconst (-1), 1) := by decide +kernel
theorem dX5_seekBest_5 : decode cX5_seekBest 5 = .ok (.iconst (-1), 1) := by decide +kernel
theorem dX5_seekBest_6 : decode cX5_seekBest 6 = .ok (.iconst (-1), 1) := by decide +kernel
theorem dX5_seekBest_7 : decode cX5_seekBest 7 = .ok (.iconst (-1), 1) := by decide +kernel
theorem dX5_seekBest_8 : decode cX5_seekBest 8 = .ok (.invokevirtual 100, 3) := by decide +kernel
theorem dX5_seekBest_11 : decode cX5_seekBest 11 = .ok (.iload_n 1, 1) := by decide +kernel
theorem dX5_seekBest_12 : decode cX5_seekBest 12 = .ok (.iload_n 2, 1) := by decide +kernel
theorem dX5_seekBest_13 : decode cX5_seekBest 13 = .ok (.invokestatic 104, 3) := by decide +kernel
theorem dX5_seekBest_16 : decode cX5_seekBest 16 = .ok (.istore_n 3, 1) := by decide +kernel
theorem dX5_seekBest_17 : decode cX5_seekBest 17 = .ok (.iload_n 1, 1) := by decide +kernel
theorem dX5_seekBest_18 : decode cX5_seekBest 18 = .ok (.iload_n 2, 1) := by decide +kernel
theorem dX5_seekBest_19 : decode cX5_seekBest 19 = .ok (.invokestatic 109, 3) := by decide +kernel
theorem dX5_seekBest_22 : decode cX5_seekBest 22 = .ok (.istore 4, 2) := by decide +kernel
theorem dX5_seekBest_24 : decode cX5_seekBest 24 = .ok (.aload_n 0, 1) := by decide +kernel
theorem dX5_seekBest_25 : decode cX5_seekBest 25 = .ok (.getfield 21, 3) := by decide +kernel
theorem dX5_seekBest_28 : decode cX5_seekBest 28 = .ok (.iload_n 3, 1) := by decide +kernel
theorem dX5_seekBest_29 : decode cX5_seekBest 29 = .ok (.invokevirtual 49, 3) := by decide +kernel
theorem dX5_seekBest_32 : decode cX5_seekBest 32 = .ok (.ifCond .eq 15, 3) := by decide +kernel
theorem dX5_seekBest_35 : decode cX5_seekBest 35 = .ok (.aload_n 0, 1) := by decide +kernel
theorem dX5_seekBest_36 : decode cX5_seekBest 36 = .ok (.getfield 21, 3) := by decide +kernel
theorem dX5_seekBest_39 : decode cX5_seekBest 39 = .ok (.iload 4, 2) := by decide +kernel
theorem dX5_seekBest_41 : decode cX5_seekBest 41 = .ok (.invokevirtual 49, 3) := by decide +kernel
theorem dX5_seekBest_44 : decode cX5_seekBest 44 = .ok (.ifCond .ne 5, 3) := by decide +kernel
theorem dX5_seekBest_47 : decode cX5_seekBest 47 = .ok (.iconst 0, 1) := by decide +kernel
theorem dX5_seekBest_48 : decode cX5_seekBest 48 = .ok (.ireturn, 1) := by decide +kernel
theorem dX5_seekBest_49 : decode cX5_seekBest 49 = .ok (.iload_n 3, 1) := by decide +kernel
theorem dX5_seekBest_50 : decode cX5_seekBest 50 = .ok (.iload 4, 2) := by decide +kernel
theorem dX5_seekBest_52 : decode cX5_seekBest 52 = .ok (.if_icmp .ne 18, 3) := by decide +kernel
theorem dX5_seekBest_55 : decode cX5_seekBest 55 = .ok (.aload_n 0, 1) := by decide +kernel
theorem dX5_seekBest_56 : decode cX5_seekBest 56 = .ok (.iload_n 3, 1) := by decide +kernel
theorem dX5_seekBest_57 : decode cX5_seekBest 57 = .ok (.iconst (-1), 1) := by decide +kernel
theorem dX5_seekBest_58 : decode cX5_seekBest 58 = .ok (.invokevirtual 112, 3) := by decide +kernel
theorem dX5_seekBest_61 : decode cX5_seekBest 61 = .ok (.aload_n 0, 1) := by decide +kernel
theorem dX5_seekBest_62 : decode cX5_seekBest 62 = .ok (.iconst (-1), 1) := by decide +kernel
theorem dX5_seekBest_63 : decode cX5_seekBest 63 = .ok (.iload_n 3, 1) := by decide +kernel
theorem dX5_seekBest_64 : decode cX5_seekBest 64 = .ok (.invokevirtual 112, 3) := by decide +kernel
theorem dX5_seekBest_67 : decode cX5_seekBest 67 = .ok (.goto 42, 3) := by decide +kernel
theorem dX5_seekBest_70 : decode cX5_seekBest 70 = .ok (.aload_n 0, 1) := by decide +kernel
theorem dX5_seekBest_71 : decode cX5_seekBest 71 = .ok (.getfield 21, 3) := by decide +kernel
theorem dX5_seekBest_74 : decode cX5_seekBest 74 = .ok (.getfield 57, 3) := by decide +kernel
theorem dX5_seekBest_77 : decode cX5_seekBest 77 = .ok (.iload_n 3, 1) := by decide +kernel
theorem dX5_seekBest_78 : decode cX5_seekBest 78 = .ok (.aaload, 1) := by decide +kernel
theorem dX5_seekBest_79 : decode cX5_seekBest 79 = .ok (.aload_n 0, 1) := by decide +kernel
theorem dX5_seekBest_80 : decode cX5_seekBest 80 = .ok (.getfield 21, 3) := by decide +kernel
theorem dX5_seekBest_83 : decode cX5_seekBest 83 = .ok (.getfield 57, 3) := by decide +kernel
theorem dX5_seekBest_86 : decode cX5_seekBest 86 = .ok (.iload 4, 2) := by decide +kernel
theorem dX5_seekBest_88 : decode cX5_seekBest 88 = .ok (.aaload, 1) := by decide +kernel
theorem dX5_seekBest_89 : decode cX5_seekBest 89 = .ok (.invokevirtual 116, 3) := by decide +kernel
theorem dX5_seekBest_92 : decode cX5_seekBest 92 = .ok (.ifCond .eq 17, 3) := by decide +kernel
theorem dX5_seekBest_95 : decode cX5_seekBest 95 = .ok (.aload_n 0, 1) := by decide +kernel
theorem dX5_seekBest_96 : decode cX5_seekBest 96 = .ok (.iload_n 3, 1) := by decide +kernel
theorem dX5_seekBest_97 : decode cX5_seekBest 97 = .ok (.iload 4, 2) := by decide +kernel
theorem dX5_seekBest_99 : decode cX5_seekBest 99 = .ok (.invokevirtual 112, 3) := by decide +kernel
theorem dX5_seekBest_102 : decode cX5_seekBest 102 = .ok (.aload_n 0, 1) := by decide +kernel
theorem dX5_seekBest_103 : decode cX5_seekBest 103 = .ok (.iload 4, 2) := by decide +kernel
theorem dX5_seekBest_105 : decode cX5_seekBest 105 = .ok (.iload_n 3, 1) := by decide +kernel
theorem dX5_seekBest_106 : decode cX5_seekBest 106 = .ok (.invokevirtual 112, 3) := by decide +kernel
theorem dX5_seekBest_109 : decode cX5_seekBest 109 = .ok (.aload_n 0, 1) := by decide +kernel
theorem dX5_seekBest_110 : decode cX5_seekBest 110 = .ok (.getfield 28, 3) := by decide +kernel
theorem dX5_seekBest_113 : decode cX5_seekBest 113 = .ok (.getfield 120, 3) := by decide +kernel
theorem dX5_seekBest_116 : decode cX5_seekBest 116 = .ok (.iconst (-1), 1) := by decide +kernel
theorem dX5_seekBest_117 : decode cX5_seekBest 117 = .ok (.if_icmp .eq 7, 3) := by decide +kernel
theorem dX5_seekBest_120 : decode cX5_seekBest 120 = .ok (.iconst 1, 1) := by decide +kernel
theorem dX5_seekBest_121 : decode cX5_seekBest 121 = .ok (.goto 4, 3) := by decide +kernel
theorem dX5_seekBest_124 : decode cX5_seekBest 124 = .ok (.iconst 0, 1) := by decide +kernel
theorem dX5_seekBest_125 : decode cX5_seekBest 125 = .ok (.ireturn, 1) := by decide +kernel
theorem dX5_tryWay_0 : decode cX5_tryWay 0 = .ok (.aload_n 0, 1) := by decide +kernel
theorem dX5_tryWay_1 : decode cX5_tryWay 1 = .ok (.iload_n 1, 1) := by decide +kernel
theorem dX5_tryWay_2 : decode cX5_tryWay 2 = .ok (.iconst 0, 1) := by decide +kernel
theorem dX5_tryWay_3 : decode cX5_tryWay 3 = .ok (.invokevirtual 123, 3) := by decide +kernel
theorem dX5_tryWay_6 : decode cX5_tryWay 6 = .ok (.ifCond .eq 12, 3) := by decide +kernel
theorem dX5_tryWay_9 : decode cX5_tryWay 9 = .ok (.aload_n 0, 1) := by decide +kernel
theorem dX5_tryWay_10 : decode cX5_tryWay 10 = .ok (.iload_n 2, 1) := by decide +kernel
theorem dX5_tryWay_11 : decode cX5_tryWay 11 = .ok (.iconst 1, 1) := by decide +kernel
theorem dX5_tryWay_12 : decode cX5_tryWay 12 = .ok (.invokevirtual 123, 3) := by decide +kernel
theorem dX5_tryWay_15 : decode cX5_tryWay 15 = .ok (.ifCond .ne 4, 3) := by decide +kernel
theorem dX5_tryWay_18 : decode cX5_tryWay 18 = .ok (.return_, 1) := by decide +kernel
theorem dX5_tryWay_19 : decode cX5_tryWay 19 = .ok (.aload_n 0, 1) := by decide +kernel
theorem dX5_tryWay_20 : decode cX5_tryWay 20 = .ok (.iload_n 1, 1) := by decide +kernel
theorem dX5_tryWay_21 : decode cX5_tryWay 21 = .ok (.iconst 0, 1) := by decide +kernel
theorem dX5_tryWay_22 : decode cX5_tryWay 22 = .ok (.invokevirtual 53, 3) := by decide +kernel
theorem dX5_tryWay_25 : decode cX5_tryWay 25 = .ok (.astore_n 3, 1) := by decide +kernel
theorem dX5_tryWay_26 : decode cX5_tryWay 26 = .ok (.aload_n 0, 1) := by decide +kernel
theorem dX5_tryWay_27 : decode cX5_tryWay 27 = .ok (.iload_n 2, 1) := by decide +kernel
theorem dX5_tryWay_28 : decode cX5_tryWay 28 = .ok (.iconst 1, 1) := by decide +kernel
theorem dX5_tryWay_29 : decode cX5_tryWay 29 = .ok (.invokevirtual 53, 3) := by decide +kernel
theorem dX5_tryWay_32 : decode cX5_tryWay 32 = .ok (.astore 4, 2) := by decide +kernel
