theorem dX5_tryWay_34 : decode cX5_tryWay 34 = .ok (.aload_n 0, 1) := by decide +kernel
theorem dX5_tryWay_35 : decode cX5_tryWay 35 = .ok (.getfield 12, 3) := by decide +kernel
theorem dX5_tryWay_38 : decode cX5_tryWay 38 = .ok (.invokevirtual 85, 3) := by decide +kernel
theorem dX5_tryWay_41 : decode cX5_tryWay 41 = .ok (.istore 5, 2) := by decide +kernel
theorem dX5_tryWay_43 : decode cX5_tryWay 43 = .ok (.iconst 0, 1) := by decide +kernel
theorem dX5_tryWay_44 : decode cX5_tryWay 44 = .ok (.istore 6, 2) := by decide +kernel
theorem dX5_tryWay_46 : decode cX5_tryWay 46 = .ok (.iload 6, 2) := by decide +kernel
theorem dX5_tryWay_48 : decode cX5_tryWay 48 = .ok (.iload 5, 2) := by decide +kernel
theorem dX5_tryWay_50 : decode cX5_tryWay 50 = .ok (.if_icmp .ge 65, 3) := by decide +kernel
theorem dX5_tryWay_53 : decode cX5_tryWay 53 = .ok (.iload 6, 2) := by decide +kernel
theorem dX5_tryWay_55 : decode cX5_tryWay 55 = .ok (.sipush 129, 3) := by decide +kernel
theorem dX5_tryWay_58 : decode cX5_tryWay 58 = .ok (.if_icmp .ge 57, 3) := by decide +kernel
theorem dX5_tryWay_61 : decode cX5_tryWay 61 = .ok (.aload_n 3, 1) := by decide +kernel
theorem dX5_tryWay_62 : decode cX5_tryWay 62 = .ok (.iload 6, 2) := by decide +kernel
theorem dX5_tryWay_64 : decode cX5_tryWay 64 = .ok (.iaload, 1) := by decide +kernel
theorem dX5_tryWay_65 : decode cX5_tryWay 65 = .ok (.aload 4, 2) := by decide +kernel
theorem dX5_tryWay_67 : decode cX5_tryWay 67 = .ok (.iload 6, 2) := by decide +kernel
theorem dX5_tryWay_69 : decode cX5_tryWay 69 = .ok (.iaload, 1) := by decide +kernel
theorem dX5_tryWay_70 : decode cX5_tryWay 70 = .ok (.iadd, 1) := by decide +kernel
theorem dX5_tryWay_71 : decode cX5_tryWay 71 = .ok (.istore 7, 2) := by decide +kernel
theorem dX5_tryWay_73 : decode cX5_tryWay 73 = .ok (.aload_n 0, 1) := by decide +kernel
theorem dX5_tryWay_74 : decode cX5_tryWay 74 = .ok (.getfield 28, 3) := by decide +kernel
theorem dX5_tryWay_77 : decode cX5_tryWay 77 = .ok (.getfield 120, 3) := by decide +kernel
theorem dX5_tryWay_80 : decode cX5_tryWay 80 = .ok (.iconst (-1), 1) := by decide +kernel
theorem dX5_tryWay_81 : decode cX5_tryWay 81 = .ok (.if_icmp .eq 15, 3) := by decide +kernel
theorem dX5_tryWay_84 : decode cX5_tryWay 84 = .ok (.iload 7, 2) := by decide +kernel
theorem dX5_tryWay_86 : decode cX5_tryWay 86 = .ok (.aload_n 0, 1) := by decide +kernel
theorem dX5_tryWay_87 : decode cX5_tryWay 87 = .ok (.getfield 28, 3) := by decide +kernel
theorem dX5_tryWay_90 : decode cX5_tryWay 90 = .ok (.getfield 120, 3) := by decide +kernel
theorem dX5_tryWay_93 : decode cX5_tryWay 93 = .ok (.if_icmp .ge 16, 3) := by decide +kernel
theorem dX5_tryWay_96 : decode cX5_tryWay 96 = .ok (.aload_n 0, 1) := by decide +kernel
theorem dX5_tryWay_97 : decode cX5_tryWay 97 = .ok (.getfield 28, 3) := by decide +kernel
theorem dX5_tryWay_100 : decode cX5_tryWay 100 = .ok (.iload_n 1, 1) := by decide +kernel
theorem dX5_tryWay_101 : decode cX5_tryWay 101 = .ok (.iload_n 2, 1) := by decide +kernel
theorem dX5_tryWay_102 : decode cX5_tryWay 102 = .ok (.iload 6, 2) := by decide +kernel
theorem dX5_tryWay_104 : decode cX5_tryWay 104 = .ok (.iload 7, 2) := by decide +kernel
theorem dX5_tryWay_106 : decode cX5_tryWay 106 = .ok (.invokevirtual 100, 3) := by decide +kernel
theorem dX5_tryWay_109 : decode cX5_tryWay 109 = .ok (.iinc 6 1, 3) := by decide +kernel
theorem dX5_tryWay_112 : decode cX5_tryWay 112 = .ok (.goto (-66), 3) := by decide +kernel
theorem dX5_tryWay_115 : decode cX5_tryWay 115 = .ok (.return_, 1) := by decide +kernel
theorem dX5_mayLie_0 : decode cX5_mayLie 0 = .ok (.aload_n 0, 1) := by decide +kernel
theorem dX5_mayLie_1 : decode cX5_mayLie 1 = .ok (.getfield 21, 3) := by decide +kernel
theorem dX5_mayLie_4 : decode cX5_mayLie 4 = .ok (.iload_n 1, 1) := by decide +kernel
theorem dX5_mayLie_5 : decode cX5_mayLie 5 = .ok (.invokevirtual 49, 3) := by decide +kernel
theorem dX5_mayLie_8 : decode cX5_mayLie 8 = .ok (.ifCond .eq 19, 3) := by decide +kernel
theorem dX5_mayLie_11 : decode cX5_mayLie 11 = .ok (.aload_n 0, 1) := by decide +kernel
theorem dX5_mayLie_12 : decode cX5_mayLie 12 = .ok (.getfield 21, 3) := by decide +kernel
theorem dX5_mayLie_15 : decode cX5_mayLie 15 = .ok (.getfield 57, 3) := by decide +kernel
theorem dX5_mayLie_18 : decode cX5_mayLie 18 = .ok (.iload_n 1, 1) := by decide +kernel
theorem dX5_mayLie_19 : decode cX5_mayLie 19 = .ok (.aaload, 1) := by decide +kernel
theorem dX5_mayLie_20 : decode cX5_mayLie 20 = .ok (.iload_n 2, 1) := by decide +kernel
theorem dX5_mayLie_21 : decode cX5_mayLie 21 = .ok (.invokevirtual 126, 3) := by decide +kernel
theorem dX5_mayLie_24 : decode cX5_mayLie 24 = .ok (.ifCond .eq 7, 3) := by decide +kernel
theorem dX5_mayLie_27 : decode cX5_mayLie 27 = .ok (.iconst 1, 1) := by decide +kernel
theorem dX5_mayLie_28 : decode cX5_mayLie 28 = .ok (.goto 4, 3) := by decide +kernel
theorem dX5_mayLie_31 : decode cX5_mayLie 31 = .ok (.iconst 0, 1) := by decide +kernel
theorem dX5_mayLie_32 : decode cX5_mayLie 32 = .ok (.ireturn, 1) := by decide +kernel
theorem dX5_copyFoundTo_0 : decode cX5_copyFoundTo 0 = .ok (.aload_n 1, 1) := by decide +kernel
theorem dX5_copyFoundTo_1 : decode cX5_copyFoundTo 1 = .ok (.aload_n 0, 1) := by decide +kernel
theorem dX5_copyFoundTo_2 : decode cX5_copyFoundTo 2 = .ok (.getfield 28, 3) := by decide +kernel
theorem dX5_copyFoundTo_5 : decode cX5_copyFoundTo 5 = .ok (.getfield 129, 3) := by decide +kernel
theorem dX5_copyFoundTo_8 : decode cX5_copyFoundTo 8 = .ok (.aload_n 0, 1) := by decide +kernel
theorem dX5_copyFoundTo_9 : decode cX5_copyFoundTo 9 = .ok (.getfield 28, 3) := by decide +kernel
theorem dX5_copyFoundTo_12 : decode cX5_copyFoundTo 12 = .ok (.getfield 132, 3) := by decide +kernel
theorem dX5_copyFoundTo_15 : decode cX5_copyFoundTo 15 = .ok (.aload_n 0, 1) := by decide +kernel
theorem dX5_copyFoundTo_16 : decode cX5_copyFoundTo 16 = .ok (.getfield 28, 3) := by decide +kernel
theorem dX5_copyFoundTo_19 : decode cX5_copyFoundTo 19 = .ok (.getfield 135, 3) := by decide +kernel
theorem dX5_copyFoundTo_22 : decode cX5_copyFoundTo 22 = .ok (.aload_n 0, 1) := by decide +kernel
theorem dX5_copyFoundTo_23 : decode cX5_copyFoundTo 23 = .ok (.getfield 28, 3) := by decide +kernel
theorem dX5_copyFoundTo_26 : decode cX5_copyFoundTo 26 = .ok (.getfield 120, 3) := by decide +kernel
theorem dX5_copyFoundTo_29 : decode cX5_copyFoundTo 29 = .ok (.invokevirtual 100, 3) := by decide +kernel
theorem dX5_copyFoundTo_32 : decode cX5_copyFoundTo 32 = .ok (.aload_n 1, 1) := by decide +kernel
theorem dX5_copyFoundTo_33 : decode cX5_copyFoundTo 33 = .ok (.aload_n 0, 1) := by decide +kernel
theorem dX5_copyFoundTo_34 : decode cX5_copyFoundTo 34 = .ok (.getfield 12, 3) := by decide +kernel
theorem dX5_copyFoundTo_37 : decode cX5_copyFoundTo 37 = .ok (.invokevirtual 85, 3) := by decide +kernel
theorem dX5_copyFoundTo_40 : decode cX5_copyFoundTo 40 = .ok (.putfield 138, 3) := by decide +kernel
theorem dX5_copyFoundTo_43 : decode cX5_copyFoundTo 43 = .ok (.aload_n 1, 1) := by decide +kernel
theorem dX5_copyFoundTo_44 : decode cX5_copyFoundTo 44 = .ok (.aload_n 0, 1) := by decide +kernel
theorem dX5_copyFoundTo_45 : decode cX5_copyFoundTo 45 = .ok (.aload_n 1, 1) := by decide +kernel
theorem dX5_copyFoundTo_46 : decode cX5_copyFoundTo 46 = .ok (.invokevirtual 140, 3) := by decide +kernel
theorem dX5_copyFoundTo_49 : decode cX5_copyFoundTo 49 = .ok (.putfield 144, 3) := by decide +kernel
theorem dX5_copyFoundTo_52 : decode cX5_copyFoundTo 52 = .ok (.aload_n 1, 1) := by decide +kernel
theorem dX5_copyFoundTo_53 : decode cX5_copyFoundTo 53 = .ok (.getfield 129, 3) := by decide +kernel
theorem dX5_copyFoundTo_56 : decode cX5_copyFoundTo 56 = .ok (.aload_n 1, 1) := by decide +kernel
theorem dX5_copyFoundTo_57 : decode cX5_copyFoundTo 57 = .ok (.getfield 132, 3) := by decide +kernel
theorem dX5_copyFoundTo_60 : decode cX5_copyFoundTo 60 = .ok (.invokestatic 109, 3) := by decide +kernel
theorem dX5_copyFoundTo_63 : decode cX5_copyFoundTo 63 = .ok (.istore_n 2, 1) := by decide +kernel
theorem dX5_copyFoundTo_64 : decode cX5_copyFoundTo 64 = .ok (.aload_n 1, 1) := by decide +kernel
theorem dX5_copyFoundTo_65 : decode cX5_copyFoundTo 65 = .ok (.aload_n 0, 1) := by decide +kernel
theorem dX5_copyFoundTo_66 : decode cX5_copyFoundTo 66 = .ok (.getfield 21, 3) := by decide +kernel
theorem dX5_copyFoundTo_69 : decode cX5_copyFoundTo 69 = .ok (.iload_n 2, 1) := by decide +kernel
theorem dX5_copyFoundTo_70 : decode cX5_copyFoundTo 70 = .ok (.invokevirtual 49, 3) := by decide +kernel
theorem dX5_copyFoundTo_73 : decode cX5_copyFoundTo 73 = .ok (.ifCond .eq 18, 3) := by decide +kernel
theorem dX5_copyFoundTo_76 : decode cX5_copyFoundTo 76 = .ok (.aload_n 0, 1) := by decide +kernel
theorem dX5_copyFoundTo_77 : decode cX5_copyFoundTo 77 = .ok (.getfield 21, 3) := by decide +kernel
theorem dX5_copyFoundTo_80 : decode cX5_copyFoundTo 80 = .ok (.getfield 57, 3) := by decide +kernel
theorem dX5_copyFoundTo_83 : decode cX5_copyFoundTo 83 = .ok (.iload_n 2, 1) := by decide +kernel
theorem dX5_copyFoundTo_84 : decode cX5_copyFoundTo 84 = .ok (.aaload, 1) := by decide +kernel
theorem dX5_copyFoundTo_85 : decode cX5_copyFoundTo 85 = .ok (.getfield 147, 3) := by decide +kernel
theorem dX5_copyFoundTo_88 : decode cX5_copyFoundTo 88 = .ok (.goto 4, 3) := by decide +kernel
theorem dX5_copyFoundTo_91 : decode cX5_copyFoundTo 91 = .ok (.iconst 0, 1) := by decide +kernel
theorem dX5_copyFoundTo_92 : decode cX5_copyFoundTo 92 = .ok (.putfield 150, 3) := by decide +kernel
theorem dX5_copyFoundTo_95 : decode cX5_copyFoundTo 95 = .ok (.return_, 1) := by decide +kernel
theorem dX5_placesUpTo_0 : decode cX5_placesUpTo 0 = .ok (.aload_n 0, 1) := by decide +kernel
theorem dX5_placesUpTo_1 : decode cX5_placesUpTo 1 = .ok (.aload_n 1, 1) := by decide +kernel
theorem dX5_placesUpTo_2 : decode cX5_placesUpTo 2 = .ok (.getfield 129, 3) := by decide +kernel
theorem dX5_placesUpTo_5 : decode cX5_placesUpTo 5 = .ok (.iconst 0, 1) := by decide +kernel
theorem dX5_placesUpTo_6 : decode cX5_placesUpTo 6 = .ok (.invokevirtual 53, 3) := by decide +kernel
theorem dX5_placesUpTo_9 : decode cX5_placesUpTo 9 = .ok (.astore_n 2, 1) := by decide +kernel
theorem dX5_placesUpTo_10 : decode cX5_placesUpTo 10 = .ok (.aload_n 0, 1) := by decide +kernel
theorem dX5_placesUpTo_11 : decode cX5_placesUpTo 11 = .ok (.aload_n 1, 1) := by decide +kernel
theorem dX5_placesUpTo_12 : decode cX5_placesUpTo 12 = .ok (.getfield 132, 3) := by decide +kernel
theorem dX5_placesUpTo_15 : decode cX5_placesUpTo 15 = .ok (.iconst 1, 1) := by decide +kernel
theorem dX5_placesUpTo_16 : decode cX5_placesUpTo 16 = .ok (.invokevirtual 53, 3) := by decide +kernel
theorem dX5_placesUpTo_19 : decode cX5_placesUpTo 19 = .ok (.astore_n 3, 1) := by decide +kernel
theorem dX5_placesUpTo_20 : decode cX5_placesUpTo 20 = .ok (.iconst 0, 1) := by decide +kernel
theorem dX5_placesUpTo_21 : decode cX5_placesUpTo 21 = .ok (.istore 4, 2) := by decide +kernel
theorem dX5_placesUpTo_23 : decode cX5_placesUpTo 23 = .ok (.iconst 0, 1) := by decide +kernel
theorem dX5_placesUpTo_24 : decode cX5_placesUpTo 24 = .ok (.istore 5, 2) := by decide +kernel
theorem dX5_placesUpTo_26 : decode cX5_placesUpTo 26 = .ok (.iload 5, 2) := by decide +kernel
theorem dX5_placesUpTo_28 : decode cX5_placesUpTo 28 = .ok (.aload_n 1, 1) := by decide +kernel
theorem dX5_placesUpTo_29 : decode cX5_placesUpTo 29 = .ok (.getfield 138, 3) := by decide +kernel
theorem dX5_placesUpTo_32 : decode cX5_placesUpTo 32 = .ok (.if_icmp .ge 43, 3) := by decide +kernel
theorem dX5_placesUpTo_35 : decode cX5_placesUpTo 35 = .ok (.iload 5, 2) := by decide +kernel
theorem dX5_placesUpTo_37 : decode cX5_placesUpTo 37 = .ok (.sipush 129, 3) := by decide +kernel
theorem dX5_placesUpTo_40 : decode cX5_placesUpTo 40 = .ok (.if_icmp .ge 35, 3) := by decide +kernel
theorem dX5_placesUpTo_43 : decode cX5_placesUpTo 43 = .ok (.iload 4, 2) := by decide +kernel
theorem dX5_placesUpTo_45 : decode cX5_placesUpTo 45 = .ok (.aload_n 2, 1) := by decide +kernel
theorem dX5_placesUpTo_46 : decode cX5_placesUpTo 46 = .ok (.iload 5, 2) := by decide +kernel
theorem dX5_placesUpTo_48 : decode cX5_placesUpTo 48 = .ok (.iaload, 1) := by decide +kernel
theorem dX5_placesUpTo_49 : decode cX5_placesUpTo 49 = .ok (.aload_n 3, 1) := by decide +kernel
theorem dX5_placesUpTo_50 : decode cX5_placesUpTo 50 = .ok (.iload 5, 2) := by decide +kernel
theorem dX5_placesUpTo_52 : decode cX5_placesUpTo 52 = .ok (.iaload, 1) := by decide +kernel
theorem dX5_placesUpTo_53 : decode cX5_placesUpTo 53 = .ok (.iadd, 1) := by decide +kernel
theorem dX5_placesUpTo_54 : decode cX5_placesUpTo 54 = .ok (.aload_n 1, 1) := by decide +kernel
theorem dX5_placesUpTo_55 : decode cX5_placesUpTo 55 = .ok (.getfield 120, 3) := by decide +kernel
theorem dX5_placesUpTo_58 : decode cX5_placesUpTo 58 = .ok (.if_icmp .gt 7, 3) := by decide +kernel
theorem dX5_placesUpTo_61 : decode cX5_placesUpTo 61 = .ok (.iconst 1, 1) := by decide +kernel
theorem dX5_placesUpTo_62 : decode cX5_placesUpTo 62 = .ok (.goto 4, 3) := by decide +kernel
theorem dX5_placesUpTo_65 : decode cX5_placesUpTo 65 = .ok (.iconst 0, 1) := by decide +kernel
theorem dX5_placesUpTo_66 : decode cX5_placesUpTo 66 = .ok (.iadd, 1) := by decide +kernel
theorem dX5_placesUpTo_67 : decode cX5_placesUpTo 67 = .ok (.istore 4, 2) := by decide +kernel
theorem dX5_placesUpTo_69 : decode cX5_placesUpTo 69 = .ok (.iinc 5 1, 3) := by decide +kernel
theorem dX5_placesUpTo_72 : decode cX5_placesUpTo 72 = .ok (.goto (-46), 3) := by decide +kernel
theorem dX5_placesUpTo_75 : decode cX5_placesUpTo 75 = .ok (.iload 4, 2) := by decide +kernel
theorem dX5_placesUpTo_77 : decode cX5_placesUpTo 77 = .ok (.ireturn, 1) := by decide +kernel
theorem dX6_init_0 : decode cX6_init 0 = .ok (.aload_n 0, 1) := by decide +kernel
theorem dX6_init_1 : decode cX6_init 1 = .ok (.invokespecial 3, 3) := by decide +kernel
theorem dX6_init_4 : decode cX6_init 4 = .ok (.aload_n 0, 1) := by decide +kernel
theorem dX6_init_5 : decode cX6_init 5 = .ok (.sipush 400, 3) := by decide +kernel
theorem dX6_init_8 : decode cX6_init 8 = .ok (.newarray .int, 2) := by decide +kernel
theorem dX6_init_10 : decode cX6_init 10 = .ok (.putfield 9, 3) := by decide +kernel
theorem dX6_init_13 : decode cX6_init 13 = .ok (.aload_n 0, 1) := by decide +kernel
theorem dX6_init_14 : decode cX6_init 14 = .ok (.iconst 0, 1) := by decide +kernel
theorem dX6_init_15 : decode cX6_init 15 = .ok (.putfield 15, 3) := by decide +kernel
theorem dX6_init_18 : decode cX6_init 18 = .ok (.return_, 1) := by decide +kernel
theorem dX6_put_0 : decode cX6_put 0 = .ok (.aload_n 0, 1) := by decide +kernel
theorem dX6_put_1 : decode cX6_put 1 = .ok (.getfield 15, 3) := by decide +kernel
theorem dX6_put_4 : decode cX6_put 4 = .ok (.iconst 4, 1) := by decide +kernel
theorem dX6_put_5 : decode cX6_put 5 = .ok (.iadd, 1) := by decide +kernel
theorem dX6_put_6 : decode cX6_put 6 = .ok (.sipush 400, 3) := by decide +kernel
theorem dX6_put_9 : decode cX6_put 9 = .ok (.if_icmp .le 4, 3) := by decide +kernel
theorem dX6_put_12 : decode cX6_put 12 = .ok (.return_, 1) := by decide +kernel
theorem dX6_put_13 : decode cX6_put 13 = .ok (.bipush 24, 2) := by decide +kernel
theorem dX6_put_15 : decode cX6_put 15 = .ok (.istore_n 2, 1) := by decide +kernel
theorem dX6_put_16 : decode cX6_put 16 = .ok (.iload_n 2, 1) := by decide +kernel
theorem dX6_put_17 : decode cX6_put 17 = .ok (.ifCond .lt 35, 3) := by decide +kernel
theorem dX6_put_20 : decode cX6_put 20 = .ok (.aload_n 0, 1) := by decide +kernel
theorem dX6_put_21 : decode cX6_put 21 = .ok (.getfield 9, 3) := by decide +kernel
theorem dX6_put_24 : decode cX6_put 24 = .ok (.aload_n 0, 1) := by decide +kernel
theorem dX6_put_25 : decode cX6_put 25 = .ok (.getfield 15, 3) := by decide +kernel
theorem dX6_put_28 : decode cX6_put 28 = .ok (.iload_n 1, 1) := by decide +kernel
theorem dX6_put_29 : decode cX6_put 29 = .ok (.iload_n 2, 1) := by decide +kernel
theorem dX6_put_30 : decode cX6_put 30 = .ok (.iushr, 1) := by decide +kernel
theorem dX6_put_31 : decode cX6_put 31 = .ok (.sipush 255, 3) := by decide +kernel
theorem dX6_put_34 : decode cX6_put 34 = .ok (.iand, 1) := by decide +kernel
theorem dX6_put_35 : decode cX6_put 35 = .ok (.iastore, 1) := by decide +kernel
theorem dX6_put_36 : decode cX6_put 36 = .ok (.aload_n 0, 1) := by decide +kernel
theorem dX6_put_37 : decode cX6_put 37 = .ok (.dup, 1) := by decide +kernel
theorem dX6_put_38 : decode cX6_put 38 = .ok (.getfield 15, 3) := by decide +kernel
theorem dX6_put_41 : decode cX6_put 41 = .ok (.iconst 1, 1) := by decide +kernel
theorem dX6_put_42 : decode cX6_put 42 = .ok (.iadd, 1) := by decide +kernel
theorem dX6_put_43 : decode cX6_put 43 = .ok (.putfield 15, 3) := by decide +kernel
theorem dX6_put_46 : decode cX6_put 46 = .ok (.iinc 2 (-8), 3) := by decide +kernel
theorem dX6_put_49 : decode cX6_put 49 = .ok (.goto (-33), 3) := by decide +kernel
theorem dX6_put_52 : decode cX6_put 52 = .ok (.return_, 1) := by decide +kernel
theorem dX6_byteAt_0 : decode cX6_byteAt 0 = .ok (.iload_n 1, 1) := by decide +kernel
theorem dX6_byteAt_1 : decode cX6_byteAt 1 = .ok (.ifCond .lt 20, 3) := by decide +kernel
theorem dX6_byteAt_4 : decode cX6_byteAt 4 = .ok (.iload_n 1, 1) := by decide +kernel
theorem dX6_byteAt_5 : decode cX6_byteAt 5 = .ok (.aload_n 0, 1) := by decide +kernel
theorem dX6_byteAt_6 : decode cX6_byteAt 6 = .ok (.getfield 15, 3) := by decide +kernel
theorem dX6_byteAt_9 : decode cX6_byteAt 9 = .ok (.if_icmp .ge 12, 3) := by decide +kernel
theorem dX6_byteAt_12 : decode cX6_byteAt 12 = .ok (.aload_n 0, 1) := by decide +kernel
theorem dX6_byteAt_13 : decode cX6_byteAt 13 = .ok (.getfield 9, 3) := by decide +kernel
theorem dX6_byteAt_16 : decode cX6_byteAt 16 = .ok (.iload_n 1, 1) := by decide +kernel
theorem dX6_byteAt_17 : decode cX6_byteAt 17 = .ok (.iaload, 1) := by decide +kernel
theorem dX6_byteAt_18 : decode cX6_byteAt 18 = .ok (.goto 4, 3) := by decide +kernel
theorem dX6_byteAt_21 : decode cX6_byteAt 21 = .ok (.iconst (-1), 1) := by decide +kernel
theorem dX6_byteAt_22 : decode cX6_byteAt 22 = .ok (.ireturn, 1) := by decide +kernel
theorem dX7_init_0 : decode cX7_init 0 = .ok (.aload_n 0, 1) := by decide +kernel
theorem dX7_init_1 : decode cX7_init 1 = .ok (.invokespecial 3, 3) := by decide +kernel
theorem dX7_init_4 : decode cX7_init 4 = .ok (.aload_n 0, 1) := by decide +kernel
theorem dX7_init_5 : decode cX7_init 5 = .ok (.sipush 160, 3) := by decide +kernel
theorem dX7_init_8 : decode cX7_init 8 = .ok (.newarray .int, 2) := by decide +kernel
theorem dX7_init_10 : decode cX7_init 10 = .ok (.putfield 9, 3) := by decide +kernel
theorem dX7_init_13 : decode cX7_init 13 = .ok (.aload_n 0, 1) := by decide +kernel
theorem dX7_init_14 : decode cX7_init 14 = .ok (.iconst 0, 1) := by decide +kernel
theorem dX7_init_15 : decode cX7_init 15 = .ok (.putfield 15, 3) := by decide +kernel
theorem dX7_init_18 : decode cX7_init 18 = .ok (.aload_n 0, 1) := by decide +kernel
theorem dX7_init_19 : decode cX7_init 19 = .ok (.iconst 0, 1) := by decide +kernel
theorem dX7_init_20 : decode cX7_init 20 = .ok (.putfield 19, 3) := by decide +kernel
theorem dX7_init_23 : decode cX7_init 23 = .ok (.aload_n 0, 1) := by decide +kernel
theorem dX7_init_24 : decode cX7_init 24 = .ok (.iconst (-1), 1) := by decide +kernel
theorem dX7_init_25 : decode cX7_init 25 = .ok (.putfield 22, 3) := by decide +kernel
theorem dX7_init_28 : decode cX7_init 28 = .ok (.return_, 1) := by decide +kernel
theorem dX7_read_0 : decode cX7_read 0 = .ok (.aload_n 0, 1) := by decide +kernel
theorem dX7_read_1 : decode cX7_read 1 = .ok (.aload_n 1, 1) := by decide +kernel
theorem dX7_read_2 : decode cX7_read 2 = .ok (.iload_n 2, 1) := by decide +kernel
theorem dX7_read_3 : decode cX7_read 3 = .ok (.invokevirtual 25, 3) := by decide +kernel
theorem dX7_read_6 : decode cX7_read 6 = .ok (.aload_n 0, 1) := by decide +kernel
theorem dX7_read_7 : decode cX7_read 7 = .ok (.getfield 19, 3) := by decide +kernel
theorem dX7_read_10 : decode cX7_read 10 = .ok (.ifCond .eq 5, 3) := by decide +kernel
theorem dX7_read_13 : decode cX7_read 13 = .ok (.iconst 0, 1) := by decide +kernel
theorem dX7_read_14 : decode cX7_read 14 = .ok (.ireturn, 1) := by decide +kernel
theorem dX7_read_15 : decode cX7_read 15 = .ok (.aload_n 0, 1) := by decide +kernel
theorem dX7_read_16 : decode cX7_read 16 = .ok (.iconst 0, 1) := by decide +kernel
theorem dX7_read_17 : decode cX7_read 17 = .ok (.putfield 15, 3) := by decide +kernel
theorem dX7_read_20 : decode cX7_read 20 = .ok (.iconst 0, 1) := by decide +kernel
theorem dX7_read_21 : decode cX7_read 21 = .ok (.istore_n 3, 1) := by decide +kernel
theorem dX7_read_22 : decode cX7_read 22 = .ok (.iload_n 3, 1) := by decide +kernel
theorem dX7_read_23 : decode cX7_read 23 = .ok (.iload_n 2, 1) := by decide +kernel
theorem dX7_read_24 : decode cX7_read 24 = .ok (.if_icmp .ge 58, 3) := by decide +kernel
theorem dX7_read_27 : decode cX7_read 27 = .ok (.aload_n 1, 1) := by decide +kernel
theorem dX7_read_28 : decode cX7_read 28 = .ok (.iload_n 3, 1) := by decide +kernel
theorem dX7_read_29 : decode cX7_read 29 = .ok (.invokevirtual 29, 3) := by decide +kernel
theorem dX7_read_32 : decode cX7_read 32 = .ok (.istore 4, 2) := by decide +kernel
theorem dX7_read_34 : decode cX7_read 34 = .ok (.iload 4, 2) := by decide +kernel
theorem dX7_read_36 : decode cX7_read 36 = .ok (.invokestatic 35, 3) := by decide +kernel
theorem dX7_read_39 : decode cX7_read 39 = .ok (.ifCond .eq 37, 3) := by decide +kernel
theorem dX7_read_42 : decode cX7_read 42 = .ok (.aload_n 0, 1) := by decide +kernel
theorem dX7_read_43 : decode cX7_read 43 = .ok (.getfield 15, 3) := by decide +kernel
theorem dX7_read_46 : decode cX7_read 46 = .ok (.sipush 160, 3) := by decide +kernel
theorem dX7_read_49 : decode cX7_read 49 = .ok (.if_icmp .ge 27, 3) := by decide +kernel
theorem dX7_read_52 : decode cX7_read 52 = .ok (.aload_n 0, 1) := by decide +kernel
theorem dX7_read_53 : decode cX7_read 53 = .ok (.getfield 9, 3) := by decide +kernel
theorem dX7_read_56 : decode cX7_read 56 = .ok (.aload_n 0, 1) := by decide +kernel
theorem dX7_read_57 : decode cX7_read 57 = .ok (.getfield 15, 3) := by decide +kernel
theorem dX7_read_60 : decode cX7_read 60 = .ok (.iload 4, 2) := by decide +kernel
theorem dX7_read_62 : decode cX7_read 62 = .ok (.bipush 97, 2) := by decide +kernel
theorem dX7_read_64 : decode cX7_read 64 = .ok (.isub, 1) := by decide +kernel
theorem dX7_read_65 : decode cX7_read 65 = .ok (.iastore, 1) := by decide +kernel
theorem dX7_read_66 : decode cX7_read 66 = .ok (.aload_n 0, 1) := by decide +kernel
theorem dX7_read_67 : decode cX7_read 67 = .ok (.dup, 1) := by decide +kernel
theorem dX7_read_68 : decode cX7_read 68 = .ok (.getfield 15, 3) := by decide +kernel
theorem dX7_read_71 : decode cX7_read 71 = .ok (.iconst 1, 1) := by decide +kernel
theorem dX7_read_72 : decode cX7_read 72 = .ok (.iadd, 1) := by decide +kernel
theorem dX7_read_73 : decode cX7_read 73 = .ok (.putfield 15, 3) := by decide +kernel
theorem dX7_read_76 : decode cX7_read 76 = .ok (.iinc 3 1, 3) := by decide +kernel
theorem dX7_read_79 : decode cX7_read 79 = .ok (.goto (-57), 3) := by decide +kernel
theorem dX7_read_82 : decode cX7_read 82 = .ok (.iconst 1, 1) := by decide +kernel
theorem dX7_read_83 : decode cX7_read 83 = .ok (.ireturn, 1) := by decide +kernel
theorem dX7_seekFault_0 : decode cX7_seekFault 0 = .ok (.aload_n 0, 1) := by decide +kernel
theorem dX7_seekFault_1 : decode cX7_seekFault 1 = .ok (.iconst 0, 1) := by decide +kernel
theorem dX7_seekFault_2 : decode cX7_seekFault 2 = .ok (.putfield 19, 3) := by decide +kernel
theorem dX7_seekFault_5 : decode cX7_seekFault 5 = .ok (.aload_n 0, 1) := by decide +kernel
theorem dX7_seekFault_6 : decode cX7_seekFault 6 = .ok (.iconst (-1), 1) := by decide +kernel
theorem dX7_seekFault_7 : decode cX7_seekFault 7 = .ok (.putfield 22, 3) := by decide +kernel
theorem dX7_seekFault_10 : decode cX7_seekFault 10 = .ok (.iconst 0, 1) := by decide +kernel
theorem dX7_seekFault_11 : decode cX7_seekFault 11 = .ok (.istore_n 3, 1) := by decide +kernel
theorem dX7_seekFault_12 : decode cX7_seekFault 12 = .ok (.iconst 0, 1) := by decide +kernel
theorem dX7_seekFault_13 : decode cX7_seekFault 13 = .ok (.istore 4, 2) := by decide +kernel
theorem dX7_seekFault_15 : decode cX7_seekFault 15 = .ok (.iload 4, 2) := by decide +kernel
theorem dX7_seekFault_17 : decode cX7_seekFault 17 = .ok (.iload_n 2, 1) := by decide +kernel
theorem dX7_seekFault_18 : decode cX7_seekFault 18 = .ok (.if_icmp .ge 90, 3) := by decide +kernel
theorem dX7_seekFault_21 : decode cX7_seekFault 21 = .ok (.aload_n 0, 1) := by decide +kernel
theorem dX7_seekFault_22 : decode cX7_seekFault 22 = .ok (.getfield 19, 3) := by decide +kernel
theorem dX7_seekFault_25 : decode cX7_seekFault 25 = .ok (.ifCond .ne 83, 3) := by decide +kernel
theorem dX7_seekFault_28 : decode cX7_seekFault 28 = .ok (.aload_n 1, 1) := by decide +kernel
theorem dX7_seekFault_29 : decode cX7_seekFault 29 = .ok (.iload 4, 2) := by decide +kernel
theorem dX7_seekFault_31 : decode cX7_seekFault 31 = .ok (.invokevirtual 29, 3) := by decide +kernel
theorem dX7_seekFault_34 : decode cX7_seekFault 34 = .ok (.istore 5, 2) := by decide +kernel
theorem dX7_seekFault_36 : decode cX7_seekFault 36 = .ok (.iload 5, 2) := by decide +kernel
theorem dX7_seekFault_38 : decode cX7_seekFault 38 = .ok (.invokestatic 35, 3) := by decide +kernel
theorem dX7_seekFault_41 : decode cX7_seekFault 41 = .ok (.ifCond .eq 25, 3) := by decide +kernel
theorem dX7_seekFault_44 : decode cX7_seekFault 44 = .ok (.iinc 3 1, 3) := by decide +kernel
theorem dX7_seekFault_47 : decode cX7_seekFault 47 = .ok (.aload_n 0, 1) := by decide +kernel
theorem dX7_seekFault_48 : decode cX7_seekFault 48 = .ok (.iload_n 3, 1) := by decide +kernel
theorem dX7_seekFault_49 : decode cX7_seekFault 49 = .ok (.sipush 160, 3) := by decide +kernel
theorem dX7_seekFault_52 : decode cX7_seekFault 52 = .ok (.if_icmp .le 7, 3) := by decide +kernel
theorem dX7_seekFault_55 : decode cX7_seekFault 55 = .ok (.iconst 2, 1) := by decide +kernel
theorem dX7_seekFault_56 : decode cX7_seekFault 56 = .ok (.goto 4, 3) := by decide +kernel
theorem dX7_seekFault_59 : decode cX7_seekFault 59 = .ok (.iconst 0, 1) := by decide +kernel
theorem dX7_seekFault_60 : decode cX7_seekFault 60 = .ok (.putfield 19, 3) := by decide +kernel
theorem dX7_seekFault_63 : decode cX7_seekFault 63 = .ok (.goto 22, 3) := by decide +kernel
theorem dX7_seekFault_66 : decode cX7_seekFault 66 = .ok (.iload 5, 2) := by decide +kernel
theorem dX7_seekFault_68 : decode cX7_seekFault 68 = .ok (.bipush 10, 2) := by decide +kernel
theorem dX7_seekFault_70 : decode cX7_seekFault 70 = .ok (.if_icmp .eq 15, 3) := by decide +kernel
theorem dX7_seekFault_73 : decode cX7_seekFault 73 = .ok (.iload 5, 2) := by decide +kernel
theorem dX7_seekFault_75 : decode cX7_seekFault 75 = .ok (.bipush 32, 2) := by decide +kernel
theorem dX7_seekFault_77 : decode cX7_seekFault 77 = .ok (.if_icmp .eq 8, 3) := by decide +kernel
theorem dX7_seekFault_80 : decode cX7_seekFault 80 = .ok (.aload_n 0, 1) := by decide +kernel
theorem dX7_seekFault_81 : decode cX7_seekFault 81 = .ok (.iconst 1, 1) := by decide +kernel
theorem dX7_seekFault_82 : decode cX7_seekFault 82 = .ok (.putfield 19, 3) := by decide +kernel
theorem dX7_seekFault_85 : decode cX7_seekFault 85 = .ok (.aload_n 0, 1) := by decide +kernel
theorem dX7_seekFault_86 : decode cX7_seekFault 86 = .ok (.aload_n 0, 1) := by decide +kernel
theorem dX7_seekFault_87 : decode cX7_seekFault 87 = .ok (.getfield 19, 3) := by decide +kernel
theorem dX7_seekFault_90 : decode cX7_seekFault 90 = .ok (.ifCond .ne 7, 3) := by decide +kernel
theorem dX7_seekFault_93 : decode cX7_seekFault 93 = .ok (.iconst (-1), 1) := by decide +kernel
theorem dX7_seekFault_94 : decode cX7_seekFault 94 = .ok (.goto 5, 3) := by decide +kernel
theorem dX7_seekFault_97 : decode cX7_seekFault 97 = .ok (.iload 4, 2) := by decide +kernel
theorem dX7_seekFault_99 : decode cX7_seekFault 99 = .ok (.putfield 22, 3) := by decide +kernel
theorem dX7_seekFault_102 : decode cX7_seekFault 102 = .ok (.iinc 4 1, 3) := by decide +kernel
theorem dX7_seekFault_105 : decode cX7_seekFault 105 = .ok (.goto (-90), 3) := by decide +kernel
theorem dX7_seekFault_108 : decode cX7_seekFault 108 = .ok (.return_, 1) := by decide +kernel
theorem dX7_isLetter_0 : decode cX7_isLetter 0 = .ok (.iload_n 0, 1) := by decide +kernel
theorem dX7_isLetter_1 : decode cX7_isLetter 1 = .ok (.bipush 97, 2) := by decide +kernel
theorem dX7_isLetter_3 : decode cX7_isLetter 3 = .ok (.isub, 1) := by decide +kernel
theorem dX7_isLetter_4 : decode cX7_isLetter 4 = .ok (.bipush 15, 2) := by decide +kernel
theorem dX7_isLetter_6 : decode cX7_isLetter 6 = .ok (.invokestatic 39, 3) := by decide +kernel
theorem dX7_isLetter_9 : decode cX7_isLetter 9 = .ok (.ireturn, 1) := by decide +kernel
theorem dX7_letterAt_0 : decode cX7_letterAt 0 = .ok (.iload_n 1, 1) := by decide +kernel
theorem dX7_letterAt_1 : decode cX7_letterAt 1 = .ok (.ifCond .lt 20, 3) := by decide +kernel
theorem dX7_letterAt_4 : decode cX7_letterAt 4 = .ok (.iload_n 1, 1) := by decide +kernel
theorem dX7_letterAt_5 : decode cX7_letterAt 5 = .ok (.aload_n 0, 1) := by decide +kernel
theorem dX7_letterAt_6 : decode cX7_letterAt 6 = .ok (.getfield 15, 3) := by decide +kernel
theorem dX7_letterAt_9 : decode cX7_letterAt 9 = .ok (.if_icmp .ge 12, 3) := by decide +kernel
theorem dX7_letterAt_12 : decode cX7_letterAt 12 = .ok (.aload_n 0, 1) := by decide +kernel
theorem dX7_letterAt_13 : decode cX7_letterAt 13 = .ok (.getfield 9, 3) := by decide +kernel
theorem dX7_letterAt_16 : decode cX7_letterAt 16 = .ok (.iload_n 1, 1) := by decide +kernel
theorem dX7_letterAt_17 : decode cX7_letterAt 17 = .ok (.iaload, 1) := by decide +kernel
theorem dX7_letterAt_18 : decode cX7_letterAt 18 = .ok (.goto 4, 3) := by decide +kernel
theorem dX7_letterAt_21 : decode cX7_letterAt 21 = .ok (.iconst (-1), 1) := by decide +kernel
theorem dX7_letterAt_22 : decode cX7_letterAt 22 = .ok (.ireturn, 1) := by decide +kernel
theorem dX7_places_0 : decode cX7_places 0 = .ok (.iconst 0, 1) := by decide +kernel
theorem dX7_places_1 : decode cX7_places 1 = .ok (.aload_n 0, 1) := by decide +kernel
theorem dX7_places_2 : decode cX7_places 2 = .ok (.getfield 15, 3) := by decide +kernel
theorem dX7_places_5 : decode cX7_places 5 = .ok (.bipush 32, 2) := by decide +kernel
theorem dX7_places_7 : decode cX7_places 7 = .ok (.isub, 1) := by decide +kernel
theorem dX7_places_8 : decode cX7_places 8 = .ok (.iconst 1, 1) := by decide +kernel
theorem dX7_places_9 : decode cX7_places 9 = .ok (.iadd, 1) := by decide +kernel
theorem dX7_places_10 : decode cX7_places 10 = .ok (.invokestatic 43, 3) := by decide +kernel
theorem dX7_places_13 : decode cX7_places 13 = .ok (.ireturn, 1) := by decide +kernel
theorem dX8_init_0 : decode cX8_init 0 = .ok (.aload_n 0, 1) := by decide +kernel
theorem dX8_init_1 : decode cX8_init 1 = .ok (.invokespecial 1, 3) := by decide +kernel
theorem dX8_init_4 : decode cX8_init 4 = .ok (.aload_n 0, 1) := by decide +kernel
theorem dX8_init_5 : decode cX8_init 5 = .ok (.new 7, 3) := by decide +kernel
theorem dX8_init_8 : decode cX8_init 8 = .ok (.dup, 1) := by decide +kernel
theorem dX8_init_9 : decode cX8_init 9 = .ok (.invokespecial 9, 3) := by decide +kernel
theorem dX8_init_12 : decode cX8_init 12 = .ok (.putfield 10, 3) := by decide +kernel
theorem dX8_init_15 : decode cX8_init 15 = .ok (.aload_n 0, 1) := by decide +kernel
theorem dX8_init_16 : decode cX8_init 16 = .ok (.new 16, 3) := by decide +kernel
theorem dX8_init_19 : decode cX8_init 19 = .ok (.dup, 1) := by decide +kernel
theorem dX8_init_20 : decode cX8_init 20 = .ok (.invokespecial 18, 3) := by decide +kernel
theorem dX8_init_23 : decode cX8_init 23 = .ok (.putfield 19, 3) := by decide +kernel
theorem dX8_init_26 : decode cX8_init 26 = .ok (.aload_n 0, 1) := by decide +kernel
theorem dX8_init_27 : decode cX8_init 27 = .ok (.aload_n 0, 1) := by decide +kernel
theorem dX8_init_28 : decode cX8_init 28 = .ok (.getfield 19, 3) := by decide +kernel
theorem dX8_init_31 : decode cX8_init 31 = .ok (.getfield 23, 3) := by decide +kernel
theorem dX8_init_34 : decode cX8_init 34 = .ok (.putfield 27, 3) := by decide +kernel
theorem dX8_init_37 : decode cX8_init 37 = .ok (.aload_n 0, 1) := by decide +kernel
theorem dX8_init_38 : decode cX8_init 38 = .ok (.aload_n 0, 1) := by decide +kernel
theorem dX8_init_39 : decode cX8_init 39 = .ok (.getfield 19, 3) := by decide +kernel
theorem dX8_init_42 : decode cX8_init 42 = .ok (.getfield 30, 3) := by decide +kernel
theorem dX8_init_45 : decode cX8_init 45 = .ok (.putfield 34, 3) := by decide +kernel
theorem dX8_init_48 : decode cX8_init 48 = .ok (.aload_n 0, 1) := by decide +kernel
theorem dX8_init_49 : decode cX8_init 49 = .ok (.new 35, 3) := by decide +kernel
theorem dX8_init_52 : decode cX8_init 52 = .ok (.dup, 1) := by decide +kernel
theorem dX8_init_53 : decode cX8_init 53 = .ok (.invokespecial 37, 3) := by decide +kernel
theorem dX8_init_56 : decode cX8_init 56 = .ok (.putfield 38, 3) := by decide +kernel
theorem dX8_init_59 : decode cX8_init 59 = .ok (.aload_n 0, 1) := by decide +kernel
theorem dX8_init_60 : decode cX8_init 60 = .ok (.new 42, 3) := by decide +kernel
theorem dX8_init_63 : decode cX8_init 63 = .ok (.dup, 1) := by decide +kernel
theorem dX8_init_64 : decode cX8_init 64 = .ok (.invokespecial 44, 3) := by decide +kernel
theorem dX8_init_67 : decode cX8_init 67 = .ok (.putfield 45, 3) := by decide +kernel
theorem dX8_init_70 : decode cX8_init 70 = .ok (.aload_n 0, 1) := by decide +kernel
theorem dX8_init_71 : decode cX8_init 71 = .ok (.iconst 0, 1) := by decide +kernel
theorem dX8_init_72 : decode cX8_init 72 = .ok (.putfield 49, 3) := by decide +kernel
theorem dX8_init_75 : decode cX8_init 75 = .ok (.aload_n 0, 1) := by decide +kernel
theorem dX8_init_76 : decode cX8_init 76 = .ok (.iconst 3, 1) := by decide +kernel
theorem dX8_init_77 : decode cX8_init 77 = .ok (.putfield 53, 3) := by decide +kernel
theorem dX8_init_80 : decode cX8_init 80 = .ok (.return_, 1) := by decide +kernel
theorem dX8_feed_0 : decode cX8_feed 0 = .ok (.aload_n 0, 1) := by decide +kernel
theorem dX8_feed_1 : decode cX8_feed 1 = .ok (.getfield 10, 3) := by decide +kernel
theorem dX8_feed_4 : decode cX8_feed 4 = .ok (.getfield 56, 3) := by decide +kernel
theorem dX8_feed_7 : decode cX8_feed 7 = .ok (.bipush 20, 2) := by decide +kernel
theorem dX8_feed_9 : decode cX8_feed 9 = .ok (.iadd, 1) := by decide +kernel
theorem dX8_feed_10 : decode cX8_feed 10 = .ok (.sipush 400, 3) := by decide +kernel
theorem dX8_feed_13 : decode cX8_feed 13 = .ok (.if_icmp .le 5, 3) := by decide +kernel
theorem dX8_feed_16 : decode cX8_feed 16 = .ok (.iconst (-1), 1) := by decide +kernel
theorem dX8_feed_17 : decode cX8_feed 17 = .ok (.ireturn, 1) := by decide +kernel
theorem dX8_feed_18 : decode cX8_feed 18 = .ok (.aload_n 0, 1) := by decide +kernel
theorem dX8_feed_19 : decode cX8_feed 19 = .ok (.getfield 10, 3) := by decide +kernel
theorem dX8_feed_22 : decode cX8_feed 22 = .ok (.iload_n 1, 1) := by decide +kernel
theorem dX8_feed_23 : decode cX8_feed 23 = .ok (.invokevirtual 59, 3) := by decide +kernel
theorem dX8_feed_26 : decode cX8_feed 26 = .ok (.aload_n 0, 1) := by decide +kernel
theorem dX8_feed_27 : decode cX8_feed 27 = .ok (.getfield 10, 3) := by decide +kernel
theorem dX8_feed_30 : decode cX8_feed 30 = .ok (.iload_n 2, 1) := by decide +kernel
theorem dX8_feed_31 : decode cX8_feed 31 = .ok (.invokevirtual 59, 3) := by decide +kernel
theorem dX8_feed_34 : decode cX8_feed 34 = .ok (.aload_n 0, 1) := by decide +kernel
theorem dX8_feed_35 : decode cX8_feed 35 = .ok (.getfield 10, 3) := by decide +kernel
theorem dX8_feed_38 : decode cX8_feed 38 = .ok (.iload_n 3, 1) := by decide +kernel
theorem dX8_feed_39 : decode cX8_feed 39 = .ok (.invokevirtual 59, 3) := by decide +kernel
theorem dX8_feed_42 : decode cX8_feed 42 = .ok (.aload_n 0, 1) := by decide +kernel
theorem dX8_feed_43 : decode cX8_feed 43 = .ok (.getfield 10, 3) := by decide +kernel
theorem dX8_feed_46 : decode cX8_feed 46 = .ok (.iload 4, 2) := by decide +kernel
theorem dX8_feed_48 : decode cX8_feed 48 = .ok (.invokevirtual 59, 3) := by decide +kernel
theorem dX8_feed_51 : decode cX8_feed 51 = .ok (.aload_n 0, 1) := by decide +kernel
theorem dX8_feed_52 : decode cX8_feed 52 = .ok (.getfield 10, 3) := by decide +kernel
theorem dX8_feed_55 : decode cX8_feed 55 = .ok (.iload 5, 2) := by decide +kernel
theorem dX8_feed_57 : decode cX8_feed 57 = .ok (.invokevirtual 59, 3) := by decide +kernel
theorem dX8_feed_60 : decode cX8_feed 60 = .ok (.aload_n 0, 1) := by decide +kernel
theorem dX8_feed_61 : decode cX8_feed 61 = .ok (.getfield 10, 3) := by decide +kernel
theorem dX8_feed_64 : decode cX8_feed 64 = .ok (.getfield 56, 3) := by decide +kernel
theorem dX8_feed_67 : decode cX8_feed 67 = .ok (.ireturn, 1) := by decide +kernel
theorem dX8_work_0 : decode cX8_work 0 = .ok (.iload_n 1, 1) := by decide +kernel
theorem dX8_work_1 : decode cX8_work 1 = .ok (.ifCond .lt 14, 3) := by decide +kernel
theorem dX8_work_4 : decode cX8_work 4 = .ok (.iload_n 1, 1) := by decide +kernel
theorem dX8_work_5 : decode cX8_work 5 = .ok (.aload_n 0, 1) := by decide +kernel
theorem dX8_work_6 : decode cX8_work 6 = .ok (.getfield 10, 3) := by decide +kernel
theorem dX8_work_9 : decode cX8_work 9 = .ok (.getfield 56, 3) := by decide +kernel
theorem dX8_work_12 : decode cX8_work 12 = .ok (.if_icmp .le 6, 3) := by decide +kernel
theorem dX8_work_15 : decode cX8_work 15 = .ok (.bipush (-2), 2) := by decide +kernel
theorem dX8_work_17 : decode cX8_work 17 = .ok (.ireturn, 1) := by decide +kernel
theorem dX8_work_18 : decode cX8_work 18 = .ok (.aload_n 0, 1) := by decide +kernel
theorem dX8_work_19 : decode cX8_work 19 = .ok (.getfield 27, 3) := by decide +kernel
theorem dX8_work_22 : decode cX8_work 22 = .ok (.aload_n 0, 1) := by decide +kernel
theorem dX8_work_23 : decode cX8_work 23 = .ok (.getfield 10, 3) := by decide +kernel
theorem dX8_work_26 : decode cX8_work 26 = .ok (.iload_n 1, 1) := by decide +kernel
theorem dX8_work_27 : decode cX8_work 27 = .ok (.invokevirtual 63, 3) := by decide +kernel
theorem dX8_work_30 : decode cX8_work 30 = .ok (.istore_n 2, 1) := by decide +kernel
theorem dX8_work_31 : decode cX8_work 31 = .ok (.aload_n 0, 1) := by decide +kernel
theorem dX8_work_32 : decode cX8_work 32 = .ok (.getfield 10, 3) := by decide +kernel
theorem dX8_work_35 : decode cX8_work 35 = .ok (.iconst 0, 1) := by decide +kernel
theorem dX8_work_36 : decode cX8_work 36 = .ok (.putfield 56, 3) := by decide +kernel
theorem dX8_work_39 : decode cX8_work 39 = .ok (.iload_n 2, 1) := by decide +kernel
theorem dX8_work_40 : decode cX8_work 40 = .ok (.ifCond .ne 5, 3) := by decide +kernel
theorem dX8_work_43 : decode cX8_work 43 = .ok (.iconst (-1), 1) := by decide +kernel
theorem dX8_work_44 : decode cX8_work 44 = .ok (.ireturn, 1) := by decide +kernel
theorem dX8_work_45 : decode cX8_work 45 = .ok (.aload_n 0, 1) := by decide +kernel
theorem dX8_work_46 : decode cX8_work 46 = .ok (.getfield 45, 3) := by decide +kernel
theorem dX8_work_49 : decode cX8_work 49 = .ok (.invokevirtual 69, 3) := by decide +kernel
theorem dX8_work_52 : decode cX8_work 52 = .ok (.aload_n 0, 1) := by decide +kernel
theorem dX8_work_53 : decode cX8_work 53 = .ok (.getfield 27, 3) := by decide +kernel
theorem dX8_work_56 : decode cX8_work 56 = .ok (.getfield 72, 3) := by decide +kernel
theorem dX8_work_59 : decode cX8_work 59 = .ok (.ireturn, 1) := by decide +kernel
theorem dX8_fault_0 : decode cX8_fault 0 = .ok (.iload_n 1, 1) := by decide +kernel
theorem dX8_fault_1 : decode cX8_fault 1 = .ok (.lookupswitch 43 #[(0, 27), (1, 35)], 27) := by decide +kernel
theorem dX8_fault_28 : decode cX8_fault 28 = .ok (.aload_n 0, 1) := by decide +kernel
theorem dX8_fault_29 : decode cX8_fault 29 = .ok (.getfield 27, 3) := by decide +kernel
theorem dX8_fault_32 : decode cX8_fault 32 = .ok (.getfield 73, 3) := by decide +kernel
theorem dX8_fault_35 : decode cX8_fault 35 = .ok (.ireturn, 1) := by decide +kernel
theorem dX8_fault_36 : decode cX8_fault 36 = .ok (.aload_n 0, 1) := by decide +kernel
theorem dX8_fault_37 : decode cX8_fault 37 = .ok (.getfield 27, 3) := by decide +kernel
theorem dX8_fault_40 : decode cX8_fault 40 = .ok (.getfield 76, 3) := by decide +kernel
theorem dX8_fault_43 : decode cX8_fault 43 = .ok (.ireturn, 1) := by decide +kernel
theorem dX8_fault_44 : decode cX8_fault 44 = .ok (.iconst (-1), 1) := by decide +kernel
theorem dX8_fault_45 : decode cX8_fault 45 = .ok (.ireturn, 1) := by decide +kernel
theorem dX8_half_0 : decode cX8_half 0 = .ok (.iload_n 1, 1) := by decide +kernel
theorem dX8_half_1 : decode cX8_half 1 = .ok (.iconst 2, 1) := by decide +kernel
theorem dX8_half_2 : decode cX8_half 2 = .ok (.invokestatic 79, 3) := by decide +kernel
theorem dX8_half_5 : decode cX8_half 5 = .ok (.ifCond .eq 24, 3) := by decide +kernel
theorem dX8_half_8 : decode cX8_half 8 = .ok (.iload_n 2, 1) := by decide +kernel
theorem dX8_half_9 : decode cX8_half 9 = .ok (.iconst 1, 1) := by decide +kernel
theorem dX8_half_10 : decode cX8_half 10 = .ok (.invokestatic 79, 3) := by decide +kernel
theorem dX8_half_13 : decode cX8_half 13 = .ok (.ifCond .eq 16, 3) := by decide +kernel
theorem dX8_half_16 : decode cX8_half 16 = .ok (.iload_n 3, 1) := by decide +kernel
theorem dX8_half_17 : decode cX8_half 17 = .ok (.bipush 9, 2) := by decide +kernel
theorem dX8_half_19 : decode cX8_half 19 = .ok (.invokestatic 79, 3) := by decide +kernel
theorem dX8_half_22 : decode cX8_half 22 = .ok (.ifCond .eq 7, 3) := by decide +kernel
theorem dX8_half_25 : decode cX8_half 25 = .ok (.iconst 1, 1) := by decide +kernel
theorem dX8_half_26 : decode cX8_half 26 = .ok (.goto 4, 3) := by decide +kernel
theorem dX8_half_29 : decode cX8_half 29 = .ok (.iconst 0, 1) := by decide +kernel
theorem dX8_half_30 : decode cX8_half 30 = .ok (.istore 4, 2) := by decide +kernel
theorem dX8_half_32 : decode cX8_half 32 = .ok (.iload 4, 2) := by decide +kernel
theorem dX8_half_34 : decode cX8_half 34 = .ok (.ifCond .eq 16, 3) := by decide +kernel
theorem dX8_half_37 : decode cX8_half 37 = .ok (.aload_n 0, 1) := by decide +kernel
theorem dX8_half_38 : decode cX8_half 38 = .ok (.getfield 34, 3) := by decide +kernel
theorem dX8_half_41 : decode cX8_half 41 = .ok (.iload_n 1, 1) := by decide +kernel
theorem dX8_half_42 : decode cX8_half 42 = .ok (.iload_n 2, 1) := by decide +kernel
theorem dX8_half_43 : decode cX8_half 43 = .ok (.iload_n 3, 1) := by decide +kernel
theorem dX8_half_44 : decode cX8_half 44 = .ok (.invokevirtual 83, 3) := by decide +kernel
theorem dX8_half_47 : decode cX8_half 47 = .ok (.goto 4, 3) := by decide +kernel
theorem dX8_half_50 : decode cX8_half 50 = .ok (.iconst (-1), 1) := by decide +kernel
theorem dX8_half_51 : decode cX8_half 51 = .ok (.ireturn, 1) := by decide +kernel
theorem dX8_light_0 : decode cX8_light 0 = .ok (.aload_n 0, 1) := by decide +kernel
theorem dX8_light_1 : decode cX8_light 1 = .ok (.iload_n 1, 1) := by decide +kernel
theorem dX8_light_2 : decode cX8_light 2 = .ok (.iload_n 2, 1) := by decide +kernel
theorem dX8_light_3 : decode cX8_light 3 = .ok (.iload_n 3, 1) := by decide +kernel
theorem dX8_light_4 : decode cX8_light 4 = .ok (.invokevirtual 89, 3) := by decide +kernel
theorem dX8_light_7 : decode cX8_light 7 = .ok (.ifCond .eq 16, 3) := by decide +kernel
theorem dX8_light_10 : decode cX8_light 10 = .ok (.iload 4, 2) := by decide +kernel
theorem dX8_light_12 : decode cX8_light 12 = .ok (.iconst 1, 1) := by decide +kernel
theorem dX8_light_13 : decode cX8_light 13 = .ok (.if_icmp .lt 10, 3) := by decide +kernel
theorem dX8_light_16 : decode cX8_light 16 = .ok (.iload 4, 2) := by decide +kernel
theorem dX8_light_18 : decode cX8_light 18 = .ok (.ldc 93, 2) := by decide +kernel
theorem dX8_light_20 : decode cX8_light 20 = .ok (.if_icmp .le 5, 3) := by decide +kernel
theorem dX8_light_23 : decode cX8_light 23 = .ok (.iconst (-1), 1) := by decide +kernel
theorem dX8_light_24 : decode cX8_light 24 = .ok (.ireturn, 1) := by decide +kernel
theorem dX8_light_25 : decode cX8_light 25 = .ok (.aload_n 0, 1) := by decide +kernel
theorem dX8_light_26 : decode cX8_light 26 = .ok (.getfield 34, 3) := by decide +kernel
theorem dX8_light_29 : decode cX8_light 29 = .ok (.getfield 94, 3) := by decide +kernel
theorem dX8_light_32 : decode cX8_light 32 = .ok (.iload_n 1, 1) := by decide +kernel
theorem dX8_light_33 : decode cX8_light 33 = .ok (.aaload, 1) := by decide +kernel
theorem dX8_light_34 : decode cX8_light 34 = .ok (.getfield 98, 3) := by decide +kernel
theorem dX8_light_37 : decode cX8_light 37 = .ok (.astore 5, 2) := by decide +kernel
theorem dX8_light_39 : decode cX8_light 39 = .ok (.iload_n 2, 1) := by decide +kernel
theorem dX8_light_40 : decode cX8_light 40 = .ok (.iload_n 3, 1) := by decide +kernel
theorem dX8_light_41 : decode cX8_light 41 = .ok (.invokestatic 104, 3) := by decide +kernel
theorem dX8_light_44 : decode cX8_light 44 = .ok (.istore 6, 2) := by decide +kernel
theorem dX8_light_46 : decode cX8_light 46 = .ok (.aload 5, 2) := by decide +kernel
theorem dX8_light_48 : decode cX8_light 48 = .ok (.iload 6, 2) := by decide +kernel
theorem dX8_light_50 : decode cX8_light 50 = .ok (.iaload, 1) := by decide +kernel
theorem dX8_light_51 : decode cX8_light 51 = .ok (.iload 4, 2) := by decide +kernel
theorem dX8_light_53 : decode cX8_light 53 = .ok (.iand, 1) := by decide +kernel
theorem dX8_light_54 : decode cX8_light 54 = .ok (.istore 7, 2) := by decide +kernel
theorem dX8_light_56 : decode cX8_light 56 = .ok (.iload 7, 2) := by decide +kernel
theorem dX8_light_58 : decode cX8_light 58 = .ok (.ifCond .ne 16, 3) := by decide +kernel
theorem dX8_light_61 : decode cX8_light 61 = .ok (.aload_n 0, 1) := by decide +kernel
theorem dX8_light_62 : decode cX8_light 62 = .ok (.dup, 1) := by decide +kernel
theorem dX8_light_63 : decode cX8_light 63 = .ok (.getfield 49, 3) := by decide +kernel
theorem dX8_light_66 : decode cX8_light 66 = .ok (.iconst 1, 1) := by decide +kernel
theorem dX8_light_67 : decode cX8_light 67 = .ok (.iadd, 1) := by decide +kernel
theorem dX8_light_68 : decode cX8_light 68 = .ok (.putfield 49, 3) := by decide +kernel
theorem dX8_light_71 : decode cX8_light 71 = .ok (.bipush (-2), 2) := by decide +kernel
theorem dX8_light_73 : decode cX8_light 73 = .ok (.ireturn, 1) := by decide +kernel
theorem dX8_light_74 : decode cX8_light 74 = .ok (.aload 5, 2) := by decide +kernel
theorem dX8_light_76 : decode cX8_light 76 = .ok (.iload 6, 2) := by decide +kernel
theorem dX8_light_78 : decode cX8_light 78 = .ok (.iload 7, 2) := by decide +kernel
theorem dX8_light_80 : decode cX8_light 80 = .ok (.iastore, 1) := by decide +kernel
theorem dX8_light_81 : decode cX8_light 81 = .ok (.iload 7, 2) := by decide +kernel
theorem dX8_light_83 : decode cX8_light 83 = .ok (.invokestatic 108, 3) := by decide +kernel
theorem dX8_light_86 : decode cX8_light 86 = .ok (.ireturn, 1) := by decide +kernel
theorem dX8_list_0 : decode cX8_list 0 = .ok (.aload_n 0, 1) := by decide +kernel
theorem dX8_list_1 : decode cX8_list 1 = .ok (.iload_n 1, 1) := by decide +kernel
theorem dX8_list_2 : decode cX8_list 2 = .ok (.iload_n 2, 1) := by decide +kernel
theorem dX8_list_3 : decode cX8_list 3 = .ok (.iload_n 3, 1) := by decide +kernel
theorem dX8_list_4 : decode cX8_list 4 = .ok (.invokevirtual 89, 3) := by decide +kernel
theorem dX8_list_7 : decode cX8_list 7 = .ok (.ifCond .eq 24, 3) := by decide +kernel
theorem dX8_list_10 : decode cX8_list 10 = .ok (.aload_n 0, 1) := by decide +kernel
theorem dX8_list_11 : decode cX8_list 11 = .ok (.getfield 34, 3) := by decide +kernel
theorem dX8_list_14 : decode cX8_list 14 = .ok (.getfield 94, 3) := by decide +kernel
theorem dX8_list_17 : decode cX8_list 17 = .ok (.iload_n 1, 1) := by decide +kernel
theorem dX8_list_18 : decode cX8_list 18 = .ok (.aaload, 1) := by decide +kernel
theorem dX8_list_19 : decode cX8_list 19 = .ok (.getfield 98, 3) := by decide +kernel
theorem dX8_list_22 : decode cX8_list 22 = .ok (.iload_n 2, 1) := by decide +kernel
theorem dX8_list_23 : decode cX8_list 23 = .ok (.iload_n 3, 1) := by decide +kernel
theorem dX8_list_24 : decode cX8_list 24 = .ok (.invokestatic 104, 3) := by decide +kernel
theorem dX8_list_27 : decode cX8_list 27 = .ok (.iaload, 1) := by decide +kernel
theorem dX8_list_28 : decode cX8_list 28 = .ok (.goto 4, 3) := by decide +kernel
theorem dX8_list_31 : decode cX8_list 31 = .ok (.iconst (-1), 1) := by decide +kernel
theorem dX8_list_32 : decode cX8_list 32 = .ok (.ireturn, 1) := by decide +kernel
theorem dX8_quarrels_0 : decode cX8_quarrels 0 = .ok (.aload_n 0, 1) := by decide +kernel
theorem dX8_quarrels_1 : decode cX8_quarrels 1 = .ok (.getfield 34, 3) := by decide +kernel
theorem dX8_quarrels_4 : decode cX8_quarrels 4 = .ok (.iload_n 1, 1) := by decide +kernel
theorem dX8_quarrels_5 : decode cX8_quarrels 5 = .ok (.invokevirtual 114, 3) := by decide +kernel
theorem dX8_quarrels_8 : decode cX8_quarrels 8 = .ok (.ifCond .eq 27, 3) := by decide +kernel
theorem dX8_quarrels_11 : decode cX8_quarrels 11 = .ok (.iload_n 2, 1) := by decide +kernel
theorem dX8_quarrels_12 : decode cX8_quarrels 12 = .ok (.iconst 1, 1) := by decide +kernel
theorem dX8_quarrels_13 : decode cX8_quarrels 13 = .ok (.invokestatic 79, 3) := by decide +kernel
theorem dX8_quarrels_16 : decode cX8_quarrels 16 = .ok (.ifCond .eq 19, 3) := by decide +kernel
theorem dX8_quarrels_19 : decode cX8_quarrels 19 = .ok (.iload_n 3, 1) := by decide +kernel
theorem dX8_quarrels_20 : decode cX8_quarrels 20 = .ok (.aload_n 0, 1) := by decide +kernel
theorem dX8_quarrels_21 : decode cX8_quarrels 21 = .ok (.getfield 27, 3) := by decide +kernel
theorem dX8_quarrels_24 : decode cX8_quarrels 24 = .ok (.invokevirtual 118, 3) := by decide +kernel
theorem dX8_quarrels_27 : decode cX8_quarrels 27 = .ok (.iconst 1, 1) := by decide +kernel
theorem dX8_quarrels_28 : decode cX8_quarrels 28 = .ok (.isub, 1) := by decide +kernel
theorem dX8_quarrels_29 : decode cX8_quarrels 29 = .ok (.invokestatic 79, 3) := by decide +kernel
theorem dX8_quarrels_32 : decode cX8_quarrels 32 = .ok (.ifCond .ne 5, 3) := by decide +kernel
theorem dX8_quarrels_35 : decode cX8_quarrels 35 = .ok (.iconst (-1), 1) := by decide +kernel
theorem dX8_quarrels_36 : decode cX8_quarrels 36 = .ok (.ireturn, 1) := by decide +kernel
theorem dX8_quarrels_37 : decode cX8_quarrels 37 = .ok (.aload_n 0, 1) := by decide +kernel
theorem dX8_quarrels_38 : decode cX8_quarrels 38 = .ok (.getfield 19, 3) := by decide +kernel
theorem dX8_quarrels_41 : decode cX8_quarrels 41 = .ok (.iload_n 1, 1) := by decide +kernel
theorem dX8_quarrels_42 : decode cX8_quarrels 42 = .ok (.invokevirtual 122, 3) := by decide +kernel
theorem dX8_quarrels_45 : decode cX8_quarrels 45 = .ok (.aload_n 0, 1) := by decide +kernel
theorem dX8_quarrels_46 : decode cX8_quarrels 46 = .ok (.getfield 19, 3) := by decide +kernel
theorem dX8_quarrels_49 : decode cX8_quarrels 49 = .ok (.iload_n 1, 1) := by decide +kernel
theorem dX8_quarrels_50 : decode cX8_quarrels 50 = .ok (.iload_n 2, 1) := by decide +kernel
theorem dX8_quarrels_51 : decode cX8_quarrels 51 = .ok (.iload_n 3, 1) := by decide +kernel
theorem dX8_quarrels_52 : decode cX8_quarrels 52 = .ok (.invokevirtual 125, 3) := by decide +kernel
theorem dX8_quarrels_55 : decode cX8_quarrels 55 = .ok (.ireturn, 1) := by decide +kernel
theorem dX8_best_0 : decode cX8_best 0 = .ok (.aload_n 0, 1) := by decide +kernel
theorem dX8_best_1 : decode cX8_best 1 = .ok (.getfield 34, 3) := by decide +kernel
theorem dX8_best_4 : decode cX8_best 4 = .ok (.iload_n 1, 1) := by decide +kernel
theorem dX8_best_5 : decode cX8_best 5 = .ok (.invokevirtual 114, 3) := by decide +kernel
theorem dX8_best_8 : decode cX8_best 8 = .ok (.ifCond .eq 14, 3) := by decide +kernel
theorem dX8_best_11 : decode cX8_best 11 = .ok (.aload_n 0, 1) := by decide +kernel
theorem dX8_best_12 : decode cX8_best 12 = .ok (.getfield 34, 3) := by decide +kernel
theorem dX8_best_15 : decode cX8_best 15 = .ok (.iload_n 2, 1) := by decide +kernel
theorem dX8_best_16 : decode cX8_best 16 = .ok (.invokevirtual 114, 3) := by decide +kernel
theorem dX8_best_19 : decode cX8_best 19 = .ok (.ifCond .ne 5, 3) := by decide +kernel
theorem dX8_best_22 : decode cX8_best 22 = .ok (.iconst (-1), 1) := by decide +kernel
theorem dX8_best_23 : decode cX8_best 23 = .ok (.ireturn, 1) := by decide +kernel
theorem dX8_best_24 : decode cX8_best 24 = .ok (.aload_n 0, 1) := by decide +kernel
theorem dX8_best_25 : decode cX8_best 25 = .ok (.getfield 19, 3) := by decide +kernel
theorem dX8_best_28 : decode cX8_best 28 = .ok (.iload_n 1, 1) := by decide +kernel
theorem dX8_best_29 : decode cX8_best 29 = .ok (.invokevirtual 122, 3) := by decide +kernel
theorem dX8_best_32 : decode cX8_best 32 = .ok (.aload_n 0, 1) := by decide +kernel
theorem dX8_best_33 : decode cX8_best 33 = .ok (.getfield 19, 3) := by decide +kernel
theorem dX8_best_36 : decode cX8_best 36 = .ok (.iload_n 2, 1) := by decide +kernel
theorem dX8_best_37 : decode cX8_best 37 = .ok (.invokevirtual 122, 3) := by decide +kernel
theorem dX8_best_40 : decode cX8_best 40 = .ok (.aload_n 0, 1) := by decide +kernel
theorem dX8_best_41 : decode cX8_best 41 = .ok (.getfield 19, 3) := by decide +kernel
theorem dX8_best_44 : decode cX8_best 44 = .ok (.iload_n 1, 1) := by decide +kernel
theorem dX8_best_45 : decode cX8_best 45 = .ok (.iload_n 2, 1) := by decide +kernel
theorem dX8_best_46 : decode cX8_best 46 = .ok (.invokevirtual 128, 3) := by decide +kernel
theorem dX8_best_49 : decode cX8_best 49 = .ok (.ifCond .ne 5, 3) := by decide +kernel
theorem dX8_best_52 : decode cX8_best 52 = .ok (.iconst (-1), 1) := by decide +kernel
theorem dX8_best_53 : decode cX8_best 53 = .ok (.ireturn, 1) := by decide +kernel
theorem dX8_best_54 : decode cX8_best 54 = .ok (.iload_n 3, 1) := by decide +kernel
theorem dX8_best_55 : decode cX8_best 55 = .ok (.tableswitch 58 0 2 #[25, 36, 47], 25) := by decide +kernel
theorem dX8_best_80 : decode cX8_best 80 = .ok (.aload_n 0, 1) := by decide +kernel
theorem dX8_best_81 : decode cX8_best 81 = .ok (.getfield 19, 3) := by decide +kernel
theorem dX8_best_84 : decode cX8_best 84 = .ok (.getfield 131, 3) := by decide +kernel
theorem dX8_best_87 : decode cX8_best 87 = .ok (.getfield 135, 3) := by decide +kernel
theorem dX8_best_90 : decode cX8_best 90 = .ok (.ireturn, 1) := by decide +kernel
theorem dX8_best_91 : decode cX8_best 91 = .ok (.aload_n 0, 1) := by decide +kernel
theorem dX8_best_92 : decode cX8_best 92 = .ok (.getfield 19, 3) := by decide +kernel
theorem dX8_best_95 : decode cX8_best 95 = .ok (.getfield 131, 3) := by decide +kernel
theorem dX8_best_98 : decode cX8_best 98 = .ok (.getfield 140, 3) := by decide +kernel
theorem dX8_best_101 : decode cX8_best 101 = .ok (.ireturn, 1) := by decide +kernel
theorem dX8_best_102 : decode cX8_best 102 = .ok (.aload_n 0, 1) := by decide +kernel
theorem dX8_best_103 : decode cX8_best 103 = .ok (.getfield 19, 3) := by decide +kernel
theorem dX8_best_106 : decode cX8_best 106 = .ok (.getfield 131, 3) := by decide +kernel
theorem dX8_best_109 : decode cX8_best 109 = .ok (.getfield 143, 3) := by decide +kernel
theorem dX8_best_112 : decode cX8_best 112 = .ok (.ireturn, 1) := by decide +kernel
theorem dX8_best_113 : decode cX8_best 113 = .ok (.iconst (-1), 1) := by decide +kernel
theorem dX8_best_114 : decode cX8_best 114 = .ok (.ireturn, 1) := by decide +kernel
theorem dX8_price_0 : decode cX8_price 0 = .ok (.iload_n 1, 1) := by decide +kernel
theorem dX8_price_1 : decode cX8_price 1 = .ok (.bipush 99, 2) := by decide +kernel
theorem dX8_price_3 : decode cX8_price 3 = .ok (.invokestatic 79, 3) := by decide +kernel
theorem dX8_price_6 : decode cX8_price 6 = .ok (.ifCond .ne 5, 3) := by decide +kernel
theorem dX8_price_9 : decode cX8_price 9 = .ok (.iconst 0, 1) := by decide +kernel
theorem dX8_price_10 : decode cX8_price 10 = .ok (.ireturn, 1) := by decide +kernel
theorem dX8_price_11 : decode cX8_price 11 = .ok (.aload_n 0, 1) := by decide +kernel
theorem dX8_price_12 : decode cX8_price 12 = .ok (.iload_n 1, 1) := by decide +kernel
theorem dX8_price_13 : decode cX8_price 13 = .ok (.putfield 53, 3) := by decide +kernel
theorem dX8_price_16 : decode cX8_price 16 = .ok (.iconst 1, 1) := by decide +kernel
theorem dX8_price_17 : decode cX8_price 17 = .ok (.ireturn, 1) := by decide +kernel
theorem dX8_join_0 : decode cX8_join 0 = .ok (.aload_n 0, 1) := by decide +kernel
theorem dX8_join_1 : decode cX8_join 1 = .ok (.getfield 34, 3) := by decide +kernel
theorem dX8_join_4 : decode cX8_join 4 = .ok (.getfield 146, 3) := by decide +kernel
theorem dX8_join_7 : decode cX8_join 7 = .ok (.ifCond .eq 13, 3) := by decide +kernel
theorem dX8_join_10 : decode cX8_join 10 = .ok (.aload_n 0, 1) := by decide +kernel
theorem dX8_join_11 : decode cX8_join 11 = .ok (.getfield 27, 3) := by decide +kernel
theorem dX8_join_14 : decode cX8_join 14 = .ok (.invokevirtual 118, 3) := by decide +kernel
theorem dX8_join_17 : decode cX8_join 17 = .ok (.ifCond .ne 5, 3) := by decide +kernel
theorem dX8_join_20 : decode cX8_join 20 = .ok (.iconst (-1), 1) := by decide +kernel
theorem dX8_join_21 : decode cX8_join 21 = .ok (.ireturn, 1) := by decide +kernel
theorem dX8_join_22 : decode cX8_join 22 = .ok (.aload_n 0, 1) := by decide +kernel
theorem dX8_join_23 : decode cX8_join 23 = .ok (.getfield 19, 3) := by decide +kernel
theorem dX8_join_26 : decode cX8_join 26 = .ok (.invokevirtual 147, 3) := by decide +kernel
theorem dX8_join_29 : decode cX8_join 29 = .ok (.aload_n 0, 1) := by decide +kernel
theorem dX8_join_30 : decode cX8_join 30 = .ok (.getfield 38, 3) := by decide +kernel
theorem dX8_join_33 : decode cX8_join 33 = .ok (.aload_n 0, 1) := by decide +kernel
theorem dX8_join_34 : decode cX8_join 34 = .ok (.getfield 19, 3) := by decide +kernel
theorem dX8_join_37 : decode cX8_join 37 = .ok (.aload_n 0, 1) := by decide +kernel
theorem dX8_join_38 : decode cX8_join 38 = .ok (.getfield 34, 3) := by decide +kernel
theorem dX8_join_41 : decode cX8_join 41 = .ok (.getfield 146, 3) := by decide +kernel
theorem dX8_join_44 : decode cX8_join 44 = .ok (.aload_n 0, 1) := by decide +kernel
theorem dX8_join_45 : decode cX8_join 45 = .ok (.getfield 53, 3) := by decide +kernel
theorem dX8_join_48 : decode cX8_join 48 = .ok (.invokevirtual 150, 3) := by decide +kernel
theorem dX8_join_51 : decode cX8_join 51 = .ok (.aload_n 0, 1) := by decide +kernel
theorem dX8_join_52 : decode cX8_join 52 = .ok (.getfield 45, 3) := by decide +kernel
theorem dX8_join_55 : decode cX8_join 55 = .ok (.aload_n 0, 1) := by decide +kernel
theorem dX8_join_56 : decode cX8_join 56 = .ok (.getfield 19, 3) := by decide +kernel
theorem dX8_join_59 : decode cX8_join 59 = .ok (.aload_n 0, 1) := by decide +kernel
theorem dX8_join_60 : decode cX8_join 60 = .ok (.getfield 38, 3) := by decide +kernel
theorem dX8_join_63 : decode cX8_join 63 = .ok (.aload_n 0, 1) := by decide +kernel
theorem dX8_join_64 : decode cX8_join 64 = .ok (.getfield 34, 3) := by decide +kernel
theorem dX8_join_67 : decode cX8_join 67 = .ok (.invokevirtual 154, 3) := by decide +kernel
theorem dX8_join_70 : decode cX8_join 70 = .ok (.aload_n 0, 1) := by decide +kernel
theorem dX8_join_71 : decode cX8_join 71 = .ok (.getfield 38, 3) := by decide +kernel
theorem dX8_join_74 : decode cX8_join 74 = .ok (.invokevirtual 158, 3) := by decide +kernel
theorem dX8_join_77 : decode cX8_join 77 = .ok (.ireturn, 1) := by decide +kernel
theorem dX8_leaf_0 : decode cX8_leaf 0 = .ok (.aload_n 0, 1) := by decide +kernel
theorem dX8_leaf_1 : decode cX8_leaf 1 = .ok (.getfield 45, 3) := by decide +kernel
theorem dX8_leaf_4 : decode cX8_leaf 4 = .ok (.iload_n 1, 1) := by decide +kernel
theorem dX8_leaf_5 : decode cX8_leaf 5 = .ok (.invokevirtual 161, 3) := by decide +kernel
theorem dX8_leaf_8 : decode cX8_leaf 8 = .ok (.ifCond .ne 5, 3) := by decide +kernel
theorem dX8_leaf_11 : decode cX8_leaf 11 = .ok (.iconst (-1), 1) := by decide +kernel
theorem dX8_leaf_12 : decode cX8_leaf 12 = .ok (.ireturn, 1) := by decide +kernel
theorem dX8_leaf_13 : decode cX8_leaf 13 = .ok (.aload_n 0, 1) := by decide +kernel
theorem dX8_leaf_14 : decode cX8_leaf 14 = .ok (.getfield 45, 3) := by decide +kernel
theorem dX8_leaf_17 : decode cX8_leaf 17 = .ok (.getfield 162, 3) := by decide +kernel
theorem dX8_leaf_20 : decode cX8_leaf 20 = .ok (.iload_n 1, 1) := by decide +kernel
theorem dX8_leaf_21 : decode cX8_leaf 21 = .ok (.aaload, 1) := by decide +kernel
theorem dX8_leaf_22 : decode cX8_leaf 22 = .ok (.astore_n 3, 1) := by decide +kernel
theorem dX8_leaf_23 : decode cX8_leaf 23 = .ok (.iload_n 2, 1) := by decide +kernel
theorem dX8_leaf_24 : decode cX8_leaf 24 = .ok (.tableswitch 70 0 5 #[40, 45, 50, 55, 60, 65], 40) := by decide +kernel
theorem dX8_leaf_64 : decode cX8_leaf 64 = .ok (.aload_n 3, 1) := by decide +kernel
theorem dX8_leaf_65 : decode cX8_leaf 65 = .ok (.getfield 143, 3) := by decide +kernel
theorem dX8_leaf_68 : decode cX8_leaf 68 = .ok (.ireturn, 1) := by decide +kernel
theorem dX8_leaf_69 : decode cX8_leaf 69 = .ok (.aload_n 3, 1) := by decide +kernel
theorem dX8_leaf_70 : decode cX8_leaf 70 = .ok (.getfield 166, 3) := by decide +kernel
theorem dX8_leaf_73 : decode cX8_leaf 73 = .ok (.ireturn, 1) := by decide +kernel
theorem dX8_leaf_74 : decode cX8_leaf 74 = .ok (.aload_n 3, 1) := by decide +kernel
theorem dX8_leaf_75 : decode cX8_leaf 75 = .ok (.getfield 140, 3) := by decide +kernel
theorem dX8_leaf_78 : decode cX8_leaf 78 = .ok (.ireturn, 1) := by decide +kernel
theorem dX8_leaf_79 : decode cX8_leaf 79 = .ok (.aload_n 3, 1) := by decide +kernel
theorem dX8_leaf_80 : decode cX8_leaf 80 = .ok (.getfield 135, 3) := by decide +kernel
theorem dX8_leaf_83 : decode cX8_leaf 83 = .ok (.ireturn, 1) := by decide +kernel
theorem dX8_leaf_84 : decode cX8_leaf 84 = .ok (.aload_n 3, 1) := by decide +kernel
theorem dX8_leaf_85 : decode cX8_leaf 85 = .ok (.getfield 169, 3) := by decide +kernel
theorem dX8_leaf_88 : decode cX8_leaf 88 = .ok (.ireturn, 1) := by decide +kernel
theorem dX8_leaf_89 : decode cX8_leaf 89 = .ok (.aload_n 3, 1) := by decide +kernel
theorem dX8_leaf_90 : decode cX8_leaf 90 = .ok (.getfield 172, 3) := by decide +kernel
theorem dX8_leaf_93 : decode cX8_leaf 93 = .ok (.ireturn, 1) := by decide +kernel
theorem dX8_leaf_94 : decode cX8_leaf 94 = .ok (.iconst (-1), 1) := by decide +kernel
theorem dX8_leaf_95 : decode cX8_leaf 95 = .ok (.ireturn, 1) := by decide +kernel
theorem dX8_book_0 : decode cX8_book 0 = .ok (.aload_n 0, 1) := by decide +kernel
theorem dX8_book_1 : decode cX8_book 1 = .ok (.getfield 45, 3) := by decide +kernel
theorem dX8_book_4 : decode cX8_book 4 = .ok (.iload_n 1, 1) := by decide +kernel
theorem dX8_book_5 : decode cX8_book 5 = .ok (.invokevirtual 161, 3) := by decide +kernel
theorem dX8_book_8 : decode cX8_book 8 = .ok (.ifCond .ne 5, 3) := by decide +kernel
theorem dX8_book_11 : decode cX8_book 11 = .ok (.iconst (-1), 1) := by decide +kernel
theorem dX8_book_12 : decode cX8_book 12 = .ok (.ireturn, 1) := by decide +kernel
theorem dX8_book_13 : decode cX8_book 13 = .ok (.iload_n 2, 1) := by decide +kernel
theorem dX8_book_14 : decode cX8_book 14 = .ok (.tableswitch 62 0 2 #[26, 36, 45], 26) := by decide +kernel
theorem dX8_book_40 : decode cX8_book 40 = .ok (.aload_n 0, 1) := by decide +kernel
theorem dX8_book_41 : decode cX8_book 41 = .ok (.getfield 45, 3) := by decide +kernel
theorem dX8_book_44 : decode cX8_book 44 = .ok (.getfield 174, 3) := by decide +kernel
theorem dX8_book_47 : decode cX8_book 47 = .ok (.iload_n 1, 1) := by decide +kernel
theorem dX8_book_48 : decode cX8_book 48 = .ok (.iaload, 1) := by decide +kernel
theorem dX8_book_49 : decode cX8_book 49 = .ok (.ireturn, 1) := by decide +kernel
theorem dX8_book_50 : decode cX8_book 50 = .ok (.aload_n 0, 1) := by decide +kernel
theorem dX8_book_51 : decode cX8_book 51 = .ok (.getfield 45, 3) := by decide +kernel
theorem dX8_book_54 : decode cX8_book 54 = .ok (.iload_n 1, 1) := by decide +kernel
theorem dX8_book_55 : decode cX8_book 55 = .ok (.invokevirtual 177, 3) := by decide +kernel
theorem dX8_book_58 : decode cX8_book 58 = .ok (.ireturn, 1) := by decide +kernel
theorem dX8_book_59 : decode cX8_book 59 = .ok (.aload_n 0, 1) := by decide +kernel
theorem dX8_book_60 : decode cX8_book 60 = .ok (.getfield 45, 3) := by decide +kernel
theorem dX8_book_63 : decode cX8_book 63 = .ok (.iload_n 1, 1) := by decide +kernel
theorem dX8_book_64 : decode cX8_book 64 = .ok (.invokevirtual 180, 3) := by decide +kernel
theorem dX8_book_67 : decode cX8_book 67 = .ok (.ifCond .eq 7, 3) := by decide +kernel
theorem dX8_book_70 : decode cX8_book 70 = .ok (.iconst 1, 1) := by decide +kernel
theorem dX8_book_71 : decode cX8_book 71 = .ok (.goto 4, 3) := by decide +kernel
theorem dX8_book_74 : decode cX8_book 74 = .ok (.iconst 0, 1) := by decide +kernel
theorem dX8_book_75 : decode cX8_book 75 = .ok (.ireturn, 1) := by decide +kernel
theorem dX8_book_76 : decode cX8_book 76 = .ok (.iconst (-1), 1) := by decide +kernel
theorem dX8_book_77 : decode cX8_book 77 = .ok (.ireturn, 1) := by decide +kernel
theorem dX8_led_0 : decode cX8_led 0 = .ok (.aload_n 0, 1) := by decide +kernel
theorem dX8_led_1 : decode cX8_led 1 = .ok (.iload_n 1, 1) := by decide +kernel
theorem dX8_led_2 : decode cX8_led 2 = .ok (.iload_n 2, 1) := by decide +kernel
theorem dX8_led_3 : decode cX8_led 3 = .ok (.iload_n 3, 1) := by decide +kernel
theorem dX8_led_4 : decode cX8_led 4 = .ok (.invokevirtual 89, 3) := by decide +kernel
theorem dX8_led_7 : decode cX8_led 7 = .ok (.ifCond .eq 22, 3) := by decide +kernel
theorem dX8_led_10 : decode cX8_led 10 = .ok (.aload_n 0, 1) := by decide +kernel
theorem dX8_led_11 : decode cX8_led 11 = .ok (.getfield 45, 3) := by decide +kernel
theorem dX8_led_14 : decode cX8_led 14 = .ok (.aload_n 0, 1) := by decide +kernel
theorem dX8_led_15 : decode cX8_led 15 = .ok (.getfield 45, 3) := by decide +kernel
theorem dX8_led_18 : decode cX8_led 18 = .ok (.getfield 183, 3) := by decide +kernel
theorem dX8_led_21 : decode cX8_led 21 = .ok (.iload_n 1, 1) := by decide +kernel
theorem dX8_led_22 : decode cX8_led 22 = .ok (.iaload, 1) := by decide +kernel
theorem dX8_led_23 : decode cX8_led 23 = .ok (.invokevirtual 161, 3) := by decide +kernel
theorem dX8_led_26 : decode cX8_led 26 = .ok (.ifCond .ne 5, 3) := by decide +kernel
theorem dX8_led_29 : decode cX8_led 29 = .ok (.iconst (-1), 1) := by decide +kernel
theorem dX8_led_30 : decode cX8_led 30 = .ok (.ireturn, 1) := by decide +kernel
theorem dX8_led_31 : decode cX8_led 31 = .ok (.aload_n 0, 1) := by decide +kernel
theorem dX8_led_32 : decode cX8_led 32 = .ok (.getfield 45, 3) := by decide +kernel
theorem dX8_led_35 : decode cX8_led 35 = .ok (.getfield 162, 3) := by decide +kernel
theorem dX8_led_38 : decode cX8_led 38 = .ok (.aload_n 0, 1) := by decide +kernel
theorem dX8_led_39 : decode cX8_led 39 = .ok (.getfield 45, 3) := by decide +kernel
theorem dX8_led_42 : decode cX8_led 42 = .ok (.getfield 183, 3) := by decide +kernel
theorem dX8_led_45 : decode cX8_led 45 = .ok (.iload_n 1, 1) := by decide +kernel
theorem dX8_led_46 : decode cX8_led 46 = .ok (.iaload, 1) := by decide +kernel
theorem dX8_led_47 : decode cX8_led 47 = .ok (.aaload, 1) := by decide +kernel
theorem dX8_led_48 : decode cX8_led 48 = .ok (.astore 4, 2) := by decide +kernel
theorem dX8_led_50 : decode cX8_led 50 = .ok (.iload_n 2, 1) := by decide +kernel
theorem dX8_led_51 : decode cX8_led 51 = .ok (.iload_n 3, 1) := by decide +kernel
theorem dX8_led_52 : decode cX8_led 52 = .ok (.invokestatic 104, 3) := by decide +kernel
theorem dX8_led_55 : decode cX8_led 55 = .ok (.istore 5, 2) := by decide +kernel
theorem dX8_led_57 : decode cX8_led 57 = .ok (.aload_n 0, 1) := by decide +kernel
theorem dX8_led_58 : decode cX8_led 58 = .ok (.getfield 27, 3) := by decide +kernel
theorem dX8_led_61 : decode cX8_led 61 = .ok (.aload 4, 2) := by decide +kernel
theorem dX8_led_63 : decode cX8_led 63 = .ok (.getfield 140, 3) := by decide +kernel
theorem dX8_led_66 : decode cX8_led 66 = .ok (.aload 4, 2) := by decide +kernel
theorem dX8_led_68 : decode cX8_led 68 = .ok (.iload_n 1, 1) := by decide +kernel
theorem dX8_led_69 : decode cX8_led 69 = .ok (.invokevirtual 186, 3) := by decide +kernel
theorem dX8_led_72 : decode cX8_led 72 = .ok (.iload 5, 2) := by decide +kernel
theorem dX8_led_74 : decode cX8_led 74 = .ok (.invokestatic 189, 3) := by decide +kernel
theorem dX8_led_77 : decode cX8_led 77 = .ok (.iadd, 1) := by decide +kernel
theorem dX8_led_78 : decode cX8_led 78 = .ok (.invokevirtual 192, 3) := by decide +kernel
theorem dX8_led_81 : decode cX8_led 81 = .ok (.istore 6, 2) := by decide +kernel
theorem dX8_led_83 : decode cX8_led 83 = .ok (.aload_n 0, 1) := by decide +kernel
theorem dX8_led_84 : decode cX8_led 84 = .ok (.getfield 45, 3) := by decide +kernel
theorem dX8_led_87 : decode cX8_led 87 = .ok (.getfield 195, 3) := by decide +kernel
theorem dX8_led_90 : decode cX8_led 90 = .ok (.iload_n 1, 1) := by decide +kernel
theorem dX8_led_91 : decode cX8_led 91 = .ok (.aaload, 1) := by decide +kernel
theorem dX8_led_92 : decode cX8_led 92 = .ok (.iload 5, 2) := by decide +kernel
theorem dX8_led_94 : decode cX8_led 94 = .ok (.iaload, 1) := by decide +kernel
theorem dX8_led_95 : decode cX8_led 95 = .ok (.iload 6, 2) := by decide +kernel
theorem dX8_led_97 : decode cX8_led 97 = .ok (.invokestatic 198, 3) := by decide +kernel
theorem dX8_led_100 : decode cX8_led 100 = .ok (.ifCond .eq 8, 3) := by decide +kernel
theorem dX8_led_103 : decode cX8_led 103 = .ok (.iload 6, 2) := by decide +kernel
theorem dX8_led_105 : decode cX8_led 105 = .ok (.goto 4, 3) := by decide +kernel
theorem dX8_led_108 : decode cX8_led 108 = .ok (.iconst (-1), 1) := by decide +kernel
theorem dX8_led_109 : decode cX8_led 109 = .ok (.ireturn, 1) := by decide +kernel
theorem dX8_count_0 : decode cX8_count 0 = .ok (.iload_n 1, 1) := by decide +kernel
theorem dX8_count_1 : decode cX8_count 1 = .ok (.tableswitch 108 0 7 #[47, 55, 63, 68, 76, 84, 92, 100], 47) := by decide +kernel
theorem dX8_count_48 : decode cX8_count 48 = .ok (.aload_n 0, 1) := by decide +kernel
theorem dX8_count_49 : decode cX8_count 49 = .ok (.getfield 27, 3) := by decide +kernel
theorem dX8_count_52 : decode cX8_count 52 = .ok (.getfield 72, 3) := by decide +kernel
theorem dX8_count_55 : decode cX8_count 55 = .ok (.ireturn, 1) := by decide +kernel
theorem dX8_count_56 : decode cX8_count 56 = .ok (.aload_n 0, 1) := by decide +kernel
theorem dX8_count_57 : decode cX8_count 57 = .ok (.getfield 34, 3) := by decide +kernel
theorem dX8_count_60 : decode cX8_count 60 = .ok (.getfield 146, 3) := by decide +kernel
theorem dX8_count_63 : decode cX8_count 63 = .ok (.ireturn, 1) := by decide +kernel
theorem dX8_count_64 : decode cX8_count 64 = .ok (.aload_n 0, 1) := by decide +kernel
theorem dX8_count_65 : decode cX8_count 65 = .ok (.getfield 49, 3) := by decide +kernel
theorem dX8_count_68 : decode cX8_count 68 = .ok (.ireturn, 1) := by decide +kernel
theorem dX8_count_69 : decode cX8_count 69 = .ok (.aload_n 0, 1) := by decide +kernel
theorem dX8_count_70 : decode cX8_count 70 = .ok (.getfield 45, 3) := by decide +kernel
theorem dX8_count_73 : decode cX8_count 73 = .ok (.getfield 201, 3) := by decide +kernel
theorem dX8_count_76 : decode cX8_count 76 = .ok (.ireturn, 1) := by decide +kernel
theorem dX8_count_77 : decode cX8_count 77 = .ok (.aload_n 0, 1) := by decide +kernel
theorem dX8_count_78 : decode cX8_count 78 = .ok (.getfield 45, 3) := by decide +kernel
theorem dX8_count_81 : decode cX8_count 81 = .ok (.invokevirtual 202, 3) := by decide +kernel
theorem dX8_count_84 : decode cX8_count 84 = .ok (.ireturn, 1) := by decide +kernel
theorem dX8_count_85 : decode cX8_count 85 = .ok (.aload_n 0, 1) := by decide +kernel
theorem dX8_count_86 : decode cX8_count 86 = .ok (.getfield 45, 3) := by decide +kernel
theorem dX8_count_89 : decode cX8_count 89 = .ok (.invokevirtual 205, 3) := by decide +kernel
theorem dX8_count_92 : decode cX8_count 92 = .ok (.ireturn, 1) := by decide +kernel
theorem dX8_count_93 : decode cX8_count 93 = .ok (.aload_n 0, 1) := by decide +kernel
theorem dX8_count_94 : decode cX8_count 94 = .ok (.getfield 45, 3) := by decide +kernel
theorem dX8_count_97 : decode cX8_count 97 = .ok (.invokevirtual 208, 3) := by decide +kernel
theorem dX8_count_100 : decode cX8_count 100 = .ok (.ireturn, 1) := by decide +kernel
theorem dX8_count_101 : decode cX8_count 101 = .ok (.aload_n 0, 1) := by decide +kernel
theorem dX8_count_102 : decode cX8_count 102 = .ok (.getfield 45, 3) := by decide +kernel
theorem dX8_count_105 : decode cX8_count 105 = .ok (.invokevirtual 211, 3) := by decide +kernel
theorem dX8_count_108 : decode cX8_count 108 = .ok (.ireturn, 1) := by decide +kernel
theorem dX8_count_109 : decode cX8_count 109 = .ok (.iconst (-1), 1) := by decide +kernel
theorem dX8_count_110 : decode cX8_count 110 = .ok (.ireturn, 1) := by decide +kernel
theorem dX8_isSpot_0 : decode cX8_isSpot 0 = .ok (.aload_n 0, 1) := by decide +kernel
theorem dX8_isSpot_1 : decode cX8_isSpot 1 = .ok (.getfield 34, 3) := by decide +kernel
theorem dX8_isSpot_4 : decode cX8_isSpot 4 = .ok (.iload_n 1, 1) := by decide +kernel
theorem dX8_isSpot_5 : decode cX8_isSpot 5 = .ok (.invokevirtual 114, 3) := by decide +kernel
theorem dX8_isSpot_8 : decode cX8_isSpot 8 = .ok (.ifCond .eq 24, 3) := by decide +kernel
theorem dX8_isSpot_11 : decode cX8_isSpot 11 = .ok (.iload_n 2, 1) := by decide +kernel
theorem dX8_isSpot_12 : decode cX8_isSpot 12 = .ok (.iconst 1, 1) := by decide +kernel
theorem dX8_isSpot_13 : decode cX8_isSpot 13 = .ok (.invokestatic 79, 3) := by decide +kernel
theorem dX8_isSpot_16 : decode cX8_isSpot 16 = .ok (.ifCond .eq 16, 3) := by decide +kernel
theorem dX8_isSpot_19 : decode cX8_isSpot 19 = .ok (.iload_n 3, 1) := by decide +kernel
theorem dX8_isSpot_20 : decode cX8_isSpot 20 = .ok (.bipush 7, 2) := by decide +kernel
theorem dX8_isSpot_22 : decode cX8_isSpot 22 = .ok (.invokestatic 79, 3) := by decide +kernel
theorem dX8_isSpot_25 : decode cX8_isSpot 25 = .ok (.ifCond .eq 7, 3) := by decide +kernel
theorem dX8_isSpot_28 : decode cX8_isSpot 28 = .ok (.iconst 1, 1) := by decide +kernel
theorem dX8_isSpot_29 : decode cX8_isSpot 29 = .ok (.goto 4, 3) := by decide +kernel
theorem dX8_isSpot_32 : decode cX8_isSpot 32 = .ok (.iconst 0, 1) := by decide +kernel
theorem dX8_isSpot_33 : decode cX8_isSpot 33 = .ok (.ireturn, 1) := by decide +kernel
theorem dX8_isWithin_0 : decode cX8_isWithin 0 = .ok (.iload_n 0, 1) := by decide +kernel
theorem dX8_isWithin_1 : decode cX8_isWithin 1 = .ok (.ifCond .lt 12, 3) := by decide +kernel
theorem dX8_isWithin_4 : decode cX8_isWithin 4 = .ok (.iload_n 0, 1) := by decide +kernel
theorem dX8_isWithin_5 : decode cX8_isWithin 5 = .ok (.iload_n 1, 1) := by decide +kernel
theorem dX8_isWithin_6 : decode cX8_isWithin 6 = .ok (.if_icmp .gt 7, 3) := by decide +kernel
theorem dX8_isWithin_9 : decode cX8_isWithin 9 = .ok (.iconst 1, 1) := by decide +kernel
theorem dX8_isWithin_10 : decode cX8_isWithin 10 = .ok (.goto 4, 3) := by decide +kernel
theorem dX8_isWithin_13 : decode cX8_isWithin 13 = .ok (.iconst 0, 1) := by decide +kernel
theorem dX8_isWithin_14 : decode cX8_isWithin 14 = .ok (.ireturn, 1) := by decide +kernel
theorem dX8_spotIndex_0 : decode cX8_spotIndex 0 = .ok (.iload_n 0, 1) := by decide +kernel
theorem dX8_spotIndex_1 : decode cX8_spotIndex 1 = .ok (.bipush 8, 2) := by decide +kernel
theorem dX8_spotIndex_3 : decode cX8_spotIndex 3 = .ok (.imul, 1) := by decide +kernel
theorem dX8_spotIndex_4 : decode cX8_spotIndex 4 = .ok (.iload_n 1, 1) := by decide +kernel
theorem dX8_spotIndex_5 : decode cX8_spotIndex 5 = .ok (.iadd, 1) := by decide +kernel
theorem dX8_spotIndex_6 : decode cX8_spotIndex 6 = .ok (.ireturn, 1) := by decide +kernel
theorem dX8_lettersAhead_0 : decode cX8_lettersAhead 0 = .ok (.iload_n 1, 1) := by decide +kernel
theorem dX8_lettersAhead_1 : decode cX8_lettersAhead 1 = .ok (.bipush 8, 2) := by decide +kernel
theorem dX8_lettersAhead_3 : decode cX8_lettersAhead 3 = .ok (.idiv, 1) := by decide +kernel
theorem dX8_lettersAhead_4 : decode cX8_lettersAhead 4 = .ok (.istore_n 2, 1) := by decide +kernel
theorem dX8_lettersAhead_5 : decode cX8_lettersAhead 5 = .ok (.iload_n 2, 1) := by decide +kernel
theorem dX8_lettersAhead_6 : decode cX8_lettersAhead 6 = .ok (.iconst 2, 1) := by decide +kernel
theorem dX8_lettersAhead_7 : decode cX8_lettersAhead 7 = .ok (.imul, 1) := by decide +kernel
theorem dX8_lettersAhead_8 : decode cX8_lettersAhead 8 = .ok (.iload_n 0, 1) := by decide +kernel
theorem dX8_lettersAhead_9 : decode cX8_lettersAhead 9 = .ok (.iadd, 1) := by decide +kernel
theorem dX8_lettersAhead_10 : decode cX8_lettersAhead 10 = .ok (.istore_n 3, 1) := by decide +kernel
theorem dX8_lettersAhead_11 : decode cX8_lettersAhead 11 = .ok (.iload_n 3, 1) := by decide +kernel
theorem dX8_lettersAhead_12 : decode cX8_lettersAhead 12 = .ok (.bipush 8, 2) := by decide +kernel
theorem dX8_lettersAhead_14 : decode cX8_lettersAhead 14 = .ok (.imul, 1) := by decide +kernel
theorem dX8_lettersAhead_15 : decode cX8_lettersAhead 15 = .ok (.iload_n 1, 1) := by decide +kernel
theorem dX8_lettersAhead_16 : decode cX8_lettersAhead 16 = .ok (.bipush 8, 2) := by decide +kernel
theorem dX8_lettersAhead_18 : decode cX8_lettersAhead 18 = .ok (.irem, 1) := by decide +kernel
theorem dX8_lettersAhead_19 : decode cX8_lettersAhead 19 = .ok (.iadd, 1) := by decide +kernel
theorem dX8_lettersAhead_20 : decode cX8_lettersAhead 20 = .ok (.ireturn, 1) := by decide +kernel
theorem dX8_hasLetter_0 : decode cX8_hasLetter 0 = .ok (.iload_n 1, 1) := by decide +kernel
theorem dX8_hasLetter_1 : decode cX8_hasLetter 1 = .ok (.bipush 15, 2) := by decide +kernel
theorem dX8_hasLetter_3 : decode cX8_hasLetter 3 = .ok (.invokestatic 79, 3) := by decide +kernel
theorem dX8_hasLetter_6 : decode cX8_hasLetter 6 = .ok (.ifCond .eq 16, 3) := by decide +kernel
theorem dX8_hasLetter_9 : decode cX8_hasLetter 9 = .ok (.iload_n 0, 1) := by decide +kernel
theorem dX8_hasLetter_10 : decode cX8_hasLetter 10 = .ok (.iload_n 1, 1) := by decide +kernel
theorem dX8_hasLetter_11 : decode cX8_hasLetter 11 = .ok (.ishr, 1) := by decide +kernel
theorem dX8_hasLetter_12 : decode cX8_hasLetter 12 = .ok (.iconst 1, 1) := by decide +kernel
theorem dX8_hasLetter_13 : decode cX8_hasLetter 13 = .ok (.iand, 1) := by decide +kernel
theorem dX8_hasLetter_14 : decode cX8_hasLetter 14 = .ok (.iconst 1, 1) := by decide +kernel
theorem dX8_hasLetter_15 : decode cX8_hasLetter 15 = .ok (.if_icmp .ne 7, 3) := by decide +kernel
theorem dX8_hasLetter_18 : decode cX8_hasLetter 18 = .ok (.iconst 1, 1) := by decide +kernel
theorem dX8_hasLetter_19 : decode cX8_hasLetter 19 = .ok (.goto 4, 3) := by decide +kernel
theorem dX8_hasLetter_22 : decode cX8_hasLetter 22 = .ok (.iconst 0, 1) := by decide +kernel
theorem dX8_hasLetter_23 : decode cX8_hasLetter 23 = .ok (.ireturn, 1) := by decide +kernel
theorem dX9_init_0 : decode cX9_init 0 = .ok (.aload_n 0, 1) := by decide +kernel
theorem dX9_init_1 : decode cX9_init 1 = .ok (.invokespecial 1, 3) := by decide +kernel
theorem dX9_init_4 : decode cX9_init 4 = .ok (.aload_n 0, 1) := by decide +kernel
theorem dX9_init_5 : decode cX9_init 5 = .ok (.sipush 400, 3) := by decide +kernel
theorem dX9_init_8 : decode cX9_init 8 = .ok (.newarray .int, 2) := by decide +kernel
theorem dX9_init_10 : decode cX9_init 10 = .ok (.putfield 7, 3) := by decide +kernel
theorem dX9_init_13 : decode cX9_init 13 = .ok (.aload_n 0, 1) := by decide +kernel
theorem dX9_init_14 : decode cX9_init 14 = .ok (.sipush 320, 3) := by decide +kernel
theorem dX9_init_17 : decode cX9_init 17 = .ok (.newarray .int, 2) := by decide +kernel
theorem dX9_init_19 : decode cX9_init 19 = .ok (.putfield 13, 3) := by decide +kernel
theorem dX9_init_22 : decode cX9_init 22 = .ok (.aload_n 0, 1) := by decide +kernel
theorem dX9_init_23 : decode cX9_init 23 = .ok (.iconst (-1), 1) := by decide +kernel
theorem dX9_init_24 : decode cX9_init 24 = .ok (.putfield 16, 3) := by decide +kernel
theorem dX9_init_27 : decode cX9_init 27 = .ok (.aload_n 0, 1) := by decide +kernel
theorem dX9_init_28 : decode cX9_init 28 = .ok (.bipush 8, 2) := by decide +kernel
theorem dX9_init_30 : decode cX9_init 30 = .ok (.newarray .int, 2) := by decide +kernel
theorem dX9_init_32 : decode cX9_init 32 = .ok (.putfield 20, 3) := by decide +kernel
theorem dX9_init_35 : decode cX9_init 35 = .ok (.aload_n 0, 1) := by decide +kernel
theorem dX9_init_36 : decode cX9_init 36 = .ok (.bipush 8, 2) := by decide +kernel
theorem dX9_init_38 : decode cX9_init 38 = .ok (.newarray .int, 2) := by decide +kernel
theorem dX9_init_40 : decode cX9_init 40 = .ok (.putfield 23, 3) := by decide +kernel
theorem dX9_init_43 : decode cX9_init 43 = .ok (.aload_n 0, 1) := by decide +kernel
theorem dX9_init_44 : decode cX9_init 44 = .ok (.bipush 8, 2) := by decide +kernel
theorem dX9_init_46 : decode cX9_init 46 = .ok (.newarray .int, 2) := by decide +kernel
theorem dX9_init_48 : decode cX9_init 48 = .ok (.putfield 26, 3) := by decide +kernel
theorem dX9_init_51 : decode cX9_init 51 = .ok (.aload_n 0, 1) := by decide +kernel
theorem dX9_init_52 : decode cX9_init 52 = .ok (.sipush 128, 3) := by decide +kernel
theorem dX9_init_55 : decode cX9_init 55 = .ok (.newarray .int, 2) := by decide +kernel
theorem dX9_init_57 : decode cX9_init 57 = .ok (.putfield 29, 3) := by decide +kernel
theorem dX9_init_60 : decode cX9_init 60 = .ok (.aload_n 0, 1) := by decide +kernel
theorem dX9_init_61 : decode cX9_init 61 = .ok (.sipush 256, 3) := by decide +kernel
theorem dX9_init_64 : decode cX9_init 64 = .ok (.newarray .int, 2) := by decide +kernel
theorem dX9_init_66 : decode cX9_init 66 = .ok (.putfield 32, 3) := by decide +kernel
theorem dX9_init_69 : decode cX9_init 69 = .ok (.aload_n 0, 1) := by decide +kernel
theorem dX9_init_70 : decode cX9_init 70 = .ok (.bipush 64, 2) := by decide +kernel
theorem dX9_init_72 : decode cX9_init 72 = .ok (.newarray .int, 2) := by decide +kernel
theorem dX9_init_74 : decode cX9_init 74 = .ok (.putfield 35, 3) := by decide +kernel
theorem dX9_init_77 : decode cX9_init 77 = .ok (.aload_n 0, 1) := by decide +kernel
theorem dX9_init_78 : decode cX9_init 78 = .ok (.bipush 8, 2) := by decide +kernel
theorem dX9_init_80 : decode cX9_init 80 = .ok (.newarray .int, 2) := by decide +kernel
theorem dX9_init_82 : decode cX9_init 82 = .ok (.putfield 38, 3) := by decide +kernel
theorem dX9_init_85 : decode cX9_init 85 = .ok (.aload_n 0, 1) := by decide +kernel
theorem dX9_init_86 : decode cX9_init 86 = .ok (.bipush 8, 2) := by decide +kernel
theorem dX9_init_88 : decode cX9_init 88 = .ok (.newarray .int, 2) := by decide +kernel
theorem dX9_init_90 : decode cX9_init 90 = .ok (.putfield 41, 3) := by decide +kernel
theorem dX9_init_93 : decode cX9_init 93 = .ok (.aload_n 0, 1) := by decide +kernel
theorem dX9_init_94 : decode cX9_init 94 = .ok (.bipush 8, 2) := by decide +kernel
theorem dX9_init_96 : decode cX9_init 96 = .ok (.newarray .int, 2) := by decide +kernel
theorem dX9_init_98 : decode cX9_init 98 = .ok (.putfield 44, 3) := by decide +kernel
theorem dX9_init_101 : decode cX9_init 101 = .ok (.aload_n 0, 1) := by decide +kernel
theorem dX9_init_102 : decode cX9_init 102 = .ok (.bipush 8, 2) := by decide +kernel
theorem dX9_init_104 : decode cX9_init 104 = .ok (.newarray .int, 2) := by decide +kernel
theorem dX9_init_106 : decode cX9_init 106 = .ok (.putfield 47, 3) := by decide +kernel
theorem dX9_init_109 : decode cX9_init 109 = .ok (.aload_n 0, 1) := by decide +kernel
theorem dX9_init_110 : decode cX9_init 110 = .ok (.bipush 8, 2) := by decide +kernel
theorem dX9_init_112 : decode cX9_init 112 = .ok (.newarray .int, 2) := by decide +kernel
theorem dX9_init_114 : decode cX9_init 114 = .ok (.putfield 50, 3) := by decide +kernel
theorem dX9_init_117 : decode cX9_init 117 = .ok (.aload_n 0, 1) := by decide +kernel
theorem dX9_init_118 : decode cX9_init 118 = .ok (.sipush 128, 3) := by decide +kernel
theorem dX9_init_121 : decode cX9_init 121 = .ok (.newarray .int, 2) := by decide +kernel
theorem dX9_init_123 : decode cX9_init 123 = .ok (.putfield 53, 3) := by decide +kernel
theorem dX9_init_126 : decode cX9_init 126 = .ok (.aload_n 0, 1) := by decide +kernel
theorem dX9_init_127 : decode cX9_init 127 = .ok (.sipush 128, 3) := by decide +kernel
theorem dX9_init_130 : decode cX9_init 130 = .ok (.newarray .int, 2) := by decide +kernel
theorem dX9_init_132 : decode cX9_init 132 = .ok (.putfield 56, 3) := by decide +kernel
theorem dX9_init_135 : decode cX9_init 135 = .ok (.aload_n 0, 1) := by decide +kernel
theorem dX9_init_136 : decode cX9_init 136 = .ok (.bipush 8, 2) := by decide +kernel
theorem dX9_init_138 : decode cX9_init 138 = .ok (.newarray .boolean, 2) := by decide +kernel
theorem dX9_init_140 : decode cX9_init 140 = .ok (.putfield 59, 3) := by decide +kernel
theorem dX9_init_143 : decode cX9_init 143 = .ok (.aload_n 0, 1) := by decide +kernel
theorem dX9_init_144 : decode cX9_init 144 = .ok (.bipush 8, 2) := by decide +kernel
theorem dX9_init_146 : decode cX9_init 146 = .ok (.newarray .int, 2) := by decide +kernel
theorem dX9_init_148 : decode cX9_init 148 = .ok (.putfield 63, 3) := by decide +kernel
theorem dX9_init_151 : decode cX9_init 151 = .ok (.aload_n 0, 1) := by decide +kernel
theorem dX9_init_152 : decode cX9_init 152 = .ok (.iconst 3, 1) := by decide +kernel
theorem dX9_init_153 : decode cX9_init 153 = .ok (.putfield 66, 3) := by decide +kernel
theorem dX9_init_156 : decode cX9_init 156 = .ok (.return_, 1) := by decide +kernel
theorem dX9_feed_0 : decode cX9_feed 0 = .ok (.aload_n 0, 1) := by decide +kernel
theorem dX9_feed_1 : decode cX9_feed 1 = .ok (.iconst 0, 1) := by decide +kernel
theorem dX9_feed_2 : decode cX9_feed 2 = .ok (.putfield 69, 3) := by decide +kernel
theorem dX9_feed_5 : decode cX9_feed 5 = .ok (.aload_n 0, 1) := by decide +kernel
theorem dX9_feed_6 : decode cX9_feed 6 = .ok (.getfield 72, 3) := by decide +kernel
theorem dX9_feed_9 : decode cX9_feed 9 = .ok (.sipush 380, 3) := by decide +kernel
theorem dX9_feed_12 : decode cX9_feed 12 = .ok (.if_icmp .le 5, 3) := by decide +kernel
theorem dX9_feed_15 : decode cX9_feed 15 = .ok (.iconst (-1), 1) := by decide +kernel
theorem dX9_feed_16 : decode cX9_feed 16 = .ok (.ireturn, 1) := by decide +kernel
theorem dX9_feed_17 : decode cX9_feed 17 = .ok (.iconst 0, 1) := by decide +kernel
theorem dX9_feed_18 : decode cX9_feed 18 = .ok (.istore 6, 2) := by decide +kernel
theorem dX9_feed_20 : decode cX9_feed 20 = .ok (.iload 6, 2) := by decide +kernel
theorem dX9_feed_22 : decode cX9_feed 22 = .ok (.bipush 20, 2) := by decide +kernel
theorem dX9_feed_24 : decode cX9_feed 24 = .ok (.if_icmp .ge 86, 3) := by decide +kernel
theorem dX9_feed_27 : decode cX9_feed 27 = .ok (.iload 6, 2) := by decide +kernel
theorem dX9_feed_29 : decode cX9_feed 29 = .ok (.iconst 4, 1) := by decide +kernel
theorem dX9_feed_30 : decode cX9_feed 30 = .ok (.if_icmp .ge 7, 3) := by decide +kernel
theorem dX9_feed_33 : decode cX9_feed 33 = .ok (.iload_n 1, 1) := by decide +kernel
theorem dX9_feed_34 : decode cX9_feed 34 = .ok (.goto 39, 3) := by decide +kernel
theorem dX9_feed_37 : decode cX9_feed 37 = .ok (.iload 6, 2) := by decide +kernel
theorem dX9_feed_39 : decode cX9_feed 39 = .ok (.bipush 8, 2) := by decide +kernel
theorem dX9_feed_41 : decode cX9_feed 41 = .ok (.if_icmp .ge 7, 3) := by decide +kernel
theorem dX9_feed_44 : decode cX9_feed 44 = .ok (.iload_n 2, 1) := by decide +kernel
theorem dX9_feed_45 : decode cX9_feed 45 = .ok (.goto 28, 3) := by decide +kernel
theorem dX9_feed_48 : decode cX9_feed 48 = .ok (.iload 6, 2) := by decide +kernel
