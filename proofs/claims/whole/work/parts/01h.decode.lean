theorem dX9_comes_151 : decode cX9_comes 151 = .ok (.invokevirtual 103, 3) := by decide +kernel
theorem dX9_comes_154 : decode cX9_comes 154 = .ok (.iastore, 1) := by decide +kernel
theorem dX9_comes_155 : decode cX9_comes 155 = .ok (.aload_n 0, 1) := by decide +kernel
theorem dX9_comes_156 : decode cX9_comes 156 = .ok (.getfield 129, 3) := by decide +kernel
theorem dX9_comes_159 : decode cX9_comes 159 = .ok (.iconst (-1), 1) := by decide +kernel
theorem dX9_comes_160 : decode cX9_comes 160 = .ok (.if_icmp .eq 27, 3) := by decide +kernel
theorem dX9_comes_163 : decode cX9_comes 163 = .ok (.aload_n 0, 1) := by decide +kernel
theorem dX9_comes_164 : decode cX9_comes 164 = .ok (.getfield 56, 3) := by decide +kernel
theorem dX9_comes_167 : decode cX9_comes 167 = .ok (.bipush 16, 2) := by decide +kernel
theorem dX9_comes_169 : decode cX9_comes 169 = .ok (.aload_n 0, 1) := by decide +kernel
theorem dX9_comes_170 : decode cX9_comes 170 = .ok (.getfield 129, 3) := by decide +kernel
theorem dX9_comes_173 : decode cX9_comes 173 = .ok (.imul, 1) := by decide +kernel
theorem dX9_comes_174 : decode cX9_comes 174 = .ok (.iload_n 1, 1) := by decide +kernel
theorem dX9_comes_175 : decode cX9_comes 175 = .ok (.iadd, 1) := by decide +kernel
theorem dX9_comes_176 : decode cX9_comes 176 = .ok (.aload_n 0, 1) := by decide +kernel
theorem dX9_comes_177 : decode cX9_comes 177 = .ok (.iconst 1, 1) := by decide +kernel
theorem dX9_comes_178 : decode cX9_comes 178 = .ok (.aload_n 0, 1) := by decide +kernel
theorem dX9_comes_179 : decode cX9_comes 179 = .ok (.getfield 123, 3) := by decide +kernel
theorem dX9_comes_182 : decode cX9_comes 182 = .ok (.iload_n 1, 1) := by decide +kernel
theorem dX9_comes_183 : decode cX9_comes 183 = .ok (.invokevirtual 103, 3) := by decide +kernel
theorem dX9_comes_186 : decode cX9_comes 186 = .ok (.iastore, 1) := by decide +kernel
theorem dX9_comes_187 : decode cX9_comes 187 = .ok (.iinc 1 1, 3) := by decide +kernel
theorem dX9_comes_190 : decode cX9_comes 190 = .ok (.goto (-73), 3) := by decide +kernel
theorem dX9_comes_193 : decode cX9_comes 193 = .ok (.aload_n 0, 1) := by decide +kernel
theorem dX9_comes_194 : decode cX9_comes 194 = .ok (.dup, 1) := by decide +kernel
theorem dX9_comes_195 : decode cX9_comes 195 = .ok (.getfield 81, 3) := by decide +kernel
theorem dX9_comes_198 : decode cX9_comes 198 = .ok (.iconst 1, 1) := by decide +kernel
theorem dX9_comes_199 : decode cX9_comes 199 = .ok (.iadd, 1) := by decide +kernel
theorem dX9_comes_200 : decode cX9_comes 200 = .ok (.putfield 81, 3) := by decide +kernel
theorem dX9_comes_203 : decode cX9_comes 203 = .ok (.return_, 1) := by decide +kernel
theorem dX9_orders_0 : decode cX9_orders 0 = .ok (.iconst 0, 1) := by decide +kernel
theorem dX9_orders_1 : decode cX9_orders 1 = .ok (.istore_n 1, 1) := by decide +kernel
theorem dX9_orders_2 : decode cX9_orders 2 = .ok (.iload_n 1, 1) := by decide +kernel
theorem dX9_orders_3 : decode cX9_orders 3 = .ok (.aload_n 0, 1) := by decide +kernel
theorem dX9_orders_4 : decode cX9_orders 4 = .ok (.getfield 81, 3) := by decide +kernel
theorem dX9_orders_7 : decode cX9_orders 7 = .ok (.if_icmp .ge 64, 3) := by decide +kernel
theorem dX9_orders_10 : decode cX9_orders 10 = .ok (.iload_n 1, 1) := by decide +kernel
theorem dX9_orders_11 : decode cX9_orders 11 = .ok (.istore_n 2, 1) := by decide +kernel
theorem dX9_orders_12 : decode cX9_orders 12 = .ok (.iload_n 2, 1) := by decide +kernel
theorem dX9_orders_13 : decode cX9_orders 13 = .ok (.ifCond .le 45, 3) := by decide +kernel
theorem dX9_orders_16 : decode cX9_orders 16 = .ok (.aload_n 0, 1) := by decide +kernel
theorem dX9_orders_17 : decode cX9_orders 17 = .ok (.getfield 44, 3) := by decide +kernel
theorem dX9_orders_20 : decode cX9_orders 20 = .ok (.aload_n 0, 1) := by decide +kernel
theorem dX9_orders_21 : decode cX9_orders 21 = .ok (.getfield 63, 3) := by decide +kernel
theorem dX9_orders_24 : decode cX9_orders 24 = .ok (.iload_n 2, 1) := by decide +kernel
theorem dX9_orders_25 : decode cX9_orders 25 = .ok (.iconst 1, 1) := by decide +kernel
theorem dX9_orders_26 : decode cX9_orders 26 = .ok (.isub, 1) := by decide +kernel
theorem dX9_orders_27 : decode cX9_orders 27 = .ok (.iaload, 1) := by decide +kernel
theorem dX9_orders_28 : decode cX9_orders 28 = .ok (.iaload, 1) := by decide +kernel
theorem dX9_orders_29 : decode cX9_orders 29 = .ok (.aload_n 0, 1) := by decide +kernel
theorem dX9_orders_30 : decode cX9_orders 30 = .ok (.getfield 44, 3) := by decide +kernel
theorem dX9_orders_33 : decode cX9_orders 33 = .ok (.iload_n 1, 1) := by decide +kernel
theorem dX9_orders_34 : decode cX9_orders 34 = .ok (.iaload, 1) := by decide +kernel
theorem dX9_orders_35 : decode cX9_orders 35 = .ok (.if_icmp .le 23, 3) := by decide +kernel
theorem dX9_orders_38 : decode cX9_orders 38 = .ok (.aload_n 0, 1) := by decide +kernel
theorem dX9_orders_39 : decode cX9_orders 39 = .ok (.getfield 63, 3) := by decide +kernel
theorem dX9_orders_42 : decode cX9_orders 42 = .ok (.iload_n 2, 1) := by decide +kernel
theorem dX9_orders_43 : decode cX9_orders 43 = .ok (.aload_n 0, 1) := by decide +kernel
theorem dX9_orders_44 : decode cX9_orders 44 = .ok (.getfield 63, 3) := by decide +kernel
theorem dX9_orders_47 : decode cX9_orders 47 = .ok (.iload_n 2, 1) := by decide +kernel
theorem dX9_orders_48 : decode cX9_orders 48 = .ok (.iconst 1, 1) := by decide +kernel
theorem dX9_orders_49 : decode cX9_orders 49 = .ok (.isub, 1) := by decide +kernel
theorem dX9_orders_50 : decode cX9_orders 50 = .ok (.iaload, 1) := by decide +kernel
theorem dX9_orders_51 : decode cX9_orders 51 = .ok (.iastore, 1) := by decide +kernel
theorem dX9_orders_52 : decode cX9_orders 52 = .ok (.iinc 2 (-1), 3) := by decide +kernel
theorem dX9_orders_55 : decode cX9_orders 55 = .ok (.goto (-43), 3) := by decide +kernel
theorem dX9_orders_58 : decode cX9_orders 58 = .ok (.aload_n 0, 1) := by decide +kernel
theorem dX9_orders_59 : decode cX9_orders 59 = .ok (.getfield 63, 3) := by decide +kernel
theorem dX9_orders_62 : decode cX9_orders 62 = .ok (.iload_n 2, 1) := by decide +kernel
theorem dX9_orders_63 : decode cX9_orders 63 = .ok (.iload_n 1, 1) := by decide +kernel
theorem dX9_orders_64 : decode cX9_orders 64 = .ok (.iastore, 1) := by decide +kernel
theorem dX9_orders_65 : decode cX9_orders 65 = .ok (.iinc 1 1, 3) := by decide +kernel
theorem dX9_orders_68 : decode cX9_orders 68 = .ok (.goto (-66), 3) := by decide +kernel
theorem dX9_orders_71 : decode cX9_orders 71 = .ok (.return_, 1) := by decide +kernel
theorem dX9_leaf_0 : decode cX9_leaf 0 = .ok (.aload_n 0, 1) := by decide +kernel
theorem dX9_leaf_1 : decode cX9_leaf 1 = .ok (.iconst 0, 1) := by decide +kernel
theorem dX9_leaf_2 : decode cX9_leaf 2 = .ok (.putfield 69, 3) := by decide +kernel
theorem dX9_leaf_5 : decode cX9_leaf 5 = .ok (.iload_n 1, 1) := by decide +kernel
theorem dX9_leaf_6 : decode cX9_leaf 6 = .ok (.ifCond .lt 11, 3) := by decide +kernel
theorem dX9_leaf_9 : decode cX9_leaf 9 = .ok (.iload_n 1, 1) := by decide +kernel
theorem dX9_leaf_10 : decode cX9_leaf 10 = .ok (.aload_n 0, 1) := by decide +kernel
theorem dX9_leaf_11 : decode cX9_leaf 11 = .ok (.getfield 81, 3) := by decide +kernel
theorem dX9_leaf_14 : decode cX9_leaf 14 = .ok (.if_icmp .lt 5, 3) := by decide +kernel
theorem dX9_leaf_17 : decode cX9_leaf 17 = .ok (.iconst (-1), 1) := by decide +kernel
theorem dX9_leaf_18 : decode cX9_leaf 18 = .ok (.ireturn, 1) := by decide +kernel
theorem dX9_leaf_19 : decode cX9_leaf 19 = .ok (.iload_n 2, 1) := by decide +kernel
theorem dX9_leaf_20 : decode cX9_leaf 20 = .ok (.tableswitch 80 0 5 #[40, 47, 54, 61, 68, 75], 40) := by decide +kernel
theorem dX9_leaf_60 : decode cX9_leaf 60 = .ok (.aload_n 0, 1) := by decide +kernel
theorem dX9_leaf_61 : decode cX9_leaf 61 = .ok (.getfield 38, 3) := by decide +kernel
theorem dX9_leaf_64 : decode cX9_leaf 64 = .ok (.iload_n 1, 1) := by decide +kernel
theorem dX9_leaf_65 : decode cX9_leaf 65 = .ok (.iaload, 1) := by decide +kernel
theorem dX9_leaf_66 : decode cX9_leaf 66 = .ok (.ireturn, 1) := by decide +kernel
theorem dX9_leaf_67 : decode cX9_leaf 67 = .ok (.aload_n 0, 1) := by decide +kernel
theorem dX9_leaf_68 : decode cX9_leaf 68 = .ok (.getfield 41, 3) := by decide +kernel
theorem dX9_leaf_71 : decode cX9_leaf 71 = .ok (.iload_n 1, 1) := by decide +kernel
theorem dX9_leaf_72 : decode cX9_leaf 72 = .ok (.iaload, 1) := by decide +kernel
theorem dX9_leaf_73 : decode cX9_leaf 73 = .ok (.ireturn, 1) := by decide +kernel
theorem dX9_leaf_74 : decode cX9_leaf 74 = .ok (.aload_n 0, 1) := by decide +kernel
theorem dX9_leaf_75 : decode cX9_leaf 75 = .ok (.getfield 44, 3) := by decide +kernel
theorem dX9_leaf_78 : decode cX9_leaf 78 = .ok (.iload_n 1, 1) := by decide +kernel
theorem dX9_leaf_79 : decode cX9_leaf 79 = .ok (.iaload, 1) := by decide +kernel
theorem dX9_leaf_80 : decode cX9_leaf 80 = .ok (.ireturn, 1) := by decide +kernel
theorem dX9_leaf_81 : decode cX9_leaf 81 = .ok (.aload_n 0, 1) := by decide +kernel
theorem dX9_leaf_82 : decode cX9_leaf 82 = .ok (.getfield 47, 3) := by decide +kernel
theorem dX9_leaf_85 : decode cX9_leaf 85 = .ok (.iload_n 1, 1) := by decide +kernel
theorem dX9_leaf_86 : decode cX9_leaf 86 = .ok (.iaload, 1) := by decide +kernel
theorem dX9_leaf_87 : decode cX9_leaf 87 = .ok (.ireturn, 1) := by decide +kernel
theorem dX9_leaf_88 : decode cX9_leaf 88 = .ok (.aload_n 0, 1) := by decide +kernel
theorem dX9_leaf_89 : decode cX9_leaf 89 = .ok (.getfield 50, 3) := by decide +kernel
theorem dX9_leaf_92 : decode cX9_leaf 92 = .ok (.iload_n 1, 1) := by decide +kernel
theorem dX9_leaf_93 : decode cX9_leaf 93 = .ok (.iaload, 1) := by decide +kernel
theorem dX9_leaf_94 : decode cX9_leaf 94 = .ok (.ireturn, 1) := by decide +kernel
theorem dX9_leaf_95 : decode cX9_leaf 95 = .ok (.aload_n 0, 1) := by decide +kernel
theorem dX9_leaf_96 : decode cX9_leaf 96 = .ok (.getfield 156, 3) := by decide +kernel
theorem dX9_leaf_99 : decode cX9_leaf 99 = .ok (.ireturn, 1) := by decide +kernel
theorem dX9_leaf_100 : decode cX9_leaf 100 = .ok (.iconst (-1), 1) := by decide +kernel
theorem dX9_leaf_101 : decode cX9_leaf 101 = .ok (.ireturn, 1) := by decide +kernel
theorem dX9_between_0 : decode cX9_between 0 = .ok (.aload_n 0, 1) := by decide +kernel
theorem dX9_between_1 : decode cX9_between 1 = .ok (.getfield 44, 3) := by decide +kernel
theorem dX9_between_4 : decode cX9_between 4 = .ok (.aload_n 0, 1) := by decide +kernel
theorem dX9_between_5 : decode cX9_between 5 = .ok (.getfield 63, 3) := by decide +kernel
theorem dX9_between_8 : decode cX9_between 8 = .ok (.iload_n 1, 1) := by decide +kernel
theorem dX9_between_9 : decode cX9_between 9 = .ok (.iconst 1, 1) := by decide +kernel
theorem dX9_between_10 : decode cX9_between 10 = .ok (.iadd, 1) := by decide +kernel
theorem dX9_between_11 : decode cX9_between 11 = .ok (.iaload, 1) := by decide +kernel
theorem dX9_between_12 : decode cX9_between 12 = .ok (.iaload, 1) := by decide +kernel
theorem dX9_between_13 : decode cX9_between 13 = .ok (.aload_n 0, 1) := by decide +kernel
theorem dX9_between_14 : decode cX9_between 14 = .ok (.getfield 44, 3) := by decide +kernel
theorem dX9_between_17 : decode cX9_between 17 = .ok (.aload_n 0, 1) := by decide +kernel
theorem dX9_between_18 : decode cX9_between 18 = .ok (.getfield 63, 3) := by decide +kernel
theorem dX9_between_21 : decode cX9_between 21 = .ok (.iload_n 1, 1) := by decide +kernel
theorem dX9_between_22 : decode cX9_between 22 = .ok (.iaload, 1) := by decide +kernel
theorem dX9_between_23 : decode cX9_between 23 = .ok (.iaload, 1) := by decide +kernel
theorem dX9_between_24 : decode cX9_between 24 = .ok (.isub, 1) := by decide +kernel
theorem dX9_between_25 : decode cX9_between 25 = .ok (.bipush 32, 2) := by decide +kernel
theorem dX9_between_27 : decode cX9_between 27 = .ok (.isub, 1) := by decide +kernel
theorem dX9_between_28 : decode cX9_between 28 = .ok (.ireturn, 1) := by decide +kernel
theorem dX9_lostBehind_0 : decode cX9_lostBehind 0 = .ok (.aload_n 0, 1) := by decide +kernel
theorem dX9_lostBehind_1 : decode cX9_lostBehind 1 = .ok (.iload_n 1, 1) := by decide +kernel
theorem dX9_lostBehind_2 : decode cX9_lostBehind 2 = .ok (.invokevirtual 165, 3) := by decide +kernel
theorem dX9_lostBehind_5 : decode cX9_lostBehind 5 = .ok (.istore_n 2, 1) := by decide +kernel
theorem dX9_lostBehind_6 : decode cX9_lostBehind 6 = .ok (.iload_n 2, 1) := by decide +kernel
theorem dX9_lostBehind_7 : decode cX9_lostBehind 7 = .ok (.ifCond .lt 10, 3) := by decide +kernel
theorem dX9_lostBehind_10 : decode cX9_lostBehind 10 = .ok (.iload_n 2, 1) := by decide +kernel
theorem dX9_lostBehind_11 : decode cX9_lostBehind 11 = .ok (.bipush 32, 2) := by decide +kernel
theorem dX9_lostBehind_13 : decode cX9_lostBehind 13 = .ok (.irem, 1) := by decide +kernel
theorem dX9_lostBehind_14 : decode cX9_lostBehind 14 = .ok (.ifCond .eq 7, 3) := by decide +kernel
theorem dX9_lostBehind_17 : decode cX9_lostBehind 17 = .ok (.iconst (-1), 1) := by decide +kernel
theorem dX9_lostBehind_18 : decode cX9_lostBehind 18 = .ok (.goto 7, 3) := by decide +kernel
theorem dX9_lostBehind_21 : decode cX9_lostBehind 21 = .ok (.iload_n 2, 1) := by decide +kernel
theorem dX9_lostBehind_22 : decode cX9_lostBehind 22 = .ok (.bipush 32, 2) := by decide +kernel
theorem dX9_lostBehind_24 : decode cX9_lostBehind 24 = .ok (.idiv, 1) := by decide +kernel
theorem dX9_lostBehind_25 : decode cX9_lostBehind 25 = .ok (.ireturn, 1) := by decide +kernel
theorem dX9_sideOf_0 : decode cX9_sideOf 0 = .ok (.aload_n 0, 1) := by decide +kernel
theorem dX9_sideOf_1 : decode cX9_sideOf 1 = .ok (.getfield 23, 3) := by decide +kernel
theorem dX9_sideOf_4 : decode cX9_sideOf 4 = .ok (.aload_n 0, 1) := by decide +kernel
theorem dX9_sideOf_5 : decode cX9_sideOf 5 = .ok (.getfield 38, 3) := by decide +kernel
theorem dX9_sideOf_8 : decode cX9_sideOf 8 = .ok (.iload_n 1, 1) := by decide +kernel
theorem dX9_sideOf_9 : decode cX9_sideOf 9 = .ok (.iaload, 1) := by decide +kernel
theorem dX9_sideOf_10 : decode cX9_sideOf 10 = .ok (.iconst (-1), 1) := by decide +kernel
theorem dX9_sideOf_11 : decode cX9_sideOf 11 = .ok (.if_icmp .ne 12, 3) := by decide +kernel
theorem dX9_sideOf_14 : decode cX9_sideOf 14 = .ok (.aload_n 0, 1) := by decide +kernel
theorem dX9_sideOf_15 : decode cX9_sideOf 15 = .ok (.getfield 41, 3) := by decide +kernel
theorem dX9_sideOf_18 : decode cX9_sideOf 18 = .ok (.iload_n 1, 1) := by decide +kernel
theorem dX9_sideOf_19 : decode cX9_sideOf 19 = .ok (.iaload, 1) := by decide +kernel
theorem dX9_sideOf_20 : decode cX9_sideOf 20 = .ok (.goto 9, 3) := by decide +kernel
theorem dX9_sideOf_23 : decode cX9_sideOf 23 = .ok (.aload_n 0, 1) := by decide +kernel
theorem dX9_sideOf_24 : decode cX9_sideOf 24 = .ok (.getfield 38, 3) := by decide +kernel
theorem dX9_sideOf_27 : decode cX9_sideOf 27 = .ok (.iload_n 1, 1) := by decide +kernel
theorem dX9_sideOf_28 : decode cX9_sideOf 28 = .ok (.iaload, 1) := by decide +kernel
theorem dX9_sideOf_29 : decode cX9_sideOf 29 = .ok (.iaload, 1) := by decide +kernel
theorem dX9_sideOf_30 : decode cX9_sideOf 30 = .ok (.ireturn, 1) := by decide +kernel
theorem dX9_breaks_0 : decode cX9_breaks 0 = .ok (.aload_n 0, 1) := by decide +kernel
theorem dX9_breaks_1 : decode cX9_breaks 1 = .ok (.iload_n 1, 1) := by decide +kernel
theorem dX9_breaks_2 : decode cX9_breaks 2 = .ok (.invokevirtual 165, 3) := by decide +kernel
theorem dX9_breaks_5 : decode cX9_breaks 5 = .ok (.ifCond .ne 34, 3) := by decide +kernel
theorem dX9_breaks_8 : decode cX9_breaks 8 = .ok (.iconst 1, 1) := by decide +kernel
theorem dX9_breaks_9 : decode cX9_breaks 9 = .ok (.aload_n 0, 1) := by decide +kernel
theorem dX9_breaks_10 : decode cX9_breaks 10 = .ok (.aload_n 0, 1) := by decide +kernel
theorem dX9_breaks_11 : decode cX9_breaks 11 = .ok (.getfield 63, 3) := by decide +kernel
theorem dX9_breaks_14 : decode cX9_breaks 14 = .ok (.iload_n 1, 1) := by decide +kernel
theorem dX9_breaks_15 : decode cX9_breaks 15 = .ok (.iaload, 1) := by decide +kernel
theorem dX9_breaks_16 : decode cX9_breaks 16 = .ok (.invokevirtual 168, 3) := by decide +kernel
theorem dX9_breaks_19 : decode cX9_breaks 19 = .ok (.isub, 1) := by decide +kernel
theorem dX9_breaks_20 : decode cX9_breaks 20 = .ok (.aload_n 0, 1) := by decide +kernel
theorem dX9_breaks_21 : decode cX9_breaks 21 = .ok (.aload_n 0, 1) := by decide +kernel
theorem dX9_breaks_22 : decode cX9_breaks 22 = .ok (.getfield 63, 3) := by decide +kernel
theorem dX9_breaks_25 : decode cX9_breaks 25 = .ok (.iload_n 1, 1) := by decide +kernel
theorem dX9_breaks_26 : decode cX9_breaks 26 = .ok (.iconst 1, 1) := by decide +kernel
theorem dX9_breaks_27 : decode cX9_breaks 27 = .ok (.iadd, 1) := by decide +kernel
theorem dX9_breaks_28 : decode cX9_breaks 28 = .ok (.iaload, 1) := by decide +kernel
theorem dX9_breaks_29 : decode cX9_breaks 29 = .ok (.invokevirtual 168, 3) := by decide +kernel
theorem dX9_breaks_32 : decode cX9_breaks 32 = .ok (.if_icmp .eq 7, 3) := by decide +kernel
theorem dX9_breaks_35 : decode cX9_breaks 35 = .ok (.iconst 1, 1) := by decide +kernel
theorem dX9_breaks_36 : decode cX9_breaks 36 = .ok (.goto 4, 3) := by decide +kernel
theorem dX9_breaks_39 : decode cX9_breaks 39 = .ok (.iconst 0, 1) := by decide +kernel
theorem dX9_breaks_40 : decode cX9_breaks 40 = .ok (.ireturn, 1) := by decide +kernel
theorem dX9_book_0 : decode cX9_book 0 = .ok (.aload_n 0, 1) := by decide +kernel
theorem dX9_book_1 : decode cX9_book 1 = .ok (.iconst 0, 1) := by decide +kernel
theorem dX9_book_2 : decode cX9_book 2 = .ok (.putfield 69, 3) := by decide +kernel
theorem dX9_book_5 : decode cX9_book 5 = .ok (.iload_n 1, 1) := by decide +kernel
theorem dX9_book_6 : decode cX9_book 6 = .ok (.ifCond .lt 11, 3) := by decide +kernel
theorem dX9_book_9 : decode cX9_book 9 = .ok (.iload_n 1, 1) := by decide +kernel
theorem dX9_book_10 : decode cX9_book 10 = .ok (.aload_n 0, 1) := by decide +kernel
theorem dX9_book_11 : decode cX9_book 11 = .ok (.getfield 81, 3) := by decide +kernel
theorem dX9_book_14 : decode cX9_book 14 = .ok (.if_icmp .lt 5, 3) := by decide +kernel
theorem dX9_book_17 : decode cX9_book 17 = .ok (.iconst (-1), 1) := by decide +kernel
theorem dX9_book_18 : decode cX9_book 18 = .ok (.ireturn, 1) := by decide +kernel
theorem dX9_book_19 : decode cX9_book 19 = .ok (.iload_n 2, 1) := by decide +kernel
theorem dX9_book_20 : decode cX9_book 20 = .ok (.tableswitch 79 0 2 #[28, 35, 55], 28) := by decide +kernel
theorem dX9_book_48 : decode cX9_book 48 = .ok (.aload_n 0, 1) := by decide +kernel
theorem dX9_book_49 : decode cX9_book 49 = .ok (.getfield 63, 3) := by decide +kernel
theorem dX9_book_52 : decode cX9_book 52 = .ok (.iload_n 1, 1) := by decide +kernel
theorem dX9_book_53 : decode cX9_book 53 = .ok (.iaload, 1) := by decide +kernel
theorem dX9_book_54 : decode cX9_book 54 = .ok (.ireturn, 1) := by decide +kernel
theorem dX9_book_55 : decode cX9_book 55 = .ok (.iload_n 1, 1) := by decide +kernel
theorem dX9_book_56 : decode cX9_book 56 = .ok (.aload_n 0, 1) := by decide +kernel
theorem dX9_book_57 : decode cX9_book 57 = .ok (.getfield 81, 3) := by decide +kernel
theorem dX9_book_60 : decode cX9_book 60 = .ok (.iconst 1, 1) := by decide +kernel
theorem dX9_book_61 : decode cX9_book 61 = .ok (.isub, 1) := by decide +kernel
theorem dX9_book_62 : decode cX9_book 62 = .ok (.if_icmp .ne 7, 3) := by decide +kernel
theorem dX9_book_65 : decode cX9_book 65 = .ok (.iconst (-1), 1) := by decide +kernel
theorem dX9_book_66 : decode cX9_book 66 = .ok (.goto 8, 3) := by decide +kernel
theorem dX9_book_69 : decode cX9_book 69 = .ok (.aload_n 0, 1) := by decide +kernel
theorem dX9_book_70 : decode cX9_book 70 = .ok (.iload_n 1, 1) := by decide +kernel
theorem dX9_book_71 : decode cX9_book 71 = .ok (.invokevirtual 171, 3) := by decide +kernel
theorem dX9_book_74 : decode cX9_book 74 = .ok (.ireturn, 1) := by decide +kernel
theorem dX9_book_75 : decode cX9_book 75 = .ok (.iload_n 1, 1) := by decide +kernel
theorem dX9_book_76 : decode cX9_book 76 = .ok (.aload_n 0, 1) := by decide +kernel
theorem dX9_book_77 : decode cX9_book 77 = .ok (.getfield 81, 3) := by decide +kernel
theorem dX9_book_80 : decode cX9_book 80 = .ok (.iconst 1, 1) := by decide +kernel
theorem dX9_book_81 : decode cX9_book 81 = .ok (.isub, 1) := by decide +kernel
theorem dX9_book_82 : decode cX9_book 82 = .ok (.if_icmp .ge 15, 3) := by decide +kernel
theorem dX9_book_85 : decode cX9_book 85 = .ok (.aload_n 0, 1) := by decide +kernel
theorem dX9_book_86 : decode cX9_book 86 = .ok (.iload_n 1, 1) := by decide +kernel
theorem dX9_book_87 : decode cX9_book 87 = .ok (.invokevirtual 174, 3) := by decide +kernel
theorem dX9_book_90 : decode cX9_book 90 = .ok (.ifCond .eq 7, 3) := by decide +kernel
theorem dX9_book_93 : decode cX9_book 93 = .ok (.iconst 1, 1) := by decide +kernel
theorem dX9_book_94 : decode cX9_book 94 = .ok (.goto 4, 3) := by decide +kernel
theorem dX9_book_97 : decode cX9_book 97 = .ok (.iconst 0, 1) := by decide +kernel
theorem dX9_book_98 : decode cX9_book 98 = .ok (.ireturn, 1) := by decide +kernel
theorem dX9_book_99 : decode cX9_book 99 = .ok (.iconst (-1), 1) := by decide +kernel
theorem dX9_book_100 : decode cX9_book 100 = .ok (.ireturn, 1) := by decide +kernel
theorem dX9_led_0 : decode cX9_led 0 = .ok (.aload_n 0, 1) := by decide +kernel
theorem dX9_led_1 : decode cX9_led 1 = .ok (.iconst 0, 1) := by decide +kernel
theorem dX9_led_2 : decode cX9_led 2 = .ok (.putfield 69, 3) := by decide +kernel
theorem dX9_led_5 : decode cX9_led 5 = .ok (.aload_n 0, 1) := by decide +kernel
theorem dX9_led_6 : decode cX9_led 6 = .ok (.iload_n 1, 1) := by decide +kernel
theorem dX9_led_7 : decode cX9_led 7 = .ok (.iload_n 2, 1) := by decide +kernel
theorem dX9_led_8 : decode cX9_led 8 = .ok (.iload_n 3, 1) := by decide +kernel
theorem dX9_led_9 : decode cX9_led 9 = .ok (.invokevirtual 96, 3) := by decide +kernel
theorem dX9_led_12 : decode cX9_led 12 = .ok (.istore 4, 2) := by decide +kernel
theorem dX9_led_14 : decode cX9_led 14 = .ok (.iload 4, 2) := by decide +kernel
theorem dX9_led_16 : decode cX9_led 16 = .ok (.iconst (-1), 1) := by decide +kernel
theorem dX9_led_17 : decode cX9_led 17 = .ok (.if_icmp .eq 19, 3) := by decide +kernel
theorem dX9_led_20 : decode cX9_led 20 = .ok (.aload_n 0, 1) := by decide +kernel
theorem dX9_led_21 : decode cX9_led 21 = .ok (.getfield 84, 3) := by decide +kernel
theorem dX9_led_24 : decode cX9_led 24 = .ok (.ifCond .eq 12, 3) := by decide +kernel
theorem dX9_led_27 : decode cX9_led 27 = .ok (.aload_n 0, 1) := by decide +kernel
theorem dX9_led_28 : decode cX9_led 28 = .ok (.getfield 59, 3) := by decide +kernel
theorem dX9_led_31 : decode cX9_led 31 = .ok (.iload_n 1, 1) := by decide +kernel
theorem dX9_led_32 : decode cX9_led 32 = .ok (.baload, 1) := by decide +kernel
theorem dX9_led_33 : decode cX9_led 33 = .ok (.ifCond .ne 5, 3) := by decide +kernel
theorem dX9_led_36 : decode cX9_led 36 = .ok (.iconst (-1), 1) := by decide +kernel
theorem dX9_led_37 : decode cX9_led 37 = .ok (.ireturn, 1) := by decide +kernel
theorem dX9_led_38 : decode cX9_led 38 = .ok (.aload_n 0, 1) := by decide +kernel
theorem dX9_led_39 : decode cX9_led 39 = .ok (.getfield 53, 3) := by decide +kernel
theorem dX9_led_42 : decode cX9_led 42 = .ok (.iload 4, 2) := by decide +kernel
theorem dX9_led_44 : decode cX9_led 44 = .ok (.iaload, 1) := by decide +kernel
theorem dX9_led_45 : decode cX9_led 45 = .ok (.aload_n 0, 1) := by decide +kernel
theorem dX9_led_46 : decode cX9_led 46 = .ok (.getfield 56, 3) := by decide +kernel
theorem dX9_led_49 : decode cX9_led 49 = .ok (.iload 4, 2) := by decide +kernel
theorem dX9_led_51 : decode cX9_led 51 = .ok (.iaload, 1) := by decide +kernel
theorem dX9_led_52 : decode cX9_led 52 = .ok (.ishr, 1) := by decide +kernel
theorem dX9_led_53 : decode cX9_led 53 = .ok (.iconst 1, 1) := by decide +kernel
theorem dX9_led_54 : decode cX9_led 54 = .ok (.iand, 1) := by decide +kernel
theorem dX9_led_55 : decode cX9_led 55 = .ok (.iconst 1, 1) := by decide +kernel
theorem dX9_led_56 : decode cX9_led 56 = .ok (.if_icmp .ne 13, 3) := by decide +kernel
theorem dX9_led_59 : decode cX9_led 59 = .ok (.aload_n 0, 1) := by decide +kernel
theorem dX9_led_60 : decode cX9_led 60 = .ok (.getfield 56, 3) := by decide +kernel
theorem dX9_led_63 : decode cX9_led 63 = .ok (.iload 4, 2) := by decide +kernel
theorem dX9_led_65 : decode cX9_led 65 = .ok (.iaload, 1) := by decide +kernel
theorem dX9_led_66 : decode cX9_led 66 = .ok (.goto 4, 3) := by decide +kernel
theorem dX9_led_69 : decode cX9_led 69 = .ok (.iconst (-1), 1) := by decide +kernel
theorem dX9_led_70 : decode cX9_led 70 = .ok (.ireturn, 1) := by decide +kernel
theorem dX9_count_0 : decode cX9_count 0 = .ok (.aload_n 0, 1) := by decide +kernel
theorem dX9_count_1 : decode cX9_count 1 = .ok (.iconst 0, 1) := by decide +kernel
theorem dX9_count_2 : decode cX9_count 2 = .ok (.putfield 69, 3) := by decide +kernel
theorem dX9_count_5 : decode cX9_count 5 = .ok (.iconst 0, 1) := by decide +kernel
theorem dX9_count_6 : decode cX9_count 6 = .ok (.istore_n 2, 1) := by decide +kernel
theorem dX9_count_7 : decode cX9_count 7 = .ok (.iconst 0, 1) := by decide +kernel
theorem dX9_count_8 : decode cX9_count 8 = .ok (.istore_n 3, 1) := by decide +kernel
theorem dX9_count_9 : decode cX9_count 9 = .ok (.iconst 0, 1) := by decide +kernel
theorem dX9_count_10 : decode cX9_count 10 = .ok (.istore 4, 2) := by decide +kernel
theorem dX9_count_12 : decode cX9_count 12 = .ok (.iconst 0, 1) := by decide +kernel
theorem dX9_count_13 : decode cX9_count 13 = .ok (.istore 5, 2) := by decide +kernel
theorem dX9_count_15 : decode cX9_count 15 = .ok (.iconst 0, 1) := by decide +kernel
theorem dX9_count_16 : decode cX9_count 16 = .ok (.istore 6, 2) := by decide +kernel
theorem dX9_count_18 : decode cX9_count 18 = .ok (.iload 6, 2) := by decide +kernel
theorem dX9_count_20 : decode cX9_count 20 = .ok (.aload_n 0, 1) := by decide +kernel
theorem dX9_count_21 : decode cX9_count 21 = .ok (.getfield 81, 3) := by decide +kernel
theorem dX9_count_24 : decode cX9_count 24 = .ok (.if_icmp .ge 19, 3) := by decide +kernel
theorem dX9_count_27 : decode cX9_count 27 = .ok (.iload_n 2, 1) := by decide +kernel
theorem dX9_count_28 : decode cX9_count 28 = .ok (.aload_n 0, 1) := by decide +kernel
theorem dX9_count_29 : decode cX9_count 29 = .ok (.getfield 47, 3) := by decide +kernel
theorem dX9_count_32 : decode cX9_count 32 = .ok (.iload 6, 2) := by decide +kernel
theorem dX9_count_34 : decode cX9_count 34 = .ok (.iaload, 1) := by decide +kernel
theorem dX9_count_35 : decode cX9_count 35 = .ok (.iadd, 1) := by decide +kernel
theorem dX9_count_36 : decode cX9_count 36 = .ok (.istore_n 2, 1) := by decide +kernel
theorem dX9_count_37 : decode cX9_count 37 = .ok (.iinc 6 1, 3) := by decide +kernel
theorem dX9_count_40 : decode cX9_count 40 = .ok (.goto (-22), 3) := by decide +kernel
theorem dX9_count_43 : decode cX9_count 43 = .ok (.iconst 0, 1) := by decide +kernel
theorem dX9_count_44 : decode cX9_count 44 = .ok (.istore 6, 2) := by decide +kernel
theorem dX9_count_46 : decode cX9_count 46 = .ok (.iload 6, 2) := by decide +kernel
theorem dX9_count_48 : decode cX9_count 48 = .ok (.iconst 1, 1) := by decide +kernel
theorem dX9_count_49 : decode cX9_count 49 = .ok (.iadd, 1) := by decide +kernel
theorem dX9_count_50 : decode cX9_count 50 = .ok (.aload_n 0, 1) := by decide +kernel
theorem dX9_count_51 : decode cX9_count 51 = .ok (.getfield 81, 3) := by decide +kernel
theorem dX9_count_54 : decode cX9_count 54 = .ok (.if_icmp .ge 61, 3) := by decide +kernel
theorem dX9_count_57 : decode cX9_count 57 = .ok (.aload_n 0, 1) := by decide +kernel
theorem dX9_count_58 : decode cX9_count 58 = .ok (.iload 6, 2) := by decide +kernel
theorem dX9_count_60 : decode cX9_count 60 = .ok (.invokevirtual 171, 3) := by decide +kernel
theorem dX9_count_63 : decode cX9_count 63 = .ok (.istore 7, 2) := by decide +kernel
theorem dX9_count_65 : decode cX9_count 65 = .ok (.iload_n 3, 1) := by decide +kernel
theorem dX9_count_66 : decode cX9_count 66 = .ok (.iload 7, 2) := by decide +kernel
theorem dX9_count_68 : decode cX9_count 68 = .ok (.iconst (-1), 1) := by decide +kernel
theorem dX9_count_69 : decode cX9_count 69 = .ok (.if_icmp .ne 7, 3) := by decide +kernel
theorem dX9_count_72 : decode cX9_count 72 = .ok (.iconst 1, 1) := by decide +kernel
theorem dX9_count_73 : decode cX9_count 73 = .ok (.goto 4, 3) := by decide +kernel
theorem dX9_count_76 : decode cX9_count 76 = .ok (.iconst 0, 1) := by decide +kernel
theorem dX9_count_77 : decode cX9_count 77 = .ok (.iadd, 1) := by decide +kernel
theorem dX9_count_78 : decode cX9_count 78 = .ok (.istore_n 3, 1) := by decide +kernel
theorem dX9_count_79 : decode cX9_count 79 = .ok (.iload 5, 2) := by decide +kernel
theorem dX9_count_81 : decode cX9_count 81 = .ok (.iconst 0, 1) := by decide +kernel
theorem dX9_count_82 : decode cX9_count 82 = .ok (.iload 7, 2) := by decide +kernel
theorem dX9_count_84 : decode cX9_count 84 = .ok (.invokestatic 138, 3) := by decide +kernel
theorem dX9_count_87 : decode cX9_count 87 = .ok (.iadd, 1) := by decide +kernel
theorem dX9_count_88 : decode cX9_count 88 = .ok (.istore 5, 2) := by decide +kernel
theorem dX9_count_90 : decode cX9_count 90 = .ok (.iload 4, 2) := by decide +kernel
theorem dX9_count_92 : decode cX9_count 92 = .ok (.aload_n 0, 1) := by decide +kernel
theorem dX9_count_93 : decode cX9_count 93 = .ok (.iload 6, 2) := by decide +kernel
theorem dX9_count_95 : decode cX9_count 95 = .ok (.invokevirtual 174, 3) := by decide +kernel
theorem dX9_count_98 : decode cX9_count 98 = .ok (.ifCond .eq 7, 3) := by decide +kernel
theorem dX9_count_101 : decode cX9_count 101 = .ok (.iconst 1, 1) := by decide +kernel
theorem dX9_count_102 : decode cX9_count 102 = .ok (.goto 4, 3) := by decide +kernel
theorem dX9_count_105 : decode cX9_count 105 = .ok (.iconst 0, 1) := by decide +kernel
theorem dX9_count_106 : decode cX9_count 106 = .ok (.iadd, 1) := by decide +kernel
theorem dX9_count_107 : decode cX9_count 107 = .ok (.istore 4, 2) := by decide +kernel
theorem dX9_count_109 : decode cX9_count 109 = .ok (.iinc 6 1, 3) := by decide +kernel
theorem dX9_count_112 : decode cX9_count 112 = .ok (.goto (-66), 3) := by decide +kernel
theorem dX9_count_115 : decode cX9_count 115 = .ok (.iload_n 1, 1) := by decide +kernel
theorem dX9_count_116 : decode cX9_count 116 = .ok (.tableswitch 78 0 7 #[48, 53, 58, 63, 68, 70, 72, 75], 48) := by decide +kernel
theorem dX9_count_164 : decode cX9_count 164 = .ok (.aload_n 0, 1) := by decide +kernel
theorem dX9_count_165 : decode cX9_count 165 = .ok (.getfield 78, 3) := by decide +kernel
theorem dX9_count_168 : decode cX9_count 168 = .ok (.ireturn, 1) := by decide +kernel
theorem dX9_count_169 : decode cX9_count 169 = .ok (.aload_n 0, 1) := by decide +kernel
theorem dX9_count_170 : decode cX9_count 170 = .ok (.getfield 88, 3) := by decide +kernel
theorem dX9_count_173 : decode cX9_count 173 = .ok (.ireturn, 1) := by decide +kernel
theorem dX9_count_174 : decode cX9_count 174 = .ok (.aload_n 0, 1) := by decide +kernel
theorem dX9_count_175 : decode cX9_count 175 = .ok (.getfield 100, 3) := by decide +kernel
theorem dX9_count_178 : decode cX9_count 178 = .ok (.ireturn, 1) := by decide +kernel
theorem dX9_count_179 : decode cX9_count 179 = .ok (.aload_n 0, 1) := by decide +kernel
theorem dX9_count_180 : decode cX9_count 180 = .ok (.getfield 81, 3) := by decide +kernel
theorem dX9_count_183 : decode cX9_count 183 = .ok (.ireturn, 1) := by decide +kernel
theorem dX9_count_184 : decode cX9_count 184 = .ok (.iload_n 2, 1) := by decide +kernel
theorem dX9_count_185 : decode cX9_count 185 = .ok (.ireturn, 1) := by decide +kernel
theorem dX9_count_186 : decode cX9_count 186 = .ok (.iload_n 3, 1) := by decide +kernel
theorem dX9_count_187 : decode cX9_count 187 = .ok (.ireturn, 1) := by decide +kernel
theorem dX9_count_188 : decode cX9_count 188 = .ok (.iload 4, 2) := by decide +kernel
theorem dX9_count_190 : decode cX9_count 190 = .ok (.ireturn, 1) := by decide +kernel
theorem dX9_count_191 : decode cX9_count 191 = .ok (.iload 5, 2) := by decide +kernel
theorem dX9_count_193 : decode cX9_count 193 = .ok (.ireturn, 1) := by decide +kernel
theorem dX9_count_194 : decode cX9_count 194 = .ok (.iconst (-1), 1) := by decide +kernel
theorem dX9_count_195 : decode cX9_count 195 = .ok (.ireturn, 1) := by decide +kernel
theorem dJ6_bitCount_0f7a4_0 : decode cJ6_bitCount_0f7a4 0 = .ok (.iload_n 0, 1) := by decide +kernel
theorem dJ6_bitCount_0f7a4_1 : decode cJ6_bitCount_0f7a4 1 = .ok (.iload_n 0, 1) := by decide +kernel
theorem dJ6_bitCount_0f7a4_2 : decode cJ6_bitCount_0f7a4 2 = .ok (.iconst 1, 1) := by decide +kernel
theorem dJ6_bitCount_0f7a4_3 : decode cJ6_bitCount_0f7a4 3 = .ok (.iushr, 1) := by decide +kernel
theorem dJ6_bitCount_0f7a4_4 : decode cJ6_bitCount_0f7a4 4 = .ok (.ldc_w 265, 3) := by decide +kernel
theorem dJ6_bitCount_0f7a4_7 : decode cJ6_bitCount_0f7a4 7 = .ok (.iand, 1) := by decide +kernel
theorem dJ6_bitCount_0f7a4_8 : decode cJ6_bitCount_0f7a4 8 = .ok (.isub, 1) := by decide +kernel
theorem dJ6_bitCount_0f7a4_9 : decode cJ6_bitCount_0f7a4 9 = .ok (.istore_n 0, 1) := by decide +kernel
theorem dJ6_bitCount_0f7a4_10 : decode cJ6_bitCount_0f7a4 10 = .ok (.iload_n 0, 1) := by decide +kernel
theorem dJ6_bitCount_0f7a4_11 : decode cJ6_bitCount_0f7a4 11 = .ok (.ldc_w 266, 3) := by decide +kernel
theorem dJ6_bitCount_0f7a4_14 : decode cJ6_bitCount_0f7a4 14 = .ok (.iand, 1) := by decide +kernel
theorem dJ6_bitCount_0f7a4_15 : decode cJ6_bitCount_0f7a4 15 = .ok (.iload_n 0, 1) := by decide +kernel
theorem dJ6_bitCount_0f7a4_16 : decode cJ6_bitCount_0f7a4 16 = .ok (.iconst 2, 1) := by decide +kernel
theorem dJ6_bitCount_0f7a4_17 : decode cJ6_bitCount_0f7a4 17 = .ok (.iushr, 1) := by decide +kernel
theorem dJ6_bitCount_0f7a4_18 : decode cJ6_bitCount_0f7a4 18 = .ok (.ldc_w 266, 3) := by decide +kernel
theorem dJ6_bitCount_0f7a4_21 : decode cJ6_bitCount_0f7a4 21 = .ok (.iand, 1) := by decide +kernel
theorem dJ6_bitCount_0f7a4_22 : decode cJ6_bitCount_0f7a4 22 = .ok (.iadd, 1) := by decide +kernel
theorem dJ6_bitCount_0f7a4_23 : decode cJ6_bitCount_0f7a4 23 = .ok (.istore_n 0, 1) := by decide +kernel
theorem dJ6_bitCount_0f7a4_24 : decode cJ6_bitCount_0f7a4 24 = .ok (.iload_n 0, 1) := by decide +kernel
theorem dJ6_bitCount_0f7a4_25 : decode cJ6_bitCount_0f7a4 25 = .ok (.iload_n 0, 1) := by decide +kernel
theorem dJ6_bitCount_0f7a4_26 : decode cJ6_bitCount_0f7a4 26 = .ok (.iconst 4, 1) := by decide +kernel
theorem dJ6_bitCount_0f7a4_27 : decode cJ6_bitCount_0f7a4 27 = .ok (.iushr, 1) := by decide +kernel
theorem dJ6_bitCount_0f7a4_28 : decode cJ6_bitCount_0f7a4 28 = .ok (.iadd, 1) := by decide +kernel
theorem dJ6_bitCount_0f7a4_29 : decode cJ6_bitCount_0f7a4 29 = .ok (.ldc_w 267, 3) := by decide +kernel
theorem dJ6_bitCount_0f7a4_32 : decode cJ6_bitCount_0f7a4 32 = .ok (.iand, 1) := by decide +kernel
theorem dJ6_bitCount_0f7a4_33 : decode cJ6_bitCount_0f7a4 33 = .ok (.istore_n 0, 1) := by decide +kernel
theorem dJ6_bitCount_0f7a4_34 : decode cJ6_bitCount_0f7a4 34 = .ok (.iload_n 0, 1) := by decide +kernel
theorem dJ6_bitCount_0f7a4_35 : decode cJ6_bitCount_0f7a4 35 = .ok (.iload_n 0, 1) := by decide +kernel
theorem dJ6_bitCount_0f7a4_36 : decode cJ6_bitCount_0f7a4 36 = .ok (.bipush 8, 2) := by decide +kernel
theorem dJ6_bitCount_0f7a4_38 : decode cJ6_bitCount_0f7a4 38 = .ok (.iushr, 1) := by decide +kernel
theorem dJ6_bitCount_0f7a4_39 : decode cJ6_bitCount_0f7a4 39 = .ok (.iadd, 1) := by decide +kernel
theorem dJ6_bitCount_0f7a4_40 : decode cJ6_bitCount_0f7a4 40 = .ok (.istore_n 0, 1) := by decide +kernel
theorem dJ6_bitCount_0f7a4_41 : decode cJ6_bitCount_0f7a4 41 = .ok (.iload_n 0, 1) := by decide +kernel
theorem dJ6_bitCount_0f7a4_42 : decode cJ6_bitCount_0f7a4 42 = .ok (.iload_n 0, 1) := by decide +kernel
theorem dJ6_bitCount_0f7a4_43 : decode cJ6_bitCount_0f7a4 43 = .ok (.bipush 16, 2) := by decide +kernel
theorem dJ6_bitCount_0f7a4_45 : decode cJ6_bitCount_0f7a4 45 = .ok (.iushr, 1) := by decide +kernel
theorem dJ6_bitCount_0f7a4_46 : decode cJ6_bitCount_0f7a4 46 = .ok (.iadd, 1) := by decide +kernel
theorem dJ6_bitCount_0f7a4_47 : decode cJ6_bitCount_0f7a4 47 = .ok (.istore_n 0, 1) := by decide +kernel
theorem dJ6_bitCount_0f7a4_48 : decode cJ6_bitCount_0f7a4 48 = .ok (.iload_n 0, 1) := by decide +kernel
theorem dJ6_bitCount_0f7a4_49 : decode cJ6_bitCount_0f7a4 49 = .ok (.bipush 63, 2) := by decide +kernel
theorem dJ6_bitCount_0f7a4_51 : decode cJ6_bitCount_0f7a4 51 = .ok (.iand, 1) := by decide +kernel
theorem dJ6_bitCount_0f7a4_52 : decode cJ6_bitCount_0f7a4 52 = .ok (.ireturn, 1) := by decide +kernel
theorem dJ9_max_7cf53_0 : decode cJ9_max_7cf53 0 = .ok (.iload_n 0, 1) := by decide +kernel
theorem dJ9_max_7cf53_1 : decode cJ9_max_7cf53 1 = .ok (.iload_n 1, 1) := by decide +kernel
theorem dJ9_max_7cf53_2 : decode cJ9_max_7cf53 2 = .ok (.if_icmp .lt 7, 3) := by decide +kernel
theorem dJ9_max_7cf53_5 : decode cJ9_max_7cf53 5 = .ok (.iload_n 0, 1) := by decide +kernel
theorem dJ9_max_7cf53_6 : decode cJ9_max_7cf53 6 = .ok (.goto 4, 3) := by decide +kernel
theorem dJ9_max_7cf53_9 : decode cJ9_max_7cf53 9 = .ok (.iload_n 1, 1) := by decide +kernel
theorem dJ9_max_7cf53_10 : decode cJ9_max_7cf53 10 = .ok (.ireturn, 1) := by decide +kernel
theorem dJ9_min_7cf53_0 : decode cJ9_min_7cf53 0 = .ok (.iload_n 0, 1) := by decide +kernel
theorem dJ9_min_7cf53_1 : decode cJ9_min_7cf53 1 = .ok (.iload_n 1, 1) := by decide +kernel
theorem dJ9_min_7cf53_2 : decode cJ9_min_7cf53 2 = .ok (.if_icmp .gt 7, 3) := by decide +kernel
theorem dJ9_min_7cf53_5 : decode cJ9_min_7cf53 5 = .ok (.iload_n 0, 1) := by decide +kernel
theorem dJ9_min_7cf53_6 : decode cJ9_min_7cf53 6 = .ok (.goto 4, 3) := by decide +kernel
theorem dJ9_min_7cf53_9 : decode cJ9_min_7cf53 9 = .ok (.iload_n 1, 1) := by decide +kernel
theorem dJ9_min_7cf53_10 : decode cJ9_min_7cf53 10 = .ok (.ireturn, 1) := by decide +kernel
theorem dJ7_fill_53178_0 : decode cJ7_fill_53178 0 = .ok (.iconst 0, 1) := by decide +kernel
theorem dJ7_fill_53178_1 : decode cJ7_fill_53178 1 = .ok (.istore_n 2, 1) := by decide +kernel
theorem dJ7_fill_53178_2 : decode cJ7_fill_53178 2 = .ok (.aload_n 0, 1) := by decide +kernel
theorem dJ7_fill_53178_3 : decode cJ7_fill_53178 3 = .ok (.arraylength, 1) := by decide +kernel
theorem dJ7_fill_53178_4 : decode cJ7_fill_53178 4 = .ok (.istore_n 3, 1) := by decide +kernel
theorem dJ7_fill_53178_5 : decode cJ7_fill_53178 5 = .ok (.iload_n 2, 1) := by decide +kernel
theorem dJ7_fill_53178_6 : decode cJ7_fill_53178 6 = .ok (.iload_n 3, 1) := by decide +kernel
theorem dJ7_fill_53178_7 : decode cJ7_fill_53178 7 = .ok (.if_icmp .ge 13, 3) := by decide +kernel
theorem dJ7_fill_53178_10 : decode cJ7_fill_53178 10 = .ok (.aload_n 0, 1) := by decide +kernel
theorem dJ7_fill_53178_11 : decode cJ7_fill_53178 11 = .ok (.iload_n 2, 1) := by decide +kernel
theorem dJ7_fill_53178_12 : decode cJ7_fill_53178 12 = .ok (.iload_n 1, 1) := by decide +kernel
theorem dJ7_fill_53178_13 : decode cJ7_fill_53178 13 = .ok (.iastore, 1) := by decide +kernel
theorem dJ7_fill_53178_14 : decode cJ7_fill_53178 14 = .ok (.iinc 2 1, 3) := by decide +kernel
theorem dJ7_fill_53178_17 : decode cJ7_fill_53178 17 = .ok (.goto (-12), 3) := by decide +kernel
theorem dJ7_fill_53178_20 : decode cJ7_fill_53178 20 = .ok (.return_, 1) := by decide +kernel
theorem dL_law_0 : decode cL_law 0 = .ok (.new 7, 3) := by decide +kernel
theorem dL_law_3 : decode cL_law 3 = .ok (.dup, 1) := by decide +kernel
theorem dL_law_4 : decode cL_law 4 = .ok (.invokespecial 9, 3) := by decide +kernel
theorem dL_law_7 : decode cL_law 7 = .ok (.astore_n 1, 1) := by decide +kernel
theorem dL_law_8 : decode cL_law 8 = .ok (.new 10, 3) := by decide +kernel
theorem dL_law_11 : decode cL_law 11 = .ok (.dup, 1) := by decide +kernel
theorem dL_law_12 : decode cL_law 12 = .ok (.invokespecial 12, 3) := by decide +kernel
theorem dL_law_15 : decode cL_law 15 = .ok (.astore_n 2, 1) := by decide +kernel
theorem dL_law_16 : decode cL_law 16 = .ok (.iconst 0, 1) := by decide +kernel
theorem dL_law_17 : decode cL_law 17 = .ok (.istore_n 3, 1) := by decide +kernel
theorem dL_law_18 : decode cL_law 18 = .ok (.iload_n 3, 1) := by decide +kernel
theorem dL_law_19 : decode cL_law 19 = .ok (.aload_n 0, 1) := by decide +kernel
theorem dL_law_20 : decode cL_law 20 = .ok (.arraylength, 1) := by decide +kernel
theorem dL_law_21 : decode cL_law 21 = .ok (.bipush 6, 2) := by decide +kernel
theorem dL_law_23 : decode cL_law 23 = .ok (.isub, 1) := by decide +kernel
theorem dL_law_24 : decode cL_law 24 = .ok (.if_icmp .gt 588, 3) := by decide +kernel
theorem dL_law_27 : decode cL_law 27 = .ok (.aload_n 0, 1) := by decide +kernel
theorem dL_law_28 : decode cL_law 28 = .ok (.iload_n 3, 1) := by decide +kernel
theorem dL_law_29 : decode cL_law 29 = .ok (.iaload, 1) := by decide +kernel
theorem dL_law_30 : decode cL_law 30 = .ok (.bipush 15, 2) := by decide +kernel
theorem dL_law_32 : decode cL_law 32 = .ok (.iand, 1) := by decide +kernel
theorem dL_law_33 : decode cL_law 33 = .ok (.tableswitch 573 0 13 #[71, 134, 157, 180, 223, 276, 319, 362, 405, 428, 441, 474, 507, 550], 71) := by decide +kernel
theorem dL_law_104 : decode cL_law 104 = .ok (.aload_n 1, 1) := by decide +kernel
theorem dL_law_105 : decode cL_law 105 = .ok (.aload_n 0, 1) := by decide +kernel
theorem dL_law_106 : decode cL_law 106 = .ok (.iload_n 3, 1) := by decide +kernel
theorem dL_law_107 : decode cL_law 107 = .ok (.iconst 1, 1) := by decide +kernel
theorem dL_law_108 : decode cL_law 108 = .ok (.iadd, 1) := by decide +kernel
theorem dL_law_109 : decode cL_law 109 = .ok (.iaload, 1) := by decide +kernel
theorem dL_law_110 : decode cL_law 110 = .ok (.aload_n 0, 1) := by decide +kernel
theorem dL_law_111 : decode cL_law 111 = .ok (.iload_n 3, 1) := by decide +kernel
theorem dL_law_112 : decode cL_law 112 = .ok (.iconst 2, 1) := by decide +kernel
theorem dL_law_113 : decode cL_law 113 = .ok (.iadd, 1) := by decide +kernel
theorem dL_law_114 : decode cL_law 114 = .ok (.iaload, 1) := by decide +kernel
theorem dL_law_115 : decode cL_law 115 = .ok (.aload_n 0, 1) := by decide +kernel
theorem dL_law_116 : decode cL_law 116 = .ok (.iload_n 3, 1) := by decide +kernel
theorem dL_law_117 : decode cL_law 117 = .ok (.iconst 3, 1) := by decide +kernel
theorem dL_law_118 : decode cL_law 118 = .ok (.iadd, 1) := by decide +kernel
theorem dL_law_119 : decode cL_law 119 = .ok (.iaload, 1) := by decide +kernel
theorem dL_law_120 : decode cL_law 120 = .ok (.aload_n 0, 1) := by decide +kernel
theorem dL_law_121 : decode cL_law 121 = .ok (.iload_n 3, 1) := by decide +kernel
theorem dL_law_122 : decode cL_law 122 = .ok (.iconst 4, 1) := by decide +kernel
theorem dL_law_123 : decode cL_law 123 = .ok (.iadd, 1) := by decide +kernel
theorem dL_law_124 : decode cL_law 124 = .ok (.iaload, 1) := by decide +kernel
theorem dL_law_125 : decode cL_law 125 = .ok (.aload_n 0, 1) := by decide +kernel
theorem dL_law_126 : decode cL_law 126 = .ok (.iload_n 3, 1) := by decide +kernel
theorem dL_law_127 : decode cL_law 127 = .ok (.iconst 5, 1) := by decide +kernel
theorem dL_law_128 : decode cL_law 128 = .ok (.iadd, 1) := by decide +kernel
theorem dL_law_129 : decode cL_law 129 = .ok (.iaload, 1) := by decide +kernel
theorem dL_law_130 : decode cL_law 130 = .ok (.invokevirtual 13, 3) := by decide +kernel
theorem dL_law_133 : decode cL_law 133 = .ok (.aload_n 2, 1) := by decide +kernel
theorem dL_law_134 : decode cL_law 134 = .ok (.aload_n 0, 1) := by decide +kernel
theorem dL_law_135 : decode cL_law 135 = .ok (.iload_n 3, 1) := by decide +kernel
theorem dL_law_136 : decode cL_law 136 = .ok (.iconst 1, 1) := by decide +kernel
theorem dL_law_137 : decode cL_law 137 = .ok (.iadd, 1) := by decide +kernel
theorem dL_law_138 : decode cL_law 138 = .ok (.iaload, 1) := by decide +kernel
theorem dL_law_139 : decode cL_law 139 = .ok (.aload_n 0, 1) := by decide +kernel
theorem dL_law_140 : decode cL_law 140 = .ok (.iload_n 3, 1) := by decide +kernel
theorem dL_law_141 : decode cL_law 141 = .ok (.iconst 2, 1) := by decide +kernel
theorem dL_law_142 : decode cL_law 142 = .ok (.iadd, 1) := by decide +kernel
theorem dL_law_143 : decode cL_law 143 = .ok (.iaload, 1) := by decide +kernel
theorem dL_law_144 : decode cL_law 144 = .ok (.aload_n 0, 1) := by decide +kernel
theorem dL_law_145 : decode cL_law 145 = .ok (.iload_n 3, 1) := by decide +kernel
theorem dL_law_146 : decode cL_law 146 = .ok (.iconst 3, 1) := by decide +kernel
theorem dL_law_147 : decode cL_law 147 = .ok (.iadd, 1) := by decide +kernel
theorem dL_law_148 : decode cL_law 148 = .ok (.iaload, 1) := by decide +kernel
theorem dL_law_149 : decode cL_law 149 = .ok (.aload_n 0, 1) := by decide +kernel
theorem dL_law_150 : decode cL_law 150 = .ok (.iload_n 3, 1) := by decide +kernel
theorem dL_law_151 : decode cL_law 151 = .ok (.iconst 4, 1) := by decide +kernel
theorem dL_law_152 : decode cL_law 152 = .ok (.iadd, 1) := by decide +kernel
theorem dL_law_153 : decode cL_law 153 = .ok (.iaload, 1) := by decide +kernel
theorem dL_law_154 : decode cL_law 154 = .ok (.aload_n 0, 1) := by decide +kernel
theorem dL_law_155 : decode cL_law 155 = .ok (.iload_n 3, 1) := by decide +kernel
theorem dL_law_156 : decode cL_law 156 = .ok (.iconst 5, 1) := by decide +kernel
theorem dL_law_157 : decode cL_law 157 = .ok (.iadd, 1) := by decide +kernel
theorem dL_law_158 : decode cL_law 158 = .ok (.iaload, 1) := by decide +kernel
theorem dL_law_159 : decode cL_law 159 = .ok (.invokevirtual 17, 3) := by decide +kernel
theorem dL_law_162 : decode cL_law 162 = .ok (.if_icmp .eq 444, 3) := by decide +kernel
theorem dL_law_165 : decode cL_law 165 = .ok (.iconst 0, 1) := by decide +kernel
theorem dL_law_166 : decode cL_law 166 = .ok (.ireturn, 1) := by decide +kernel
theorem dL_law_167 : decode cL_law 167 = .ok (.aload_n 1, 1) := by decide +kernel
theorem dL_law_168 : decode cL_law 168 = .ok (.aload_n 0, 1) := by decide +kernel
theorem dL_law_169 : decode cL_law 169 = .ok (.iload_n 3, 1) := by decide +kernel
theorem dL_law_170 : decode cL_law 170 = .ok (.iconst 1, 1) := by decide +kernel
theorem dL_law_171 : decode cL_law 171 = .ok (.iadd, 1) := by decide +kernel
theorem dL_law_172 : decode cL_law 172 = .ok (.iaload, 1) := by decide +kernel
theorem dL_law_173 : decode cL_law 173 = .ok (.invokevirtual 18, 3) := by decide +kernel
theorem dL_law_176 : decode cL_law 176 = .ok (.aload_n 2, 1) := by decide +kernel
theorem dL_law_177 : decode cL_law 177 = .ok (.aload_n 0, 1) := by decide +kernel
theorem dL_law_178 : decode cL_law 178 = .ok (.iload_n 3, 1) := by decide +kernel
theorem dL_law_179 : decode cL_law 179 = .ok (.iconst 1, 1) := by decide +kernel
theorem dL_law_180 : decode cL_law 180 = .ok (.iadd, 1) := by decide +kernel
theorem dL_law_181 : decode cL_law 181 = .ok (.iaload, 1) := by decide +kernel
theorem dL_law_182 : decode cL_law 182 = .ok (.invokevirtual 22, 3) := by decide +kernel
theorem dL_law_185 : decode cL_law 185 = .ok (.if_icmp .eq 421, 3) := by decide +kernel
theorem dL_law_188 : decode cL_law 188 = .ok (.iconst 0, 1) := by decide +kernel
theorem dL_law_189 : decode cL_law 189 = .ok (.ireturn, 1) := by decide +kernel
theorem dL_law_190 : decode cL_law 190 = .ok (.aload_n 1, 1) := by decide +kernel
theorem dL_law_191 : decode cL_law 191 = .ok (.aload_n 0, 1) := by decide +kernel
theorem dL_law_192 : decode cL_law 192 = .ok (.iload_n 3, 1) := by decide +kernel
theorem dL_law_193 : decode cL_law 193 = .ok (.iconst 1, 1) := by decide +kernel
theorem dL_law_194 : decode cL_law 194 = .ok (.iadd, 1) := by decide +kernel
theorem dL_law_195 : decode cL_law 195 = .ok (.iaload, 1) := by decide +kernel
theorem dL_law_196 : decode cL_law 196 = .ok (.invokevirtual 23, 3) := by decide +kernel
theorem dL_law_199 : decode cL_law 199 = .ok (.aload_n 2, 1) := by decide +kernel
theorem dL_law_200 : decode cL_law 200 = .ok (.aload_n 0, 1) := by decide +kernel
theorem dL_law_201 : decode cL_law 201 = .ok (.iload_n 3, 1) := by decide +kernel
theorem dL_law_202 : decode cL_law 202 = .ok (.iconst 1, 1) := by decide +kernel
theorem dL_law_203 : decode cL_law 203 = .ok (.iadd, 1) := by decide +kernel
theorem dL_law_204 : decode cL_law 204 = .ok (.iaload, 1) := by decide +kernel
theorem dL_law_205 : decode cL_law 205 = .ok (.invokevirtual 26, 3) := by decide +kernel
theorem dL_law_208 : decode cL_law 208 = .ok (.if_icmp .eq 398, 3) := by decide +kernel
theorem dL_law_211 : decode cL_law 211 = .ok (.iconst 0, 1) := by decide +kernel
theorem dL_law_212 : decode cL_law 212 = .ok (.ireturn, 1) := by decide +kernel
theorem dL_law_213 : decode cL_law 213 = .ok (.aload_n 1, 1) := by decide +kernel
theorem dL_law_214 : decode cL_law 214 = .ok (.aload_n 0, 1) := by decide +kernel
theorem dL_law_215 : decode cL_law 215 = .ok (.iload_n 3, 1) := by decide +kernel
theorem dL_law_216 : decode cL_law 216 = .ok (.iconst 1, 1) := by decide +kernel
theorem dL_law_217 : decode cL_law 217 = .ok (.iadd, 1) := by decide +kernel
theorem dL_law_218 : decode cL_law 218 = .ok (.iaload, 1) := by decide +kernel
theorem dL_law_219 : decode cL_law 219 = .ok (.aload_n 0, 1) := by decide +kernel
theorem dL_law_220 : decode cL_law 220 = .ok (.iload_n 3, 1) := by decide +kernel
theorem dL_law_221 : decode cL_law 221 = .ok (.iconst 2, 1) := by decide +kernel
theorem dL_law_222 : decode cL_law 222 = .ok (.iadd, 1) := by decide +kernel
theorem dL_law_223 : decode cL_law 223 = .ok (.iaload, 1) := by decide +kernel
theorem dL_law_224 : decode cL_law 224 = .ok (.aload_n 0, 1) := by decide +kernel
theorem dL_law_225 : decode cL_law 225 = .ok (.iload_n 3, 1) := by decide +kernel
theorem dL_law_226 : decode cL_law 226 = .ok (.iconst 3, 1) := by decide +kernel
theorem dL_law_227 : decode cL_law 227 = .ok (.iadd, 1) := by decide +kernel
theorem dL_law_228 : decode cL_law 228 = .ok (.iaload, 1) := by decide +kernel
theorem dL_law_229 : decode cL_law 229 = .ok (.invokevirtual 27, 3) := by decide +kernel
theorem dL_law_232 : decode cL_law 232 = .ok (.aload_n 2, 1) := by decide +kernel
theorem dL_law_233 : decode cL_law 233 = .ok (.aload_n 0, 1) := by decide +kernel
theorem dL_law_234 : decode cL_law 234 = .ok (.iload_n 3, 1) := by decide +kernel
theorem dL_law_235 : decode cL_law 235 = .ok (.iconst 1, 1) := by decide +kernel
theorem dL_law_236 : decode cL_law 236 = .ok (.iadd, 1) := by decide +kernel
theorem dL_law_237 : decode cL_law 237 = .ok (.iaload, 1) := by decide +kernel
theorem dL_law_238 : decode cL_law 238 = .ok (.aload_n 0, 1) := by decide +kernel
theorem dL_law_239 : decode cL_law 239 = .ok (.iload_n 3, 1) := by decide +kernel
theorem dL_law_240 : decode cL_law 240 = .ok (.iconst 2, 1) := by decide +kernel
theorem dL_law_241 : decode cL_law 241 = .ok (.iadd, 1) := by decide +kernel
theorem dL_law_242 : decode cL_law 242 = .ok (.iaload, 1) := by decide +kernel
theorem dL_law_243 : decode cL_law 243 = .ok (.aload_n 0, 1) := by decide +kernel
theorem dL_law_244 : decode cL_law 244 = .ok (.iload_n 3, 1) := by decide +kernel
theorem dL_law_245 : decode cL_law 245 = .ok (.iconst 3, 1) := by decide +kernel
theorem dL_law_246 : decode cL_law 246 = .ok (.iadd, 1) := by decide +kernel
theorem dL_law_247 : decode cL_law 247 = .ok (.iaload, 1) := by decide +kernel
theorem dL_law_248 : decode cL_law 248 = .ok (.invokevirtual 31, 3) := by decide +kernel
theorem dL_law_251 : decode cL_law 251 = .ok (.if_icmp .eq 355, 3) := by decide +kernel
theorem dL_law_254 : decode cL_law 254 = .ok (.iconst 0, 1) := by decide +kernel
theorem dL_law_255 : decode cL_law 255 = .ok (.ireturn, 1) := by decide +kernel
theorem dL_law_256 : decode cL_law 256 = .ok (.aload_n 1, 1) := by decide +kernel
theorem dL_law_257 : decode cL_law 257 = .ok (.aload_n 0, 1) := by decide +kernel
theorem dL_law_258 : decode cL_law 258 = .ok (.iload_n 3, 1) := by decide +kernel
theorem dL_law_259 : decode cL_law 259 = .ok (.iconst 1, 1) := by decide +kernel
theorem dL_law_260 : decode cL_law 260 = .ok (.iadd, 1) := by decide +kernel
theorem dL_law_261 : decode cL_law 261 = .ok (.iaload, 1) := by decide +kernel
theorem dL_law_262 : decode cL_law 262 = .ok (.aload_n 0, 1) := by decide +kernel
theorem dL_law_263 : decode cL_law 263 = .ok (.iload_n 3, 1) := by decide +kernel
theorem dL_law_264 : decode cL_law 264 = .ok (.iconst 2, 1) := by decide +kernel
theorem dL_law_265 : decode cL_law 265 = .ok (.iadd, 1) := by decide +kernel
theorem dL_law_266 : decode cL_law 266 = .ok (.iaload, 1) := by decide +kernel
theorem dL_law_267 : decode cL_law 267 = .ok (.aload_n 0, 1) := by decide +kernel
theorem dL_law_268 : decode cL_law 268 = .ok (.iload_n 3, 1) := by decide +kernel
theorem dL_law_269 : decode cL_law 269 = .ok (.iconst 3, 1) := by decide +kernel
theorem dL_law_270 : decode cL_law 270 = .ok (.iadd, 1) := by decide +kernel
theorem dL_law_271 : decode cL_law 271 = .ok (.iaload, 1) := by decide +kernel
theorem dL_law_272 : decode cL_law 272 = .ok (.aload_n 0, 1) := by decide +kernel
theorem dL_law_273 : decode cL_law 273 = .ok (.iload_n 3, 1) := by decide +kernel
theorem dL_law_274 : decode cL_law 274 = .ok (.iconst 4, 1) := by decide +kernel
theorem dL_law_275 : decode cL_law 275 = .ok (.iadd, 1) := by decide +kernel
theorem dL_law_276 : decode cL_law 276 = .ok (.iaload, 1) := by decide +kernel
theorem dL_law_277 : decode cL_law 277 = .ok (.invokevirtual 32, 3) := by decide +kernel
theorem dL_law_280 : decode cL_law 280 = .ok (.aload_n 2, 1) := by decide +kernel
theorem dL_law_281 : decode cL_law 281 = .ok (.aload_n 0, 1) := by decide +kernel
theorem dL_law_282 : decode cL_law 282 = .ok (.iload_n 3, 1) := by decide +kernel
theorem dL_law_283 : decode cL_law 283 = .ok (.iconst 1, 1) := by decide +kernel
theorem dL_law_284 : decode cL_law 284 = .ok (.iadd, 1) := by decide +kernel
theorem dL_law_285 : decode cL_law 285 = .ok (.iaload, 1) := by decide +kernel
theorem dL_law_286 : decode cL_law 286 = .ok (.aload_n 0, 1) := by decide +kernel
theorem dL_law_287 : decode cL_law 287 = .ok (.iload_n 3, 1) := by decide +kernel
theorem dL_law_288 : decode cL_law 288 = .ok (.iconst 2, 1) := by decide +kernel
theorem dL_law_289 : decode cL_law 289 = .ok (.iadd, 1) := by decide +kernel
theorem dL_law_290 : decode cL_law 290 = .ok (.iaload, 1) := by decide +kernel
theorem dL_law_291 : decode cL_law 291 = .ok (.aload_n 0, 1) := by decide +kernel
theorem dL_law_292 : decode cL_law 292 = .ok (.iload_n 3, 1) := by decide +kernel
theorem dL_law_293 : decode cL_law 293 = .ok (.iconst 3, 1) := by decide +kernel
theorem dL_law_294 : decode cL_law 294 = .ok (.iadd, 1) := by decide +kernel
theorem dL_law_295 : decode cL_law 295 = .ok (.iaload, 1) := by decide +kernel
theorem dL_law_296 : decode cL_law 296 = .ok (.aload_n 0, 1) := by decide +kernel
theorem dL_law_297 : decode cL_law 297 = .ok (.iload_n 3, 1) := by decide +kernel
theorem dL_law_298 : decode cL_law 298 = .ok (.iconst 4, 1) := by decide +kernel
theorem dL_law_299 : decode cL_law 299 = .ok (.iadd, 1) := by decide +kernel
theorem dL_law_300 : decode cL_law 300 = .ok (.iaload, 1) := by decide +kernel
theorem dL_law_301 : decode cL_law 301 = .ok (.invokevirtual 36, 3) := by decide +kernel
theorem dL_law_304 : decode cL_law 304 = .ok (.if_icmp .eq 302, 3) := by decide +kernel
theorem dL_law_307 : decode cL_law 307 = .ok (.iconst 0, 1) := by decide +kernel
theorem dL_law_308 : decode cL_law 308 = .ok (.ireturn, 1) := by decide +kernel
theorem dL_law_309 : decode cL_law 309 = .ok (.aload_n 1, 1) := by decide +kernel
theorem dL_law_310 : decode cL_law 310 = .ok (.aload_n 0, 1) := by decide +kernel
theorem dL_law_311 : decode cL_law 311 = .ok (.iload_n 3, 1) := by decide +kernel
theorem dL_law_312 : decode cL_law 312 = .ok (.iconst 1, 1) := by decide +kernel
theorem dL_law_313 : decode cL_law 313 = .ok (.iadd, 1) := by decide +kernel
theorem dL_law_314 : decode cL_law 314 = .ok (.iaload, 1) := by decide +kernel
theorem dL_law_315 : decode cL_law 315 = .ok (.aload_n 0, 1) := by decide +kernel
theorem dL_law_316 : decode cL_law 316 = .ok (.iload_n 3, 1) := by decide +kernel
theorem dL_law_317 : decode cL_law 317 = .ok (.iconst 2, 1) := by decide +kernel
theorem dL_law_318 : decode cL_law 318 = .ok (.iadd, 1) := by decide +kernel
theorem dL_law_319 : decode cL_law 319 = .ok (.iaload, 1) := by decide +kernel
theorem dL_law_320 : decode cL_law 320 = .ok (.aload_n 0, 1) := by decide +kernel
theorem dL_law_321 : decode cL_law 321 = .ok (.iload_n 3, 1) := by decide +kernel
theorem dL_law_322 : decode cL_law 322 = .ok (.iconst 3, 1) := by decide +kernel
theorem dL_law_323 : decode cL_law 323 = .ok (.iadd, 1) := by decide +kernel
theorem dL_law_324 : decode cL_law 324 = .ok (.iaload, 1) := by decide +kernel
theorem dL_law_325 : decode cL_law 325 = .ok (.invokevirtual 37, 3) := by decide +kernel
theorem dL_law_328 : decode cL_law 328 = .ok (.aload_n 2, 1) := by decide +kernel
theorem dL_law_329 : decode cL_law 329 = .ok (.aload_n 0, 1) := by decide +kernel
theorem dL_law_330 : decode cL_law 330 = .ok (.iload_n 3, 1) := by decide +kernel
theorem dL_law_331 : decode cL_law 331 = .ok (.iconst 1, 1) := by decide +kernel
theorem dL_law_332 : decode cL_law 332 = .ok (.iadd, 1) := by decide +kernel
theorem dL_law_333 : decode cL_law 333 = .ok (.iaload, 1) := by decide +kernel
theorem dL_law_334 : decode cL_law 334 = .ok (.aload_n 0, 1) := by decide +kernel
theorem dL_law_335 : decode cL_law 335 = .ok (.iload_n 3, 1) := by decide +kernel
theorem dL_law_336 : decode cL_law 336 = .ok (.iconst 2, 1) := by decide +kernel
theorem dL_law_337 : decode cL_law 337 = .ok (.iadd, 1) := by decide +kernel
theorem dL_law_338 : decode cL_law 338 = .ok (.iaload, 1) := by decide +kernel
theorem dL_law_339 : decode cL_law 339 = .ok (.aload_n 0, 1) := by decide +kernel
theorem dL_law_340 : decode cL_law 340 = .ok (.iload_n 3, 1) := by decide +kernel
theorem dL_law_341 : decode cL_law 341 = .ok (.iconst 3, 1) := by decide +kernel
theorem dL_law_342 : decode cL_law 342 = .ok (.iadd, 1) := by decide +kernel
theorem dL_law_343 : decode cL_law 343 = .ok (.iaload, 1) := by decide +kernel
theorem dL_law_344 : decode cL_law 344 = .ok (.invokevirtual 40, 3) := by decide +kernel
theorem dL_law_347 : decode cL_law 347 = .ok (.if_icmp .eq 259, 3) := by decide +kernel
theorem dL_law_350 : decode cL_law 350 = .ok (.iconst 0, 1) := by decide +kernel
theorem dL_law_351 : decode cL_law 351 = .ok (.ireturn, 1) := by decide +kernel
theorem dL_law_352 : decode cL_law 352 = .ok (.aload_n 1, 1) := by decide +kernel
theorem dL_law_353 : decode cL_law 353 = .ok (.aload_n 0, 1) := by decide +kernel
theorem dL_law_354 : decode cL_law 354 = .ok (.iload_n 3, 1) := by decide +kernel
theorem dL_law_355 : decode cL_law 355 = .ok (.iconst 1, 1) := by decide +kernel
theorem dL_law_356 : decode cL_law 356 = .ok (.iadd, 1) := by decide +kernel
theorem dL_law_357 : decode cL_law 357 = .ok (.iaload, 1) := by decide +kernel
theorem dL_law_358 : decode cL_law 358 = .ok (.aload_n 0, 1) := by decide +kernel
theorem dL_law_359 : decode cL_law 359 = .ok (.iload_n 3, 1) := by decide +kernel
theorem dL_law_360 : decode cL_law 360 = .ok (.iconst 2, 1) := by decide +kernel
theorem dL_law_361 : decode cL_law 361 = .ok (.iadd, 1) := by decide +kernel
theorem dL_law_362 : decode cL_law 362 = .ok (.iaload, 1) := by decide +kernel
theorem dL_law_363 : decode cL_law 363 = .ok (.aload_n 0, 1) := by decide +kernel
theorem dL_law_364 : decode cL_law 364 = .ok (.iload_n 3, 1) := by decide +kernel
theorem dL_law_365 : decode cL_law 365 = .ok (.iconst 3, 1) := by decide +kernel
theorem dL_law_366 : decode cL_law 366 = .ok (.iadd, 1) := by decide +kernel
theorem dL_law_367 : decode cL_law 367 = .ok (.iaload, 1) := by decide +kernel
theorem dL_law_368 : decode cL_law 368 = .ok (.invokevirtual 41, 3) := by decide +kernel
theorem dL_law_371 : decode cL_law 371 = .ok (.aload_n 2, 1) := by decide +kernel
theorem dL_law_372 : decode cL_law 372 = .ok (.aload_n 0, 1) := by decide +kernel
theorem dL_law_373 : decode cL_law 373 = .ok (.iload_n 3, 1) := by decide +kernel
theorem dL_law_374 : decode cL_law 374 = .ok (.iconst 1, 1) := by decide +kernel
theorem dL_law_375 : decode cL_law 375 = .ok (.iadd, 1) := by decide +kernel
theorem dL_law_376 : decode cL_law 376 = .ok (.iaload, 1) := by decide +kernel
theorem dL_law_377 : decode cL_law 377 = .ok (.aload_n 0, 1) := by decide +kernel
theorem dL_law_378 : decode cL_law 378 = .ok (.iload_n 3, 1) := by decide +kernel
theorem dL_law_379 : decode cL_law 379 = .ok (.iconst 2, 1) := by decide +kernel
theorem dL_law_380 : decode cL_law 380 = .ok (.iadd, 1) := by decide +kernel
theorem dL_law_381 : decode cL_law 381 = .ok (.iaload, 1) := by decide +kernel
theorem dL_law_382 : decode cL_law 382 = .ok (.aload_n 0, 1) := by decide +kernel
theorem dL_law_383 : decode cL_law 383 = .ok (.iload_n 3, 1) := by decide +kernel
theorem dL_law_384 : decode cL_law 384 = .ok (.iconst 3, 1) := by decide +kernel
theorem dL_law_385 : decode cL_law 385 = .ok (.iadd, 1) := by decide +kernel
theorem dL_law_386 : decode cL_law 386 = .ok (.iaload, 1) := by decide +kernel
theorem dL_law_387 : decode cL_law 387 = .ok (.invokevirtual 44, 3) := by decide +kernel
theorem dL_law_390 : decode cL_law 390 = .ok (.if_icmp .eq 216, 3) := by decide +kernel
theorem dL_law_393 : decode cL_law 393 = .ok (.iconst 0, 1) := by decide +kernel
theorem dL_law_394 : decode cL_law 394 = .ok (.ireturn, 1) := by decide +kernel
theorem dL_law_395 : decode cL_law 395 = .ok (.aload_n 1, 1) := by decide +kernel
theorem dL_law_396 : decode cL_law 396 = .ok (.aload_n 0, 1) := by decide +kernel
theorem dL_law_397 : decode cL_law 397 = .ok (.iload_n 3, 1) := by decide +kernel
theorem dL_law_398 : decode cL_law 398 = .ok (.iconst 1, 1) := by decide +kernel
theorem dL_law_399 : decode cL_law 399 = .ok (.iadd, 1) := by decide +kernel
theorem dL_law_400 : decode cL_law 400 = .ok (.iaload, 1) := by decide +kernel
theorem dL_law_401 : decode cL_law 401 = .ok (.aload_n 0, 1) := by decide +kernel
theorem dL_law_402 : decode cL_law 402 = .ok (.iload_n 3, 1) := by decide +kernel
theorem dL_law_403 : decode cL_law 403 = .ok (.iconst 2, 1) := by decide +kernel
theorem dL_law_404 : decode cL_law 404 = .ok (.iadd, 1) := by decide +kernel
theorem dL_law_405 : decode cL_law 405 = .ok (.iaload, 1) := by decide +kernel
theorem dL_law_406 : decode cL_law 406 = .ok (.aload_n 0, 1) := by decide +kernel
theorem dL_law_407 : decode cL_law 407 = .ok (.iload_n 3, 1) := by decide +kernel
theorem dL_law_408 : decode cL_law 408 = .ok (.iconst 3, 1) := by decide +kernel
theorem dL_law_409 : decode cL_law 409 = .ok (.iadd, 1) := by decide +kernel
theorem dL_law_410 : decode cL_law 410 = .ok (.iaload, 1) := by decide +kernel
theorem dL_law_411 : decode cL_law 411 = .ok (.invokevirtual 45, 3) := by decide +kernel
theorem dL_law_414 : decode cL_law 414 = .ok (.aload_n 2, 1) := by decide +kernel
theorem dL_law_415 : decode cL_law 415 = .ok (.aload_n 0, 1) := by decide +kernel
theorem dL_law_416 : decode cL_law 416 = .ok (.iload_n 3, 1) := by decide +kernel
theorem dL_law_417 : decode cL_law 417 = .ok (.iconst 1, 1) := by decide +kernel
theorem dL_law_418 : decode cL_law 418 = .ok (.iadd, 1) := by decide +kernel
theorem dL_law_419 : decode cL_law 419 = .ok (.iaload, 1) := by decide +kernel
theorem dL_law_420 : decode cL_law 420 = .ok (.aload_n 0, 1) := by decide +kernel
theorem dL_law_421 : decode cL_law 421 = .ok (.iload_n 3, 1) := by decide +kernel
theorem dL_law_422 : decode cL_law 422 = .ok (.iconst 2, 1) := by decide +kernel
theorem dL_law_423 : decode cL_law 423 = .ok (.iadd, 1) := by decide +kernel
theorem dL_law_424 : decode cL_law 424 = .ok (.iaload, 1) := by decide +kernel
theorem dL_law_425 : decode cL_law 425 = .ok (.aload_n 0, 1) := by decide +kernel
theorem dL_law_426 : decode cL_law 426 = .ok (.iload_n 3, 1) := by decide +kernel
theorem dL_law_427 : decode cL_law 427 = .ok (.iconst 3, 1) := by decide +kernel
theorem dL_law_428 : decode cL_law 428 = .ok (.iadd, 1) := by decide +kernel
theorem dL_law_429 : decode cL_law 429 = .ok (.iaload, 1) := by decide +kernel
theorem dL_law_430 : decode cL_law 430 = .ok (.invokevirtual 48, 3) := by decide +kernel
theorem dL_law_433 : decode cL_law 433 = .ok (.if_icmp .eq 173, 3) := by decide +kernel
theorem dL_law_436 : decode cL_law 436 = .ok (.iconst 0, 1) := by decide +kernel
theorem dL_law_437 : decode cL_law 437 = .ok (.ireturn, 1) := by decide +kernel
theorem dL_law_438 : decode cL_law 438 = .ok (.aload_n 1, 1) := by decide +kernel
theorem dL_law_439 : decode cL_law 439 = .ok (.aload_n 0, 1) := by decide +kernel
theorem dL_law_440 : decode cL_law 440 = .ok (.iload_n 3, 1) := by decide +kernel
theorem dL_law_441 : decode cL_law 441 = .ok (.iconst 1, 1) := by decide +kernel
theorem dL_law_442 : decode cL_law 442 = .ok (.iadd, 1) := by decide +kernel
theorem dL_law_443 : decode cL_law 443 = .ok (.iaload, 1) := by decide +kernel
theorem dL_law_444 : decode cL_law 444 = .ok (.invokevirtual 49, 3) := by decide +kernel
theorem dL_law_447 : decode cL_law 447 = .ok (.aload_n 2, 1) := by decide +kernel
theorem dL_law_448 : decode cL_law 448 = .ok (.aload_n 0, 1) := by decide +kernel
theorem dL_law_449 : decode cL_law 449 = .ok (.iload_n 3, 1) := by decide +kernel
theorem dL_law_450 : decode cL_law 450 = .ok (.iconst 1, 1) := by decide +kernel
theorem dL_law_451 : decode cL_law 451 = .ok (.iadd, 1) := by decide +kernel
theorem dL_law_452 : decode cL_law 452 = .ok (.iaload, 1) := by decide +kernel
theorem dL_law_453 : decode cL_law 453 = .ok (.invokevirtual 53, 3) := by decide +kernel
theorem dL_law_456 : decode cL_law 456 = .ok (.if_icmp .eq 150, 3) := by decide +kernel
theorem dL_law_459 : decode cL_law 459 = .ok (.iconst 0, 1) := by decide +kernel
theorem dL_law_460 : decode cL_law 460 = .ok (.ireturn, 1) := by decide +kernel
theorem dL_law_461 : decode cL_law 461 = .ok (.aload_n 1, 1) := by decide +kernel
theorem dL_law_462 : decode cL_law 462 = .ok (.invokevirtual 54, 3) := by decide +kernel
theorem dL_law_465 : decode cL_law 465 = .ok (.aload_n 2, 1) := by decide +kernel
theorem dL_law_466 : decode cL_law 466 = .ok (.invokevirtual 58, 3) := by decide +kernel
theorem dL_law_469 : decode cL_law 469 = .ok (.if_icmp .eq 137, 3) := by decide +kernel
theorem dL_law_472 : decode cL_law 472 = .ok (.iconst 0, 1) := by decide +kernel
theorem dL_law_473 : decode cL_law 473 = .ok (.ireturn, 1) := by decide +kernel
theorem dL_law_474 : decode cL_law 474 = .ok (.aload_n 1, 1) := by decide +kernel
theorem dL_law_475 : decode cL_law 475 = .ok (.aload_n 0, 1) := by decide +kernel
theorem dL_law_476 : decode cL_law 476 = .ok (.iload_n 3, 1) := by decide +kernel
theorem dL_law_477 : decode cL_law 477 = .ok (.iconst 1, 1) := by decide +kernel
theorem dL_law_478 : decode cL_law 478 = .ok (.iadd, 1) := by decide +kernel
theorem dL_law_479 : decode cL_law 479 = .ok (.iaload, 1) := by decide +kernel
theorem dL_law_480 : decode cL_law 480 = .ok (.aload_n 0, 1) := by decide +kernel
theorem dL_law_481 : decode cL_law 481 = .ok (.iload_n 3, 1) := by decide +kernel
theorem dL_law_482 : decode cL_law 482 = .ok (.iconst 2, 1) := by decide +kernel
theorem dL_law_483 : decode cL_law 483 = .ok (.iadd, 1) := by decide +kernel
theorem dL_law_484 : decode cL_law 484 = .ok (.iaload, 1) := by decide +kernel
theorem dL_law_485 : decode cL_law 485 = .ok (.invokevirtual 59, 3) := by decide +kernel
theorem dL_law_488 : decode cL_law 488 = .ok (.aload_n 2, 1) := by decide +kernel
theorem dL_law_489 : decode cL_law 489 = .ok (.aload_n 0, 1) := by decide +kernel
theorem dL_law_490 : decode cL_law 490 = .ok (.iload_n 3, 1) := by decide +kernel
theorem dL_law_491 : decode cL_law 491 = .ok (.iconst 1, 1) := by decide +kernel
theorem dL_law_492 : decode cL_law 492 = .ok (.iadd, 1) := by decide +kernel
theorem dL_law_493 : decode cL_law 493 = .ok (.iaload, 1) := by decide +kernel
theorem dL_law_494 : decode cL_law 494 = .ok (.aload_n 0, 1) := by decide +kernel
theorem dL_law_495 : decode cL_law 495 = .ok (.iload_n 3, 1) := by decide +kernel
theorem dL_law_496 : decode cL_law 496 = .ok (.iconst 2, 1) := by decide +kernel
theorem dL_law_497 : decode cL_law 497 = .ok (.iadd, 1) := by decide +kernel
theorem dL_law_498 : decode cL_law 498 = .ok (.iaload, 1) := by decide +kernel
theorem dL_law_499 : decode cL_law 499 = .ok (.invokevirtual 63, 3) := by decide +kernel
theorem dL_law_502 : decode cL_law 502 = .ok (.if_icmp .eq 104, 3) := by decide +kernel
theorem dL_law_505 : decode cL_law 505 = .ok (.iconst 0, 1) := by decide +kernel
theorem dL_law_506 : decode cL_law 506 = .ok (.ireturn, 1) := by decide +kernel
theorem dL_law_507 : decode cL_law 507 = .ok (.aload_n 1, 1) := by decide +kernel
theorem dL_law_508 : decode cL_law 508 = .ok (.aload_n 0, 1) := by decide +kernel
theorem dL_law_509 : decode cL_law 509 = .ok (.iload_n 3, 1) := by decide +kernel
theorem dL_law_510 : decode cL_law 510 = .ok (.iconst 1, 1) := by decide +kernel
theorem dL_law_511 : decode cL_law 511 = .ok (.iadd, 1) := by decide +kernel
theorem dL_law_512 : decode cL_law 512 = .ok (.iaload, 1) := by decide +kernel
theorem dL_law_513 : decode cL_law 513 = .ok (.aload_n 0, 1) := by decide +kernel
theorem dL_law_514 : decode cL_law 514 = .ok (.iload_n 3, 1) := by decide +kernel
theorem dL_law_515 : decode cL_law 515 = .ok (.iconst 2, 1) := by decide +kernel
theorem dL_law_516 : decode cL_law 516 = .ok (.iadd, 1) := by decide +kernel
theorem dL_law_517 : decode cL_law 517 = .ok (.iaload, 1) := by decide +kernel
theorem dL_law_518 : decode cL_law 518 = .ok (.invokevirtual 64, 3) := by decide +kernel
theorem dL_law_521 : decode cL_law 521 = .ok (.aload_n 2, 1) := by decide +kernel
theorem dL_law_522 : decode cL_law 522 = .ok (.aload_n 0, 1) := by decide +kernel
theorem dL_law_523 : decode cL_law 523 = .ok (.iload_n 3, 1) := by decide +kernel
theorem dL_law_524 : decode cL_law 524 = .ok (.iconst 1, 1) := by decide +kernel
theorem dL_law_525 : decode cL_law 525 = .ok (.iadd, 1) := by decide +kernel
theorem dL_law_526 : decode cL_law 526 = .ok (.iaload, 1) := by decide +kernel
theorem dL_law_527 : decode cL_law 527 = .ok (.aload_n 0, 1) := by decide +kernel
theorem dL_law_528 : decode cL_law 528 = .ok (.iload_n 3, 1) := by decide +kernel
theorem dL_law_529 : decode cL_law 529 = .ok (.iconst 2, 1) := by decide +kernel
theorem dL_law_530 : decode cL_law 530 = .ok (.iadd, 1) := by decide +kernel
theorem dL_law_531 : decode cL_law 531 = .ok (.iaload, 1) := by decide +kernel
theorem dL_law_532 : decode cL_law 532 = .ok (.invokevirtual 67, 3) := by decide +kernel
theorem dL_law_535 : decode cL_law 535 = .ok (.if_icmp .eq 71, 3) := by decide +kernel
theorem dL_law_538 : decode cL_law 538 = .ok (.iconst 0, 1) := by decide +kernel
theorem dL_law_539 : decode cL_law 539 = .ok (.ireturn, 1) := by decide +kernel
theorem dL_law_540 : decode cL_law 540 = .ok (.aload_n 1, 1) := by decide +kernel
theorem dL_law_541 : decode cL_law 541 = .ok (.aload_n 0, 1) := by decide +kernel
theorem dL_law_542 : decode cL_law 542 = .ok (.iload_n 3, 1) := by decide +kernel
theorem dL_law_543 : decode cL_law 543 = .ok (.iconst 1, 1) := by decide +kernel
theorem dL_law_544 : decode cL_law 544 = .ok (.iadd, 1) := by decide +kernel
theorem dL_law_545 : decode cL_law 545 = .ok (.iaload, 1) := by decide +kernel
theorem dL_law_546 : decode cL_law 546 = .ok (.aload_n 0, 1) := by decide +kernel
theorem dL_law_547 : decode cL_law 547 = .ok (.iload_n 3, 1) := by decide +kernel
theorem dL_law_548 : decode cL_law 548 = .ok (.iconst 2, 1) := by decide +kernel
theorem dL_law_549 : decode cL_law 549 = .ok (.iadd, 1) := by decide +kernel
theorem dL_law_550 : decode cL_law 550 = .ok (.iaload, 1) := by decide +kernel
theorem dL_law_551 : decode cL_law 551 = .ok (.aload_n 0, 1) := by decide +kernel
theorem dL_law_552 : decode cL_law 552 = .ok (.iload_n 3, 1) := by decide +kernel
theorem dL_law_553 : decode cL_law 553 = .ok (.iconst 3, 1) := by decide +kernel
theorem dL_law_554 : decode cL_law 554 = .ok (.iadd, 1) := by decide +kernel
theorem dL_law_555 : decode cL_law 555 = .ok (.iaload, 1) := by decide +kernel
theorem dL_law_556 : decode cL_law 556 = .ok (.invokevirtual 68, 3) := by decide +kernel
theorem dL_law_559 : decode cL_law 559 = .ok (.aload_n 2, 1) := by decide +kernel
theorem dL_law_560 : decode cL_law 560 = .ok (.aload_n 0, 1) := by decide +kernel
theorem dL_law_561 : decode cL_law 561 = .ok (.iload_n 3, 1) := by decide +kernel
theorem dL_law_562 : decode cL_law 562 = .ok (.iconst 1, 1) := by decide +kernel
theorem dL_law_563 : decode cL_law 563 = .ok (.iadd, 1) := by decide +kernel
theorem dL_law_564 : decode cL_law 564 = .ok (.iaload, 1) := by decide +kernel
theorem dL_law_565 : decode cL_law 565 = .ok (.aload_n 0, 1) := by decide +kernel
theorem dL_law_566 : decode cL_law 566 = .ok (.iload_n 3, 1) := by decide +kernel
theorem dL_law_567 : decode cL_law 567 = .ok (.iconst 2, 1) := by decide +kernel
theorem dL_law_568 : decode cL_law 568 = .ok (.iadd, 1) := by decide +kernel
theorem dL_law_569 : decode cL_law 569 = .ok (.iaload, 1) := by decide +kernel
theorem dL_law_570 : decode cL_law 570 = .ok (.aload_n 0, 1) := by decide +kernel
theorem dL_law_571 : decode cL_law 571 = .ok (.iload_n 3, 1) := by decide +kernel
theorem dL_law_572 : decode cL_law 572 = .ok (.iconst 3, 1) := by decide +kernel
theorem dL_law_573 : decode cL_law 573 = .ok (.iadd, 1) := by decide +kernel
theorem dL_law_574 : decode cL_law 574 = .ok (.iaload, 1) := by decide +kernel
theorem dL_law_575 : decode cL_law 575 = .ok (.invokevirtual 71, 3) := by decide +kernel
theorem dL_law_578 : decode cL_law 578 = .ok (.if_icmp .eq 28, 3) := by decide +kernel
theorem dL_law_581 : decode cL_law 581 = .ok (.iconst 0, 1) := by decide +kernel
theorem dL_law_582 : decode cL_law 582 = .ok (.ireturn, 1) := by decide +kernel
theorem dL_law_583 : decode cL_law 583 = .ok (.aload_n 1, 1) := by decide +kernel
theorem dL_law_584 : decode cL_law 584 = .ok (.aload_n 0, 1) := by decide +kernel
theorem dL_law_585 : decode cL_law 585 = .ok (.iload_n 3, 1) := by decide +kernel
theorem dL_law_586 : decode cL_law 586 = .ok (.iconst 1, 1) := by decide +kernel
theorem dL_law_587 : decode cL_law 587 = .ok (.iadd, 1) := by decide +kernel
theorem dL_law_588 : decode cL_law 588 = .ok (.iaload, 1) := by decide +kernel
theorem dL_law_589 : decode cL_law 589 = .ok (.invokevirtual 72, 3) := by decide +kernel
theorem dL_law_592 : decode cL_law 592 = .ok (.aload_n 2, 1) := by decide +kernel
theorem dL_law_593 : decode cL_law 593 = .ok (.aload_n 0, 1) := by decide +kernel
theorem dL_law_594 : decode cL_law 594 = .ok (.iload_n 3, 1) := by decide +kernel
theorem dL_law_595 : decode cL_law 595 = .ok (.iconst 1, 1) := by decide +kernel
theorem dL_law_596 : decode cL_law 596 = .ok (.iadd, 1) := by decide +kernel
theorem dL_law_597 : decode cL_law 597 = .ok (.iaload, 1) := by decide +kernel
theorem dL_law_598 : decode cL_law 598 = .ok (.invokevirtual 75, 3) := by decide +kernel
theorem dL_law_601 : decode cL_law 601 = .ok (.if_icmp .eq 5, 3) := by decide +kernel
theorem dL_law_604 : decode cL_law 604 = .ok (.iconst 0, 1) := by decide +kernel
theorem dL_law_605 : decode cL_law 605 = .ok (.ireturn, 1) := by decide +kernel
theorem dL_law_606 : decode cL_law 606 = .ok (.iinc 3 6, 3) := by decide +kernel
theorem dL_law_609 : decode cL_law 609 = .ok (.goto (-591), 3) := by decide +kernel
theorem dL_law_612 : decode cL_law 612 = .ok (.iconst 1, 1) := by decide +kernel
theorem dL_law_613 : decode cL_law 613 = .ok (.ireturn, 1) := by decide +kernel
