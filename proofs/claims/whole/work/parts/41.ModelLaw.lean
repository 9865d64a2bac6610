theorem dX12_allOf_0 : decode cX12_allOf 0 = .ok (.aload_n 0, 1) := by decide +kernel
theorem dX12_allOf_1 : decode cX12_allOf 1 = .ok (.iload_n 1, 1) := by decide +kernel
theorem dX12_allOf_2 : decode cX12_allOf 2 = .ok (.invokevirtual 239, 3) := by decide +kernel
theorem dX12_allOf_5 : decode cX12_allOf 5 = .ok (.aload_n 0, 1) := by decide +kernel
theorem dX12_allOf_6 : decode cX12_allOf 6 = .ok (.bipush 20, 2) := by decide +kernel
theorem dX12_allOf_8 : decode cX12_allOf 8 = .ok (.invokevirtual 166, 3) := by decide +kernel
theorem dX12_allOf_11 : decode cX12_allOf 11 = .ok (.ifCond .ne 12, 3) := by decide +kernel
theorem dX12_allOf_14 : decode cX12_allOf 14 = .ok (.aload_n 0, 1) := by decide +kernel
theorem dX12_allOf_15 : decode cX12_allOf 15 = .ok (.bipush 21, 2) := by decide +kernel
theorem dX12_allOf_17 : decode cX12_allOf 17 = .ok (.invokevirtual 166, 3) := by decide +kernel
theorem dX12_allOf_20 : decode cX12_allOf 20 = .ok (.ifCond .eq 44, 3) := by decide +kernel
theorem dX12_allOf_23 : decode cX12_allOf 23 = .ok (.aload_n 0, 1) := by decide +kernel
theorem dX12_allOf_24 : decode cX12_allOf 24 = .ok (.bipush 20, 2) := by decide +kernel
theorem dX12_allOf_26 : decode cX12_allOf 26 = .ok (.invokevirtual 166, 3) := by decide +kernel
theorem dX12_allOf_29 : decode cX12_allOf 29 = .ok (.istore_n 2, 1) := by decide +kernel
theorem dX12_allOf_30 : decode cX12_allOf 30 = .ok (.aload_n 0, 1) := by decide +kernel
theorem dX12_allOf_31 : decode cX12_allOf 31 = .ok (.dup, 1) := by decide +kernel
theorem dX12_allOf_32 : decode cX12_allOf 32 = .ok (.getfield 154, 3) := by decide +kernel
theorem dX12_allOf_35 : decode cX12_allOf 35 = .ok (.iconst 1, 1) := by decide +kernel
theorem dX12_allOf_36 : decode cX12_allOf 36 = .ok (.iadd, 1) := by decide +kernel
theorem dX12_allOf_37 : decode cX12_allOf 37 = .ok (.putfield 154, 3) := by decide +kernel
theorem dX12_allOf_40 : decode cX12_allOf 40 = .ok (.aload_n 0, 1) := by decide +kernel
theorem dX12_allOf_41 : decode cX12_allOf 41 = .ok (.iload_n 1, 1) := by decide +kernel
theorem dX12_allOf_42 : decode cX12_allOf 42 = .ok (.invokevirtual 239, 3) := by decide +kernel
theorem dX12_allOf_45 : decode cX12_allOf 45 = .ok (.aload_n 0, 1) := by decide +kernel
theorem dX12_allOf_46 : decode cX12_allOf 46 = .ok (.iload_n 2, 1) := by decide +kernel
theorem dX12_allOf_47 : decode cX12_allOf 47 = .ok (.ifCond .eq 8, 3) := by decide +kernel
theorem dX12_allOf_50 : decode cX12_allOf 50 = .ok (.bipush 9, 2) := by decide +kernel
theorem dX12_allOf_52 : decode cX12_allOf 52 = .ok (.goto 5, 3) := by decide +kernel
theorem dX12_allOf_55 : decode cX12_allOf 55 = .ok (.bipush 10, 2) := by decide +kernel
theorem dX12_allOf_57 : decode cX12_allOf 57 = .ok (.iconst 0, 1) := by decide +kernel
theorem dX12_allOf_58 : decode cX12_allOf 58 = .ok (.invokevirtual 222, 3) := by decide +kernel
theorem dX12_allOf_61 : decode cX12_allOf 61 = .ok (.goto (-56), 3) := by decide +kernel
theorem dX12_allOf_64 : decode cX12_allOf 64 = .ok (.return_, 1) := by decide +kernel
theorem dX12_test_0 : decode cX12_test 0 = .ok (.aload_n 0, 1) := by decide +kernel
theorem dX12_test_1 : decode cX12_test 1 = .ok (.iload_n 1, 1) := by decide +kernel
theorem dX12_test_2 : decode cX12_test 2 = .ok (.invokevirtual 242, 3) := by decide +kernel
theorem dX12_test_5 : decode cX12_test 5 = .ok (.aload_n 0, 1) := by decide +kernel
theorem dX12_test_6 : decode cX12_test 6 = .ok (.bipush 60, 2) := by decide +kernel
theorem dX12_test_8 : decode cX12_test 8 = .ok (.invokevirtual 160, 3) := by decide +kernel
theorem dX12_test_11 : decode cX12_test 11 = .ok (.istore_n 2, 1) := by decide +kernel
theorem dX12_test_12 : decode cX12_test 12 = .ok (.aload_n 0, 1) := by decide +kernel
theorem dX12_test_13 : decode cX12_test 13 = .ok (.bipush 60, 2) := by decide +kernel
theorem dX12_test_15 : decode cX12_test 15 = .ok (.invokevirtual 245, 3) := by decide +kernel
theorem dX12_test_18 : decode cX12_test 18 = .ok (.ifCond .ne 12, 3) := by decide +kernel
theorem dX12_test_21 : decode cX12_test 21 = .ok (.aload_n 0, 1) := by decide +kernel
theorem dX12_test_22 : decode cX12_test 22 = .ok (.bipush 61, 2) := by decide +kernel
theorem dX12_test_24 : decode cX12_test 24 = .ok (.invokevirtual 245, 3) := by decide +kernel
theorem dX12_test_27 : decode cX12_test 27 = .ok (.ifCond .eq 24, 3) := by decide +kernel
theorem dX12_test_30 : decode cX12_test 30 = .ok (.aload_n 0, 1) := by decide +kernel
theorem dX12_test_31 : decode cX12_test 31 = .ok (.iload_n 1, 1) := by decide +kernel
theorem dX12_test_32 : decode cX12_test 32 = .ok (.invokevirtual 242, 3) := by decide +kernel
theorem dX12_test_35 : decode cX12_test 35 = .ok (.aload_n 0, 1) := by decide +kernel
theorem dX12_test_36 : decode cX12_test 36 = .ok (.iload_n 2, 1) := by decide +kernel
theorem dX12_test_37 : decode cX12_test 37 = .ok (.ifCond .eq 8, 3) := by decide +kernel
theorem dX12_test_40 : decode cX12_test 40 = .ok (.bipush 7, 2) := by decide +kernel
theorem dX12_test_42 : decode cX12_test 42 = .ok (.goto 5, 3) := by decide +kernel
theorem dX12_test_45 : decode cX12_test 45 = .ok (.bipush 8, 2) := by decide +kernel
theorem dX12_test_47 : decode cX12_test 47 = .ok (.iconst 0, 1) := by decide +kernel
theorem dX12_test_48 : decode cX12_test 48 = .ok (.invokevirtual 222, 3) := by decide +kernel
theorem dX12_test_51 : decode cX12_test 51 = .ok (.return_, 1) := by decide +kernel
theorem dX12_sums_0 : decode cX12_sums 0 = .ok (.aload_n 0, 1) := by decide +kernel
theorem dX12_sums_1 : decode cX12_sums 1 = .ok (.iload_n 1, 1) := by decide +kernel
theorem dX12_sums_2 : decode cX12_sums 2 = .ok (.invokevirtual 248, 3) := by decide +kernel
theorem dX12_sums_5 : decode cX12_sums 5 = .ok (.aload_n 0, 1) := by decide +kernel
theorem dX12_sums_6 : decode cX12_sums 6 = .ok (.bipush 43, 2) := by decide +kernel
theorem dX12_sums_8 : decode cX12_sums 8 = .ok (.invokevirtual 160, 3) := by decide +kernel
theorem dX12_sums_11 : decode cX12_sums 11 = .ok (.ifCond .ne 12, 3) := by decide +kernel
theorem dX12_sums_14 : decode cX12_sums 14 = .ok (.aload_n 0, 1) := by decide +kernel
theorem dX12_sums_15 : decode cX12_sums 15 = .ok (.bipush 45, 2) := by decide +kernel
theorem dX12_sums_17 : decode cX12_sums 17 = .ok (.invokevirtual 160, 3) := by decide +kernel
theorem dX12_sums_20 : decode cX12_sums 20 = .ok (.ifCond .eq 42, 3) := by decide +kernel
theorem dX12_sums_23 : decode cX12_sums 23 = .ok (.aload_n 0, 1) := by decide +kernel
theorem dX12_sums_24 : decode cX12_sums 24 = .ok (.bipush 43, 2) := by decide +kernel
theorem dX12_sums_26 : decode cX12_sums 26 = .ok (.invokevirtual 160, 3) := by decide +kernel
theorem dX12_sums_29 : decode cX12_sums 29 = .ok (.istore_n 2, 1) := by decide +kernel
theorem dX12_sums_30 : decode cX12_sums 30 = .ok (.aload_n 0, 1) := by decide +kernel
theorem dX12_sums_31 : decode cX12_sums 31 = .ok (.dup, 1) := by decide +kernel
theorem dX12_sums_32 : decode cX12_sums 32 = .ok (.getfield 154, 3) := by decide +kernel
theorem dX12_sums_35 : decode cX12_sums 35 = .ok (.iconst 1, 1) := by decide +kernel
theorem dX12_sums_36 : decode cX12_sums 36 = .ok (.iadd, 1) := by decide +kernel
theorem dX12_sums_37 : decode cX12_sums 37 = .ok (.putfield 154, 3) := by decide +kernel
theorem dX12_sums_40 : decode cX12_sums 40 = .ok (.aload_n 0, 1) := by decide +kernel
theorem dX12_sums_41 : decode cX12_sums 41 = .ok (.iload_n 1, 1) := by decide +kernel
theorem dX12_sums_42 : decode cX12_sums 42 = .ok (.invokevirtual 248, 3) := by decide +kernel
theorem dX12_sums_45 : decode cX12_sums 45 = .ok (.aload_n 0, 1) := by decide +kernel
theorem dX12_sums_46 : decode cX12_sums 46 = .ok (.iload_n 2, 1) := by decide +kernel
theorem dX12_sums_47 : decode cX12_sums 47 = .ok (.ifCond .eq 7, 3) := by decide +kernel
theorem dX12_sums_50 : decode cX12_sums 50 = .ok (.iconst 4, 1) := by decide +kernel
theorem dX12_sums_51 : decode cX12_sums 51 = .ok (.goto 4, 3) := by decide +kernel
theorem dX12_sums_54 : decode cX12_sums 54 = .ok (.iconst 5, 1) := by decide +kernel
theorem dX12_sums_55 : decode cX12_sums 55 = .ok (.iconst 0, 1) := by decide +kernel
theorem dX12_sums_56 : decode cX12_sums 56 = .ok (.invokevirtual 222, 3) := by decide +kernel
theorem dX12_sums_59 : decode cX12_sums 59 = .ok (.goto (-54), 3) := by decide +kernel
theorem dX12_sums_62 : decode cX12_sums 62 = .ok (.return_, 1) := by decide +kernel
theorem dX12_products_0 : decode cX12_products 0 = .ok (.aload_n 0, 1) := by decide +kernel
theorem dX12_products_1 : decode cX12_products 1 = .ok (.iload_n 1, 1) := by decide +kernel
theorem dX12_products_2 : decode cX12_products 2 = .ok (.invokevirtual 251, 3) := by decide +kernel
theorem dX12_products_5 : decode cX12_products 5 = .ok (.aload_n 0, 1) := by decide +kernel
theorem dX12_products_6 : decode cX12_products 6 = .ok (.bipush 42, 2) := by decide +kernel
theorem dX12_products_8 : decode cX12_products 8 = .ok (.invokevirtual 245, 3) := by decide +kernel
theorem dX12_products_11 : decode cX12_products 11 = .ok (.ifCond .eq 18, 3) := by decide +kernel
theorem dX12_products_14 : decode cX12_products 14 = .ok (.aload_n 0, 1) := by decide +kernel
theorem dX12_products_15 : decode cX12_products 15 = .ok (.iload_n 1, 1) := by decide +kernel
theorem dX12_products_16 : decode cX12_products 16 = .ok (.invokevirtual 251, 3) := by decide +kernel
theorem dX12_products_19 : decode cX12_products 19 = .ok (.aload_n 0, 1) := by decide +kernel
theorem dX12_products_20 : decode cX12_products 20 = .ok (.bipush 6, 2) := by decide +kernel
theorem dX12_products_22 : decode cX12_products 22 = .ok (.iconst 0, 1) := by decide +kernel
theorem dX12_products_23 : decode cX12_products 23 = .ok (.invokevirtual 222, 3) := by decide +kernel
theorem dX12_products_26 : decode cX12_products 26 = .ok (.goto (-21), 3) := by decide +kernel
theorem dX12_products_29 : decode cX12_products 29 = .ok (.return_, 1) := by decide +kernel
theorem dX12_takePart_0 : decode cX12_takePart 0 = .ok (.aload_n 0, 1) := by decide +kernel
theorem dX12_takePart_1 : decode cX12_takePart 1 = .ok (.getfield 157, 3) := by decide +kernel
theorem dX12_takePart_4 : decode cX12_takePart 4 = .ok (.ifCond .le 4, 3) := by decide +kernel
theorem dX12_takePart_7 : decode cX12_takePart 7 = .ok (.return_, 1) := by decide +kernel
theorem dX12_takePart_8 : decode cX12_takePart 8 = .ok (.aload_n 0, 1) := by decide +kernel
theorem dX12_takePart_9 : decode cX12_takePart 9 = .ok (.getfield 24, 3) := by decide +kernel
theorem dX12_takePart_12 : decode cX12_takePart 12 = .ok (.aload_n 0, 1) := by decide +kernel
theorem dX12_takePart_13 : decode cX12_takePart 13 = .ok (.getfield 154, 3) := by decide +kernel
theorem dX12_takePart_16 : decode cX12_takePart 16 = .ok (.iaload, 1) := by decide +kernel
theorem dX12_takePart_17 : decode cX12_takePart 17 = .ok (.iconst 2, 1) := by decide +kernel
theorem dX12_takePart_18 : decode cX12_takePart 18 = .ok (.if_icmp .ne 7, 3) := by decide +kernel
theorem dX12_takePart_21 : decode cX12_takePart 21 = .ok (.iconst 1, 1) := by decide +kernel
theorem dX12_takePart_22 : decode cX12_takePart 22 = .ok (.goto 4, 3) := by decide +kernel
theorem dX12_takePart_25 : decode cX12_takePart 25 = .ok (.iconst 0, 1) := by decide +kernel
theorem dX12_takePart_26 : decode cX12_takePart 26 = .ok (.istore_n 2, 1) := by decide +kernel
theorem dX12_takePart_27 : decode cX12_takePart 27 = .ok (.aload_n 0, 1) := by decide +kernel
theorem dX12_takePart_28 : decode cX12_takePart 28 = .ok (.bipush 22, 2) := by decide +kernel
theorem dX12_takePart_30 : decode cX12_takePart 30 = .ok (.iconst 4, 1) := by decide +kernel
theorem dX12_takePart_31 : decode cX12_takePart 31 = .ok (.invokevirtual 179, 3) := by decide +kernel
theorem dX12_takePart_34 : decode cX12_takePart 34 = .ok (.istore_n 3, 1) := by decide +kernel
theorem dX12_takePart_35 : decode cX12_takePart 35 = .ok (.iload_n 3, 1) := by decide +kernel
theorem dX12_takePart_36 : decode cX12_takePart 36 = .ok (.ifCond .ge 33, 3) := by decide +kernel
theorem dX12_takePart_39 : decode cX12_takePart 39 = .ok (.iload_n 2, 1) := by decide +kernel
theorem dX12_takePart_40 : decode cX12_takePart 40 = .ok (.ifCond .ne 29, 3) := by decide +kernel
theorem dX12_takePart_43 : decode cX12_takePart 43 = .ok (.aload_n 0, 1) := by decide +kernel
theorem dX12_takePart_44 : decode cX12_takePart 44 = .ok (.bipush 40, 2) := by decide +kernel
theorem dX12_takePart_46 : decode cX12_takePart 46 = .ok (.invokevirtual 160, 3) := by decide +kernel
theorem dX12_takePart_49 : decode cX12_takePart 49 = .ok (.ifCond .ne 20, 3) := by decide +kernel
theorem dX12_takePart_52 : decode cX12_takePart 52 = .ok (.aload_n 0, 1) := by decide +kernel
theorem dX12_takePart_53 : decode cX12_takePart 53 = .ok (.bipush 19, 2) := by decide +kernel
theorem dX12_takePart_55 : decode cX12_takePart 55 = .ok (.invokevirtual 166, 3) := by decide +kernel
theorem dX12_takePart_58 : decode cX12_takePart 58 = .ok (.ifCond .ne 11, 3) := by decide +kernel
theorem dX12_takePart_61 : decode cX12_takePart 61 = .ok (.aload_n 0, 1) := by decide +kernel
theorem dX12_takePart_62 : decode cX12_takePart 62 = .ok (.iconst 1, 1) := by decide +kernel
theorem dX12_takePart_63 : decode cX12_takePart 63 = .ok (.invokevirtual 163, 3) := by decide +kernel
theorem dX12_takePart_66 : decode cX12_takePart 66 = .ok (.goto 13, 3) := by decide +kernel
theorem dX12_takePart_69 : decode cX12_takePart 69 = .ok (.iload_n 1, 1) := by decide +kernel
theorem dX12_takePart_70 : decode cX12_takePart 70 = .ok (.iconst 5, 1) := by decide +kernel
theorem dX12_takePart_71 : decode cX12_takePart 71 = .ok (.if_icmp .ne 8, 3) := by decide +kernel
theorem dX12_takePart_74 : decode cX12_takePart 74 = .ok (.aload_n 0, 1) := by decide +kernel
theorem dX12_takePart_75 : decode cX12_takePart 75 = .ok (.iconst 5, 1) := by decide +kernel
theorem dX12_takePart_76 : decode cX12_takePart 76 = .ok (.invokevirtual 163, 3) := by decide +kernel
theorem dX12_takePart_79 : decode cX12_takePart 79 = .ok (.aload_n 0, 1) := by decide +kernel
theorem dX12_takePart_80 : decode cX12_takePart 80 = .ok (.getfield 157, 3) := by decide +kernel
theorem dX12_takePart_83 : decode cX12_takePart 83 = .ok (.ifCond .le 4, 3) := by decide +kernel
theorem dX12_takePart_86 : decode cX12_takePart 86 = .ok (.return_, 1) := by decide +kernel
theorem dX12_takePart_87 : decode cX12_takePart 87 = .ok (.aload_n 0, 1) := by decide +kernel
theorem dX12_takePart_88 : decode cX12_takePart 88 = .ok (.bipush 19, 2) := by decide +kernel
theorem dX12_takePart_90 : decode cX12_takePart 90 = .ok (.invokevirtual 169, 3) := by decide +kernel
theorem dX12_takePart_93 : decode cX12_takePart 93 = .ok (.ifCond .eq 19, 3) := by decide +kernel
theorem dX12_takePart_96 : decode cX12_takePart 96 = .ok (.aload_n 0, 1) := by decide +kernel
theorem dX12_takePart_97 : decode cX12_takePart 97 = .ok (.iload_n 1, 1) := by decide +kernel
theorem dX12_takePart_98 : decode cX12_takePart 98 = .ok (.iconst 1, 1) := by decide +kernel
theorem dX12_takePart_99 : decode cX12_takePart 99 = .ok (.iadd, 1) := by decide +kernel
theorem dX12_takePart_100 : decode cX12_takePart 100 = .ok (.invokevirtual 251, 3) := by decide +kernel
theorem dX12_takePart_103 : decode cX12_takePart 103 = .ok (.aload_n 0, 1) := by decide +kernel
theorem dX12_takePart_104 : decode cX12_takePart 104 = .ok (.iconst 3, 1) := by decide +kernel
theorem dX12_takePart_105 : decode cX12_takePart 105 = .ok (.iconst 0, 1) := by decide +kernel
theorem dX12_takePart_106 : decode cX12_takePart 106 = .ok (.invokevirtual 222, 3) := by decide +kernel
theorem dX12_takePart_109 : decode cX12_takePart 109 = .ok (.goto 69, 3) := by decide +kernel
theorem dX12_takePart_112 : decode cX12_takePart 112 = .ok (.aload_n 0, 1) := by decide +kernel
theorem dX12_takePart_113 : decode cX12_takePart 113 = .ok (.bipush 40, 2) := by decide +kernel
theorem dX12_takePart_115 : decode cX12_takePart 115 = .ok (.invokevirtual 245, 3) := by decide +kernel
theorem dX12_takePart_118 : decode cX12_takePart 118 = .ok (.ifCond .eq 19, 3) := by decide +kernel
theorem dX12_takePart_121 : decode cX12_takePart 121 = .ok (.aload_n 0, 1) := by decide +kernel
theorem dX12_takePart_122 : decode cX12_takePart 122 = .ok (.iload_n 1, 1) := by decide +kernel
theorem dX12_takePart_123 : decode cX12_takePart 123 = .ok (.iconst 1, 1) := by decide +kernel
theorem dX12_takePart_124 : decode cX12_takePart 124 = .ok (.iadd, 1) := by decide +kernel
theorem dX12_takePart_125 : decode cX12_takePart 125 = .ok (.invokevirtual 219, 3) := by decide +kernel
theorem dX12_takePart_128 : decode cX12_takePart 128 = .ok (.aload_n 0, 1) := by decide +kernel
theorem dX12_takePart_129 : decode cX12_takePart 129 = .ok (.bipush 41, 2) := by decide +kernel
theorem dX12_takePart_131 : decode cX12_takePart 131 = .ok (.invokevirtual 198, 3) := by decide +kernel
theorem dX12_takePart_134 : decode cX12_takePart 134 = .ok (.goto 44, 3) := by decide +kernel
theorem dX12_takePart_137 : decode cX12_takePart 137 = .ok (.aload_n 0, 1) := by decide +kernel
theorem dX12_takePart_138 : decode cX12_takePart 138 = .ok (.iload_n 2, 1) := by decide +kernel
theorem dX12_takePart_139 : decode cX12_takePart 139 = .ok (.ifCond .eq 7, 3) := by decide +kernel
theorem dX12_takePart_142 : decode cX12_takePart 142 = .ok (.iconst 1, 1) := by decide +kernel
theorem dX12_takePart_143 : decode cX12_takePart 143 = .ok (.goto 4, 3) := by decide +kernel
theorem dX12_takePart_146 : decode cX12_takePart 146 = .ok (.iconst 2, 1) := by decide +kernel
theorem dX12_takePart_147 : decode cX12_takePart 147 = .ok (.iload_n 2, 1) := by decide +kernel
theorem dX12_takePart_148 : decode cX12_takePart 148 = .ok (.ifCond .eq 16, 3) := by decide +kernel
theorem dX12_takePart_151 : decode cX12_takePart 151 = .ok (.aload_n 0, 1) := by decide +kernel
theorem dX12_takePart_152 : decode cX12_takePart 152 = .ok (.getfield 30, 3) := by decide +kernel
theorem dX12_takePart_155 : decode cX12_takePart 155 = .ok (.aload_n 0, 1) := by decide +kernel
theorem dX12_takePart_156 : decode cX12_takePart 156 = .ok (.getfield 154, 3) := by decide +kernel
theorem dX12_takePart_159 : decode cX12_takePart 159 = .ok (.laload, 1) := by decide +kernel
theorem dX12_takePart_160 : decode cX12_takePart 160 = .ok (.l2i, 1) := by decide +kernel
theorem dX12_takePart_161 : decode cX12_takePart 161 = .ok (.goto 4, 3) := by decide +kernel
theorem dX12_takePart_164 : decode cX12_takePart 164 = .ok (.iload_n 3, 1) := by decide +kernel
theorem dX12_takePart_165 : decode cX12_takePart 165 = .ok (.invokevirtual 222, 3) := by decide +kernel
theorem dX12_takePart_168 : decode cX12_takePart 168 = .ok (.aload_n 0, 1) := by decide +kernel
theorem dX12_takePart_169 : decode cX12_takePart 169 = .ok (.dup, 1) := by decide +kernel
theorem dX12_takePart_170 : decode cX12_takePart 170 = .ok (.getfield 154, 3) := by decide +kernel
theorem dX12_takePart_173 : decode cX12_takePart 173 = .ok (.iconst 1, 1) := by decide +kernel
theorem dX12_takePart_174 : decode cX12_takePart 174 = .ok (.iadd, 1) := by decide +kernel
theorem dX12_takePart_175 : decode cX12_takePart 175 = .ok (.putfield 154, 3) := by decide +kernel
theorem dX12_takePart_178 : decode cX12_takePart 178 = .ok (.return_, 1) := by decide +kernel
def gX12_allOf (R_X12_allOf : Nat → Int → Hp → RT) (R_X12_test : Nat → Int → Hp → RT) (R_X12_sums : Nat → Int → Hp → RT) (R_X12_products : Nat → Int → Hp → RT) (R_X12_takePart : Nat → Int → Hp → RT) (a0 : Nat) (a1 : Int) (G : Hp) : RT := bn (R_X12_test a0 a1 G) fun _ G1 => (lp (fun (_ : Hp) => (none : RT)) 5000 (fun (rc3 : Hp → RT) (G2 : Hp) => bp (fX12_isWord a0 20 G2) fun v4 => jn (bp (fX12_isWord a0 20 G2) fun v6 => bd v6 fun v7 => bh (up G2 a0 7 (iadd (G2 a0 7) 1)) fun G8 => bn (R_X12_test a0 a1 G8) fun _ G9 => jn (fun (v10 : Int) => bn (fX12_emit a0 v10 0 G9) fun _ G12 => rc3 G12) fun (K11 : Int → RT) => if v7 = 0 then K11 10 else K11 9) fun (K5 : RT) => if v4 = 0 then (bp (fX12_isWord a0 21 G2) fun v15 => if v15 = 0 then rt 0 G2 else K5) else K5)) G1
set_option maxRecDepth 20000 in
set_option maxHeartbeats 4000000 in
theorem uX12_allOf (l : Launch) (x : WX) (hi : Inj x.2.2) (n : Nat) (R_X12_allOf : Nat → Int → Hp → RT) (R_X12_test : Nat → Int → Hp → RT) (R_X12_sums : Nat → Int → Hp → RT) (R_X12_products : Nat → Int → Hp → RT) (R_X12_takePart : Nat → Int → Hp → RT) (hR_X12_allOf : ∀ (G : Hp) (a0 : Nat) (a1 : Int) (ha0 : kd a0 = 12), Ct l x yX12_allOf cX12_allOf 3 none (2 + n) 129 129 [vR a0, vI a1] G (R_X12_allOf a0 a1 G)) (hR_X12_test : ∀ (G : Hp) (a0 : Nat) (a1 : Int) (ha0 : kd a0 = 12), Ct l x yX12_test cX12_test 3 none (2 + n) 129 129 [vR a0, vI a1] G (R_X12_test a0 a1 G)) (hR_X12_sums : ∀ (G : Hp) (a0 : Nat) (a1 : Int) (ha0 : kd a0 = 12), Ct l x yX12_sums cX12_sums 3 none (2 + n) 129 129 [vR a0, vI a1] G (R_X12_sums a0 a1 G)) (hR_X12_products : ∀ (G : Hp) (a0 : Nat) (a1 : Int) (ha0 : kd a0 = 12), Ct l x yX12_products cX12_products 2 none (2 + n) 129 129 [vR a0, vI a1] G (R_X12_products a0 a1 G)) (hR_X12_takePart : ∀ (G : Hp) (a0 : Nat) (a1 : Int) (ha0 : kd a0 = 12), Ct l x yX12_takePart cX12_takePart 4 none (2 + n) 129 129 [vR a0, vI a1] G (R_X12_takePart a0 a1 G)) (G : Hp) (a0 : Nat) (a1 : Int) (ha0 : kd a0 = 12) : Ct l x yX12_allOf cX12_allOf 3 none (2 + (n + 1)) 129 129 [vR a0, vI a1] G (gX12_allOf R_X12_allOf R_X12_test R_X12_sums R_X12_products R_X12_takePart a0 a1 G) := by
  refine ct_of (plainFor_of_name (by decide)) hi (Nat.le_refl _) (Nat.le_refl _) (Nat.le_of_ble_eq_true rfl) (fun cx F hd hn0 hnE hl hQ => ?_)
  subst hl
  have F : Fx cx x RX12 cX12_allOf 3 none := F
  show Y cx x 3 none 129 0 [(0, vR a0), (1, vI a1)] [] G _
  unfold gX12_allOf
  refine x_aload_n F dX12_allOf_0 rfl rfl rfl ?_
  refine x_iload_n F dX12_allOf_1 rfl rfl rfl ?_
  refine s_callVv F [vI a1] [] lkX12_239 mX12_test rfl ha0 rfl hnE hn0 hd (hR_X12_test G a0 a1 ha0) (Nat.ble_eq_true_of_le (by omega)) rfl dX12_allOf_2 rfl rfl (fun _ G1 => ?_)
  refine x_lp (fun (rc3 : Hp → RT) => ∀ (G2 : Hp), Y cx x 3 none 129 5 [(0, vR a0), (1, vI a1)] [] G2 (rc3 G2)) (fun _ => Y_none) (fun rc3 hrc3 G2 => ?_) 5000 G1
  refine x_aload_n F dX12_allOf_5 rfl rfl rfl ?_
  refine x_bipush F dX12_allOf_6 ⟨by decide, by decide⟩ (by decide) rfl ?_
  refine s_callVP F [vI 20] [] lkX12_166 mX12_isWord rfl ha0 rfl hnE hn0 hd pX12_isWord (tX12_isWord cx.l x hi G2 a0 20 ha0) (Nat.ble_eq_true_of_le (by omega)) rfl dX12_allOf_8 rfl rfl (fun v4 => ?_)
  refine x_jn (fun (K5 : RT) => Y cx x 3 none 129 23 [(0, vR a0), (1, vI a1)] [] G2 K5) ?_ (fun K5 hK5 => ?_)
  · refine x_aload_n F dX12_allOf_23 rfl rfl rfl ?_
    refine x_bipush F dX12_allOf_24 ⟨by decide, by decide⟩ (by decide) rfl ?_
    refine s_callVP F [vI 20] [] lkX12_166 mX12_isWord rfl ha0 rfl hnE hn0 hd pX12_isWord (tX12_isWord cx.l x hi G2 a0 20 ha0) (Nat.ble_eq_true_of_le (by omega)) rfl dX12_allOf_26 rfl rfl (fun v6 => ?_)
    refine x_istore_n F dX12_allOf_29 rfl (by decide) rfl rfl (fun v7 => ?_)
    show Y cx x _ _ _ _ [(0, vR a0), (1, vI a1), (2, vI v7)] _ _ _
    refine x_aload_n F dX12_allOf_30 rfl rfl rfl ?_
    refine x_dup F dX12_allOf_31 rfl rfl ?_
    refine s_getI F flX12_154 ha0 rfl dX12_allOf_32 rfl ?_
    refine x_iconst F dX12_allOf_35 ⟨by decide, by decide⟩ rfl ?_
    refine x_iadd F dX12_allOf_36 rfl ?_
    refine s_putI F fpX12_154 ha0 rfl dX12_allOf_37 rfl (fun G8 => ?_)
    refine x_aload_n F dX12_allOf_40 rfl rfl rfl ?_
    refine x_iload_n F dX12_allOf_41 rfl rfl rfl ?_
    refine s_callVv F [vI a1] [] lkX12_239 mX12_test rfl ha0 rfl hnE hn0 hd (hR_X12_test G8 a0 a1 ha0) (Nat.ble_eq_true_of_le (by omega)) rfl dX12_allOf_42 rfl rfl (fun _ G9 => ?_)
    refine x_aload_n F dX12_allOf_45 rfl rfl rfl ?_
    refine x_iload_n F dX12_allOf_46 rfl rfl rfl ?_
    refine x_jn (fun (K11 : Int → RT) => ∀ (v10 : Int), Y cx x 3 none 129 57 [(0, vR a0), (1, vI a1)] [vI v10, vR a0] G9 (K11 v10)) ?_ (fun K11 hK11 => ?_)
    · intro v10
      refine x_iconst F dX12_allOf_57 ⟨by decide, by decide⟩ rfl ?_
      refine s_callVv F [vI v10, vI 0] [] lkX12_222 mX12_emit rfl ha0 rfl hnE hn0 hd (tX12_emit cx.l x hi G9 a0 v10 0 ha0) (Nat.ble_eq_true_of_le (by omega)) rfl dX12_allOf_58 rfl rfl (fun _ G12 => ?_)
      refine x_goto (pc' := 5) F dX12_allOf_61 rfl ?_
      exact hrc3 G12
    · refine x_ifeq (pt := 55) F dX12_allOf_47 rfl rfl ?_ ?_
      · refine x_bipush F dX12_allOf_55 ⟨by decide, by decide⟩ (by decide) rfl ?_
        refine x_dp (L' := [(0, vR a0), (1, vI a1)]) [0, 1] rfl ?_
        exact hK11 10
      · refine x_bipush F dX12_allOf_50 ⟨by decide, by decide⟩ (by decide) rfl ?_
        refine x_goto (pc' := 57) F dX12_allOf_52 rfl ?_
        refine x_dp (L' := [(0, vR a0), (1, vI a1)]) [0, 1] rfl ?_
        exact hK11 9
  · refine x_ifne (pt := 23) F dX12_allOf_11 rfl rfl ?_ ?_
    · refine x_aload_n F dX12_allOf_14 rfl rfl rfl ?_
      refine x_bipush F dX12_allOf_15 ⟨by decide, by decide⟩ (by decide) rfl ?_
      refine s_callVP F [vI 21] [] lkX12_166 mX12_isWord rfl ha0 rfl hnE hn0 hd pX12_isWord (tX12_isWord cx.l x hi G2 a0 21 ha0) (Nat.ble_eq_true_of_le (by omega)) rfl dX12_allOf_17 rfl rfl (fun v15 => ?_)
      refine x_ifeq (pt := 64) F dX12_allOf_20 rfl rfl ?_ ?_
      · exact x_vret F hnE hQ dX12_allOf_64
      · exact hK5
    · exact hK5
def gX12_test (R_X12_allOf : Nat → Int → Hp → RT) (R_X12_test : Nat → Int → Hp → RT) (R_X12_sums : Nat → Int → Hp → RT) (R_X12_products : Nat → Int → Hp → RT) (R_X12_takePart : Nat → Int → Hp → RT) (a0 : Nat) (a1 : Int) (G : Hp) : RT := bn (R_X12_sums a0 a1 G) fun _ G1 => bp (fX12_isSign a0 60 G1) fun v2 => bd v2 fun v3 => bn (fX12_hasSign a0 60 G1) fun v4 G5 => jn (fun (G6 : Hp) => bn (R_X12_sums a0 a1 G6) fun _ G8 => jn (fun (v9 : Int) => bn (fX12_emit a0 v9 0 G8) fun _ G11 => rt 0 G11) fun (K10 : Int → RT) => if v3 = 0 then K10 8 else K10 7) fun (K7 : Hp → RT) => if v4 = 0 then (bn (fX12_hasSign a0 61 G5) fun v14 G15 => if v14 = 0 then rt 0 G15 else K7 G15) else K7 G5
set_option maxRecDepth 20000 in
set_option maxHeartbeats 4000000 in
theorem uX12_test (l : Launch) (x : WX) (hi : Inj x.2.2) (n : Nat) (R_X12_allOf : Nat → Int → Hp → RT) (R_X12_test : Nat → Int → Hp → RT) (R_X12_sums : Nat → Int → Hp → RT) (R_X12_products : Nat → Int → Hp → RT) (R_X12_takePart : Nat → Int → Hp → RT) (hR_X12_allOf : ∀ (G : Hp) (a0 : Nat) (a1 : Int) (ha0 : kd a0 = 12), Ct l x yX12_allOf cX12_allOf 3 none (2 + n) 129 129 [vR a0, vI a1] G (R_X12_allOf a0 a1 G)) (hR_X12_test : ∀ (G : Hp) (a0 : Nat) (a1 : Int) (ha0 : kd a0 = 12), Ct l x yX12_test cX12_test 3 none (2 + n) 129 129 [vR a0, vI a1] G (R_X12_test a0 a1 G)) (hR_X12_sums : ∀ (G : Hp) (a0 : Nat) (a1 : Int) (ha0 : kd a0 = 12), Ct l x yX12_sums cX12_sums 3 none (2 + n) 129 129 [vR a0, vI a1] G (R_X12_sums a0 a1 G)) (hR_X12_products : ∀ (G : Hp) (a0 : Nat) (a1 : Int) (ha0 : kd a0 = 12), Ct l x yX12_products cX12_products 2 none (2 + n) 129 129 [vR a0, vI a1] G (R_X12_products a0 a1 G)) (hR_X12_takePart : ∀ (G : Hp) (a0 : Nat) (a1 : Int) (ha0 : kd a0 = 12), Ct l x yX12_takePart cX12_takePart 4 none (2 + n) 129 129 [vR a0, vI a1] G (R_X12_takePart a0 a1 G)) (G : Hp) (a0 : Nat) (a1 : Int) (ha0 : kd a0 = 12) : Ct l x yX12_test cX12_test 3 none (2 + (n + 1)) 129 129 [vR a0, vI a1] G (gX12_test R_X12_allOf R_X12_test R_X12_sums R_X12_products R_X12_takePart a0 a1 G) := by
  refine ct_of (plainFor_of_name (by decide)) hi (Nat.le_refl _) (Nat.le_refl _) (Nat.le_of_ble_eq_true rfl) (fun cx F hd hn0 hnE hl hQ => ?_)
  subst hl
  have F : Fx cx x RX12 cX12_test 3 none := F
  show Y cx x 3 none 129 0 [(0, vR a0), (1, vI a1)] [] G _
  unfold gX12_test
  refine x_aload_n F dX12_test_0 rfl rfl rfl ?_
  refine x_iload_n F dX12_test_1 rfl rfl rfl ?_
  refine s_callVv F [vI a1] [] lkX12_242 mX12_sums rfl ha0 rfl hnE hn0 hd (hR_X12_sums G a0 a1 ha0) (Nat.ble_eq_true_of_le (by omega)) rfl dX12_test_2 rfl rfl (fun _ G1 => ?_)
  refine x_aload_n F dX12_test_5 rfl rfl rfl ?_
  refine x_bipush F dX12_test_6 ⟨by decide, by decide⟩ (by decide) rfl ?_
  refine s_callVP F [vI 60] [] lkX12_160 mX12_isSign rfl ha0 rfl hnE hn0 hd pX12_isSign (tX12_isSign cx.l x hi G1 a0 60 ha0) (Nat.ble_eq_true_of_le (by omega)) rfl dX12_test_8 rfl rfl (fun v2 => ?_)
  refine x_istore_n F dX12_test_11 rfl (by decide) rfl rfl (fun v3 => ?_)
  show Y cx x _ _ _ _ [(0, vR a0), (1, vI a1), (2, vI v3)] _ _ _
  refine x_aload_n F dX12_test_12 rfl rfl rfl ?_
  refine x_bipush F dX12_test_13 ⟨by decide, by decide⟩ (by decide) rfl ?_
  refine s_callV F [vI 60] [] lkX12_245 mX12_hasSign rfl ha0 rfl hnE hn0 hd (tX12_hasSign cx.l x hi G1 a0 60 ha0) (Nat.ble_eq_true_of_le (by omega)) rfl dX12_test_15 rfl rfl (fun v4 G5 => ?_)
  refine x_jn (fun (K7 : Hp → RT) => ∀ (G6 : Hp), Y cx x 3 none 129 30 [(0, vR a0), (1, vI a1), (2, vI v3)] [] G6 (K7 G6)) ?_ (fun K7 hK7 => ?_)
  · intro G6
    refine x_aload_n F dX12_test_30 rfl rfl rfl ?_
    refine x_iload_n F dX12_test_31 rfl rfl rfl ?_
    refine s_callVv F [vI a1] [] lkX12_242 mX12_sums rfl ha0 rfl hnE hn0 hd (hR_X12_sums G6 a0 a1 ha0) (Nat.ble_eq_true_of_le (by omega)) rfl dX12_test_32 rfl rfl (fun _ G8 => ?_)
    refine x_aload_n F dX12_test_35 rfl rfl rfl ?_
    refine x_iload_n F dX12_test_36 rfl rfl rfl ?_
    refine x_jn (fun (K10 : Int → RT) => ∀ (v9 : Int), Y cx x 3 none 129 47 [] [vI v9, vR a0] G8 (K10 v9)) ?_ (fun K10 hK10 => ?_)
    · intro v9
      refine x_iconst F dX12_test_47 ⟨by decide, by decide⟩ rfl ?_
      refine s_callVv F [vI v9, vI 0] [] lkX12_222 mX12_emit rfl ha0 rfl hnE hn0 hd (tX12_emit cx.l x hi G8 a0 v9 0 ha0) (Nat.ble_eq_true_of_le (by omega)) rfl dX12_test_48 rfl rfl (fun _ G11 => ?_)
      exact x_vret F hnE hQ dX12_test_51
    · refine x_ifeq (pt := 45) F dX12_test_37 rfl rfl ?_ ?_
      · refine x_bipush F dX12_test_45 ⟨by decide, by decide⟩ (by decide) rfl ?_
        refine x_dp (L' := []) [] rfl ?_
        exact hK10 8
      · refine x_bipush F dX12_test_40 ⟨by decide, by decide⟩ (by decide) rfl ?_
        refine x_goto (pc' := 47) F dX12_test_42 rfl ?_
        refine x_dp (L' := []) [] rfl ?_
        exact hK10 7
  · refine x_ifne (pt := 30) F dX12_test_18 rfl rfl ?_ ?_
    · refine x_aload_n F dX12_test_21 rfl rfl rfl ?_
      refine x_bipush F dX12_test_22 ⟨by decide, by decide⟩ (by decide) rfl ?_
      refine s_callV F [vI 61] [] lkX12_245 mX12_hasSign rfl ha0 rfl hnE hn0 hd (tX12_hasSign cx.l x hi G5 a0 61 ha0) (Nat.ble_eq_true_of_le (by omega)) rfl dX12_test_24 rfl rfl (fun v14 G15 => ?_)
      refine x_ifeq (pt := 51) F dX12_test_27 rfl rfl ?_ ?_
      · exact x_vret F hnE hQ dX12_test_51
      · exact hK7 G15
    · exact hK7 G5
def gX12_sums (R_X12_allOf : Nat → Int → Hp → RT) (R_X12_test : Nat → Int → Hp → RT) (R_X12_sums : Nat → Int → Hp → RT) (R_X12_products : Nat → Int → Hp → RT) (R_X12_takePart : Nat → Int → Hp → RT) (a0 : Nat) (a1 : Int) (G : Hp) : RT := bn (R_X12_products a0 a1 G) fun _ G1 => (lp (fun (_ : Hp) => (none : RT)) 5000 (fun (rc3 : Hp → RT) (G2 : Hp) => bp (fX12_isSign a0 43 G2) fun v4 => jn (bp (fX12_isSign a0 43 G2) fun v6 => bd v6 fun v7 => bh (up G2 a0 7 (iadd (G2 a0 7) 1)) fun G8 => bn (R_X12_products a0 a1 G8) fun _ G9 => jn (fun (v10 : Int) => bn (fX12_emit a0 v10 0 G9) fun _ G12 => rc3 G12) fun (K11 : Int → RT) => if v7 = 0 then K11 5 else K11 4) fun (K5 : RT) => if v4 = 0 then (bp (fX12_isSign a0 45 G2) fun v15 => if v15 = 0 then rt 0 G2 else K5) else K5)) G1
set_option maxRecDepth 20000 in
set_option maxHeartbeats 4000000 in
theorem uX12_sums (l : Launch) (x : WX) (hi : Inj x.2.2) (n : Nat) (R_X12_allOf : Nat → Int → Hp → RT) (R_X12_test : Nat → Int → Hp → RT) (R_X12_sums : Nat → Int → Hp → RT) (R_X12_products : Nat → Int → Hp → RT) (R_X12_takePart : Nat → Int → Hp → RT) (hR_X12_allOf : ∀ (G : Hp) (a0 : Nat) (a1 : Int) (ha0 : kd a0 = 12), Ct l x yX12_allOf cX12_allOf 3 none (2 + n) 129 129 [vR a0, vI a1] G (R_X12_allOf a0 a1 G)) (hR_X12_test : ∀ (G : Hp) (a0 : Nat) (a1 : Int) (ha0 : kd a0 = 12), Ct l x yX12_test cX12_test 3 none (2 + n) 129 129 [vR a0, vI a1] G (R_X12_test a0 a1 G)) (hR_X12_sums : ∀ (G : Hp) (a0 : Nat) (a1 : Int) (ha0 : kd a0 = 12), Ct l x yX12_sums cX12_sums 3 none (2 + n) 129 129 [vR a0, vI a1] G (R_X12_sums a0 a1 G)) (hR_X12_products : ∀ (G : Hp) (a0 : Nat) (a1 : Int) (ha0 : kd a0 = 12), Ct l x yX12_products cX12_products 2 none (2 + n) 129 129 [vR a0, vI a1] G (R_X12_products a0 a1 G)) (hR_X12_takePart : ∀ (G : Hp) (a0 : Nat) (a1 : Int) (ha0 : kd a0 = 12), Ct l x yX12_takePart cX12_takePart 4 none (2 + n) 129 129 [vR a0, vI a1] G (R_X12_takePart a0 a1 G)) (G : Hp) (a0 : Nat) (a1 : Int) (ha0 : kd a0 = 12) : Ct l x yX12_sums cX12_sums 3 none (2 + (n + 1)) 129 129 [vR a0, vI a1] G (gX12_sums R_X12_allOf R_X12_test R_X12_sums R_X12_products R_X12_takePart a0 a1 G) := by
  refine ct_of (plainFor_of_name (by decide)) hi (Nat.le_refl _) (Nat.le_refl _) (Nat.le_of_ble_eq_true rfl) (fun cx F hd hn0 hnE hl hQ => ?_)
  subst hl
  have F : Fx cx x RX12 cX12_sums 3 none := F
  show Y cx x 3 none 129 0 [(0, vR a0), (1, vI a1)] [] G _
  unfold gX12_sums
  refine x_aload_n F dX12_sums_0 rfl rfl rfl ?_
  refine x_iload_n F dX12_sums_1 rfl rfl rfl ?_
  refine s_callVv F [vI a1] [] lkX12_248 mX12_products rfl ha0 rfl hnE hn0 hd (hR_X12_products G a0 a1 ha0) (Nat.ble_eq_true_of_le (by omega)) rfl dX12_sums_2 rfl rfl (fun _ G1 => ?_)
  refine x_lp (fun (rc3 : Hp → RT) => ∀ (G2 : Hp), Y cx x 3 none 129 5 [(0, vR a0), (1, vI a1)] [] G2 (rc3 G2)) (fun _ => Y_none) (fun rc3 hrc3 G2 => ?_) 5000 G1
  refine x_aload_n F dX12_sums_5 rfl rfl rfl ?_
  refine x_bipush F dX12_sums_6 ⟨by decide, by decide⟩ (by decide) rfl ?_
  refine s_callVP F [vI 43] [] lkX12_160 mX12_isSign rfl ha0 rfl hnE hn0 hd pX12_isSign (tX12_isSign cx.l x hi G2 a0 43 ha0) (Nat.ble_eq_true_of_le (by omega)) rfl dX12_sums_8 rfl rfl (fun v4 => ?_)
  refine x_jn (fun (K5 : RT) => Y cx x 3 none 129 23 [(0, vR a0), (1, vI a1)] [] G2 K5) ?_ (fun K5 hK5 => ?_)
  · refine x_aload_n F dX12_sums_23 rfl rfl rfl ?_
    refine x_bipush F dX12_sums_24 ⟨by decide, by decide⟩ (by decide) rfl ?_
    refine s_callVP F [vI 43] [] lkX12_160 mX12_isSign rfl ha0 rfl hnE hn0 hd pX12_isSign (tX12_isSign cx.l x hi G2 a0 43 ha0) (Nat.ble_eq_true_of_le (by omega)) rfl dX12_sums_26 rfl rfl (fun v6 => ?_)
    refine x_istore_n F dX12_sums_29 rfl (by decide) rfl rfl (fun v7 => ?_)
    show Y cx x _ _ _ _ [(0, vR a0), (1, vI a1), (2, vI v7)] _ _ _
    refine x_aload_n F dX12_sums_30 rfl rfl rfl ?_
    refine x_dup F dX12_sums_31 rfl rfl ?_
    refine s_getI F flX12_154 ha0 rfl dX12_sums_32 rfl ?_
    refine x_iconst F dX12_sums_35 ⟨by decide, by decide⟩ rfl ?_
    refine x_iadd F dX12_sums_36 rfl ?_
    refine s_putI F fpX12_154 ha0 rfl dX12_sums_37 rfl (fun G8 => ?_)
    refine x_aload_n F dX12_sums_40 rfl rfl rfl ?_
    refine x_iload_n F dX12_sums_41 rfl rfl rfl ?_
    refine s_callVv F [vI a1] [] lkX12_248 mX12_products rfl ha0 rfl hnE hn0 hd (hR_X12_products G8 a0 a1 ha0) (Nat.ble_eq_true_of_le (by omega)) rfl dX12_sums_42 rfl rfl (fun _ G9 => ?_)
    refine x_aload_n F dX12_sums_45 rfl rfl rfl ?_
    refine x_iload_n F dX12_sums_46 rfl rfl rfl ?_
    refine x_jn (fun (K11 : Int → RT) => ∀ (v10 : Int), Y cx x 3 none 129 55 [(0, vR a0), (1, vI a1)] [vI v10, vR a0] G9 (K11 v10)) ?_ (fun K11 hK11 => ?_)
    · intro v10
      refine x_iconst F dX12_sums_55 ⟨by decide, by decide⟩ rfl ?_
      refine s_callVv F [vI v10, vI 0] [] lkX12_222 mX12_emit rfl ha0 rfl hnE hn0 hd (tX12_emit cx.l x hi G9 a0 v10 0 ha0) (Nat.ble_eq_true_of_le (by omega)) rfl dX12_sums_56 rfl rfl (fun _ G12 => ?_)
      refine x_goto (pc' := 5) F dX12_sums_59 rfl ?_
      exact hrc3 G12
    · refine x_ifeq (pt := 54) F dX12_sums_47 rfl rfl ?_ ?_
      · refine x_iconst F dX12_sums_54 ⟨by decide, by decide⟩ rfl ?_
        refine x_dp (L' := [(0, vR a0), (1, vI a1)]) [0, 1] rfl ?_
        exact hK11 5
      · refine x_iconst F dX12_sums_50 ⟨by decide, by decide⟩ rfl ?_
        refine x_goto (pc' := 55) F dX12_sums_51 rfl ?_
        refine x_dp (L' := [(0, vR a0), (1, vI a1)]) [0, 1] rfl ?_
        exact hK11 4
  · refine x_ifne (pt := 23) F dX12_sums_11 rfl rfl ?_ ?_
    · refine x_aload_n F dX12_sums_14 rfl rfl rfl ?_
      refine x_bipush F dX12_sums_15 ⟨by decide, by decide⟩ (by decide) rfl ?_
      refine s_callVP F [vI 45] [] lkX12_160 mX12_isSign rfl ha0 rfl hnE hn0 hd pX12_isSign (tX12_isSign cx.l x hi G2 a0 45 ha0) (Nat.ble_eq_true_of_le (by omega)) rfl dX12_sums_17 rfl rfl (fun v15 => ?_)
      refine x_ifeq (pt := 62) F dX12_sums_20 rfl rfl ?_ ?_
      · exact x_vret F hnE hQ dX12_sums_62
      · exact hK5
    · exact hK5
def gX12_products (R_X12_allOf : Nat → Int → Hp → RT) (R_X12_test : Nat → Int → Hp → RT) (R_X12_sums : Nat → Int → Hp → RT) (R_X12_products : Nat → Int → Hp → RT) (R_X12_takePart : Nat → Int → Hp → RT) (a0 : Nat) (a1 : Int) (G : Hp) : RT := bn (R_X12_takePart a0 a1 G) fun _ G1 => (lp (fun (_ : Hp) => (none : RT)) 5000 (fun (rc3 : Hp → RT) (G2 : Hp) => bn (fX12_hasSign a0 42 G2) fun v4 G5 => if v4 = 0 then rt 0 G5 else (bn (R_X12_takePart a0 a1 G5) fun _ G6 => bn (fX12_emit a0 6 0 G6) fun _ G7 => rc3 G7))) G1
set_option maxRecDepth 20000 in
set_option maxHeartbeats 4000000 in
theorem uX12_products (l : Launch) (x : WX) (hi : Inj x.2.2) (n : Nat) (R_X12_allOf : Nat → Int → Hp → RT) (R_X12_test : Nat → Int → Hp → RT) (R_X12_sums : Nat → Int → Hp → RT) (R_X12_products : Nat → Int → Hp → RT) (R_X12_takePart : Nat → Int → Hp → RT) (hR_X12_allOf : ∀ (G : Hp) (a0 : Nat) (a1 : Int) (ha0 : kd a0 = 12), Ct l x yX12_allOf cX12_allOf 3 none (2 + n) 129 129 [vR a0, vI a1] G (R_X12_allOf a0 a1 G)) (hR_X12_test : ∀ (G : Hp) (a0 : Nat) (a1 : Int) (ha0 : kd a0 = 12), Ct l x yX12_test cX12_test 3 none (2 + n) 129 129 [vR a0, vI a1] G (R_X12_test a0 a1 G)) (hR_X12_sums : ∀ (G : Hp) (a0 : Nat) (a1 : Int) (ha0 : kd a0 = 12), Ct l x yX12_sums cX12_sums 3 none (2 + n) 129 129 [vR a0, vI a1] G (R_X12_sums a0 a1 G)) (hR_X12_products : ∀ (G : Hp) (a0 : Nat) (a1 : Int) (ha0 : kd a0 = 12), Ct l x yX12_products cX12_products 2 none (2 + n) 129 129 [vR a0, vI a1] G (R_X12_products a0 a1 G)) (hR_X12_takePart : ∀ (G : Hp) (a0 : Nat) (a1 : Int) (ha0 : kd a0 = 12), Ct l x yX12_takePart cX12_takePart 4 none (2 + n) 129 129 [vR a0, vI a1] G (R_X12_takePart a0 a1 G)) (G : Hp) (a0 : Nat) (a1 : Int) (ha0 : kd a0 = 12) : Ct l x yX12_products cX12_products 2 none (2 + (n + 1)) 129 129 [vR a0, vI a1] G (gX12_products R_X12_allOf R_X12_test R_X12_sums R_X12_products R_X12_takePart a0 a1 G) := by
  refine ct_of (plainFor_of_name (by decide)) hi (Nat.le_refl _) (Nat.le_refl _) (Nat.le_of_ble_eq_true rfl) (fun cx F hd hn0 hnE hl hQ => ?_)
  subst hl
  have F : Fx cx x RX12 cX12_products 2 none := F
  show Y cx x 2 none 129 0 [(0, vR a0), (1, vI a1)] [] G _
  unfold gX12_products
  refine x_aload_n F dX12_products_0 rfl rfl rfl ?_
  refine x_iload_n F dX12_products_1 rfl rfl rfl ?_
  refine s_callVv F [vI a1] [] lkX12_251 mX12_takePart rfl ha0 rfl hnE hn0 hd (hR_X12_takePart G a0 a1 ha0) (Nat.ble_eq_true_of_le (by omega)) rfl dX12_products_2 rfl rfl (fun _ G1 => ?_)
  refine x_lp (fun (rc3 : Hp → RT) => ∀ (G2 : Hp), Y cx x 2 none 129 5 [(0, vR a0), (1, vI a1)] [] G2 (rc3 G2)) (fun _ => Y_none) (fun rc3 hrc3 G2 => ?_) 5000 G1
  refine x_aload_n F dX12_products_5 rfl rfl rfl ?_
  refine x_bipush F dX12_products_6 ⟨by decide, by decide⟩ (by decide) rfl ?_
  refine s_callV F [vI 42] [] lkX12_245 mX12_hasSign rfl ha0 rfl hnE hn0 hd (tX12_hasSign cx.l x hi G2 a0 42 ha0) (Nat.ble_eq_true_of_le (by omega)) rfl dX12_products_8 rfl rfl (fun v4 G5 => ?_)
  refine x_ifeq (pt := 29) F dX12_products_11 rfl rfl ?_ ?_
  · exact x_vret F hnE hQ dX12_products_29
  · refine x_aload_n F dX12_products_14 rfl rfl rfl ?_
    refine x_iload_n F dX12_products_15 rfl rfl rfl ?_
    refine s_callVv F [vI a1] [] lkX12_251 mX12_takePart rfl ha0 rfl hnE hn0 hd (hR_X12_takePart G5 a0 a1 ha0) (Nat.ble_eq_true_of_le (by omega)) rfl dX12_products_16 rfl rfl (fun _ G6 => ?_)
    refine x_aload_n F dX12_products_19 rfl rfl rfl ?_
    refine x_bipush F dX12_products_20 ⟨by decide, by decide⟩ (by decide) rfl ?_
    refine x_iconst F dX12_products_22 ⟨by decide, by decide⟩ rfl ?_
    refine s_callVv F [vI 6, vI 0] [] lkX12_222 mX12_emit rfl ha0 rfl hnE hn0 hd (tX12_emit cx.l x hi G6 a0 6 0 ha0) (Nat.ble_eq_true_of_le (by omega)) rfl dX12_products_23 rfl rfl (fun _ G7 => ?_)
    refine x_goto (pc' := 5) F dX12_products_26 rfl ?_
    exact hrc3 G7
def gX12_takePart (R_X12_allOf : Nat → Int → Hp → RT) (R_X12_test : Nat → Int → Hp → RT) (R_X12_sums : Nat → Int → Hp → RT) (R_X12_products : Nat → Int → Hp → RT) (R_X12_takePart : Nat → Int → Hp → RT) (a0 : Nat) (a1 : Int) (G : Hp) : RT := if 0 < (G a0 8) then rt 0 G else (br (rd G ((rf a0 4)) 1002 (G a0 7)) fun v1 => jn (fun (v2 : Int) => bd v2 fun v4 => bp (fX12_wordHere a0 22 4 G) fun v5 => bd v5 fun v6 => jn (fun (G7 : Hp) => if 0 < (G7 a0 8) then rt 0 G7 else (bn (fX12_hasWord a0 19 G7) fun v9 G10 => if v9 = 0 then (bn (fX12_hasSign a0 40 G10) fun v11 G12 => if v11 = 0 then (jn (fun (v13 : Int) => jn (fun (v15 : Int) => bn (fX12_emit a0 v13 v15 G12) fun _ G17 => bh (up G17 a0 7 (iadd (G17 a0 7) 1)) fun G18 => rt 0 G18) fun (K16 : Int → RT) => if v4 = 0 then K16 v6 else (br (rd G12 ((rf a0 6)) 1002 (G12 a0 7)) fun v20 => K16 (l2i v20))) fun (K14 : Int → RT) => if v4 = 0 then K14 2 else K14 1) else (bn (R_X12_allOf a0 (iadd a1 1) G12) fun _ G21 => bn (fX12_takeSign a0 41 G21) fun _ G22 => rt 0 G22)) else (bn (R_X12_takePart a0 (iadd a1 1) G10) fun _ G25 => bn (fX12_emit a0 3 0 G25) fun _ G26 => rt 0 G26))) fun (K8 : Hp → RT) => jn (if a1 = 5 then (bn (fX12_wrong a0 5 G) fun _ G30 => K8 G30) else K8 G) fun (K29 : RT) => if v6 < 0 then (if v4 = 0 then (bp (fX12_isSign a0 40 G) fun v32 => if v32 = 0 then (bp (fX12_isWord a0 19 G) fun v33 => if v33 = 0 then (bn (fX12_wrong a0 1 G) fun _ G34 => K8 G34) else K29) else K29) else K29) else K29) fun (K3 : Int → RT) => if v1 = 2 then K3 1 else K3 0)
set_option maxRecDepth 20000 in
set_option maxHeartbeats 4000000 in
theorem uX12_takePart (l : Launch) (x : WX) (hi : Inj x.2.2) (n : Nat) (R_X12_allOf : Nat → Int → Hp → RT) (R_X12_test : Nat → Int → Hp → RT) (R_X12_sums : Nat → Int → Hp → RT) (R_X12_products : Nat → Int → Hp → RT) (R_X12_takePart : Nat → Int → Hp → RT) (hR_X12_allOf : ∀ (G : Hp) (a0 : Nat) (a1 : Int) (ha0 : kd a0 = 12), Ct l x yX12_allOf cX12_allOf 3 none (2 + n) 129 129 [vR a0, vI a1] G (R_X12_allOf a0 a1 G)) (hR_X12_test : ∀ (G : Hp) (a0 : Nat) (a1 : Int) (ha0 : kd a0 = 12), Ct l x yX12_test cX12_test 3 none (2 + n) 129 129 [vR a0, vI a1] G (R_X12_test a0 a1 G)) (hR_X12_sums : ∀ (G : Hp) (a0 : Nat) (a1 : Int) (ha0 : kd a0 = 12), Ct l x yX12_sums cX12_sums 3 none (2 + n) 129 129 [vR a0, vI a1] G (R_X12_sums a0 a1 G)) (hR_X12_products : ∀ (G : Hp) (a0 : Nat) (a1 : Int) (ha0 : kd a0 = 12), Ct l x yX12_products cX12_products 2 none (2 + n) 129 129 [vR a0, vI a1] G (R_X12_products a0 a1 G)) (hR_X12_takePart : ∀ (G : Hp) (a0 : Nat) (a1 : Int) (ha0 : kd a0 = 12), Ct l x yX12_takePart cX12_takePart 4 none (2 + n) 129 129 [vR a0, vI a1] G (R_X12_takePart a0 a1 G)) (G : Hp) (a0 : Nat) (a1 : Int) (ha0 : kd a0 = 12) : Ct l x yX12_takePart cX12_takePart 4 none (2 + (n + 1)) 129 129 [vR a0, vI a1] G (gX12_takePart R_X12_allOf R_X12_test R_X12_sums R_X12_products R_X12_takePart a0 a1 G) := by
  refine ct_of (plainFor_of_name (by decide)) hi (Nat.le_refl _) (Nat.le_refl _) (Nat.le_of_ble_eq_true rfl) (fun cx F hd hn0 hnE hl hQ => ?_)
  subst hl
  have F : Fx cx x RX12 cX12_takePart 4 none := F
  show Y cx x 4 none 129 0 [(0, vR a0), (1, vI a1)] [] G _
  unfold gX12_takePart
  refine x_aload_n F dX12_takePart_0 rfl rfl rfl ?_
  refine s_getI F flX12_157 ha0 rfl dX12_takePart_1 rfl ?_
  refine x_ifle (pt := 8) F dX12_takePart_4 rfl rfl ?_ ?_
  · exact x_vret F hnE hQ dX12_takePart_7
  · refine x_aload_n F dX12_takePart_8 rfl rfl rfl ?_
    refine x_getR F flX12_24 ha0 rfl dX12_takePart_9 rfl ?_
    refine x_aload_n F dX12_takePart_12 rfl rfl rfl ?_
    refine s_getI F flX12_154 ha0 rfl dX12_takePart_13 rfl ?_
    refine s_iald F (tf12_4 ha0).1 (tf12_4 ha0).2 dX12_takePart_16 rfl (fun v1 => ?_)
    refine x_iconst F dX12_takePart_17 ⟨by decide, by decide⟩ rfl ?_
    refine x_jn (fun (K3 : Int → RT) => ∀ (v2 : Int), Y cx x 4 none 129 26 [(0, vR a0), (1, vI a1)] [vI v2] G (K3 v2)) ?_ (fun K3 hK3 => ?_)
    · intro v2
      refine x_istore_n F dX12_takePart_26 rfl (by decide) rfl rfl (fun v4 => ?_)
      show Y cx x _ _ _ _ [(0, vR a0), (1, vI a1), (2, vI v4)] _ _ _
      refine x_aload_n F dX12_takePart_27 rfl rfl rfl ?_
      refine x_bipush F dX12_takePart_28 ⟨by decide, by decide⟩ (by decide) rfl ?_
      refine x_iconst F dX12_takePart_30 ⟨by decide, by decide⟩ rfl ?_
      refine s_callVP F [vI 22, vI 4] [] lkX12_179 mX12_wordHere rfl ha0 rfl hnE hn0 hd pX12_wordHere (tX12_wordHere cx.l x hi G a0 22 4 ha0) (Nat.ble_eq_true_of_le (by omega)) rfl dX12_takePart_31 rfl rfl (fun v5 => ?_)
      refine x_istore_n F dX12_takePart_34 rfl (by decide) rfl rfl (fun v6 => ?_)
      show Y cx x _ _ _ _ [(0, vR a0), (1, vI a1), (2, vI v4), (3, vI v6)] _ _ _
      refine x_iload_n F dX12_takePart_35 rfl rfl rfl ?_
      refine x_jn (fun (K8 : Hp → RT) => ∀ (G7 : Hp), Y cx x 4 none 129 79 [(0, vR a0), (1, vI a1), (2, vI v4), (3, vI v6)] [] G7 (K8 G7)) ?_ (fun K8 hK8 => ?_)
      · intro G7
        refine x_aload_n F dX12_takePart_79 rfl rfl rfl ?_
        refine s_getI F flX12_157 ha0 rfl dX12_takePart_80 rfl ?_
        refine x_ifle (pt := 87) F dX12_takePart_83 rfl rfl ?_ ?_
        · exact x_vret F hnE hQ dX12_takePart_86
        · refine x_aload_n F dX12_takePart_87 rfl rfl rfl ?_
          refine x_bipush F dX12_takePart_88 ⟨by decide, by decide⟩ (by decide) rfl ?_
          refine s_callV F [vI 19] [] lkX12_169 mX12_hasWord rfl ha0 rfl hnE hn0 hd (tX12_hasWord cx.l x hi G7 a0 19 ha0) (Nat.ble_eq_true_of_le (by omega)) rfl dX12_takePart_90 rfl rfl (fun v9 G10 => ?_)
          refine x_ifeq (pt := 112) F dX12_takePart_93 rfl rfl ?_ ?_
          · refine x_aload_n F dX12_takePart_112 rfl rfl rfl ?_
            refine x_bipush F dX12_takePart_113 ⟨by decide, by decide⟩ (by decide) rfl ?_
            refine s_callV F [vI 40] [] lkX12_245 mX12_hasSign rfl ha0 rfl hnE hn0 hd (tX12_hasSign cx.l x hi G10 a0 40 ha0) (Nat.ble_eq_true_of_le (by omega)) rfl dX12_takePart_115 rfl rfl (fun v11 G12 => ?_)
            refine x_ifeq (pt := 137) F dX12_takePart_118 rfl rfl ?_ ?_
            · refine x_aload_n F dX12_takePart_137 rfl rfl rfl ?_
              refine x_iload_n F dX12_takePart_138 rfl rfl rfl ?_
              refine x_jn (fun (K14 : Int → RT) => ∀ (v13 : Int), Y cx x 4 none 129 147 [(0, vR a0), (2, vI v4), (3, vI v6)] [vI v13, vR a0] G12 (K14 v13)) ?_ (fun K14 hK14 => ?_)
              · intro v13
                refine x_iload_n F dX12_takePart_147 rfl rfl rfl ?_
                refine x_jn (fun (K16 : Int → RT) => ∀ (v15 : Int), Y cx x 4 none 129 165 [(0, vR a0)] [vI v15, vI v13, vR a0] G12 (K16 v15)) ?_ (fun K16 hK16 => ?_)
                · intro v15
                  refine s_callVv F [vI v13, vI v15] [] lkX12_222 mX12_emit rfl ha0 rfl hnE hn0 hd (tX12_emit cx.l x hi G12 a0 v13 v15 ha0) (Nat.ble_eq_true_of_le (by omega)) rfl dX12_takePart_165 rfl rfl (fun _ G17 => ?_)
                  refine x_aload_n F dX12_takePart_168 rfl rfl rfl ?_
                  refine x_dup F dX12_takePart_169 rfl rfl ?_
                  refine s_getI F flX12_154 ha0 rfl dX12_takePart_170 rfl ?_
                  refine x_iconst F dX12_takePart_173 ⟨by decide, by decide⟩ rfl ?_
                  refine x_iadd F dX12_takePart_174 rfl ?_
                  refine s_putI F fpX12_154 ha0 rfl dX12_takePart_175 rfl (fun G18 => ?_)
                  exact x_vret F hnE hQ dX12_takePart_178
                · refine x_ifeq (pt := 164) F dX12_takePart_148 rfl rfl ?_ ?_
                  · refine x_iload_n F dX12_takePart_164 rfl rfl rfl ?_
                    refine x_dp (L' := [(0, vR a0)]) [0] rfl ?_
                    exact hK16 v6
                  · refine x_aload_n F dX12_takePart_151 rfl rfl rfl ?_
                    refine x_getR F flX12_30 ha0 rfl dX12_takePart_152 rfl ?_
                    refine x_aload_n F dX12_takePart_155 rfl rfl rfl ?_
                    refine s_getI F flX12_154 ha0 rfl dX12_takePart_156 rfl ?_
                    refine s_lald F (tf12_6 ha0).1 (tf12_6 ha0).2 dX12_takePart_159 rfl (fun v20 => ?_)
                    refine x_l2i F dX12_takePart_160 rfl ?_
                    refine x_goto (pc' := 165) F dX12_takePart_161 rfl ?_
                    refine x_dp (L' := [(0, vR a0)]) [0] rfl ?_
                    exact hK16 (l2i v20)
              · refine x_ifeq (pt := 146) F dX12_takePart_139 rfl rfl ?_ ?_
                · refine x_iconst F dX12_takePart_146 ⟨by decide, by decide⟩ rfl ?_
                  refine x_dp (L' := [(0, vR a0), (2, vI v4), (3, vI v6)]) [0, 2, 3] rfl ?_
                  exact hK14 2
                · refine x_iconst F dX12_takePart_142 ⟨by decide, by decide⟩ rfl ?_
                  refine x_goto (pc' := 147) F dX12_takePart_143 rfl ?_
                  refine x_dp (L' := [(0, vR a0), (2, vI v4), (3, vI v6)]) [0, 2, 3] rfl ?_
                  exact hK14 1
            · refine x_aload_n F dX12_takePart_121 rfl rfl rfl ?_
              refine x_iload_n F dX12_takePart_122 rfl rfl rfl ?_
              refine x_iconst F dX12_takePart_123 ⟨by decide, by decide⟩ rfl ?_
              refine x_iadd F dX12_takePart_124 rfl ?_
              refine s_callVv F [vI (iadd a1 1)] [] lkX12_219 mX12_allOf rfl ha0 rfl hnE hn0 hd (hR_X12_allOf G12 a0 (iadd a1 1) ha0) (Nat.ble_eq_true_of_le (by omega)) rfl dX12_takePart_125 rfl rfl (fun _ G21 => ?_)
              refine x_aload_n F dX12_takePart_128 rfl rfl rfl ?_
              refine x_bipush F dX12_takePart_129 ⟨by decide, by decide⟩ (by decide) rfl ?_
              refine s_callVv F [vI 41] [] lkX12_198 mX12_takeSign rfl ha0 rfl hnE hn0 hd (tX12_takeSign cx.l x hi G21 a0 41 ha0) (Nat.ble_eq_true_of_le (by omega)) rfl dX12_takePart_131 rfl rfl (fun _ G22 => ?_)
              refine x_goto (pc' := 178) F dX12_takePart_134 rfl ?_
              exact x_vret F hnE hQ dX12_takePart_178
          · refine x_aload_n F dX12_takePart_96 rfl rfl rfl ?_
            refine x_iload_n F dX12_takePart_97 rfl rfl rfl ?_
            refine x_iconst F dX12_takePart_98 ⟨by decide, by decide⟩ rfl ?_
            refine x_iadd F dX12_takePart_99 rfl ?_
            refine s_callVv F [vI (iadd a1 1)] [] lkX12_251 mX12_takePart rfl ha0 rfl hnE hn0 hd (hR_X12_takePart G10 a0 (iadd a1 1) ha0) (Nat.ble_eq_true_of_le (by omega)) rfl dX12_takePart_100 rfl rfl (fun _ G25 => ?_)
            refine x_aload_n F dX12_takePart_103 rfl rfl rfl ?_
            refine x_iconst F dX12_takePart_104 ⟨by decide, by decide⟩ rfl ?_
            refine x_iconst F dX12_takePart_105 ⟨by decide, by decide⟩ rfl ?_
            refine s_callVv F [vI 3, vI 0] [] lkX12_222 mX12_emit rfl ha0 rfl hnE hn0 hd (tX12_emit cx.l x hi G25 a0 3 0 ha0) (Nat.ble_eq_true_of_le (by omega)) rfl dX12_takePart_106 rfl rfl (fun _ G26 => ?_)
            refine x_goto (pc' := 178) F dX12_takePart_109 rfl ?_
            exact x_vret F hnE hQ dX12_takePart_178
      · refine x_jn (fun (K29 : RT) => Y cx x 4 none 129 69 [(0, vR a0), (1, vI a1), (2, vI v4), (3, vI v6)] [] G K29) ?_ (fun K29 hK29 => ?_)
        · refine x_iload_n F dX12_takePart_69 rfl rfl rfl ?_
          refine x_iconst F dX12_takePart_70 ⟨by decide, by decide⟩ rfl ?_
          refine x_icmpne (pt := 79) F dX12_takePart_71 rfl rfl ?_ ?_
          · refine x_aload_n F dX12_takePart_74 rfl rfl rfl ?_
            refine x_iconst F dX12_takePart_75 ⟨by decide, by decide⟩ rfl ?_
            refine s_callVv F [vI 5] [] lkX12_163 mX12_wrong rfl ha0 rfl hnE hn0 hd (tX12_wrong cx.l x hi G a0 5 ha0) (Nat.ble_eq_true_of_le (by omega)) rfl dX12_takePart_76 rfl rfl (fun _ G30 => ?_)
            exact hK8 G30
          · exact hK8 G
        · refine x_ifge (pt := 69) F dX12_takePart_36 rfl rfl ?_ ?_
          · refine x_iload_n F dX12_takePart_39 rfl rfl rfl ?_
            refine x_ifne (pt := 69) F dX12_takePart_40 rfl rfl ?_ ?_
            · refine x_aload_n F dX12_takePart_43 rfl rfl rfl ?_
              refine x_bipush F dX12_takePart_44 ⟨by decide, by decide⟩ (by decide) rfl ?_
              refine s_callVP F [vI 40] [] lkX12_160 mX12_isSign rfl ha0 rfl hnE hn0 hd pX12_isSign (tX12_isSign cx.l x hi G a0 40 ha0) (Nat.ble_eq_true_of_le (by omega)) rfl dX12_takePart_46 rfl rfl (fun v32 => ?_)
              refine x_ifne (pt := 69) F dX12_takePart_49 rfl rfl ?_ ?_
              · refine x_aload_n F dX12_takePart_52 rfl rfl rfl ?_
                refine x_bipush F dX12_takePart_53 ⟨by decide, by decide⟩ (by decide) rfl ?_
                refine s_callVP F [vI 19] [] lkX12_166 mX12_isWord rfl ha0 rfl hnE hn0 hd pX12_isWord (tX12_isWord cx.l x hi G a0 19 ha0) (Nat.ble_eq_true_of_le (by omega)) rfl dX12_takePart_55 rfl rfl (fun v33 => ?_)
                refine x_ifne (pt := 69) F dX12_takePart_58 rfl rfl ?_ ?_
                · refine x_aload_n F dX12_takePart_61 rfl rfl rfl ?_
                  refine x_iconst F dX12_takePart_62 ⟨by decide, by decide⟩ rfl ?_
                  refine s_callVv F [vI 1] [] lkX12_163 mX12_wrong rfl ha0 rfl hnE hn0 hd (tX12_wrong cx.l x hi G a0 1 ha0) (Nat.ble_eq_true_of_le (by omega)) rfl dX12_takePart_63 rfl rfl (fun _ G34 => ?_)
                  refine x_goto (pc' := 79) F dX12_takePart_66 rfl ?_
                  exact hK8 G34
                · exact hK29
              · exact hK29
            · exact hK29
          · exact hK29
    · refine x_icmpne (pt := 25) F dX12_takePart_18 rfl rfl ?_ ?_
      · refine x_iconst F dX12_takePart_21 ⟨by decide, by decide⟩ rfl ?_
        refine x_goto (pc' := 26) F dX12_takePart_22 rfl ?_
        exact hK3 1
      · refine x_iconst F dX12_takePart_25 ⟨by decide, by decide⟩ rfl ?_
        exact hK3 0
def tie_mod : Nat → (Nat → Int → Hp → RT) × (Nat → Int → Hp → RT) × (Nat → Int → Hp → RT) × (Nat → Int → Hp → RT) × (Nat → Int → Hp → RT)
  | 0 => (fun _ _ _ => none, fun _ _ _ => none, fun _ _ _ => none, fun _ _ _ => none, fun _ _ _ => none)
  | n + 1 => (gX12_allOf ((tie_mod n).1) ((tie_mod n).2.1) ((tie_mod n).2.2.1) ((tie_mod n).2.2.2.1) ((tie_mod n).2.2.2.2), gX12_test ((tie_mod n).1) ((tie_mod n).2.1) ((tie_mod n).2.2.1) ((tie_mod n).2.2.2.1) ((tie_mod n).2.2.2.2), gX12_sums ((tie_mod n).1) ((tie_mod n).2.1) ((tie_mod n).2.2.1) ((tie_mod n).2.2.2.1) ((tie_mod n).2.2.2.2), gX12_products ((tie_mod n).1) ((tie_mod n).2.1) ((tie_mod n).2.2.1) ((tie_mod n).2.2.2.1) ((tie_mod n).2.2.2.2), gX12_takePart ((tie_mod n).1) ((tie_mod n).2.1) ((tie_mod n).2.2.1) ((tie_mod n).2.2.2.1) ((tie_mod n).2.2.2.2))
theorem knot_mod (l : Launch) (x : WX) (hi : Inj x.2.2) : ∀ n : Nat, (∀ (G : Hp) (a0 : Nat) (a1 : Int) (ha0 : kd a0 = 12), Ct l x yX12_allOf cX12_allOf 3 none (2 + n) 129 129 [vR a0, vI a1] G ((tie_mod n).1 a0 a1 G)) ∧ (∀ (G : Hp) (a0 : Nat) (a1 : Int) (ha0 : kd a0 = 12), Ct l x yX12_test cX12_test 3 none (2 + n) 129 129 [vR a0, vI a1] G ((tie_mod n).2.1 a0 a1 G)) ∧ (∀ (G : Hp) (a0 : Nat) (a1 : Int) (ha0 : kd a0 = 12), Ct l x yX12_sums cX12_sums 3 none (2 + n) 129 129 [vR a0, vI a1] G ((tie_mod n).2.2.1 a0 a1 G)) ∧ (∀ (G : Hp) (a0 : Nat) (a1 : Int) (ha0 : kd a0 = 12), Ct l x yX12_products cX12_products 2 none (2 + n) 129 129 [vR a0, vI a1] G ((tie_mod n).2.2.2.1 a0 a1 G)) ∧ (∀ (G : Hp) (a0 : Nat) (a1 : Int) (ha0 : kd a0 = 12), Ct l x yX12_takePart cX12_takePart 4 none (2 + n) 129 129 [vR a0, vI a1] G ((tie_mod n).2.2.2.2 a0 a1 G))
  | 0 => ⟨fun _ _ _ _ => fun _ _ h => (by cases h), fun _ _ _ _ => fun _ _ h => (by cases h), fun _ _ _ _ => fun _ _ h => (by cases h), fun _ _ _ _ => fun _ _ h => (by cases h), fun _ _ _ _ => fun _ _ h => (by cases h)⟩
  | n + 1 => by
    have ih := knot_mod l x hi n
    exact ⟨fun G a0 a1 ha0 => uX12_allOf l x hi n _ _ _ _ _ ih.1 ih.2.1 ih.2.2.1 ih.2.2.2.1 ih.2.2.2.2 G a0 a1 ha0, fun G a0 a1 ha0 => uX12_test l x hi n _ _ _ _ _ ih.1 ih.2.1 ih.2.2.1 ih.2.2.2.1 ih.2.2.2.2 G a0 a1 ha0, fun G a0 a1 ha0 => uX12_sums l x hi n _ _ _ _ _ ih.1 ih.2.1 ih.2.2.1 ih.2.2.2.1 ih.2.2.2.2 G a0 a1 ha0, fun G a0 a1 ha0 => uX12_products l x hi n _ _ _ _ _ ih.1 ih.2.1 ih.2.2.1 ih.2.2.2.1 ih.2.2.2.2 G a0 a1 ha0, fun G a0 a1 ha0 => uX12_takePart l x hi n _ _ _ _ _ ih.1 ih.2.1 ih.2.2.1 ih.2.2.2.1 ih.2.2.2.2 G a0 a1 ha0⟩
def fX12_allOf (a0 : Nat) (a1 : Int) (G : Hp) : RT := (tie_mod 60).1 a0 a1 G
theorem tX12_allOf (l : Launch) (x : WX) (hi : Inj x.2.2) (G : Hp) (a0 : Nat) (a1 : Int) (ha0 : kd a0 = 12) : Ct l x yX12_allOf cX12_allOf 3 none 62 129 129 [vR a0, vI a1] G (fX12_allOf a0 a1 G) := (knot_mod l x hi 60).1 G a0 a1 ha0
def fX12_test (a0 : Nat) (a1 : Int) (G : Hp) : RT := (tie_mod 60).2.1 a0 a1 G
theorem tX12_test (l : Launch) (x : WX) (hi : Inj x.2.2) (G : Hp) (a0 : Nat) (a1 : Int) (ha0 : kd a0 = 12) : Ct l x yX12_test cX12_test 3 none 62 129 129 [vR a0, vI a1] G (fX12_test a0 a1 G) := (knot_mod l x hi 60).2.1 G a0 a1 ha0
def fX12_sums (a0 : Nat) (a1 : Int) (G : Hp) : RT := (tie_mod 60).2.2.1 a0 a1 G
theorem tX12_sums (l : Launch) (x : WX) (hi : Inj x.2.2) (G : Hp) (a0 : Nat) (a1 : Int) (ha0 : kd a0 = 12) : Ct l x yX12_sums cX12_sums 3 none 62 129 129 [vR a0, vI a1] G (fX12_sums a0 a1 G) := (knot_mod l x hi 60).2.2.1 G a0 a1 ha0
def fX12_products (a0 : Nat) (a1 : Int) (G : Hp) : RT := (tie_mod 60).2.2.2.1 a0 a1 G
theorem tX12_products (l : Launch) (x : WX) (hi : Inj x.2.2) (G : Hp) (a0 : Nat) (a1 : Int) (ha0 : kd a0 = 12) : Ct l x yX12_products cX12_products 2 none 62 129 129 [vR a0, vI a1] G (fX12_products a0 a1 G) := (knot_mod l x hi 60).2.2.2.1 G a0 a1 ha0
def fX12_takePart (a0 : Nat) (a1 : Int) (G : Hp) : RT := (tie_mod 60).2.2.2.2 a0 a1 G
theorem tX12_takePart (l : Launch) (x : WX) (hi : Inj x.2.2) (G : Hp) (a0 : Nat) (a1 : Int) (ha0 : kd a0 = 12) : Ct l x yX12_takePart cX12_takePart 4 none 62 129 129 [vR a0, vI a1] G (fX12_takePart a0 a1 G) := (knot_mod l x hi 60).2.2.2.2 G a0 a1 ha0
