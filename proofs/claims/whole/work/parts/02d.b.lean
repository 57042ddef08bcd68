theorem dX7_init_0 : decode cX7_init 0 = .ok (.aload_n 0, 1) := by decide +kernel
theorem dX7_init_1 : decode cX7_init 1 = .ok (.invokespecial 3, 3) := by decide +kernel
theorem dX7_init_4 : decode cX7_init 4 = .ok (.aload_n 0, 1) := by decide +kernel
theorem dX7_init_5 : decode cX7_init 5 = .ok (.iconst (-1), 1) := by decide +kernel
theorem dX7_init_6 : decode cX7_init 6 = .ok (.putfield 9, 3) := by decide +kernel
theorem dX7_init_9 : decode cX7_init 9 = .ok (.aload_n 0, 1) := by decide +kernel
theorem dX7_init_10 : decode cX7_init 10 = .ok (.new 15, 3) := by decide +kernel
theorem dX7_init_13 : decode cX7_init 13 = .ok (.dup, 1) := by decide +kernel
theorem dX7_init_14 : decode cX7_init 14 = .ok (.invokespecial 17, 3) := by decide +kernel
theorem dX7_init_17 : decode cX7_init 17 = .ok (.putfield 18, 3) := by decide +kernel
theorem dX7_init_20 : decode cX7_init 20 = .ok (.aload_n 0, 1) := by decide +kernel
theorem dX7_init_21 : decode cX7_init 21 = .ok (.sipush 400, 3) := by decide +kernel
theorem dX7_init_24 : decode cX7_init 24 = .ok (.newarray .int, 2) := by decide +kernel
theorem dX7_init_26 : decode cX7_init 26 = .ok (.putfield 22, 3) := by decide +kernel
theorem dX7_init_29 : decode cX7_init 29 = .ok (.aload_n 0, 1) := by decide +kernel
theorem dX7_init_30 : decode cX7_init 30 = .ok (.sipush 401, 3) := by decide +kernel
theorem dX7_init_33 : decode cX7_init 33 = .ok (.newarray .int, 2) := by decide +kernel
theorem dX7_init_35 : decode cX7_init 35 = .ok (.putfield 26, 3) := by decide +kernel
theorem dX7_init_38 : decode cX7_init 38 = .ok (.aload_n 0, 1) := by decide +kernel
theorem dX7_init_39 : decode cX7_init 39 = .ok (.sipush 401, 3) := by decide +kernel
theorem dX7_init_42 : decode cX7_init 42 = .ok (.newarray .int, 2) := by decide +kernel
theorem dX7_init_44 : decode cX7_init 44 = .ok (.putfield 29, 3) := by decide +kernel
theorem dX7_init_47 : decode cX7_init 47 = .ok (.aload_n 0, 1) := by decide +kernel
theorem dX7_init_48 : decode cX7_init 48 = .ok (.sipush 401, 3) := by decide +kernel
theorem dX7_init_51 : decode cX7_init 51 = .ok (.newarray .int, 2) := by decide +kernel
theorem dX7_init_53 : decode cX7_init 53 = .ok (.putfield 32, 3) := by decide +kernel
theorem dX7_init_56 : decode cX7_init 56 = .ok (.return_, 1) := by decide +kernel
theorem dX7_takeIn_0 : decode cX7_takeIn 0 = .ok (.bipush 24, 2) := by decide +kernel
theorem dX7_takeIn_2 : decode cX7_takeIn 2 = .ok (.istore_n 2, 1) := by decide +kernel
theorem dX7_takeIn_3 : decode cX7_takeIn 3 = .ok (.iload_n 2, 1) := by decide +kernel
theorem dX7_takeIn_4 : decode cX7_takeIn 4 = .ok (.ifCond .lt 45, 3) := by decide +kernel
theorem dX7_takeIn_7 : decode cX7_takeIn 7 = .ok (.aload_n 0, 1) := by decide +kernel
theorem dX7_takeIn_8 : decode cX7_takeIn 8 = .ok (.getfield 35, 3) := by decide +kernel
theorem dX7_takeIn_11 : decode cX7_takeIn 11 = .ok (.sipush 400, 3) := by decide +kernel
theorem dX7_takeIn_14 : decode cX7_takeIn 14 = .ok (.if_icmp .ge 29, 3) := by decide +kernel
theorem dX7_takeIn_17 : decode cX7_takeIn 17 = .ok (.aload_n 0, 1) := by decide +kernel
theorem dX7_takeIn_18 : decode cX7_takeIn 18 = .ok (.getfield 22, 3) := by decide +kernel
theorem dX7_takeIn_21 : decode cX7_takeIn 21 = .ok (.aload_n 0, 1) := by decide +kernel
theorem dX7_takeIn_22 : decode cX7_takeIn 22 = .ok (.getfield 35, 3) := by decide +kernel
theorem dX7_takeIn_25 : decode cX7_takeIn 25 = .ok (.iload_n 1, 1) := by decide +kernel
theorem dX7_takeIn_26 : decode cX7_takeIn 26 = .ok (.iload_n 2, 1) := by decide +kernel
theorem dX7_takeIn_27 : decode cX7_takeIn 27 = .ok (.iushr, 1) := by decide +kernel
theorem dX7_takeIn_28 : decode cX7_takeIn 28 = .ok (.sipush 255, 3) := by decide +kernel
theorem dX7_takeIn_31 : decode cX7_takeIn 31 = .ok (.iand, 1) := by decide +kernel
theorem dX7_takeIn_32 : decode cX7_takeIn 32 = .ok (.iastore, 1) := by decide +kernel
theorem dX7_takeIn_33 : decode cX7_takeIn 33 = .ok (.aload_n 0, 1) := by decide +kernel
theorem dX7_takeIn_34 : decode cX7_takeIn 34 = .ok (.dup, 1) := by decide +kernel
theorem dX7_takeIn_35 : decode cX7_takeIn 35 = .ok (.getfield 35, 3) := by decide +kernel
theorem dX7_takeIn_38 : decode cX7_takeIn 38 = .ok (.iconst 1, 1) := by decide +kernel
theorem dX7_takeIn_39 : decode cX7_takeIn 39 = .ok (.iadd, 1) := by decide +kernel
theorem dX7_takeIn_40 : decode cX7_takeIn 40 = .ok (.putfield 35, 3) := by decide +kernel
theorem dX7_takeIn_43 : decode cX7_takeIn 43 = .ok (.iinc 2 (-8), 3) := by decide +kernel
theorem dX7_takeIn_46 : decode cX7_takeIn 46 = .ok (.goto (-43), 3) := by decide +kernel
theorem dX7_takeIn_49 : decode cX7_takeIn 49 = .ok (.return_, 1) := by decide +kernel
theorem dX7_read_0 : decode cX7_read 0 = .ok (.aload_n 0, 1) := by decide +kernel
theorem dX7_read_1 : decode cX7_read 1 = .ok (.iload_n 1, 1) := by decide +kernel
theorem dX7_read_2 : decode cX7_read 2 = .ok (.invokevirtual 38, 3) := by decide +kernel
theorem dX7_read_5 : decode cX7_read 5 = .ok (.aload_n 0, 1) := by decide +kernel
theorem dX7_read_6 : decode cX7_read 6 = .ok (.iconst 0, 1) := by decide +kernel
theorem dX7_read_7 : decode cX7_read 7 = .ok (.putfield 35, 3) := by decide +kernel
theorem dX7_read_10 : decode cX7_read 10 = .ok (.aload_n 0, 1) := by decide +kernel
theorem dX7_read_11 : decode cX7_read 11 = .ok (.iconst 0, 1) := by decide +kernel
theorem dX7_read_12 : decode cX7_read 12 = .ok (.putfield 42, 3) := by decide +kernel
theorem dX7_read_15 : decode cX7_read 15 = .ok (.aload_n 0, 1) := by decide +kernel
theorem dX7_read_16 : decode cX7_read 16 = .ok (.iconst (-1), 1) := by decide +kernel
theorem dX7_read_17 : decode cX7_read 17 = .ok (.putfield 9, 3) := by decide +kernel
theorem dX7_read_20 : decode cX7_read 20 = .ok (.aload_n 0, 1) := by decide +kernel
theorem dX7_read_21 : decode cX7_read 21 = .ok (.getfield 18, 3) := by decide +kernel
theorem dX7_read_24 : decode cX7_read 24 = .ok (.invokevirtual 45, 3) := by decide +kernel
theorem dX7_read_27 : decode cX7_read 27 = .ok (.aload_n 0, 1) := by decide +kernel
theorem dX7_read_28 : decode cX7_read 28 = .ok (.iconst 0, 1) := by decide +kernel
theorem dX7_read_29 : decode cX7_read 29 = .ok (.putfield 48, 3) := by decide +kernel
theorem dX7_read_32 : decode cX7_read 32 = .ok (.aload_n 0, 1) := by decide +kernel
theorem dX7_read_33 : decode cX7_read 33 = .ok (.aload_n 0, 1) := by decide +kernel
theorem dX7_read_34 : decode cX7_read 34 = .ok (.getfield 26, 3) := by decide +kernel
theorem dX7_read_37 : decode cX7_read 37 = .ok (.iconst 0, 1) := by decide +kernel
theorem dX7_read_38 : decode cX7_read 38 = .ok (.iaload, 1) := by decide +kernel
theorem dX7_read_39 : decode cX7_read 39 = .ok (.putfield 51, 3) := by decide +kernel
theorem dX7_read_42 : decode cX7_read 42 = .ok (.iconst 0, 1) := by decide +kernel
theorem dX7_read_43 : decode cX7_read 43 = .ok (.istore_n 2, 1) := by decide +kernel
theorem dX7_read_44 : decode cX7_read 44 = .ok (.iload_n 2, 1) := by decide +kernel
theorem dX7_read_45 : decode cX7_read 45 = .ok (.bipush 16, 2) := by decide +kernel
theorem dX7_read_47 : decode cX7_read 47 = .ok (.if_icmp .gt 27, 3) := by decide +kernel
theorem dX7_read_50 : decode cX7_read 50 = .ok (.aload_n 0, 1) := by decide +kernel
theorem dX7_read_51 : decode cX7_read 51 = .ok (.getfield 51, 3) := by decide +kernel
theorem dX7_read_54 : decode cX7_read 54 = .ok (.bipush (-18), 2) := by decide +kernel
theorem dX7_read_56 : decode cX7_read 56 = .ok (.if_icmp .eq 18, 3) := by decide +kernel
theorem dX7_read_59 : decode cX7_read 59 = .ok (.aload_n 0, 1) := by decide +kernel
theorem dX7_read_60 : decode cX7_read 60 = .ok (.invokevirtual 54, 3) := by decide +kernel
theorem dX7_read_63 : decode cX7_read 63 = .ok (.ifCond .ne 5, 3) := by decide +kernel
theorem dX7_read_66 : decode cX7_read 66 = .ok (.iconst 0, 1) := by decide +kernel
theorem dX7_read_67 : decode cX7_read 67 = .ok (.ireturn, 1) := by decide +kernel
theorem dX7_read_68 : decode cX7_read 68 = .ok (.iinc 2 1, 3) := by decide +kernel
theorem dX7_read_71 : decode cX7_read 71 = .ok (.goto (-27), 3) := by decide +kernel
theorem dX7_read_74 : decode cX7_read 74 = .ok (.iconst 1, 1) := by decide +kernel
theorem dX7_read_75 : decode cX7_read 75 = .ok (.ireturn, 1) := by decide +kernel
theorem dX7_scan_0 : decode cX7_scan 0 = .ok (.iconst 0, 1) := by decide +kernel
theorem dX7_scan_1 : decode cX7_scan 1 = .ok (.istore_n 2, 1) := by decide +kernel
theorem dX7_scan_2 : decode cX7_scan 2 = .ok (.iconst 0, 1) := by decide +kernel
theorem dX7_scan_3 : decode cX7_scan 3 = .ok (.istore_n 3, 1) := by decide +kernel
theorem dX7_scan_4 : decode cX7_scan 4 = .ok (.iload_n 3, 1) := by decide +kernel
theorem dX7_scan_5 : decode cX7_scan 5 = .ok (.iload_n 1, 1) := by decide +kernel
theorem dX7_scan_6 : decode cX7_scan 6 = .ok (.if_icmp .ge 137, 3) := by decide +kernel
theorem dX7_scan_9 : decode cX7_scan 9 = .ok (.aload_n 0, 1) := by decide +kernel
theorem dX7_scan_10 : decode cX7_scan 10 = .ok (.getfield 22, 3) := by decide +kernel
theorem dX7_scan_13 : decode cX7_scan 13 = .ok (.iload_n 3, 1) := by decide +kernel
theorem dX7_scan_14 : decode cX7_scan 14 = .ok (.iaload, 1) := by decide +kernel
theorem dX7_scan_15 : decode cX7_scan 15 = .ok (.istore 4, 2) := by decide +kernel
theorem dX7_scan_17 : decode cX7_scan 17 = .ok (.iload 4, 2) := by decide +kernel
theorem dX7_scan_19 : decode cX7_scan 19 = .ok (.invokestatic 58, 3) := by decide +kernel
theorem dX7_scan_22 : decode cX7_scan 22 = .ok (.ifCond .eq 12, 3) := by decide +kernel
theorem dX7_scan_25 : decode cX7_scan 25 = .ok (.aload_n 0, 1) := by decide +kernel
theorem dX7_scan_26 : decode cX7_scan 26 = .ok (.iload_n 3, 1) := by decide +kernel
theorem dX7_scan_27 : decode cX7_scan 27 = .ok (.iload_n 1, 1) := by decide +kernel
theorem dX7_scan_28 : decode cX7_scan 28 = .ok (.invokevirtual 62, 3) := by decide +kernel
theorem dX7_scan_31 : decode cX7_scan 31 = .ok (.goto 23, 3) := by decide +kernel
theorem dX7_scan_34 : decode cX7_scan 34 = .ok (.iload 4, 2) := by decide +kernel
theorem dX7_scan_36 : decode cX7_scan 36 = .ok (.invokestatic 66, 3) := by decide +kernel
theorem dX7_scan_39 : decode cX7_scan 39 = .ok (.ifCond .eq 12, 3) := by decide +kernel
theorem dX7_scan_42 : decode cX7_scan 42 = .ok (.aload_n 0, 1) := by decide +kernel
theorem dX7_scan_43 : decode cX7_scan 43 = .ok (.iload_n 3, 1) := by decide +kernel
theorem dX7_scan_44 : decode cX7_scan 44 = .ok (.iload_n 1, 1) := by decide +kernel
theorem dX7_scan_45 : decode cX7_scan 45 = .ok (.invokevirtual 69, 3) := by decide +kernel
theorem dX7_scan_48 : decode cX7_scan 48 = .ok (.goto 6, 3) := by decide +kernel
theorem dX7_scan_51 : decode cX7_scan 51 = .ok (.iload_n 3, 1) := by decide +kernel
theorem dX7_scan_52 : decode cX7_scan 52 = .ok (.iconst 1, 1) := by decide +kernel
theorem dX7_scan_53 : decode cX7_scan 53 = .ok (.iadd, 1) := by decide +kernel
theorem dX7_scan_54 : decode cX7_scan 54 = .ok (.istore 5, 2) := by decide +kernel
theorem dX7_scan_56 : decode cX7_scan 56 = .ok (.iload 4, 2) := by decide +kernel
theorem dX7_scan_58 : decode cX7_scan 58 = .ok (.bipush 32, 2) := by decide +kernel
theorem dX7_scan_60 : decode cX7_scan 60 = .ok (.if_icmp .eq 77, 3) := by decide +kernel
theorem dX7_scan_63 : decode cX7_scan 63 = .ok (.aload_n 0, 1) := by decide +kernel
theorem dX7_scan_64 : decode cX7_scan 64 = .ok (.getfield 29, 3) := by decide +kernel
theorem dX7_scan_67 : decode cX7_scan 67 = .ok (.iload_n 2, 1) := by decide +kernel
theorem dX7_scan_68 : decode cX7_scan 68 = .ok (.iload_n 3, 1) := by decide +kernel
theorem dX7_scan_69 : decode cX7_scan 69 = .ok (.iastore, 1) := by decide +kernel
theorem dX7_scan_70 : decode cX7_scan 70 = .ok (.aload_n 0, 1) := by decide +kernel
theorem dX7_scan_71 : decode cX7_scan 71 = .ok (.getfield 26, 3) := by decide +kernel
theorem dX7_scan_74 : decode cX7_scan 74 = .ok (.iload_n 2, 1) := by decide +kernel
theorem dX7_scan_75 : decode cX7_scan 75 = .ok (.iload 4, 2) := by decide +kernel
theorem dX7_scan_77 : decode cX7_scan 77 = .ok (.invokestatic 58, 3) := by decide +kernel
theorem dX7_scan_80 : decode cX7_scan 80 = .ok (.ifCond .eq 13, 3) := by decide +kernel
theorem dX7_scan_83 : decode cX7_scan 83 = .ok (.aload_n 0, 1) := by decide +kernel
theorem dX7_scan_84 : decode cX7_scan 84 = .ok (.iload_n 3, 1) := by decide +kernel
theorem dX7_scan_85 : decode cX7_scan 85 = .ok (.iload 5, 2) := by decide +kernel
theorem dX7_scan_87 : decode cX7_scan 87 = .ok (.invokevirtual 72, 3) := by decide +kernel
theorem dX7_scan_90 : decode cX7_scan 90 = .ok (.goto 18, 3) := by decide +kernel
theorem dX7_scan_93 : decode cX7_scan 93 = .ok (.iload 4, 2) := by decide +kernel
theorem dX7_scan_95 : decode cX7_scan 95 = .ok (.invokestatic 66, 3) := by decide +kernel
theorem dX7_scan_98 : decode cX7_scan 98 = .ok (.ifCond .eq 8, 3) := by decide +kernel
theorem dX7_scan_101 : decode cX7_scan 101 = .ok (.bipush (-17), 2) := by decide +kernel
theorem dX7_scan_103 : decode cX7_scan 103 = .ok (.goto 5, 3) := by decide +kernel
theorem dX7_scan_106 : decode cX7_scan 106 = .ok (.iload 4, 2) := by decide +kernel
theorem dX7_scan_108 : decode cX7_scan 108 = .ok (.iastore, 1) := by decide +kernel
theorem dX7_scan_109 : decode cX7_scan 109 = .ok (.aload_n 0, 1) := by decide +kernel
theorem dX7_scan_110 : decode cX7_scan 110 = .ok (.getfield 32, 3) := by decide +kernel
theorem dX7_scan_113 : decode cX7_scan 113 = .ok (.iload_n 2, 1) := by decide +kernel
theorem dX7_scan_114 : decode cX7_scan 114 = .ok (.iload 4, 2) := by decide +kernel
theorem dX7_scan_116 : decode cX7_scan 116 = .ok (.invokestatic 66, 3) := by decide +kernel
theorem dX7_scan_119 : decode cX7_scan 119 = .ok (.ifCond .eq 13, 3) := by decide +kernel
theorem dX7_scan_122 : decode cX7_scan 122 = .ok (.aload_n 0, 1) := by decide +kernel
theorem dX7_scan_123 : decode cX7_scan 123 = .ok (.iload_n 3, 1) := by decide +kernel
theorem dX7_scan_124 : decode cX7_scan 124 = .ok (.iload 5, 2) := by decide +kernel
theorem dX7_scan_126 : decode cX7_scan 126 = .ok (.invokevirtual 75, 3) := by decide +kernel
theorem dX7_scan_129 : decode cX7_scan 129 = .ok (.goto 4, 3) := by decide +kernel
theorem dX7_scan_132 : decode cX7_scan 132 = .ok (.iconst 0, 1) := by decide +kernel
theorem dX7_scan_133 : decode cX7_scan 133 = .ok (.iastore, 1) := by decide +kernel
theorem dX7_scan_134 : decode cX7_scan 134 = .ok (.iinc 2 1, 3) := by decide +kernel
theorem dX7_scan_137 : decode cX7_scan 137 = .ok (.iload 5, 2) := by decide +kernel
theorem dX7_scan_139 : decode cX7_scan 139 = .ok (.istore_n 3, 1) := by decide +kernel
theorem dX7_scan_140 : decode cX7_scan 140 = .ok (.goto (-136), 3) := by decide +kernel
theorem dX7_scan_143 : decode cX7_scan 143 = .ok (.aload_n 0, 1) := by decide +kernel
theorem dX7_scan_144 : decode cX7_scan 144 = .ok (.getfield 29, 3) := by decide +kernel
theorem dX7_scan_147 : decode cX7_scan 147 = .ok (.iload_n 2, 1) := by decide +kernel
theorem dX7_scan_148 : decode cX7_scan 148 = .ok (.iload_n 1, 1) := by decide +kernel
theorem dX7_scan_149 : decode cX7_scan 149 = .ok (.iastore, 1) := by decide +kernel
theorem dX7_scan_150 : decode cX7_scan 150 = .ok (.aload_n 0, 1) := by decide +kernel
theorem dX7_scan_151 : decode cX7_scan 151 = .ok (.getfield 26, 3) := by decide +kernel
theorem dX7_scan_154 : decode cX7_scan 154 = .ok (.iload_n 2, 1) := by decide +kernel
theorem dX7_scan_155 : decode cX7_scan 155 = .ok (.bipush (-18), 2) := by decide +kernel
theorem dX7_scan_157 : decode cX7_scan 157 = .ok (.iastore, 1) := by decide +kernel
theorem dX7_scan_158 : decode cX7_scan 158 = .ok (.return_, 1) := by decide +kernel
theorem dX7_isLetter_0 : decode cX7_isLetter 0 = .ok (.iload_n 0, 1) := by decide +kernel
theorem dX7_isLetter_1 : decode cX7_isLetter 1 = .ok (.bipush 97, 2) := by decide +kernel
theorem dX7_isLetter_3 : decode cX7_isLetter 3 = .ok (.if_icmp .lt 13, 3) := by decide +kernel
theorem dX7_isLetter_6 : decode cX7_isLetter 6 = .ok (.iload_n 0, 1) := by decide +kernel
theorem dX7_isLetter_7 : decode cX7_isLetter 7 = .ok (.bipush 122, 2) := by decide +kernel
theorem dX7_isLetter_9 : decode cX7_isLetter 9 = .ok (.if_icmp .gt 7, 3) := by decide +kernel
theorem dX7_isLetter_12 : decode cX7_isLetter 12 = .ok (.iconst 1, 1) := by decide +kernel
theorem dX7_isLetter_13 : decode cX7_isLetter 13 = .ok (.goto 4, 3) := by decide +kernel
theorem dX7_isLetter_16 : decode cX7_isLetter 16 = .ok (.iconst 0, 1) := by decide +kernel
theorem dX7_isLetter_17 : decode cX7_isLetter 17 = .ok (.ireturn, 1) := by decide +kernel
theorem dX7_isDigit_0 : decode cX7_isDigit 0 = .ok (.iload_n 0, 1) := by decide +kernel
theorem dX7_isDigit_1 : decode cX7_isDigit 1 = .ok (.bipush 48, 2) := by decide +kernel
theorem dX7_isDigit_3 : decode cX7_isDigit 3 = .ok (.if_icmp .lt 13, 3) := by decide +kernel
theorem dX7_isDigit_6 : decode cX7_isDigit 6 = .ok (.iload_n 0, 1) := by decide +kernel
theorem dX7_isDigit_7 : decode cX7_isDigit 7 = .ok (.bipush 57, 2) := by decide +kernel
theorem dX7_isDigit_9 : decode cX7_isDigit 9 = .ok (.if_icmp .gt 7, 3) := by decide +kernel
theorem dX7_isDigit_12 : decode cX7_isDigit 12 = .ok (.iconst 1, 1) := by decide +kernel
theorem dX7_isDigit_13 : decode cX7_isDigit 13 = .ok (.goto 4, 3) := by decide +kernel
theorem dX7_isDigit_16 : decode cX7_isDigit 16 = .ok (.iconst 0, 1) := by decide +kernel
theorem dX7_isDigit_17 : decode cX7_isDigit 17 = .ok (.ireturn, 1) := by decide +kernel
theorem dX7_endOfWord_0 : decode cX7_endOfWord 0 = .ok (.iload_n 1, 1) := by decide +kernel
theorem dX7_endOfWord_1 : decode cX7_endOfWord 1 = .ok (.iconst 1, 1) := by decide +kernel
theorem dX7_endOfWord_2 : decode cX7_endOfWord 2 = .ok (.iadd, 1) := by decide +kernel
theorem dX7_endOfWord_3 : decode cX7_endOfWord 3 = .ok (.istore_n 3, 1) := by decide +kernel
theorem dX7_endOfWord_4 : decode cX7_endOfWord 4 = .ok (.iload_n 3, 1) := by decide +kernel
theorem dX7_endOfWord_5 : decode cX7_endOfWord 5 = .ok (.iload_n 2, 1) := by decide +kernel
theorem dX7_endOfWord_6 : decode cX7_endOfWord 6 = .ok (.if_icmp .ge 21, 3) := by decide +kernel
theorem dX7_endOfWord_9 : decode cX7_endOfWord 9 = .ok (.aload_n 0, 1) := by decide +kernel
theorem dX7_endOfWord_10 : decode cX7_endOfWord 10 = .ok (.getfield 22, 3) := by decide +kernel
theorem dX7_endOfWord_13 : decode cX7_endOfWord 13 = .ok (.iload_n 3, 1) := by decide +kernel
theorem dX7_endOfWord_14 : decode cX7_endOfWord 14 = .ok (.iaload, 1) := by decide +kernel
theorem dX7_endOfWord_15 : decode cX7_endOfWord 15 = .ok (.invokestatic 58, 3) := by decide +kernel
theorem dX7_endOfWord_18 : decode cX7_endOfWord 18 = .ok (.ifCond .eq 9, 3) := by decide +kernel
theorem dX7_endOfWord_21 : decode cX7_endOfWord 21 = .ok (.iinc 3 1, 3) := by decide +kernel
theorem dX7_endOfWord_24 : decode cX7_endOfWord 24 = .ok (.goto (-20), 3) := by decide +kernel
theorem dX7_endOfWord_27 : decode cX7_endOfWord 27 = .ok (.iload_n 3, 1) := by decide +kernel
theorem dX7_endOfWord_28 : decode cX7_endOfWord 28 = .ok (.ireturn, 1) := by decide +kernel
theorem dX7_endOfNumber_0 : decode cX7_endOfNumber 0 = .ok (.iload_n 1, 1) := by decide +kernel
theorem dX7_endOfNumber_1 : decode cX7_endOfNumber 1 = .ok (.iconst 1, 1) := by decide +kernel
theorem dX7_endOfNumber_2 : decode cX7_endOfNumber 2 = .ok (.iadd, 1) := by decide +kernel
theorem dX7_endOfNumber_3 : decode cX7_endOfNumber 3 = .ok (.istore_n 3, 1) := by decide +kernel
theorem dX7_endOfNumber_4 : decode cX7_endOfNumber 4 = .ok (.iload_n 3, 1) := by decide +kernel
theorem dX7_endOfNumber_5 : decode cX7_endOfNumber 5 = .ok (.iload_n 2, 1) := by decide +kernel
theorem dX7_endOfNumber_6 : decode cX7_endOfNumber 6 = .ok (.if_icmp .ge 21, 3) := by decide +kernel
theorem dX7_endOfNumber_9 : decode cX7_endOfNumber 9 = .ok (.aload_n 0, 1) := by decide +kernel
theorem dX7_endOfNumber_10 : decode cX7_endOfNumber 10 = .ok (.getfield 22, 3) := by decide +kernel
theorem dX7_endOfNumber_13 : decode cX7_endOfNumber 13 = .ok (.iload_n 3, 1) := by decide +kernel
theorem dX7_endOfNumber_14 : decode cX7_endOfNumber 14 = .ok (.iaload, 1) := by decide +kernel
theorem dX7_endOfNumber_15 : decode cX7_endOfNumber 15 = .ok (.invokestatic 66, 3) := by decide +kernel
theorem dX7_endOfNumber_18 : decode cX7_endOfNumber 18 = .ok (.ifCond .eq 9, 3) := by decide +kernel
theorem dX7_endOfNumber_21 : decode cX7_endOfNumber 21 = .ok (.iinc 3 1, 3) := by decide +kernel
theorem dX7_endOfNumber_24 : decode cX7_endOfNumber 24 = .ok (.goto (-20), 3) := by decide +kernel
theorem dX7_endOfNumber_27 : decode cX7_endOfNumber 27 = .ok (.iload_n 3, 1) := by decide +kernel
theorem dX7_endOfNumber_28 : decode cX7_endOfNumber 28 = .ok (.ireturn, 1) := by decide +kernel
theorem dX7_numberBetween_0 : decode cX7_numberBetween 0 = .ok (.iconst 0, 1) := by decide +kernel
theorem dX7_numberBetween_1 : decode cX7_numberBetween 1 = .ok (.istore_n 3, 1) := by decide +kernel
theorem dX7_numberBetween_2 : decode cX7_numberBetween 2 = .ok (.iload_n 1, 1) := by decide +kernel
theorem dX7_numberBetween_3 : decode cX7_numberBetween 3 = .ok (.istore 4, 2) := by decide +kernel
theorem dX7_numberBetween_5 : decode cX7_numberBetween 5 = .ok (.iload 4, 2) := by decide +kernel
theorem dX7_numberBetween_7 : decode cX7_numberBetween 7 = .ok (.iload_n 2, 1) := by decide +kernel
theorem dX7_numberBetween_8 : decode cX7_numberBetween 8 = .ok (.if_icmp .ge 32, 3) := by decide +kernel
theorem dX7_numberBetween_11 : decode cX7_numberBetween 11 = .ok (.iload_n 3, 1) := by decide +kernel
theorem dX7_numberBetween_12 : decode cX7_numberBetween 12 = .ok (.sipush 9999, 3) := by decide +kernel
theorem dX7_numberBetween_15 : decode cX7_numberBetween 15 = .ok (.if_icmp .gt 25, 3) := by decide +kernel
theorem dX7_numberBetween_18 : decode cX7_numberBetween 18 = .ok (.iload_n 3, 1) := by decide +kernel
theorem dX7_numberBetween_19 : decode cX7_numberBetween 19 = .ok (.bipush 10, 2) := by decide +kernel
theorem dX7_numberBetween_21 : decode cX7_numberBetween 21 = .ok (.imul, 1) := by decide +kernel
theorem dX7_numberBetween_22 : decode cX7_numberBetween 22 = .ok (.aload_n 0, 1) := by decide +kernel
theorem dX7_numberBetween_23 : decode cX7_numberBetween 23 = .ok (.getfield 22, 3) := by decide +kernel
theorem dX7_numberBetween_26 : decode cX7_numberBetween 26 = .ok (.iload 4, 2) := by decide +kernel
theorem dX7_numberBetween_28 : decode cX7_numberBetween 28 = .ok (.iaload, 1) := by decide +kernel
theorem dX7_numberBetween_29 : decode cX7_numberBetween 29 = .ok (.iadd, 1) := by decide +kernel
theorem dX7_numberBetween_30 : decode cX7_numberBetween 30 = .ok (.bipush 48, 2) := by decide +kernel
theorem dX7_numberBetween_32 : decode cX7_numberBetween 32 = .ok (.isub, 1) := by decide +kernel
theorem dX7_numberBetween_33 : decode cX7_numberBetween 33 = .ok (.istore_n 3, 1) := by decide +kernel
theorem dX7_numberBetween_34 : decode cX7_numberBetween 34 = .ok (.iinc 4 1, 3) := by decide +kernel
theorem dX7_numberBetween_37 : decode cX7_numberBetween 37 = .ok (.goto (-32), 3) := by decide +kernel
theorem dX7_numberBetween_40 : decode cX7_numberBetween 40 = .ok (.iload_n 3, 1) := by decide +kernel
theorem dX7_numberBetween_41 : decode cX7_numberBetween 41 = .ok (.ireturn, 1) := by decide +kernel
theorem dX7_wordBetween_0 : decode cX7_wordBetween 0 = .ok (.iconst (-1), 1) := by decide +kernel
theorem dX7_wordBetween_1 : decode cX7_wordBetween 1 = .ok (.istore_n 3, 1) := by decide +kernel
theorem dX7_wordBetween_2 : decode cX7_wordBetween 2 = .ok (.iload_n 3, 1) := by decide +kernel
theorem dX7_wordBetween_3 : decode cX7_wordBetween 3 = .ok (.bipush (-16), 2) := by decide +kernel
theorem dX7_wordBetween_5 : decode cX7_wordBetween 5 = .ok (.if_icmp .lt 24, 3) := by decide +kernel
theorem dX7_wordBetween_8 : decode cX7_wordBetween 8 = .ok (.aload_n 0, 1) := by decide +kernel
theorem dX7_wordBetween_9 : decode cX7_wordBetween 9 = .ok (.iload_n 3, 1) := by decide +kernel
theorem dX7_wordBetween_10 : decode cX7_wordBetween 10 = .ok (.invokestatic 78, 3) := by decide +kernel
theorem dX7_wordBetween_13 : decode cX7_wordBetween 13 = .ok (.iload_n 1, 1) := by decide +kernel
theorem dX7_wordBetween_14 : decode cX7_wordBetween 14 = .ok (.iload_n 2, 1) := by decide +kernel
theorem dX7_wordBetween_15 : decode cX7_wordBetween 15 = .ok (.invokevirtual 82, 3) := by decide +kernel
theorem dX7_wordBetween_18 : decode cX7_wordBetween 18 = .ok (.ifCond .eq 5, 3) := by decide +kernel
theorem dX7_wordBetween_21 : decode cX7_wordBetween 21 = .ok (.iload_n 3, 1) := by decide +kernel
theorem dX7_wordBetween_22 : decode cX7_wordBetween 22 = .ok (.ireturn, 1) := by decide +kernel
theorem dX7_wordBetween_23 : decode cX7_wordBetween 23 = .ok (.iinc 3 (-1), 3) := by decide +kernel
theorem dX7_wordBetween_26 : decode cX7_wordBetween 26 = .ok (.goto (-24), 3) := by decide +kernel
theorem dX7_wordBetween_29 : decode cX7_wordBetween 29 = .ok (.bipush (-19), 2) := by decide +kernel
theorem dX7_wordBetween_31 : decode cX7_wordBetween 31 = .ok (.ireturn, 1) := by decide +kernel
theorem dX7_isSpelt_0 : decode cX7_isSpelt 0 = .ok (.aload_n 1, 1) := by decide +kernel
theorem dX7_isSpelt_1 : decode cX7_isSpelt 1 = .ok (.invokevirtual 86, 3) := by decide +kernel
theorem dX7_isSpelt_4 : decode cX7_isSpelt 4 = .ok (.iload_n 3, 1) := by decide +kernel
theorem dX7_isSpelt_5 : decode cX7_isSpelt 5 = .ok (.iload_n 2, 1) := by decide +kernel
theorem dX7_isSpelt_6 : decode cX7_isSpelt 6 = .ok (.isub, 1) := by decide +kernel
theorem dX7_isSpelt_7 : decode cX7_isSpelt 7 = .ok (.if_icmp .eq 5, 3) := by decide +kernel
theorem dX7_isSpelt_10 : decode cX7_isSpelt 10 = .ok (.iconst 0, 1) := by decide +kernel
theorem dX7_isSpelt_11 : decode cX7_isSpelt 11 = .ok (.ireturn, 1) := by decide +kernel
theorem dX7_isSpelt_12 : decode cX7_isSpelt 12 = .ok (.iconst 0, 1) := by decide +kernel
theorem dX7_isSpelt_13 : decode cX7_isSpelt 13 = .ok (.istore 4, 2) := by decide +kernel
theorem dX7_isSpelt_15 : decode cX7_isSpelt 15 = .ok (.iload 4, 2) := by decide +kernel
theorem dX7_isSpelt_17 : decode cX7_isSpelt 17 = .ok (.aload_n 1, 1) := by decide +kernel
theorem dX7_isSpelt_18 : decode cX7_isSpelt 18 = .ok (.invokevirtual 86, 3) := by decide +kernel
theorem dX7_isSpelt_21 : decode cX7_isSpelt 21 = .ok (.if_icmp .ge 29, 3) := by decide +kernel
theorem dX7_isSpelt_24 : decode cX7_isSpelt 24 = .ok (.aload_n 1, 1) := by decide +kernel
theorem dX7_isSpelt_25 : decode cX7_isSpelt 25 = .ok (.iload 4, 2) := by decide +kernel
theorem dX7_isSpelt_27 : decode cX7_isSpelt 27 = .ok (.invokevirtual 92, 3) := by decide +kernel
theorem dX7_isSpelt_30 : decode cX7_isSpelt 30 = .ok (.aload_n 0, 1) := by decide +kernel
theorem dX7_isSpelt_31 : decode cX7_isSpelt 31 = .ok (.getfield 22, 3) := by decide +kernel
theorem dX7_isSpelt_34 : decode cX7_isSpelt 34 = .ok (.iload_n 2, 1) := by decide +kernel
theorem dX7_isSpelt_35 : decode cX7_isSpelt 35 = .ok (.iload 4, 2) := by decide +kernel
theorem dX7_isSpelt_37 : decode cX7_isSpelt 37 = .ok (.iadd, 1) := by decide +kernel
theorem dX7_isSpelt_38 : decode cX7_isSpelt 38 = .ok (.iaload, 1) := by decide +kernel
theorem dX7_isSpelt_39 : decode cX7_isSpelt 39 = .ok (.if_icmp .eq 5, 3) := by decide +kernel
theorem dX7_isSpelt_42 : decode cX7_isSpelt 42 = .ok (.iconst 0, 1) := by decide +kernel
theorem dX7_isSpelt_43 : decode cX7_isSpelt 43 = .ok (.ireturn, 1) := by decide +kernel
theorem dX7_isSpelt_44 : decode cX7_isSpelt 44 = .ok (.iinc 4 1, 3) := by decide +kernel
theorem dX7_isSpelt_47 : decode cX7_isSpelt 47 = .ok (.goto (-32), 3) := by decide +kernel
theorem dX7_isSpelt_50 : decode cX7_isSpelt 50 = .ok (.iconst 1, 1) := by decide +kernel
theorem dX7_isSpelt_51 : decode cX7_isSpelt 51 = .ok (.ireturn, 1) := by decide +kernel
theorem dX7_spelling_0 : decode cX7_spelling 0 = .ok (.iload_n 0, 1) := by decide +kernel
theorem dX7_spelling_1 : decode cX7_spelling 1 = .ok (.tableswitch 120 (-15) (-1) #[117, 114, 111, 108, 105, 102, 99, 96, 93, 90, 87, 84, 81, 78, 75], 75) := by decide +kernel
theorem dX7_spelling_76 : decode cX7_spelling 76 = .ok (.ldc 96, 2) := by decide +kernel
theorem dX7_spelling_78 : decode cX7_spelling 78 = .ok (.areturn, 1) := by decide +kernel
theorem dX7_spelling_79 : decode cX7_spelling 79 = .ok (.ldc 98, 2) := by decide +kernel
theorem dX7_spelling_81 : decode cX7_spelling 81 = .ok (.areturn, 1) := by decide +kernel
theorem dX7_spelling_82 : decode cX7_spelling 82 = .ok (.ldc 100, 2) := by decide +kernel
theorem dX7_spelling_84 : decode cX7_spelling 84 = .ok (.areturn, 1) := by decide +kernel
theorem dX7_spelling_85 : decode cX7_spelling 85 = .ok (.ldc 102, 2) := by decide +kernel
theorem dX7_spelling_87 : decode cX7_spelling 87 = .ok (.areturn, 1) := by decide +kernel
theorem dX7_spelling_88 : decode cX7_spelling 88 = .ok (.ldc 104, 2) := by decide +kernel
theorem dX7_spelling_90 : decode cX7_spelling 90 = .ok (.areturn, 1) := by decide +kernel
theorem dX7_spelling_91 : decode cX7_spelling 91 = .ok (.ldc 106, 2) := by decide +kernel
theorem dX7_spelling_93 : decode cX7_spelling 93 = .ok (.areturn, 1) := by decide +kernel
theorem dX7_spelling_94 : decode cX7_spelling 94 = .ok (.ldc 108, 2) := by decide +kernel
theorem dX7_spelling_96 : decode cX7_spelling 96 = .ok (.areturn, 1) := by decide +kernel
theorem dX7_spelling_97 : decode cX7_spelling 97 = .ok (.ldc 110, 2) := by decide +kernel
theorem dX7_spelling_99 : decode cX7_spelling 99 = .ok (.areturn, 1) := by decide +kernel
theorem dX7_spelling_100 : decode cX7_spelling 100 = .ok (.ldc 112, 2) := by decide +kernel
theorem dX7_spelling_102 : decode cX7_spelling 102 = .ok (.areturn, 1) := by decide +kernel
theorem dX7_spelling_103 : decode cX7_spelling 103 = .ok (.ldc 114, 2) := by decide +kernel
theorem dX7_spelling_105 : decode cX7_spelling 105 = .ok (.areturn, 1) := by decide +kernel
theorem dX7_spelling_106 : decode cX7_spelling 106 = .ok (.ldc 116, 2) := by decide +kernel
theorem dX7_spelling_108 : decode cX7_spelling 108 = .ok (.areturn, 1) := by decide +kernel
theorem dX7_spelling_109 : decode cX7_spelling 109 = .ok (.ldc 118, 2) := by decide +kernel
theorem dX7_spelling_111 : decode cX7_spelling 111 = .ok (.areturn, 1) := by decide +kernel
theorem dX7_spelling_112 : decode cX7_spelling 112 = .ok (.ldc 120, 2) := by decide +kernel
theorem dX7_spelling_114 : decode cX7_spelling 114 = .ok (.areturn, 1) := by decide +kernel
theorem dX7_spelling_115 : decode cX7_spelling 115 = .ok (.ldc 122, 2) := by decide +kernel
theorem dX7_spelling_117 : decode cX7_spelling 117 = .ok (.areturn, 1) := by decide +kernel
theorem dX7_spelling_118 : decode cX7_spelling 118 = .ok (.ldc 124, 2) := by decide +kernel
theorem dX7_spelling_120 : decode cX7_spelling 120 = .ok (.areturn, 1) := by decide +kernel
theorem dX7_spelling_121 : decode cX7_spelling 121 = .ok (.ldc 126, 2) := by decide +kernel
theorem dX7_spelling_123 : decode cX7_spelling 123 = .ok (.areturn, 1) := by decide +kernel
theorem dX7_advance_0 : decode cX7_advance 0 = .ok (.aload_n 0, 1) := by decide +kernel
theorem dX7_advance_1 : decode cX7_advance 1 = .ok (.getfield 51, 3) := by decide +kernel
theorem dX7_advance_4 : decode cX7_advance 4 = .ok (.bipush (-18), 2) := by decide +kernel
theorem dX7_advance_6 : decode cX7_advance 6 = .ok (.if_icmp .eq 26, 3) := by decide +kernel
theorem dX7_advance_9 : decode cX7_advance 9 = .ok (.aload_n 0, 1) := by decide +kernel
theorem dX7_advance_10 : decode cX7_advance 10 = .ok (.dup, 1) := by decide +kernel
theorem dX7_advance_11 : decode cX7_advance 11 = .ok (.getfield 48, 3) := by decide +kernel
theorem dX7_advance_14 : decode cX7_advance 14 = .ok (.iconst 1, 1) := by decide +kernel
theorem dX7_advance_15 : decode cX7_advance 15 = .ok (.iadd, 1) := by decide +kernel
theorem dX7_advance_16 : decode cX7_advance 16 = .ok (.putfield 48, 3) := by decide +kernel
theorem dX7_advance_19 : decode cX7_advance 19 = .ok (.aload_n 0, 1) := by decide +kernel
theorem dX7_advance_20 : decode cX7_advance 20 = .ok (.aload_n 0, 1) := by decide +kernel
theorem dX7_advance_21 : decode cX7_advance 21 = .ok (.getfield 26, 3) := by decide +kernel
theorem dX7_advance_24 : decode cX7_advance 24 = .ok (.aload_n 0, 1) := by decide +kernel
theorem dX7_advance_25 : decode cX7_advance 25 = .ok (.getfield 48, 3) := by decide +kernel
theorem dX7_advance_28 : decode cX7_advance 28 = .ok (.iaload, 1) := by decide +kernel
theorem dX7_advance_29 : decode cX7_advance 29 = .ok (.putfield 51, 3) := by decide +kernel
theorem dX7_advance_32 : decode cX7_advance 32 = .ok (.return_, 1) := by decide +kernel
theorem dX7_refuse_0 : decode cX7_refuse 0 = .ok (.aload_n 0, 1) := by decide +kernel
theorem dX7_refuse_1 : decode cX7_refuse 1 = .ok (.iload_n 1, 1) := by decide +kernel
theorem dX7_refuse_2 : decode cX7_refuse 2 = .ok (.putfield 42, 3) := by decide +kernel
theorem dX7_refuse_5 : decode cX7_refuse 5 = .ok (.aload_n 0, 1) := by decide +kernel
theorem dX7_refuse_6 : decode cX7_refuse 6 = .ok (.aload_n 0, 1) := by decide +kernel
theorem dX7_refuse_7 : decode cX7_refuse 7 = .ok (.getfield 29, 3) := by decide +kernel
theorem dX7_refuse_10 : decode cX7_refuse 10 = .ok (.aload_n 0, 1) := by decide +kernel
theorem dX7_refuse_11 : decode cX7_refuse 11 = .ok (.getfield 48, 3) := by decide +kernel
theorem dX7_refuse_14 : decode cX7_refuse 14 = .ok (.iaload, 1) := by decide +kernel
theorem dX7_refuse_15 : decode cX7_refuse 15 = .ok (.putfield 9, 3) := by decide +kernel
theorem dX7_refuse_18 : decode cX7_refuse 18 = .ok (.iconst 0, 1) := by decide +kernel
theorem dX7_refuse_19 : decode cX7_refuse 19 = .ok (.ireturn, 1) := by decide +kernel
theorem dX7_pass_0 : decode cX7_pass 0 = .ok (.aload_n 0, 1) := by decide +kernel
theorem dX7_pass_1 : decode cX7_pass 1 = .ok (.getfield 51, 3) := by decide +kernel
theorem dX7_pass_4 : decode cX7_pass 4 = .ok (.iload_n 1, 1) := by decide +kernel
theorem dX7_pass_5 : decode cX7_pass 5 = .ok (.if_icmp .eq 9, 3) := by decide +kernel
theorem dX7_pass_8 : decode cX7_pass 8 = .ok (.aload_n 0, 1) := by decide +kernel
theorem dX7_pass_9 : decode cX7_pass 9 = .ok (.iconst 1, 1) := by decide +kernel
theorem dX7_pass_10 : decode cX7_pass 10 = .ok (.invokevirtual 128, 3) := by decide +kernel
theorem dX7_pass_13 : decode cX7_pass 13 = .ok (.ireturn, 1) := by decide +kernel
theorem dX7_pass_14 : decode cX7_pass 14 = .ok (.aload_n 0, 1) := by decide +kernel
theorem dX7_pass_15 : decode cX7_pass 15 = .ok (.invokevirtual 131, 3) := by decide +kernel
theorem dX7_pass_18 : decode cX7_pass 18 = .ok (.iconst 1, 1) := by decide +kernel
theorem dX7_pass_19 : decode cX7_pass 19 = .ok (.ireturn, 1) := by decide +kernel
theorem dX7_open_0 : decode cX7_open 0 = .ok (.aload_n 0, 1) := by decide +kernel
theorem dX7_open_1 : decode cX7_open 1 = .ok (.getfield 51, 3) := by decide +kernel
theorem dX7_open_4 : decode cX7_open 4 = .ok (.iload_n 1, 1) := by decide +kernel
theorem dX7_open_5 : decode cX7_open 5 = .ok (.if_icmp .ne 15, 3) := by decide +kernel
theorem dX7_open_8 : decode cX7_open 8 = .ok (.iload_n 2, 1) := by decide +kernel
theorem dX7_open_9 : decode cX7_open 9 = .ok (.bipush 6, 2) := by decide +kernel
theorem dX7_open_11 : decode cX7_open 11 = .ok (.if_icmp .lt 9, 3) := by decide +kernel
theorem dX7_open_14 : decode cX7_open 14 = .ok (.aload_n 0, 1) := by decide +kernel
theorem dX7_open_15 : decode cX7_open 15 = .ok (.iconst 3, 1) := by decide +kernel
theorem dX7_open_16 : decode cX7_open 16 = .ok (.invokevirtual 128, 3) := by decide +kernel
theorem dX7_open_19 : decode cX7_open 19 = .ok (.ireturn, 1) := by decide +kernel
theorem dX7_open_20 : decode cX7_open 20 = .ok (.aload_n 0, 1) := by decide +kernel
theorem dX7_open_21 : decode cX7_open 21 = .ok (.iload_n 1, 1) := by decide +kernel
theorem dX7_open_22 : decode cX7_open 22 = .ok (.invokevirtual 134, 3) := by decide +kernel
theorem dX7_open_25 : decode cX7_open 25 = .ok (.ireturn, 1) := by decide +kernel
theorem dX7_emit_0 : decode cX7_emit 0 = .ok (.aload_n 0, 1) := by decide +kernel
theorem dX7_emit_1 : decode cX7_emit 1 = .ok (.getfield 18, 3) := by decide +kernel
theorem dX7_emit_4 : decode cX7_emit 4 = .ok (.iload_n 1, 1) := by decide +kernel
theorem dX7_emit_5 : decode cX7_emit 5 = .ok (.aload_n 0, 1) := by decide +kernel
theorem dX7_emit_6 : decode cX7_emit 6 = .ok (.getfield 32, 3) := by decide +kernel
theorem dX7_emit_9 : decode cX7_emit 9 = .ok (.aload_n 0, 1) := by decide +kernel
theorem dX7_emit_10 : decode cX7_emit 10 = .ok (.getfield 48, 3) := by decide +kernel
theorem dX7_emit_13 : decode cX7_emit 13 = .ok (.iaload, 1) := by decide +kernel
theorem dX7_emit_14 : decode cX7_emit 14 = .ok (.invokevirtual 137, 3) := by decide +kernel
theorem dX7_emit_17 : decode cX7_emit 17 = .ok (.iconst 1, 1) := by decide +kernel
theorem dX7_emit_18 : decode cX7_emit 18 = .ok (.ireturn, 1) := by decide +kernel
theorem dX7_readClause_0 : decode cX7_readClause 0 = .ok (.aload_n 0, 1) := by decide +kernel
theorem dX7_readClause_1 : decode cX7_readClause 1 = .ok (.getfield 51, 3) := by decide +kernel
theorem dX7_readClause_4 : decode cX7_readClause 4 = .ok (.istore_n 1, 1) := by decide +kernel
theorem dX7_readClause_5 : decode cX7_readClause 5 = .ok (.iload_n 1, 1) := by decide +kernel
theorem dX7_readClause_6 : decode cX7_readClause 6 = .ok (.bipush (-9), 2) := by decide +kernel
theorem dX7_readClause_8 : decode cX7_readClause 8 = .ok (.if_icmp .eq 9, 3) := by decide +kernel
theorem dX7_readClause_11 : decode cX7_readClause 11 = .ok (.iload_n 1, 1) := by decide +kernel
theorem dX7_readClause_12 : decode cX7_readClause 12 = .ok (.bipush (-10), 2) := by decide +kernel
theorem dX7_readClause_14 : decode cX7_readClause 14 = .ok (.if_icmp .ne 7, 3) := by decide +kernel
theorem dX7_readClause_17 : decode cX7_readClause 17 = .ok (.iconst 1, 1) := by decide +kernel
theorem dX7_readClause_18 : decode cX7_readClause 18 = .ok (.goto 4, 3) := by decide +kernel
theorem dX7_readClause_21 : decode cX7_readClause 21 = .ok (.iconst 0, 1) := by decide +kernel
theorem dX7_readClause_22 : decode cX7_readClause 22 = .ok (.istore_n 2, 1) := by decide +kernel
theorem dX7_readClause_23 : decode cX7_readClause 23 = .ok (.iload_n 2, 1) := by decide +kernel
theorem dX7_readClause_24 : decode cX7_readClause 24 = .ok (.ifCond .ne 21, 3) := by decide +kernel
theorem dX7_readClause_27 : decode cX7_readClause 27 = .ok (.iload_n 1, 1) := by decide +kernel
theorem dX7_readClause_28 : decode cX7_readClause 28 = .ok (.bipush (-11), 2) := by decide +kernel
theorem dX7_readClause_30 : decode cX7_readClause 30 = .ok (.if_icmp .eq 15, 3) := by decide +kernel
theorem dX7_readClause_33 : decode cX7_readClause 33 = .ok (.iload_n 1, 1) := by decide +kernel
theorem dX7_readClause_34 : decode cX7_readClause 34 = .ok (.bipush (-12), 2) := by decide +kernel
theorem dX7_readClause_36 : decode cX7_readClause 36 = .ok (.if_icmp .eq 9, 3) := by decide +kernel
theorem dX7_readClause_39 : decode cX7_readClause 39 = .ok (.aload_n 0, 1) := by decide +kernel
theorem dX7_readClause_40 : decode cX7_readClause 40 = .ok (.iconst 1, 1) := by decide +kernel
theorem dX7_readClause_41 : decode cX7_readClause 41 = .ok (.invokevirtual 128, 3) := by decide +kernel
theorem dX7_readClause_44 : decode cX7_readClause 44 = .ok (.ireturn, 1) := by decide +kernel
theorem dX7_readClause_45 : decode cX7_readClause 45 = .ok (.aload_n 0, 1) := by decide +kernel
theorem dX7_readClause_46 : decode cX7_readClause 46 = .ok (.getfield 18, 3) := by decide +kernel
theorem dX7_readClause_49 : decode cX7_readClause 49 = .ok (.invokevirtual 141, 3) := by decide +kernel
theorem dX7_readClause_52 : decode cX7_readClause 52 = .ok (.ifCond .eq 9, 3) := by decide +kernel
theorem dX7_readClause_55 : decode cX7_readClause 55 = .ok (.aload_n 0, 1) := by decide +kernel
theorem dX7_readClause_56 : decode cX7_readClause 56 = .ok (.iconst 3, 1) := by decide +kernel
theorem dX7_readClause_57 : decode cX7_readClause 57 = .ok (.invokevirtual 128, 3) := by decide +kernel
theorem dX7_readClause_60 : decode cX7_readClause 60 = .ok (.ireturn, 1) := by decide +kernel
theorem dX7_readClause_61 : decode cX7_readClause 61 = .ok (.aload_n 0, 1) := by decide +kernel
theorem dX7_readClause_62 : decode cX7_readClause 62 = .ok (.getfield 18, 3) := by decide +kernel
theorem dX7_readClause_65 : decode cX7_readClause 65 = .ok (.iload_n 1, 1) := by decide +kernel
theorem dX7_readClause_66 : decode cX7_readClause 66 = .ok (.invokevirtual 144, 3) := by decide +kernel
theorem dX7_readClause_69 : decode cX7_readClause 69 = .ok (.aload_n 0, 1) := by decide +kernel
theorem dX7_readClause_70 : decode cX7_readClause 70 = .ok (.invokevirtual 131, 3) := by decide +kernel
theorem dX7_readClause_73 : decode cX7_readClause 73 = .ok (.iload_n 2, 1) := by decide +kernel
theorem dX7_readClause_74 : decode cX7_readClause 74 = .ok (.ifCond .eq 13, 3) := by decide +kernel
theorem dX7_readClause_77 : decode cX7_readClause 77 = .ok (.aload_n 0, 1) := by decide +kernel
theorem dX7_readClause_78 : decode cX7_readClause 78 = .ok (.iconst 0, 1) := by decide +kernel
theorem dX7_readClause_79 : decode cX7_readClause 79 = .ok (.invokevirtual 147, 3) := by decide +kernel
theorem dX7_readClause_82 : decode cX7_readClause 82 = .ok (.ifCond .ne 5, 3) := by decide +kernel
theorem dX7_readClause_85 : decode cX7_readClause 85 = .ok (.iconst 0, 1) := by decide +kernel
theorem dX7_readClause_86 : decode cX7_readClause 86 = .ok (.ireturn, 1) := by decide +kernel
theorem dX7_readClause_87 : decode cX7_readClause 87 = .ok (.aload_n 0, 1) := by decide +kernel
theorem dX7_readClause_88 : decode cX7_readClause 88 = .ok (.getfield 18, 3) := by decide +kernel
theorem dX7_readClause_91 : decode cX7_readClause 91 = .ok (.invokevirtual 150, 3) := by decide +kernel
theorem dX7_readClause_94 : decode cX7_readClause 94 = .ok (.iload_n 2, 1) := by decide +kernel
theorem dX7_readClause_95 : decode cX7_readClause 95 = .ok (.ifCond .eq 12, 3) := by decide +kernel
theorem dX7_readClause_98 : decode cX7_readClause 98 = .ok (.aload_n 0, 1) := by decide +kernel
theorem dX7_readClause_99 : decode cX7_readClause 99 = .ok (.getfield 51, 3) := by decide +kernel
theorem dX7_readClause_102 : decode cX7_readClause 102 = .ok (.bipush (-13), 2) := by decide +kernel
theorem dX7_readClause_104 : decode cX7_readClause 104 = .ok (.if_icmp .ne 22, 3) := by decide +kernel
theorem dX7_readClause_107 : decode cX7_readClause 107 = .ok (.aload_n 0, 1) := by decide +kernel
theorem dX7_readClause_108 : decode cX7_readClause 108 = .ok (.bipush (-13), 2) := by decide +kernel
theorem dX7_readClause_110 : decode cX7_readClause 110 = .ok (.invokevirtual 134, 3) := by decide +kernel
theorem dX7_readClause_113 : decode cX7_readClause 113 = .ok (.ifCond .eq 11, 3) := by decide +kernel
theorem dX7_readClause_116 : decode cX7_readClause 116 = .ok (.aload_n 0, 1) := by decide +kernel
theorem dX7_readClause_117 : decode cX7_readClause 117 = .ok (.iconst 0, 1) := by decide +kernel
theorem dX7_readClause_118 : decode cX7_readClause 118 = .ok (.invokevirtual 153, 3) := by decide +kernel
theorem dX7_readClause_121 : decode cX7_readClause 121 = .ok (.ifCond .ne 5, 3) := by decide +kernel
theorem dX7_readClause_124 : decode cX7_readClause 124 = .ok (.iconst 0, 1) := by decide +kernel
theorem dX7_readClause_125 : decode cX7_readClause 125 = .ok (.ireturn, 1) := by decide +kernel
theorem dX7_readClause_126 : decode cX7_readClause 126 = .ok (.aload_n 0, 1) := by decide +kernel
theorem dX7_readClause_127 : decode cX7_readClause 127 = .ok (.bipush 59, 2) := by decide +kernel
theorem dX7_readClause_129 : decode cX7_readClause 129 = .ok (.invokevirtual 134, 3) := by decide +kernel
theorem dX7_readClause_132 : decode cX7_readClause 132 = .ok (.ifCond .ne 5, 3) := by decide +kernel
theorem dX7_readClause_135 : decode cX7_readClause 135 = .ok (.iconst 0, 1) := by decide +kernel
theorem dX7_readClause_136 : decode cX7_readClause 136 = .ok (.ireturn, 1) := by decide +kernel
theorem dX7_readClause_137 : decode cX7_readClause 137 = .ok (.aload_n 0, 1) := by decide +kernel
theorem dX7_readClause_138 : decode cX7_readClause 138 = .ok (.getfield 18, 3) := by decide +kernel
theorem dX7_readClause_141 : decode cX7_readClause 141 = .ok (.invokevirtual 156, 3) := by decide +kernel
theorem dX7_readClause_144 : decode cX7_readClause 144 = .ok (.iconst 1, 1) := by decide +kernel
theorem dX7_readClause_145 : decode cX7_readClause 145 = .ok (.ireturn, 1) := by decide +kernel
theorem dX7_readSum_0 : decode cX7_readSum 0 = .ok (.aload_n 0, 1) := by decide +kernel
theorem dX7_readSum_1 : decode cX7_readSum 1 = .ok (.iload_n 1, 1) := by decide +kernel
theorem dX7_readSum_2 : decode cX7_readSum 2 = .ok (.invokevirtual 159, 3) := by decide +kernel
theorem dX7_readSum_5 : decode cX7_readSum 5 = .ok (.ifCond .ne 5, 3) := by decide +kernel
theorem dX7_readSum_8 : decode cX7_readSum 8 = .ok (.iconst 0, 1) := by decide +kernel
theorem dX7_readSum_9 : decode cX7_readSum 9 = .ok (.ireturn, 1) := by decide +kernel
theorem dX7_readSum_10 : decode cX7_readSum 10 = .ok (.iconst 0, 1) := by decide +kernel
theorem dX7_readSum_11 : decode cX7_readSum 11 = .ok (.istore_n 2, 1) := by decide +kernel
theorem dX7_readSum_12 : decode cX7_readSum 12 = .ok (.iload_n 2, 1) := by decide +kernel
theorem dX7_readSum_13 : decode cX7_readSum 13 = .ok (.sipush 400, 3) := by decide +kernel
theorem dX7_readSum_16 : decode cX7_readSum 16 = .ok (.if_icmp .ge 64, 3) := by decide +kernel
theorem dX7_readSum_19 : decode cX7_readSum 19 = .ok (.aload_n 0, 1) := by decide +kernel
theorem dX7_readSum_20 : decode cX7_readSum 20 = .ok (.getfield 51, 3) := by decide +kernel
theorem dX7_readSum_23 : decode cX7_readSum 23 = .ok (.bipush 43, 2) := by decide +kernel
theorem dX7_readSum_25 : decode cX7_readSum 25 = .ok (.if_icmp .eq 12, 3) := by decide +kernel
theorem dX7_readSum_28 : decode cX7_readSum 28 = .ok (.aload_n 0, 1) := by decide +kernel
theorem dX7_readSum_29 : decode cX7_readSum 29 = .ok (.getfield 51, 3) := by decide +kernel
theorem dX7_readSum_32 : decode cX7_readSum 32 = .ok (.bipush 45, 2) := by decide +kernel
theorem dX7_readSum_34 : decode cX7_readSum 34 = .ok (.if_icmp .ne 46, 3) := by decide +kernel
theorem dX7_readSum_37 : decode cX7_readSum 37 = .ok (.aload_n 0, 1) := by decide +kernel
theorem dX7_readSum_38 : decode cX7_readSum 38 = .ok (.getfield 51, 3) := by decide +kernel
theorem dX7_readSum_41 : decode cX7_readSum 41 = .ok (.bipush 43, 2) := by decide +kernel
theorem dX7_readSum_43 : decode cX7_readSum 43 = .ok (.if_icmp .ne 8, 3) := by decide +kernel
theorem dX7_readSum_46 : decode cX7_readSum 46 = .ok (.bipush 8, 2) := by decide +kernel
theorem dX7_readSum_48 : decode cX7_readSum 48 = .ok (.goto 5, 3) := by decide +kernel
theorem dX7_readSum_51 : decode cX7_readSum 51 = .ok (.bipush 9, 2) := by decide +kernel
theorem dX7_readSum_53 : decode cX7_readSum 53 = .ok (.istore_n 3, 1) := by decide +kernel
theorem dX7_readSum_54 : decode cX7_readSum 54 = .ok (.aload_n 0, 1) := by decide +kernel
theorem dX7_readSum_55 : decode cX7_readSum 55 = .ok (.invokevirtual 131, 3) := by decide +kernel
theorem dX7_readSum_58 : decode cX7_readSum 58 = .ok (.aload_n 0, 1) := by decide +kernel
theorem dX7_readSum_59 : decode cX7_readSum 59 = .ok (.iload_n 1, 1) := by decide +kernel
theorem dX7_readSum_60 : decode cX7_readSum 60 = .ok (.invokevirtual 159, 3) := by decide +kernel
theorem dX7_readSum_63 : decode cX7_readSum 63 = .ok (.ifCond .ne 5, 3) := by decide +kernel
theorem dX7_readSum_66 : decode cX7_readSum 66 = .ok (.iconst 0, 1) := by decide +kernel
theorem dX7_readSum_67 : decode cX7_readSum 67 = .ok (.ireturn, 1) := by decide +kernel
theorem dX7_readSum_68 : decode cX7_readSum 68 = .ok (.aload_n 0, 1) := by decide +kernel
theorem dX7_readSum_69 : decode cX7_readSum 69 = .ok (.iload_n 3, 1) := by decide +kernel
theorem dX7_readSum_70 : decode cX7_readSum 70 = .ok (.invokevirtual 162, 3) := by decide +kernel
theorem dX7_readSum_73 : decode cX7_readSum 73 = .ok (.pop, 1) := by decide +kernel
theorem dX7_readSum_74 : decode cX7_readSum 74 = .ok (.iinc 2 1, 3) := by decide +kernel
theorem dX7_readSum_77 : decode cX7_readSum 77 = .ok (.goto (-65), 3) := by decide +kernel
theorem dX7_readSum_80 : decode cX7_readSum 80 = .ok (.iconst 1, 1) := by decide +kernel
theorem dX7_readSum_81 : decode cX7_readSum 81 = .ok (.ireturn, 1) := by decide +kernel
theorem dX7_readProduct_0 : decode cX7_readProduct 0 = .ok (.aload_n 0, 1) := by decide +kernel
theorem dX7_readProduct_1 : decode cX7_readProduct 1 = .ok (.iload_n 1, 1) := by decide +kernel
theorem dX7_readProduct_2 : decode cX7_readProduct 2 = .ok (.invokevirtual 164, 3) := by decide +kernel
theorem dX7_readProduct_5 : decode cX7_readProduct 5 = .ok (.ifCond .ne 5, 3) := by decide +kernel
theorem dX7_readProduct_8 : decode cX7_readProduct 8 = .ok (.iconst 0, 1) := by decide +kernel
theorem dX7_readProduct_9 : decode cX7_readProduct 9 = .ok (.ireturn, 1) := by decide +kernel
theorem dX7_readProduct_10 : decode cX7_readProduct 10 = .ok (.iconst 0, 1) := by decide +kernel
theorem dX7_readProduct_11 : decode cX7_readProduct 11 = .ok (.istore_n 2, 1) := by decide +kernel
theorem dX7_readProduct_12 : decode cX7_readProduct 12 = .ok (.iload_n 2, 1) := by decide +kernel
theorem dX7_readProduct_13 : decode cX7_readProduct 13 = .ok (.sipush 400, 3) := by decide +kernel
theorem dX7_readProduct_16 : decode cX7_readProduct 16 = .ok (.if_icmp .ge 64, 3) := by decide +kernel
theorem dX7_readProduct_19 : decode cX7_readProduct 19 = .ok (.aload_n 0, 1) := by decide +kernel
theorem dX7_readProduct_20 : decode cX7_readProduct 20 = .ok (.getfield 51, 3) := by decide +kernel
theorem dX7_readProduct_23 : decode cX7_readProduct 23 = .ok (.bipush 42, 2) := by decide +kernel
theorem dX7_readProduct_25 : decode cX7_readProduct 25 = .ok (.if_icmp .eq 12, 3) := by decide +kernel
theorem dX7_readProduct_28 : decode cX7_readProduct 28 = .ok (.aload_n 0, 1) := by decide +kernel
theorem dX7_readProduct_29 : decode cX7_readProduct 29 = .ok (.getfield 51, 3) := by decide +kernel
theorem dX7_readProduct_32 : decode cX7_readProduct 32 = .ok (.bipush 47, 2) := by decide +kernel
theorem dX7_readProduct_34 : decode cX7_readProduct 34 = .ok (.if_icmp .ne 46, 3) := by decide +kernel
theorem dX7_readProduct_37 : decode cX7_readProduct 37 = .ok (.aload_n 0, 1) := by decide +kernel
theorem dX7_readProduct_38 : decode cX7_readProduct 38 = .ok (.getfield 51, 3) := by decide +kernel
theorem dX7_readProduct_41 : decode cX7_readProduct 41 = .ok (.bipush 42, 2) := by decide +kernel
theorem dX7_readProduct_43 : decode cX7_readProduct 43 = .ok (.if_icmp .ne 8, 3) := by decide +kernel
theorem dX7_readProduct_46 : decode cX7_readProduct 46 = .ok (.bipush 10, 2) := by decide +kernel
theorem dX7_readProduct_48 : decode cX7_readProduct 48 = .ok (.goto 5, 3) := by decide +kernel
theorem dX7_readProduct_51 : decode cX7_readProduct 51 = .ok (.bipush 11, 2) := by decide +kernel
theorem dX7_readProduct_53 : decode cX7_readProduct 53 = .ok (.istore_n 3, 1) := by decide +kernel
theorem dX7_readProduct_54 : decode cX7_readProduct 54 = .ok (.aload_n 0, 1) := by decide +kernel
theorem dX7_readProduct_55 : decode cX7_readProduct 55 = .ok (.invokevirtual 131, 3) := by decide +kernel
theorem dX7_readProduct_58 : decode cX7_readProduct 58 = .ok (.aload_n 0, 1) := by decide +kernel
theorem dX7_readProduct_59 : decode cX7_readProduct 59 = .ok (.iload_n 1, 1) := by decide +kernel
theorem dX7_readProduct_60 : decode cX7_readProduct 60 = .ok (.invokevirtual 164, 3) := by decide +kernel
theorem dX7_readProduct_63 : decode cX7_readProduct 63 = .ok (.ifCond .ne 5, 3) := by decide +kernel
theorem dX7_readProduct_66 : decode cX7_readProduct 66 = .ok (.iconst 0, 1) := by decide +kernel
theorem dX7_readProduct_67 : decode cX7_readProduct 67 = .ok (.ireturn, 1) := by decide +kernel
theorem dX7_readProduct_68 : decode cX7_readProduct 68 = .ok (.aload_n 0, 1) := by decide +kernel
theorem dX7_readProduct_69 : decode cX7_readProduct 69 = .ok (.iload_n 3, 1) := by decide +kernel
theorem dX7_readProduct_70 : decode cX7_readProduct 70 = .ok (.invokevirtual 162, 3) := by decide +kernel
theorem dX7_readProduct_73 : decode cX7_readProduct 73 = .ok (.pop, 1) := by decide +kernel
theorem dX7_readProduct_74 : decode cX7_readProduct 74 = .ok (.iinc 2 1, 3) := by decide +kernel
theorem dX7_readProduct_77 : decode cX7_readProduct 77 = .ok (.goto (-65), 3) := by decide +kernel
theorem dX7_readProduct_80 : decode cX7_readProduct 80 = .ok (.iconst 1, 1) := by decide +kernel
theorem dX7_readProduct_81 : decode cX7_readProduct 81 = .ok (.ireturn, 1) := by decide +kernel
theorem dX7_readUnit_0 : decode cX7_readUnit 0 = .ok (.aload_n 0, 1) := by decide +kernel
theorem dX7_readUnit_1 : decode cX7_readUnit 1 = .ok (.getfield 51, 3) := by decide +kernel
theorem dX7_readUnit_4 : decode cX7_readUnit 4 = .ok (.bipush (-17), 2) := by decide +kernel
theorem dX7_readUnit_6 : decode cX7_readUnit 6 = .ok (.if_icmp .ne 37, 3) := by decide +kernel
theorem dX7_readUnit_9 : decode cX7_readUnit 9 = .ok (.aload_n 0, 1) := by decide +kernel
theorem dX7_readUnit_10 : decode cX7_readUnit 10 = .ok (.getfield 32, 3) := by decide +kernel
theorem dX7_readUnit_13 : decode cX7_readUnit 13 = .ok (.aload_n 0, 1) := by decide +kernel
theorem dX7_readUnit_14 : decode cX7_readUnit 14 = .ok (.getfield 48, 3) := by decide +kernel
theorem dX7_readUnit_17 : decode cX7_readUnit 17 = .ok (.iaload, 1) := by decide +kernel
theorem dX7_readUnit_18 : decode cX7_readUnit 18 = .ok (.sipush 9999, 3) := by decide +kernel
theorem dX7_readUnit_21 : decode cX7_readUnit 21 = .ok (.if_icmp .le 9, 3) := by decide +kernel
theorem dX7_readUnit_24 : decode cX7_readUnit 24 = .ok (.aload_n 0, 1) := by decide +kernel
theorem dX7_readUnit_25 : decode cX7_readUnit 25 = .ok (.iconst 2, 1) := by decide +kernel
theorem dX7_readUnit_26 : decode cX7_readUnit 26 = .ok (.invokevirtual 128, 3) := by decide +kernel
theorem dX7_readUnit_29 : decode cX7_readUnit 29 = .ok (.ireturn, 1) := by decide +kernel
theorem dX7_readUnit_30 : decode cX7_readUnit 30 = .ok (.aload_n 0, 1) := by decide +kernel
theorem dX7_readUnit_31 : decode cX7_readUnit 31 = .ok (.bipush 6, 2) := by decide +kernel
theorem dX7_readUnit_33 : decode cX7_readUnit 33 = .ok (.invokevirtual 162, 3) := by decide +kernel
theorem dX7_readUnit_36 : decode cX7_readUnit 36 = .ok (.pop, 1) := by decide +kernel
theorem dX7_readUnit_37 : decode cX7_readUnit 37 = .ok (.aload_n 0, 1) := by decide +kernel
theorem dX7_readUnit_38 : decode cX7_readUnit 38 = .ok (.invokevirtual 131, 3) := by decide +kernel
theorem dX7_readUnit_41 : decode cX7_readUnit 41 = .ok (.iconst 1, 1) := by decide +kernel
theorem dX7_readUnit_42 : decode cX7_readUnit 42 = .ok (.ireturn, 1) := by decide +kernel
theorem dX7_readUnit_43 : decode cX7_readUnit 43 = .ok (.aload_n 0, 1) := by decide +kernel
theorem dX7_readUnit_44 : decode cX7_readUnit 44 = .ok (.getfield 51, 3) := by decide +kernel
theorem dX7_readUnit_47 : decode cX7_readUnit 47 = .ok (.iconst (-1), 1) := by decide +kernel
theorem dX7_readUnit_48 : decode cX7_readUnit 48 = .ok (.if_icmp .gt 29, 3) := by decide +kernel
theorem dX7_readUnit_51 : decode cX7_readUnit 51 = .ok (.aload_n 0, 1) := by decide +kernel
theorem dX7_readUnit_52 : decode cX7_readUnit 52 = .ok (.getfield 51, 3) := by decide +kernel
theorem dX7_readUnit_55 : decode cX7_readUnit 55 = .ok (.bipush (-6), 2) := by decide +kernel
theorem dX7_readUnit_57 : decode cX7_readUnit 57 = .ok (.if_icmp .lt 20, 3) := by decide +kernel
theorem dX7_readUnit_60 : decode cX7_readUnit 60 = .ok (.aload_n 0, 1) := by decide +kernel
theorem dX7_readUnit_61 : decode cX7_readUnit 61 = .ok (.iconst (-1), 1) := by decide +kernel
theorem dX7_readUnit_62 : decode cX7_readUnit 62 = .ok (.aload_n 0, 1) := by decide +kernel
theorem dX7_readUnit_63 : decode cX7_readUnit 63 = .ok (.getfield 51, 3) := by decide +kernel
theorem dX7_readUnit_66 : decode cX7_readUnit 66 = .ok (.isub, 1) := by decide +kernel
theorem dX7_readUnit_67 : decode cX7_readUnit 67 = .ok (.invokevirtual 162, 3) := by decide +kernel
theorem dX7_readUnit_70 : decode cX7_readUnit 70 = .ok (.pop, 1) := by decide +kernel
theorem dX7_readUnit_71 : decode cX7_readUnit 71 = .ok (.aload_n 0, 1) := by decide +kernel
theorem dX7_readUnit_72 : decode cX7_readUnit 72 = .ok (.invokevirtual 131, 3) := by decide +kernel
theorem dX7_readUnit_75 : decode cX7_readUnit 75 = .ok (.iconst 1, 1) := by decide +kernel
theorem dX7_readUnit_76 : decode cX7_readUnit 76 = .ok (.ireturn, 1) := by decide +kernel
theorem dX7_readUnit_77 : decode cX7_readUnit 77 = .ok (.aload_n 0, 1) := by decide +kernel
theorem dX7_readUnit_78 : decode cX7_readUnit 78 = .ok (.getfield 51, 3) := by decide +kernel
theorem dX7_readUnit_81 : decode cX7_readUnit 81 = .ok (.bipush (-7), 2) := by decide +kernel
theorem dX7_readUnit_83 : decode cX7_readUnit 83 = .ok (.if_icmp .eq 12, 3) := by decide +kernel
theorem dX7_readUnit_86 : decode cX7_readUnit 86 = .ok (.aload_n 0, 1) := by decide +kernel
theorem dX7_readUnit_87 : decode cX7_readUnit 87 = .ok (.getfield 51, 3) := by decide +kernel
theorem dX7_readUnit_90 : decode cX7_readUnit 90 = .ok (.bipush (-8), 2) := by decide +kernel
theorem dX7_readUnit_92 : decode cX7_readUnit 92 = .ok (.if_icmp .ne 86, 3) := by decide +kernel
theorem dX7_readUnit_95 : decode cX7_readUnit 95 = .ok (.aload_n 0, 1) := by decide +kernel
theorem dX7_readUnit_96 : decode cX7_readUnit 96 = .ok (.getfield 51, 3) := by decide +kernel
theorem dX7_readUnit_99 : decode cX7_readUnit 99 = .ok (.bipush (-7), 2) := by decide +kernel
theorem dX7_readUnit_101 : decode cX7_readUnit 101 = .ok (.if_icmp .ne 8, 3) := by decide +kernel
theorem dX7_readUnit_104 : decode cX7_readUnit 104 = .ok (.bipush 12, 2) := by decide +kernel
theorem dX7_readUnit_106 : decode cX7_readUnit 106 = .ok (.goto 5, 3) := by decide +kernel
theorem dX7_readUnit_109 : decode cX7_readUnit 109 = .ok (.bipush 13, 2) := by decide +kernel
theorem dX7_readUnit_111 : decode cX7_readUnit 111 = .ok (.istore_n 2, 1) := by decide +kernel
theorem dX7_readUnit_112 : decode cX7_readUnit 112 = .ok (.aload_n 0, 1) := by decide +kernel
theorem dX7_readUnit_113 : decode cX7_readUnit 113 = .ok (.invokevirtual 131, 3) := by decide +kernel
theorem dX7_readUnit_116 : decode cX7_readUnit 116 = .ok (.aload_n 0, 1) := by decide +kernel
theorem dX7_readUnit_117 : decode cX7_readUnit 117 = .ok (.bipush 40, 2) := by decide +kernel
theorem dX7_readUnit_119 : decode cX7_readUnit 119 = .ok (.iload_n 1, 1) := by decide +kernel
theorem dX7_readUnit_120 : decode cX7_readUnit 120 = .ok (.invokevirtual 167, 3) := by decide +kernel
theorem dX7_readUnit_123 : decode cX7_readUnit 123 = .ok (.ifCond .eq 53, 3) := by decide +kernel
theorem dX7_readUnit_126 : decode cX7_readUnit 126 = .ok (.aload_n 0, 1) := by decide +kernel
theorem dX7_readUnit_127 : decode cX7_readUnit 127 = .ok (.iload_n 1, 1) := by decide +kernel
theorem dX7_readUnit_128 : decode cX7_readUnit 128 = .ok (.iconst 1, 1) := by decide +kernel
theorem dX7_readUnit_129 : decode cX7_readUnit 129 = .ok (.iadd, 1) := by decide +kernel
theorem dX7_readUnit_130 : decode cX7_readUnit 130 = .ok (.invokevirtual 147, 3) := by decide +kernel
theorem dX7_readUnit_133 : decode cX7_readUnit 133 = .ok (.ifCond .eq 43, 3) := by decide +kernel
theorem dX7_readUnit_136 : decode cX7_readUnit 136 = .ok (.aload_n 0, 1) := by decide +kernel
theorem dX7_readUnit_137 : decode cX7_readUnit 137 = .ok (.bipush 44, 2) := by decide +kernel
theorem dX7_readUnit_139 : decode cX7_readUnit 139 = .ok (.invokevirtual 134, 3) := by decide +kernel
theorem dX7_readUnit_142 : decode cX7_readUnit 142 = .ok (.ifCond .eq 34, 3) := by decide +kernel
theorem dX7_readUnit_145 : decode cX7_readUnit 145 = .ok (.aload_n 0, 1) := by decide +kernel
theorem dX7_readUnit_146 : decode cX7_readUnit 146 = .ok (.iload_n 1, 1) := by decide +kernel
theorem dX7_readUnit_147 : decode cX7_readUnit 147 = .ok (.iconst 1, 1) := by decide +kernel
theorem dX7_readUnit_148 : decode cX7_readUnit 148 = .ok (.iadd, 1) := by decide +kernel
theorem dX7_readUnit_149 : decode cX7_readUnit 149 = .ok (.invokevirtual 147, 3) := by decide +kernel
theorem dX7_readUnit_152 : decode cX7_readUnit 152 = .ok (.ifCond .eq 24, 3) := by decide +kernel
theorem dX7_readUnit_155 : decode cX7_readUnit 155 = .ok (.aload_n 0, 1) := by decide +kernel
theorem dX7_readUnit_156 : decode cX7_readUnit 156 = .ok (.bipush 41, 2) := by decide +kernel
theorem dX7_readUnit_158 : decode cX7_readUnit 158 = .ok (.invokevirtual 134, 3) := by decide +kernel
theorem dX7_readUnit_161 : decode cX7_readUnit 161 = .ok (.ifCond .eq 15, 3) := by decide +kernel
theorem dX7_readUnit_164 : decode cX7_readUnit 164 = .ok (.aload_n 0, 1) := by decide +kernel
theorem dX7_readUnit_165 : decode cX7_readUnit 165 = .ok (.iload_n 2, 1) := by decide +kernel
theorem dX7_readUnit_166 : decode cX7_readUnit 166 = .ok (.invokevirtual 162, 3) := by decide +kernel
theorem dX7_readUnit_169 : decode cX7_readUnit 169 = .ok (.ifCond .eq 7, 3) := by decide +kernel
theorem dX7_readUnit_172 : decode cX7_readUnit 172 = .ok (.iconst 1, 1) := by decide +kernel
theorem dX7_readUnit_173 : decode cX7_readUnit 173 = .ok (.goto 4, 3) := by decide +kernel
theorem dX7_readUnit_176 : decode cX7_readUnit 176 = .ok (.iconst 0, 1) := by decide +kernel
theorem dX7_readUnit_177 : decode cX7_readUnit 177 = .ok (.ireturn, 1) := by decide +kernel
theorem dX7_readUnit_178 : decode cX7_readUnit 178 = .ok (.aload_n 0, 1) := by decide +kernel
theorem dX7_readUnit_179 : decode cX7_readUnit 179 = .ok (.bipush 40, 2) := by decide +kernel
theorem dX7_readUnit_181 : decode cX7_readUnit 181 = .ok (.iload_n 1, 1) := by decide +kernel
theorem dX7_readUnit_182 : decode cX7_readUnit 182 = .ok (.invokevirtual 167, 3) := by decide +kernel
theorem dX7_readUnit_185 : decode cX7_readUnit 185 = .ok (.ifCond .eq 26, 3) := by decide +kernel
theorem dX7_readUnit_188 : decode cX7_readUnit 188 = .ok (.aload_n 0, 1) := by decide +kernel
theorem dX7_readUnit_189 : decode cX7_readUnit 189 = .ok (.iload_n 1, 1) := by decide +kernel
theorem dX7_readUnit_190 : decode cX7_readUnit 190 = .ok (.iconst 1, 1) := by decide +kernel
theorem dX7_readUnit_191 : decode cX7_readUnit 191 = .ok (.iadd, 1) := by decide +kernel
theorem dX7_readUnit_192 : decode cX7_readUnit 192 = .ok (.invokevirtual 147, 3) := by decide +kernel
theorem dX7_readUnit_195 : decode cX7_readUnit 195 = .ok (.ifCond .eq 16, 3) := by decide +kernel
theorem dX7_readUnit_198 : decode cX7_readUnit 198 = .ok (.aload_n 0, 1) := by decide +kernel
theorem dX7_readUnit_199 : decode cX7_readUnit 199 = .ok (.bipush 41, 2) := by decide +kernel
theorem dX7_readUnit_201 : decode cX7_readUnit 201 = .ok (.invokevirtual 134, 3) := by decide +kernel
theorem dX7_readUnit_204 : decode cX7_readUnit 204 = .ok (.ifCond .eq 7, 3) := by decide +kernel
theorem dX7_readUnit_207 : decode cX7_readUnit 207 = .ok (.iconst 1, 1) := by decide +kernel
theorem dX7_readUnit_208 : decode cX7_readUnit 208 = .ok (.goto 4, 3) := by decide +kernel
theorem dX7_readUnit_211 : decode cX7_readUnit 211 = .ok (.iconst 0, 1) := by decide +kernel
theorem dX7_readUnit_212 : decode cX7_readUnit 212 = .ok (.ireturn, 1) := by decide +kernel
theorem dX7_readAny_0 : decode cX7_readAny 0 = .ok (.aload_n 0, 1) := by decide +kernel
theorem dX7_readAny_1 : decode cX7_readAny 1 = .ok (.iload_n 1, 1) := by decide +kernel
theorem dX7_readAny_2 : decode cX7_readAny 2 = .ok (.invokevirtual 170, 3) := by decide +kernel
theorem dX7_readAny_5 : decode cX7_readAny 5 = .ok (.ifCond .ne 5, 3) := by decide +kernel
theorem dX7_readAny_8 : decode cX7_readAny 8 = .ok (.iconst 0, 1) := by decide +kernel
theorem dX7_readAny_9 : decode cX7_readAny 9 = .ok (.ireturn, 1) := by decide +kernel
theorem dX7_readAny_10 : decode cX7_readAny 10 = .ok (.iconst 0, 1) := by decide +kernel
theorem dX7_readAny_11 : decode cX7_readAny 11 = .ok (.istore_n 2, 1) := by decide +kernel
theorem dX7_readAny_12 : decode cX7_readAny 12 = .ok (.iload_n 2, 1) := by decide +kernel
theorem dX7_readAny_13 : decode cX7_readAny 13 = .ok (.sipush 400, 3) := by decide +kernel
theorem dX7_readAny_16 : decode cX7_readAny 16 = .ok (.if_icmp .ge 39, 3) := by decide +kernel
theorem dX7_readAny_19 : decode cX7_readAny 19 = .ok (.aload_n 0, 1) := by decide +kernel
theorem dX7_readAny_20 : decode cX7_readAny 20 = .ok (.getfield 51, 3) := by decide +kernel
theorem dX7_readAny_23 : decode cX7_readAny 23 = .ok (.bipush (-14), 2) := by decide +kernel
theorem dX7_readAny_25 : decode cX7_readAny 25 = .ok (.if_icmp .ne 30, 3) := by decide +kernel
theorem dX7_readAny_28 : decode cX7_readAny 28 = .ok (.aload_n 0, 1) := by decide +kernel
theorem dX7_readAny_29 : decode cX7_readAny 29 = .ok (.invokevirtual 131, 3) := by decide +kernel
theorem dX7_readAny_32 : decode cX7_readAny 32 = .ok (.aload_n 0, 1) := by decide +kernel
theorem dX7_readAny_33 : decode cX7_readAny 33 = .ok (.iload_n 1, 1) := by decide +kernel
theorem dX7_readAny_34 : decode cX7_readAny 34 = .ok (.invokevirtual 170, 3) := by decide +kernel
theorem dX7_readAny_37 : decode cX7_readAny 37 = .ok (.ifCond .ne 5, 3) := by decide +kernel
theorem dX7_readAny_40 : decode cX7_readAny 40 = .ok (.iconst 0, 1) := by decide +kernel
theorem dX7_readAny_41 : decode cX7_readAny 41 = .ok (.ireturn, 1) := by decide +kernel
theorem dX7_readAny_42 : decode cX7_readAny 42 = .ok (.aload_n 0, 1) := by decide +kernel
theorem dX7_readAny_43 : decode cX7_readAny 43 = .ok (.bipush 17, 2) := by decide +kernel
theorem dX7_readAny_45 : decode cX7_readAny 45 = .ok (.invokevirtual 162, 3) := by decide +kernel
theorem dX7_readAny_48 : decode cX7_readAny 48 = .ok (.pop, 1) := by decide +kernel
theorem dX7_readAny_49 : decode cX7_readAny 49 = .ok (.iinc 2 1, 3) := by decide +kernel
theorem dX7_readAny_52 : decode cX7_readAny 52 = .ok (.goto (-40), 3) := by decide +kernel
theorem dX7_readAny_55 : decode cX7_readAny 55 = .ok (.iconst 1, 1) := by decide +kernel
theorem dX7_readAny_56 : decode cX7_readAny 56 = .ok (.ireturn, 1) := by decide +kernel
theorem dX7_readEach_0 : decode cX7_readEach 0 = .ok (.aload_n 0, 1) := by decide +kernel
theorem dX7_readEach_1 : decode cX7_readEach 1 = .ok (.iload_n 1, 1) := by decide +kernel
theorem dX7_readEach_2 : decode cX7_readEach 2 = .ok (.invokevirtual 173, 3) := by decide +kernel
theorem dX7_readEach_5 : decode cX7_readEach 5 = .ok (.ifCond .ne 5, 3) := by decide +kernel
theorem dX7_readEach_8 : decode cX7_readEach 8 = .ok (.iconst 0, 1) := by decide +kernel
theorem dX7_readEach_9 : decode cX7_readEach 9 = .ok (.ireturn, 1) := by decide +kernel
theorem dX7_readEach_10 : decode cX7_readEach 10 = .ok (.iconst 0, 1) := by decide +kernel
theorem dX7_readEach_11 : decode cX7_readEach 11 = .ok (.istore_n 2, 1) := by decide +kernel
theorem dX7_readEach_12 : decode cX7_readEach 12 = .ok (.iload_n 2, 1) := by decide +kernel
theorem dX7_readEach_13 : decode cX7_readEach 13 = .ok (.sipush 400, 3) := by decide +kernel
theorem dX7_readEach_16 : decode cX7_readEach 16 = .ok (.if_icmp .ge 39, 3) := by decide +kernel
theorem dX7_readEach_19 : decode cX7_readEach 19 = .ok (.aload_n 0, 1) := by decide +kernel
theorem dX7_readEach_20 : decode cX7_readEach 20 = .ok (.getfield 51, 3) := by decide +kernel
theorem dX7_readEach_23 : decode cX7_readEach 23 = .ok (.bipush (-15), 2) := by decide +kernel
theorem dX7_readEach_25 : decode cX7_readEach 25 = .ok (.if_icmp .ne 30, 3) := by decide +kernel
theorem dX7_readEach_28 : decode cX7_readEach 28 = .ok (.aload_n 0, 1) := by decide +kernel
theorem dX7_readEach_29 : decode cX7_readEach 29 = .ok (.invokevirtual 131, 3) := by decide +kernel
theorem dX7_readEach_32 : decode cX7_readEach 32 = .ok (.aload_n 0, 1) := by decide +kernel
theorem dX7_readEach_33 : decode cX7_readEach 33 = .ok (.iload_n 1, 1) := by decide +kernel
theorem dX7_readEach_34 : decode cX7_readEach 34 = .ok (.invokevirtual 173, 3) := by decide +kernel
theorem dX7_readEach_37 : decode cX7_readEach 37 = .ok (.ifCond .ne 5, 3) := by decide +kernel
theorem dX7_readEach_40 : decode cX7_readEach 40 = .ok (.iconst 0, 1) := by decide +kernel
theorem dX7_readEach_41 : decode cX7_readEach 41 = .ok (.ireturn, 1) := by decide +kernel
theorem dX7_readEach_42 : decode cX7_readEach 42 = .ok (.aload_n 0, 1) := by decide +kernel
theorem dX7_readEach_43 : decode cX7_readEach 43 = .ok (.bipush 18, 2) := by decide +kernel
theorem dX7_readEach_45 : decode cX7_readEach 45 = .ok (.invokevirtual 162, 3) := by decide +kernel
theorem dX7_readEach_48 : decode cX7_readEach 48 = .ok (.pop, 1) := by decide +kernel
theorem dX7_readEach_49 : decode cX7_readEach 49 = .ok (.iinc 2 1, 3) := by decide +kernel
theorem dX7_readEach_52 : decode cX7_readEach 52 = .ok (.goto (-40), 3) := by decide +kernel
theorem dX7_readEach_55 : decode cX7_readEach 55 = .ok (.iconst 1, 1) := by decide +kernel
theorem dX7_readEach_56 : decode cX7_readEach 56 = .ok (.ireturn, 1) := by decide +kernel
theorem dX7_readNot_0 : decode cX7_readNot 0 = .ok (.aload_n 0, 1) := by decide +kernel
theorem dX7_readNot_1 : decode cX7_readNot 1 = .ok (.bipush (-16), 2) := by decide +kernel
theorem dX7_readNot_3 : decode cX7_readNot 3 = .ok (.iload_n 1, 1) := by decide +kernel
theorem dX7_readNot_4 : decode cX7_readNot 4 = .ok (.invokevirtual 167, 3) := by decide +kernel
theorem dX7_readNot_7 : decode cX7_readNot 7 = .ok (.ifCond .eq 26, 3) := by decide +kernel
theorem dX7_readNot_10 : decode cX7_readNot 10 = .ok (.aload_n 0, 1) := by decide +kernel
theorem dX7_readNot_11 : decode cX7_readNot 11 = .ok (.iload_n 1, 1) := by decide +kernel
theorem dX7_readNot_12 : decode cX7_readNot 12 = .ok (.iconst 1, 1) := by decide +kernel
theorem dX7_readNot_13 : decode cX7_readNot 13 = .ok (.iadd, 1) := by decide +kernel
theorem dX7_readNot_14 : decode cX7_readNot 14 = .ok (.invokevirtual 173, 3) := by decide +kernel
theorem dX7_readNot_17 : decode cX7_readNot 17 = .ok (.ifCond .eq 16, 3) := by decide +kernel
theorem dX7_readNot_20 : decode cX7_readNot 20 = .ok (.aload_n 0, 1) := by decide +kernel
theorem dX7_readNot_21 : decode cX7_readNot 21 = .ok (.bipush 7, 2) := by decide +kernel
theorem dX7_readNot_23 : decode cX7_readNot 23 = .ok (.invokevirtual 162, 3) := by decide +kernel
theorem dX7_readNot_26 : decode cX7_readNot 26 = .ok (.ifCond .eq 7, 3) := by decide +kernel
theorem dX7_readNot_29 : decode cX7_readNot 29 = .ok (.iconst 1, 1) := by decide +kernel
theorem dX7_readNot_30 : decode cX7_readNot 30 = .ok (.goto 4, 3) := by decide +kernel
theorem dX7_readNot_33 : decode cX7_readNot 33 = .ok (.iconst 0, 1) := by decide +kernel
theorem dX7_readNot_34 : decode cX7_readNot 34 = .ok (.ireturn, 1) := by decide +kernel
theorem dX7_readTest_0 : decode cX7_readTest 0 = .ok (.aload_n 0, 1) := by decide +kernel
theorem dX7_readTest_1 : decode cX7_readTest 1 = .ok (.getfield 51, 3) := by decide +kernel
theorem dX7_readTest_4 : decode cX7_readTest 4 = .ok (.bipush (-16), 2) := by decide +kernel
theorem dX7_readTest_6 : decode cX7_readTest 6 = .ok (.if_icmp .ne 9, 3) := by decide +kernel
theorem dX7_readTest_9 : decode cX7_readTest 9 = .ok (.aload_n 0, 1) := by decide +kernel
theorem dX7_readTest_10 : decode cX7_readTest 10 = .ok (.iload_n 1, 1) := by decide +kernel
theorem dX7_readTest_11 : decode cX7_readTest 11 = .ok (.invokevirtual 176, 3) := by decide +kernel
theorem dX7_readTest_14 : decode cX7_readTest 14 = .ok (.ireturn, 1) := by decide +kernel
theorem dX7_readTest_15 : decode cX7_readTest 15 = .ok (.aload_n 0, 1) := by decide +kernel
theorem dX7_readTest_16 : decode cX7_readTest 16 = .ok (.getfield 51, 3) := by decide +kernel
theorem dX7_readTest_19 : decode cX7_readTest 19 = .ok (.bipush 91, 2) := by decide +kernel
theorem dX7_readTest_21 : decode cX7_readTest 21 = .ok (.if_icmp .ne 38, 3) := by decide +kernel
theorem dX7_readTest_24 : decode cX7_readTest 24 = .ok (.aload_n 0, 1) := by decide +kernel
theorem dX7_readTest_25 : decode cX7_readTest 25 = .ok (.bipush 91, 2) := by decide +kernel
theorem dX7_readTest_27 : decode cX7_readTest 27 = .ok (.iload_n 1, 1) := by decide +kernel
theorem dX7_readTest_28 : decode cX7_readTest 28 = .ok (.invokevirtual 167, 3) := by decide +kernel
theorem dX7_readTest_31 : decode cX7_readTest 31 = .ok (.ifCond .eq 26, 3) := by decide +kernel
theorem dX7_readTest_34 : decode cX7_readTest 34 = .ok (.aload_n 0, 1) := by decide +kernel
theorem dX7_readTest_35 : decode cX7_readTest 35 = .ok (.iload_n 1, 1) := by decide +kernel
theorem dX7_readTest_36 : decode cX7_readTest 36 = .ok (.iconst 1, 1) := by decide +kernel
theorem dX7_readTest_37 : decode cX7_readTest 37 = .ok (.iadd, 1) := by decide +kernel
theorem dX7_readTest_38 : decode cX7_readTest 38 = .ok (.invokevirtual 153, 3) := by decide +kernel
theorem dX7_readTest_41 : decode cX7_readTest 41 = .ok (.ifCond .eq 16, 3) := by decide +kernel
theorem dX7_readTest_44 : decode cX7_readTest 44 = .ok (.aload_n 0, 1) := by decide +kernel
theorem dX7_readTest_45 : decode cX7_readTest 45 = .ok (.bipush 93, 2) := by decide +kernel
theorem dX7_readTest_47 : decode cX7_readTest 47 = .ok (.invokevirtual 134, 3) := by decide +kernel
theorem dX7_readTest_50 : decode cX7_readTest 50 = .ok (.ifCond .eq 7, 3) := by decide +kernel
theorem dX7_readTest_53 : decode cX7_readTest 53 = .ok (.iconst 1, 1) := by decide +kernel
theorem dX7_readTest_54 : decode cX7_readTest 54 = .ok (.goto 4, 3) := by decide +kernel
theorem dX7_readTest_57 : decode cX7_readTest 57 = .ok (.iconst 0, 1) := by decide +kernel
theorem dX7_readTest_58 : decode cX7_readTest 58 = .ok (.ireturn, 1) := by decide +kernel
theorem dX7_readTest_59 : decode cX7_readTest 59 = .ok (.aload_n 0, 1) := by decide +kernel
theorem dX7_readTest_60 : decode cX7_readTest 60 = .ok (.iload_n 1, 1) := by decide +kernel
theorem dX7_readTest_61 : decode cX7_readTest 61 = .ok (.invokevirtual 147, 3) := by decide +kernel
theorem dX7_readTest_64 : decode cX7_readTest 64 = .ok (.ifCond .ne 5, 3) := by decide +kernel
theorem dX7_readTest_67 : decode cX7_readTest 67 = .ok (.iconst 0, 1) := by decide +kernel
theorem dX7_readTest_68 : decode cX7_readTest 68 = .ok (.ireturn, 1) := by decide +kernel
theorem dX7_readTest_69 : decode cX7_readTest 69 = .ok (.aload_n 0, 1) := by decide +kernel
theorem dX7_readTest_70 : decode cX7_readTest 70 = .ok (.getfield 51, 3) := by decide +kernel
theorem dX7_readTest_73 : decode cX7_readTest 73 = .ok (.bipush 60, 2) := by decide +kernel
theorem dX7_readTest_75 : decode cX7_readTest 75 = .ok (.if_icmp .eq 27, 3) := by decide +kernel
theorem dX7_readTest_78 : decode cX7_readTest 78 = .ok (.aload_n 0, 1) := by decide +kernel
theorem dX7_readTest_79 : decode cX7_readTest 79 = .ok (.getfield 51, 3) := by decide +kernel
theorem dX7_readTest_82 : decode cX7_readTest 82 = .ok (.bipush 62, 2) := by decide +kernel
theorem dX7_readTest_84 : decode cX7_readTest 84 = .ok (.if_icmp .eq 18, 3) := by decide +kernel
theorem dX7_readTest_87 : decode cX7_readTest 87 = .ok (.aload_n 0, 1) := by decide +kernel
theorem dX7_readTest_88 : decode cX7_readTest 88 = .ok (.getfield 51, 3) := by decide +kernel
theorem dX7_readTest_91 : decode cX7_readTest 91 = .ok (.bipush 61, 2) := by decide +kernel
theorem dX7_readTest_93 : decode cX7_readTest 93 = .ok (.if_icmp .eq 9, 3) := by decide +kernel
theorem dX7_readTest_96 : decode cX7_readTest 96 = .ok (.aload_n 0, 1) := by decide +kernel
theorem dX7_readTest_97 : decode cX7_readTest 97 = .ok (.iconst 1, 1) := by decide +kernel
theorem dX7_readTest_98 : decode cX7_readTest 98 = .ok (.invokevirtual 128, 3) := by decide +kernel
theorem dX7_readTest_101 : decode cX7_readTest 101 = .ok (.ireturn, 1) := by decide +kernel
theorem dX7_readTest_102 : decode cX7_readTest 102 = .ok (.aload_n 0, 1) := by decide +kernel
theorem dX7_readTest_103 : decode cX7_readTest 103 = .ok (.getfield 51, 3) := by decide +kernel
theorem dX7_readTest_106 : decode cX7_readTest 106 = .ok (.bipush 60, 2) := by decide +kernel
theorem dX7_readTest_108 : decode cX7_readTest 108 = .ok (.if_icmp .ne 8, 3) := by decide +kernel
theorem dX7_readTest_111 : decode cX7_readTest 111 = .ok (.bipush 14, 2) := by decide +kernel
theorem dX7_readTest_113 : decode cX7_readTest 113 = .ok (.goto 19, 3) := by decide +kernel
theorem dX7_readTest_116 : decode cX7_readTest 116 = .ok (.aload_n 0, 1) := by decide +kernel
theorem dX7_readTest_117 : decode cX7_readTest 117 = .ok (.getfield 51, 3) := by decide +kernel
theorem dX7_readTest_120 : decode cX7_readTest 120 = .ok (.bipush 62, 2) := by decide +kernel
theorem dX7_readTest_122 : decode cX7_readTest 122 = .ok (.if_icmp .ne 8, 3) := by decide +kernel
theorem dX7_readTest_125 : decode cX7_readTest 125 = .ok (.bipush 15, 2) := by decide +kernel
theorem dX7_readTest_127 : decode cX7_readTest 127 = .ok (.goto 5, 3) := by decide +kernel
theorem dX7_readTest_130 : decode cX7_readTest 130 = .ok (.bipush 16, 2) := by decide +kernel
theorem dX7_readTest_132 : decode cX7_readTest 132 = .ok (.istore_n 2, 1) := by decide +kernel
theorem dX7_readTest_133 : decode cX7_readTest 133 = .ok (.aload_n 0, 1) := by decide +kernel
theorem dX7_readTest_134 : decode cX7_readTest 134 = .ok (.invokevirtual 131, 3) := by decide +kernel
theorem dX7_readTest_137 : decode cX7_readTest 137 = .ok (.aload_n 0, 1) := by decide +kernel
theorem dX7_readTest_138 : decode cX7_readTest 138 = .ok (.iload_n 1, 1) := by decide +kernel
theorem dX7_readTest_139 : decode cX7_readTest 139 = .ok (.invokevirtual 147, 3) := by decide +kernel
theorem dX7_readTest_142 : decode cX7_readTest 142 = .ok (.ifCond .eq 15, 3) := by decide +kernel
theorem dX7_readTest_145 : decode cX7_readTest 145 = .ok (.aload_n 0, 1) := by decide +kernel
theorem dX7_readTest_146 : decode cX7_readTest 146 = .ok (.iload_n 2, 1) := by decide +kernel
theorem dX7_readTest_147 : decode cX7_readTest 147 = .ok (.invokevirtual 162, 3) := by decide +kernel
theorem dX7_readTest_150 : decode cX7_readTest 150 = .ok (.ifCond .eq 7, 3) := by decide +kernel
theorem dX7_readTest_153 : decode cX7_readTest 153 = .ok (.iconst 1, 1) := by decide +kernel
theorem dX7_readTest_154 : decode cX7_readTest 154 = .ok (.goto 4, 3) := by decide +kernel
theorem dX7_readTest_157 : decode cX7_readTest 157 = .ok (.iconst 0, 1) := by decide +kernel
theorem dX7_readTest_158 : decode cX7_readTest 158 = .ok (.ireturn, 1) := by decide +kernel
theorem dX8_init_0 : decode cX8_init 0 = .ok (.aload_n 0, 1) := by decide +kernel
theorem dX8_init_1 : decode cX8_init 1 = .ok (.invokespecial 3, 3) := by decide +kernel
theorem dX8_init_4 : decode cX8_init 4 = .ok (.aload_n 0, 1) := by decide +kernel
theorem dX8_init_5 : decode cX8_init 5 = .ok (.sipush 900, 3) := by decide +kernel
theorem dX8_init_8 : decode cX8_init 8 = .ok (.newarray .int, 2) := by decide +kernel
theorem dX8_init_10 : decode cX8_init 10 = .ok (.putfield 9, 3) := by decide +kernel
theorem dX8_init_13 : decode cX8_init 13 = .ok (.aload_n 0, 1) := by decide +kernel
theorem dX8_init_14 : decode cX8_init 14 = .ok (.sipush 900, 3) := by decide +kernel
theorem dX8_init_17 : decode cX8_init 17 = .ok (.newarray .int, 2) := by decide +kernel
theorem dX8_init_19 : decode cX8_init 19 = .ok (.putfield 15, 3) := by decide +kernel
theorem dX8_init_22 : decode cX8_init 22 = .ok (.aload_n 0, 1) := by decide +kernel
theorem dX8_init_23 : decode cX8_init 23 = .ok (.iconst 4, 1) := by decide +kernel
theorem dX8_init_24 : decode cX8_init 24 = .ok (.newarray .int, 2) := by decide +kernel
theorem dX8_init_26 : decode cX8_init 26 = .ok (.putfield 18, 3) := by decide +kernel
theorem dX8_init_29 : decode cX8_init 29 = .ok (.aload_n 0, 1) := by decide +kernel
theorem dX8_init_30 : decode cX8_init 30 = .ok (.aload_n 1, 1) := by decide +kernel
theorem dX8_init_31 : decode cX8_init 31 = .ok (.putfield 21, 3) := by decide +kernel
theorem dX8_init_34 : decode cX8_init 34 = .ok (.return_, 1) := by decide +kernel
theorem dX8_wipe_0 : decode cX8_wipe 0 = .ok (.aload_n 0, 1) := by decide +kernel
theorem dX8_wipe_1 : decode cX8_wipe 1 = .ok (.getfield 25, 3) := by decide +kernel
theorem dX8_wipe_4 : decode cX8_wipe 4 = .ok (.ifCond .le 11, 3) := by decide +kernel
theorem dX8_wipe_7 : decode cX8_wipe 7 = .ok (.aload_n 0, 1) := by decide +kernel
theorem dX8_wipe_8 : decode cX8_wipe 8 = .ok (.getfield 9, 3) := by decide +kernel
theorem dX8_wipe_11 : decode cX8_wipe 11 = .ok (.iconst 0, 1) := by decide +kernel
theorem dX8_wipe_12 : decode cX8_wipe 12 = .ok (.invokestatic 29, 3) := by decide +kernel
theorem dX8_wipe_15 : decode cX8_wipe 15 = .ok (.aload_n 0, 1) := by decide +kernel
theorem dX8_wipe_16 : decode cX8_wipe 16 = .ok (.iconst 0, 1) := by decide +kernel
theorem dX8_wipe_17 : decode cX8_wipe 17 = .ok (.putfield 25, 3) := by decide +kernel
theorem dX8_wipe_20 : decode cX8_wipe 20 = .ok (.aload_n 0, 1) := by decide +kernel
theorem dX8_wipe_21 : decode cX8_wipe 21 = .ok (.lconst 0, 1) := by decide +kernel
theorem dX8_wipe_22 : decode cX8_wipe 22 = .ok (.putfield 35, 3) := by decide +kernel
theorem dX8_wipe_25 : decode cX8_wipe 25 = .ok (.return_, 1) := by decide +kernel
theorem dX8_isDrawn_0 : decode cX8_isDrawn 0 = .ok (.aload_n 0, 1) := by decide +kernel
theorem dX8_isDrawn_1 : decode cX8_isDrawn 1 = .ok (.getfield 21, 3) := by decide +kernel
theorem dX8_isDrawn_4 : decode cX8_isDrawn 4 = .ok (.iload_n 1, 1) := by decide +kernel
theorem dX8_isDrawn_5 : decode cX8_isDrawn 5 = .ok (.iload_n 2, 1) := by decide +kernel
theorem dX8_isDrawn_6 : decode cX8_isDrawn 6 = .ok (.invokevirtual 39, 3) := by decide +kernel
theorem dX8_isDrawn_9 : decode cX8_isDrawn 9 = .ok (.ifCond .le 7, 3) := by decide +kernel
theorem dX8_isDrawn_12 : decode cX8_isDrawn 12 = .ok (.iconst 1, 1) := by decide +kernel
theorem dX8_isDrawn_13 : decode cX8_isDrawn 13 = .ok (.goto 4, 3) := by decide +kernel
theorem dX8_isDrawn_16 : decode cX8_isDrawn 16 = .ok (.iconst 0, 1) := by decide +kernel
theorem dX8_isDrawn_17 : decode cX8_isDrawn 17 = .ok (.ireturn, 1) := by decide +kernel
theorem dX8_isRepelled_0 : decode cX8_isRepelled 0 = .ok (.aload_n 0, 1) := by decide +kernel
theorem dX8_isRepelled_1 : decode cX8_isRepelled 1 = .ok (.getfield 21, 3) := by decide +kernel
theorem dX8_isRepelled_4 : decode cX8_isRepelled 4 = .ok (.iload_n 1, 1) := by decide +kernel
theorem dX8_isRepelled_5 : decode cX8_isRepelled 5 = .ok (.iload_n 2, 1) := by decide +kernel
theorem dX8_isRepelled_6 : decode cX8_isRepelled 6 = .ok (.invokevirtual 45, 3) := by decide +kernel
theorem dX8_isRepelled_9 : decode cX8_isRepelled 9 = .ok (.ifCond .ne 15, 3) := by decide +kernel
theorem dX8_isRepelled_12 : decode cX8_isRepelled 12 = .ok (.aload_n 0, 1) := by decide +kernel
theorem dX8_isRepelled_13 : decode cX8_isRepelled 13 = .ok (.getfield 21, 3) := by decide +kernel
theorem dX8_isRepelled_16 : decode cX8_isRepelled 16 = .ok (.iload_n 1, 1) := by decide +kernel
theorem dX8_isRepelled_17 : decode cX8_isRepelled 17 = .ok (.iload_n 2, 1) := by decide +kernel
theorem dX8_isRepelled_18 : decode cX8_isRepelled 18 = .ok (.invokevirtual 39, 3) := by decide +kernel
theorem dX8_isRepelled_21 : decode cX8_isRepelled 21 = .ok (.ifCond .ge 7, 3) := by decide +kernel
theorem dX8_isRepelled_24 : decode cX8_isRepelled 24 = .ok (.iconst 1, 1) := by decide +kernel
theorem dX8_isRepelled_25 : decode cX8_isRepelled 25 = .ok (.goto 4, 3) := by decide +kernel
theorem dX8_isRepelled_28 : decode cX8_isRepelled 28 = .ok (.iconst 0, 1) := by decide +kernel
theorem dX8_isRepelled_29 : decode cX8_isRepelled 29 = .ok (.ireturn, 1) := by decide +kernel
theorem dX8_isRing_0 : decode cX8_isRing 0 = .ok (.aload_n 0, 1) := by decide +kernel
theorem dX8_isRing_1 : decode cX8_isRing 1 = .ok (.iload_n 1, 1) := by decide +kernel
theorem dX8_isRing_2 : decode cX8_isRing 2 = .ok (.iload_n 2, 1) := by decide +kernel
theorem dX8_isRing_3 : decode cX8_isRing 3 = .ok (.invokevirtual 49, 3) := by decide +kernel
theorem dX8_isRing_6 : decode cX8_isRing 6 = .ok (.istore 4, 2) := by decide +kernel
theorem dX8_isRing_8 : decode cX8_isRing 8 = .ok (.aload_n 0, 1) := by decide +kernel
theorem dX8_isRing_9 : decode cX8_isRing 9 = .ok (.iload_n 1, 1) := by decide +kernel
theorem dX8_isRing_10 : decode cX8_isRing 10 = .ok (.iload_n 3, 1) := by decide +kernel
theorem dX8_isRing_11 : decode cX8_isRing 11 = .ok (.invokevirtual 49, 3) := by decide +kernel
theorem dX8_isRing_14 : decode cX8_isRing 14 = .ok (.istore 5, 2) := by decide +kernel
theorem dX8_isRing_16 : decode cX8_isRing 16 = .ok (.aload_n 0, 1) := by decide +kernel
theorem dX8_isRing_17 : decode cX8_isRing 17 = .ok (.iload_n 2, 1) := by decide +kernel
theorem dX8_isRing_18 : decode cX8_isRing 18 = .ok (.iload_n 3, 1) := by decide +kernel
theorem dX8_isRing_19 : decode cX8_isRing 19 = .ok (.invokevirtual 49, 3) := by decide +kernel
theorem dX8_isRing_22 : decode cX8_isRing 22 = .ok (.istore 6, 2) := by decide +kernel
theorem dX8_isRing_24 : decode cX8_isRing 24 = .ok (.iload 4, 2) := by decide +kernel
theorem dX8_isRing_26 : decode cX8_isRing 26 = .ok (.ifCond .eq 17, 3) := by decide +kernel
theorem dX8_isRing_29 : decode cX8_isRing 29 = .ok (.iload 5, 2) := by decide +kernel
theorem dX8_isRing_31 : decode cX8_isRing 31 = .ok (.ifCond .eq 12, 3) := by decide +kernel
theorem dX8_isRing_34 : decode cX8_isRing 34 = .ok (.aload_n 0, 1) := by decide +kernel
theorem dX8_isRing_35 : decode cX8_isRing 35 = .ok (.iload_n 2, 1) := by decide +kernel
theorem dX8_isRing_36 : decode cX8_isRing 36 = .ok (.iload_n 3, 1) := by decide +kernel
theorem dX8_isRing_37 : decode cX8_isRing 37 = .ok (.invokevirtual 52, 3) := by decide +kernel
theorem dX8_isRing_40 : decode cX8_isRing 40 = .ok (.ifCond .ne 41, 3) := by decide +kernel
theorem dX8_isRing_43 : decode cX8_isRing 43 = .ok (.iload 4, 2) := by decide +kernel
theorem dX8_isRing_45 : decode cX8_isRing 45 = .ok (.ifCond .eq 17, 3) := by decide +kernel
theorem dX8_isRing_48 : decode cX8_isRing 48 = .ok (.iload 6, 2) := by decide +kernel
theorem dX8_isRing_50 : decode cX8_isRing 50 = .ok (.ifCond .eq 12, 3) := by decide +kernel
theorem dX8_isRing_53 : decode cX8_isRing 53 = .ok (.aload_n 0, 1) := by decide +kernel
theorem dX8_isRing_54 : decode cX8_isRing 54 = .ok (.iload_n 1, 1) := by decide +kernel
theorem dX8_isRing_55 : decode cX8_isRing 55 = .ok (.iload_n 3, 1) := by decide +kernel
theorem dX8_isRing_56 : decode cX8_isRing 56 = .ok (.invokevirtual 52, 3) := by decide +kernel
theorem dX8_isRing_59 : decode cX8_isRing 59 = .ok (.ifCond .ne 22, 3) := by decide +kernel
theorem dX8_isRing_62 : decode cX8_isRing 62 = .ok (.iload 5, 2) := by decide +kernel
theorem dX8_isRing_64 : decode cX8_isRing 64 = .ok (.ifCond .eq 21, 3) := by decide +kernel
theorem dX8_isRing_67 : decode cX8_isRing 67 = .ok (.iload 6, 2) := by decide +kernel
theorem dX8_isRing_69 : decode cX8_isRing 69 = .ok (.ifCond .eq 16, 3) := by decide +kernel
theorem dX8_isRing_72 : decode cX8_isRing 72 = .ok (.aload_n 0, 1) := by decide +kernel
theorem dX8_isRing_73 : decode cX8_isRing 73 = .ok (.iload_n 1, 1) := by decide +kernel
theorem dX8_isRing_74 : decode cX8_isRing 74 = .ok (.iload_n 2, 1) := by decide +kernel
theorem dX8_isRing_75 : decode cX8_isRing 75 = .ok (.invokevirtual 52, 3) := by decide +kernel
theorem dX8_isRing_78 : decode cX8_isRing 78 = .ok (.ifCond .eq 7, 3) := by decide +kernel
theorem dX8_isRing_81 : decode cX8_isRing 81 = .ok (.iconst 1, 1) := by decide +kernel
theorem dX8_isRing_82 : decode cX8_isRing 82 = .ok (.goto 4, 3) := by decide +kernel
theorem dX8_isRing_85 : decode cX8_isRing 85 = .ok (.iconst 0, 1) := by decide +kernel
theorem dX8_isRing_86 : decode cX8_isRing 86 = .ok (.ireturn, 1) := by decide +kernel
theorem dX8_rest_0 : decode cX8_rest 0 = .ok (.aload_n 0, 1) := by decide +kernel
theorem dX8_rest_1 : decode cX8_rest 1 = .ok (.getfield 21, 3) := by decide +kernel
theorem dX8_rest_4 : decode cX8_rest 4 = .ok (.iload_n 2, 1) := by decide +kernel
theorem dX8_rest_5 : decode cX8_rest 5 = .ok (.iload_n 3, 1) := by decide +kernel
theorem dX8_rest_6 : decode cX8_rest 6 = .ok (.invokevirtual 45, 3) := by decide +kernel
theorem dX8_rest_9 : decode cX8_rest 9 = .ok (.ifCond .eq 8, 3) := by decide +kernel
theorem dX8_rest_12 : decode cX8_rest 12 = .ok (.ldc 55, 2) := by decide +kernel
theorem dX8_rest_14 : decode cX8_rest 14 = .ok (.goto 15, 3) := by decide +kernel
theorem dX8_rest_17 : decode cX8_rest 17 = .ok (.aload_n 0, 1) := by decide +kernel
theorem dX8_rest_18 : decode cX8_rest 18 = .ok (.getfield 21, 3) := by decide +kernel
theorem dX8_rest_21 : decode cX8_rest 21 = .ok (.iload_n 2, 1) := by decide +kernel
theorem dX8_rest_22 : decode cX8_rest 22 = .ok (.iload_n 3, 1) := by decide +kernel
theorem dX8_rest_23 : decode cX8_rest 23 = .ok (.invokevirtual 39, 3) := by decide +kernel
theorem dX8_rest_26 : decode cX8_rest 26 = .ok (.invokestatic 56, 3) := by decide +kernel
theorem dX8_rest_29 : decode cX8_rest 29 = .ok (.istore 4, 2) := by decide +kernel
theorem dX8_rest_31 : decode cX8_rest 31 = .ok (.iload 4, 2) := by decide +kernel
theorem dX8_rest_33 : decode cX8_rest 33 = .ok (.aload_n 1, 1) := by decide +kernel
theorem dX8_rest_34 : decode cX8_rest 34 = .ok (.iload_n 2, 1) := by decide +kernel
theorem dX8_rest_35 : decode cX8_rest 35 = .ok (.bipush 30, 2) := by decide +kernel
theorem dX8_rest_37 : decode cX8_rest 37 = .ok (.imul, 1) := by decide +kernel
theorem dX8_rest_38 : decode cX8_rest 38 = .ok (.iload_n 3, 1) := by decide +kernel
theorem dX8_rest_39 : decode cX8_rest 39 = .ok (.iadd, 1) := by decide +kernel
theorem dX8_rest_40 : decode cX8_rest 40 = .ok (.iaload, 1) := by decide +kernel
theorem dX8_rest_41 : decode cX8_rest 41 = .ok (.isub, 1) := by decide +kernel
theorem dX8_rest_42 : decode cX8_rest 42 = .ok (.ireturn, 1) := by decide +kernel
theorem dX8_leastRest_0 : decode cX8_leastRest 0 = .ok (.aload_n 0, 1) := by decide +kernel
theorem dX8_leastRest_1 : decode cX8_leastRest 1 = .ok (.aload_n 1, 1) := by decide +kernel
theorem dX8_leastRest_2 : decode cX8_leastRest 2 = .ok (.iload_n 2, 1) := by decide +kernel
theorem dX8_leastRest_3 : decode cX8_leastRest 3 = .ok (.iload_n 3, 1) := by decide +kernel
theorem dX8_leastRest_4 : decode cX8_leastRest 4 = .ok (.invokevirtual 62, 3) := by decide +kernel
theorem dX8_leastRest_7 : decode cX8_leastRest 7 = .ok (.aload_n 0, 1) := by decide +kernel
theorem dX8_leastRest_8 : decode cX8_leastRest 8 = .ok (.aload_n 1, 1) := by decide +kernel
theorem dX8_leastRest_9 : decode cX8_leastRest 9 = .ok (.iload_n 2, 1) := by decide +kernel
theorem dX8_leastRest_10 : decode cX8_leastRest 10 = .ok (.iload 4, 2) := by decide +kernel
theorem dX8_leastRest_12 : decode cX8_leastRest 12 = .ok (.invokevirtual 62, 3) := by decide +kernel
theorem dX8_leastRest_15 : decode cX8_leastRest 15 = .ok (.aload_n 0, 1) := by decide +kernel
theorem dX8_leastRest_16 : decode cX8_leastRest 16 = .ok (.aload_n 1, 1) := by decide +kernel
theorem dX8_leastRest_17 : decode cX8_leastRest 17 = .ok (.iload_n 3, 1) := by decide +kernel
theorem dX8_leastRest_18 : decode cX8_leastRest 18 = .ok (.iload 4, 2) := by decide +kernel
theorem dX8_leastRest_20 : decode cX8_leastRest 20 = .ok (.invokevirtual 62, 3) := by decide +kernel
theorem dX8_leastRest_23 : decode cX8_leastRest 23 = .ok (.invokestatic 66, 3) := by decide +kernel
theorem dX8_leastRest_26 : decode cX8_leastRest 26 = .ok (.invokestatic 66, 3) := by decide +kernel
theorem dX8_leastRest_29 : decode cX8_leastRest 29 = .ok (.ireturn, 1) := by decide +kernel
theorem dX8_takeFrom_0 : decode cX8_takeFrom 0 = .ok (.aload_n 1, 1) := by decide +kernel
theorem dX8_takeFrom_1 : decode cX8_takeFrom 1 = .ok (.iload_n 2, 1) := by decide +kernel
theorem dX8_takeFrom_2 : decode cX8_takeFrom 2 = .ok (.bipush 30, 2) := by decide +kernel
theorem dX8_takeFrom_4 : decode cX8_takeFrom 4 = .ok (.imul, 1) := by decide +kernel
theorem dX8_takeFrom_5 : decode cX8_takeFrom 5 = .ok (.iload_n 3, 1) := by decide +kernel
theorem dX8_takeFrom_6 : decode cX8_takeFrom 6 = .ok (.iadd, 1) := by decide +kernel
theorem dX8_takeFrom_7 : decode cX8_takeFrom 7 = .ok (.dup2, 1) := by decide +kernel
theorem dX8_takeFrom_8 : decode cX8_takeFrom 8 = .ok (.iaload, 1) := by decide +kernel
theorem dX8_takeFrom_9 : decode cX8_takeFrom 9 = .ok (.iload 4, 2) := by decide +kernel
theorem dX8_takeFrom_11 : decode cX8_takeFrom 11 = .ok (.iadd, 1) := by decide +kernel
theorem dX8_takeFrom_12 : decode cX8_takeFrom 12 = .ok (.iastore, 1) := by decide +kernel
theorem dX8_takeFrom_13 : decode cX8_takeFrom 13 = .ok (.aload_n 1, 1) := by decide +kernel
theorem dX8_takeFrom_14 : decode cX8_takeFrom 14 = .ok (.iload_n 3, 1) := by decide +kernel
theorem dX8_takeFrom_15 : decode cX8_takeFrom 15 = .ok (.bipush 30, 2) := by decide +kernel
theorem dX8_takeFrom_17 : decode cX8_takeFrom 17 = .ok (.imul, 1) := by decide +kernel
theorem dX8_takeFrom_18 : decode cX8_takeFrom 18 = .ok (.iload_n 2, 1) := by decide +kernel
theorem dX8_takeFrom_19 : decode cX8_takeFrom 19 = .ok (.iadd, 1) := by decide +kernel
theorem dX8_takeFrom_20 : decode cX8_takeFrom 20 = .ok (.dup2, 1) := by decide +kernel
theorem dX8_takeFrom_21 : decode cX8_takeFrom 21 = .ok (.iaload, 1) := by decide +kernel
theorem dX8_takeFrom_22 : decode cX8_takeFrom 22 = .ok (.iload 4, 2) := by decide +kernel
theorem dX8_takeFrom_24 : decode cX8_takeFrom 24 = .ok (.iadd, 1) := by decide +kernel
theorem dX8_takeFrom_25 : decode cX8_takeFrom 25 = .ok (.iastore, 1) := by decide +kernel
theorem dX8_takeFrom_26 : decode cX8_takeFrom 26 = .ok (.return_, 1) := by decide +kernel
theorem dX8_takeFromAll_0 : decode cX8_takeFromAll 0 = .ok (.aload_n 0, 1) := by decide +kernel
theorem dX8_takeFromAll_1 : decode cX8_takeFromAll 1 = .ok (.aload_n 1, 1) := by decide +kernel
theorem dX8_takeFromAll_2 : decode cX8_takeFromAll 2 = .ok (.iload_n 2, 1) := by decide +kernel
theorem dX8_takeFromAll_3 : decode cX8_takeFromAll 3 = .ok (.iload_n 3, 1) := by decide +kernel
theorem dX8_takeFromAll_4 : decode cX8_takeFromAll 4 = .ok (.iload 5, 2) := by decide +kernel
theorem dX8_takeFromAll_6 : decode cX8_takeFromAll 6 = .ok (.invokevirtual 69, 3) := by decide +kernel
theorem dX8_takeFromAll_9 : decode cX8_takeFromAll 9 = .ok (.aload_n 0, 1) := by decide +kernel
theorem dX8_takeFromAll_10 : decode cX8_takeFromAll 10 = .ok (.aload_n 1, 1) := by decide +kernel
theorem dX8_takeFromAll_11 : decode cX8_takeFromAll 11 = .ok (.iload_n 2, 1) := by decide +kernel
theorem dX8_takeFromAll_12 : decode cX8_takeFromAll 12 = .ok (.iload 4, 2) := by decide +kernel
theorem dX8_takeFromAll_14 : decode cX8_takeFromAll 14 = .ok (.iload 5, 2) := by decide +kernel
theorem dX8_takeFromAll_16 : decode cX8_takeFromAll 16 = .ok (.invokevirtual 69, 3) := by decide +kernel
theorem dX8_takeFromAll_19 : decode cX8_takeFromAll 19 = .ok (.aload_n 0, 1) := by decide +kernel
theorem dX8_takeFromAll_20 : decode cX8_takeFromAll 20 = .ok (.aload_n 1, 1) := by decide +kernel
theorem dX8_takeFromAll_21 : decode cX8_takeFromAll 21 = .ok (.iload_n 3, 1) := by decide +kernel
theorem dX8_takeFromAll_22 : decode cX8_takeFromAll 22 = .ok (.iload 4, 2) := by decide +kernel
theorem dX8_takeFromAll_24 : decode cX8_takeFromAll 24 = .ok (.iload 5, 2) := by decide +kernel
theorem dX8_takeFromAll_26 : decode cX8_takeFromAll 26 = .ok (.invokevirtual 69, 3) := by decide +kernel
theorem dX8_takeFromAll_29 : decode cX8_takeFromAll 29 = .ok (.return_, 1) := by decide +kernel
theorem dX8_canTake_0 : decode cX8_canTake 0 = .ok (.aload_n 0, 1) := by decide +kernel
theorem dX8_canTake_1 : decode cX8_canTake 1 = .ok (.aload_n 0, 1) := by decide +kernel
theorem dX8_canTake_2 : decode cX8_canTake 2 = .ok (.getfield 9, 3) := by decide +kernel
theorem dX8_canTake_5 : decode cX8_canTake 5 = .ok (.iload_n 1, 1) := by decide +kernel
theorem dX8_canTake_6 : decode cX8_canTake 6 = .ok (.iload_n 2, 1) := by decide +kernel
theorem dX8_canTake_7 : decode cX8_canTake 7 = .ok (.iload_n 3, 1) := by decide +kernel
theorem dX8_canTake_8 : decode cX8_canTake 8 = .ok (.invokevirtual 73, 3) := by decide +kernel
theorem dX8_canTake_11 : decode cX8_canTake 11 = .ok (.iload 4, 2) := by decide +kernel
theorem dX8_canTake_13 : decode cX8_canTake 13 = .ok (.if_icmp .lt 7, 3) := by decide +kernel
theorem dX8_canTake_16 : decode cX8_canTake 16 = .ok (.iconst 1, 1) := by decide +kernel
theorem dX8_canTake_17 : decode cX8_canTake 17 = .ok (.goto 4, 3) := by decide +kernel
theorem dX8_canTake_20 : decode cX8_canTake 20 = .ok (.iconst 0, 1) := by decide +kernel
theorem dX8_canTake_21 : decode cX8_canTake 21 = .ok (.ireturn, 1) := by decide +kernel
theorem dX8_tell_0 : decode cX8_tell 0 = .ok (.aload_n 0, 1) := by decide +kernel
theorem dX8_tell_1 : decode cX8_tell 1 = .ok (.aload_n 0, 1) := by decide +kernel
theorem dX8_tell_2 : decode cX8_tell 2 = .ok (.getfield 9, 3) := by decide +kernel
theorem dX8_tell_5 : decode cX8_tell 5 = .ok (.iload_n 1, 1) := by decide +kernel
theorem dX8_tell_6 : decode cX8_tell 6 = .ok (.iload_n 2, 1) := by decide +kernel
theorem dX8_tell_7 : decode cX8_tell 7 = .ok (.iload_n 3, 1) := by decide +kernel
theorem dX8_tell_8 : decode cX8_tell 8 = .ok (.iload 4, 2) := by decide +kernel
theorem dX8_tell_10 : decode cX8_tell 10 = .ok (.invokevirtual 77, 3) := by decide +kernel
theorem dX8_tell_13 : decode cX8_tell 13 = .ok (.aload_n 0, 1) := by decide +kernel
theorem dX8_tell_14 : decode cX8_tell 14 = .ok (.dup, 1) := by decide +kernel
theorem dX8_tell_15 : decode cX8_tell 15 = .ok (.getfield 25, 3) := by decide +kernel
theorem dX8_tell_18 : decode cX8_tell 18 = .ok (.iconst 1, 1) := by decide +kernel
theorem dX8_tell_19 : decode cX8_tell 19 = .ok (.iadd, 1) := by decide +kernel
theorem dX8_tell_20 : decode cX8_tell 20 = .ok (.putfield 25, 3) := by decide +kernel
theorem dX8_tell_23 : decode cX8_tell 23 = .ok (.aload_n 0, 1) := by decide +kernel
theorem dX8_tell_24 : decode cX8_tell 24 = .ok (.dup, 1) := by decide +kernel
theorem dX8_tell_25 : decode cX8_tell 25 = .ok (.getfield 35, 3) := by decide +kernel
theorem dX8_tell_28 : decode cX8_tell 28 = .ok (.iload 4, 2) := by decide +kernel
theorem dX8_tell_30 : decode cX8_tell 30 = .ok (.i2l, 1) := by decide +kernel
theorem dX8_tell_31 : decode cX8_tell 31 = .ok (.ladd, 1) := by decide +kernel
theorem dX8_tell_32 : decode cX8_tell 32 = .ok (.putfield 35, 3) := by decide +kernel
theorem dX8_tell_35 : decode cX8_tell 35 = .ok (.return_, 1) := by decide +kernel
theorem dX8_howMany_0 : decode cX8_howMany 0 = .ok (.iconst 0, 1) := by decide +kernel
theorem dX8_howMany_1 : decode cX8_howMany 1 = .ok (.istore_n 1, 1) := by decide +kernel
theorem dX8_howMany_2 : decode cX8_howMany 2 = .ok (.aload_n 0, 1) := by decide +kernel
theorem dX8_howMany_3 : decode cX8_howMany 3 = .ok (.getfield 21, 3) := by decide +kernel
theorem dX8_howMany_6 : decode cX8_howMany 6 = .ok (.getfield 81, 3) := by decide +kernel
theorem dX8_howMany_9 : decode cX8_howMany 9 = .ok (.getfield 85, 3) := by decide +kernel
theorem dX8_howMany_12 : decode cX8_howMany 12 = .ok (.istore_n 2, 1) := by decide +kernel
theorem dX8_howMany_13 : decode cX8_howMany 13 = .ok (.iconst 0, 1) := by decide +kernel
theorem dX8_howMany_14 : decode cX8_howMany 14 = .ok (.istore_n 3, 1) := by decide +kernel
theorem dX8_howMany_15 : decode cX8_howMany 15 = .ok (.iload_n 3, 1) := by decide +kernel
theorem dX8_howMany_16 : decode cX8_howMany 16 = .ok (.iload_n 2, 1) := by decide +kernel
theorem dX8_howMany_17 : decode cX8_howMany 17 = .ok (.if_icmp .ge 59, 3) := by decide +kernel
theorem dX8_howMany_20 : decode cX8_howMany 20 = .ok (.iload_n 3, 1) := by decide +kernel
theorem dX8_howMany_21 : decode cX8_howMany 21 = .ok (.iconst 1, 1) := by decide +kernel
theorem dX8_howMany_22 : decode cX8_howMany 22 = .ok (.iadd, 1) := by decide +kernel
theorem dX8_howMany_23 : decode cX8_howMany 23 = .ok (.istore 4, 2) := by decide +kernel
theorem dX8_howMany_25 : decode cX8_howMany 25 = .ok (.iload 4, 2) := by decide +kernel
theorem dX8_howMany_27 : decode cX8_howMany 27 = .ok (.iload_n 2, 1) := by decide +kernel
theorem dX8_howMany_28 : decode cX8_howMany 28 = .ok (.if_icmp .ge 42, 3) := by decide +kernel
theorem dX8_howMany_31 : decode cX8_howMany 31 = .ok (.iload 4, 2) := by decide +kernel
theorem dX8_howMany_33 : decode cX8_howMany 33 = .ok (.iconst 1, 1) := by decide +kernel
theorem dX8_howMany_34 : decode cX8_howMany 34 = .ok (.iadd, 1) := by decide +kernel
theorem dX8_howMany_35 : decode cX8_howMany 35 = .ok (.istore 5, 2) := by decide +kernel
theorem dX8_howMany_37 : decode cX8_howMany 37 = .ok (.iload 5, 2) := by decide +kernel
theorem dX8_howMany_39 : decode cX8_howMany 39 = .ok (.iload_n 2, 1) := by decide +kernel
theorem dX8_howMany_40 : decode cX8_howMany 40 = .ok (.if_icmp .ge 24, 3) := by decide +kernel
theorem dX8_howMany_43 : decode cX8_howMany 43 = .ok (.aload_n 0, 1) := by decide +kernel
theorem dX8_howMany_44 : decode cX8_howMany 44 = .ok (.iload_n 3, 1) := by decide +kernel
theorem dX8_howMany_45 : decode cX8_howMany 45 = .ok (.iload 4, 2) := by decide +kernel
theorem dX8_howMany_47 : decode cX8_howMany 47 = .ok (.iload 5, 2) := by decide +kernel
theorem dX8_howMany_49 : decode cX8_howMany 49 = .ok (.invokevirtual 90, 3) := by decide +kernel
theorem dX8_howMany_52 : decode cX8_howMany 52 = .ok (.ifCond .eq 6, 3) := by decide +kernel
theorem dX8_howMany_55 : decode cX8_howMany 55 = .ok (.iinc 1 1, 3) := by decide +kernel
theorem dX8_howMany_58 : decode cX8_howMany 58 = .ok (.iinc 5 1, 3) := by decide +kernel
theorem dX8_howMany_61 : decode cX8_howMany 61 = .ok (.goto (-24), 3) := by decide +kernel
theorem dX8_howMany_64 : decode cX8_howMany 64 = .ok (.iinc 4 1, 3) := by decide +kernel
theorem dX8_howMany_67 : decode cX8_howMany 67 = .ok (.goto (-42), 3) := by decide +kernel
theorem dX8_howMany_70 : decode cX8_howMany 70 = .ok (.iinc 3 1, 3) := by decide +kernel
theorem dX8_howMany_73 : decode cX8_howMany 73 = .ok (.goto (-58), 3) := by decide +kernel
theorem dX8_howMany_76 : decode cX8_howMany 76 = .ok (.iload_n 1, 1) := by decide +kernel
theorem dX8_howMany_77 : decode cX8_howMany 77 = .ok (.ireturn, 1) := by decide +kernel
theorem dX8_pack_0 : decode cX8_pack 0 = .ok (.aload_n 0, 1) := by decide +kernel
theorem dX8_pack_1 : decode cX8_pack 1 = .ok (.getfield 15, 3) := by decide +kernel
theorem dX8_pack_4 : decode cX8_pack 4 = .ok (.iconst 0, 1) := by decide +kernel
theorem dX8_pack_5 : decode cX8_pack 5 = .ok (.invokestatic 29, 3) := by decide +kernel
theorem dX8_pack_8 : decode cX8_pack 8 = .ok (.aload_n 0, 1) := by decide +kernel
theorem dX8_pack_9 : decode cX8_pack 9 = .ok (.getfield 18, 3) := by decide +kernel
theorem dX8_pack_12 : decode cX8_pack 12 = .ok (.iconst (-1), 1) := by decide +kernel
theorem dX8_pack_13 : decode cX8_pack 13 = .ok (.invokestatic 29, 3) := by decide +kernel
theorem dX8_pack_16 : decode cX8_pack 16 = .ok (.aload_n 0, 1) := by decide +kernel
theorem dX8_pack_17 : decode cX8_pack 17 = .ok (.lconst 0, 1) := by decide +kernel
theorem dX8_pack_18 : decode cX8_pack 18 = .ok (.putfield 94, 3) := by decide +kernel
theorem dX8_pack_21 : decode cX8_pack 21 = .ok (.iconst 0, 1) := by decide +kernel
theorem dX8_pack_22 : decode cX8_pack 22 = .ok (.istore_n 2, 1) := by decide +kernel
theorem dX8_pack_23 : decode cX8_pack 23 = .ok (.aload_n 0, 1) := by decide +kernel
theorem dX8_pack_24 : decode cX8_pack 24 = .ok (.getfield 21, 3) := by decide +kernel
theorem dX8_pack_27 : decode cX8_pack 27 = .ok (.getfield 81, 3) := by decide +kernel
theorem dX8_pack_30 : decode cX8_pack 30 = .ok (.getfield 85, 3) := by decide +kernel
theorem dX8_pack_33 : decode cX8_pack 33 = .ok (.istore_n 3, 1) := by decide +kernel
theorem dX8_pack_34 : decode cX8_pack 34 = .ok (.iconst 0, 1) := by decide +kernel
theorem dX8_pack_35 : decode cX8_pack 35 = .ok (.istore 4, 2) := by decide +kernel
theorem dX8_pack_37 : decode cX8_pack 37 = .ok (.iload 4, 2) := by decide +kernel
theorem dX8_pack_39 : decode cX8_pack 39 = .ok (.iload_n 3, 1) := by decide +kernel
theorem dX8_pack_40 : decode cX8_pack 40 = .ok (.if_icmp .ge 131, 3) := by decide +kernel
theorem dX8_pack_43 : decode cX8_pack 43 = .ok (.iload 4, 2) := by decide +kernel
theorem dX8_pack_45 : decode cX8_pack 45 = .ok (.iconst 1, 1) := by decide +kernel
theorem dX8_pack_46 : decode cX8_pack 46 = .ok (.iadd, 1) := by decide +kernel
theorem dX8_pack_47 : decode cX8_pack 47 = .ok (.istore 5, 2) := by decide +kernel
theorem dX8_pack_49 : decode cX8_pack 49 = .ok (.iload 5, 2) := by decide +kernel
theorem dX8_pack_51 : decode cX8_pack 51 = .ok (.iload_n 3, 1) := by decide +kernel
theorem dX8_pack_52 : decode cX8_pack 52 = .ok (.if_icmp .ge 113, 3) := by decide +kernel
theorem dX8_pack_55 : decode cX8_pack 55 = .ok (.iload 5, 2) := by decide +kernel
theorem dX8_pack_57 : decode cX8_pack 57 = .ok (.iconst 1, 1) := by decide +kernel
theorem dX8_pack_58 : decode cX8_pack 58 = .ok (.iadd, 1) := by decide +kernel
theorem dX8_pack_59 : decode cX8_pack 59 = .ok (.istore 6, 2) := by decide +kernel
theorem dX8_pack_61 : decode cX8_pack 61 = .ok (.iload 6, 2) := by decide +kernel
theorem dX8_pack_63 : decode cX8_pack 63 = .ok (.iload_n 3, 1) := by decide +kernel
theorem dX8_pack_64 : decode cX8_pack 64 = .ok (.if_icmp .ge 95, 3) := by decide +kernel
theorem dX8_pack_67 : decode cX8_pack 67 = .ok (.aload_n 0, 1) := by decide +kernel
theorem dX8_pack_68 : decode cX8_pack 68 = .ok (.iload 4, 2) := by decide +kernel
theorem dX8_pack_70 : decode cX8_pack 70 = .ok (.iload 5, 2) := by decide +kernel
theorem dX8_pack_72 : decode cX8_pack 72 = .ok (.iload 6, 2) := by decide +kernel
theorem dX8_pack_74 : decode cX8_pack 74 = .ok (.invokevirtual 90, 3) := by decide +kernel
theorem dX8_pack_77 : decode cX8_pack 77 = .ok (.ifCond .eq 20, 3) := by decide +kernel
theorem dX8_pack_80 : decode cX8_pack 80 = .ok (.aload_n 0, 1) := by decide +kernel
theorem dX8_pack_81 : decode cX8_pack 81 = .ok (.aload_n 0, 1) := by decide +kernel
theorem dX8_pack_82 : decode cX8_pack 82 = .ok (.getfield 15, 3) := by decide +kernel
theorem dX8_pack_85 : decode cX8_pack 85 = .ok (.iload 4, 2) := by decide +kernel
theorem dX8_pack_87 : decode cX8_pack 87 = .ok (.iload 5, 2) := by decide +kernel
theorem dX8_pack_89 : decode cX8_pack 89 = .ok (.iload 6, 2) := by decide +kernel
theorem dX8_pack_91 : decode cX8_pack 91 = .ok (.invokevirtual 73, 3) := by decide +kernel
theorem dX8_pack_94 : decode cX8_pack 94 = .ok (.goto 4, 3) := by decide +kernel
theorem dX8_pack_97 : decode cX8_pack 97 = .ok (.iconst 0, 1) := by decide +kernel
theorem dX8_pack_98 : decode cX8_pack 98 = .ok (.istore 7, 2) := by decide +kernel
theorem dX8_pack_100 : decode cX8_pack 100 = .ok (.iload 7, 2) := by decide +kernel
theorem dX8_pack_102 : decode cX8_pack 102 = .ok (.ifCond .le 51, 3) := by decide +kernel
theorem dX8_pack_105 : decode cX8_pack 105 = .ok (.aload_n 0, 1) := by decide +kernel
theorem dX8_pack_106 : decode cX8_pack 106 = .ok (.aload_n 0, 1) := by decide +kernel
theorem dX8_pack_107 : decode cX8_pack 107 = .ok (.getfield 15, 3) := by decide +kernel
theorem dX8_pack_110 : decode cX8_pack 110 = .ok (.iload 4, 2) := by decide +kernel
theorem dX8_pack_112 : decode cX8_pack 112 = .ok (.iload 5, 2) := by decide +kernel
theorem dX8_pack_114 : decode cX8_pack 114 = .ok (.iload 6, 2) := by decide +kernel
theorem dX8_pack_116 : decode cX8_pack 116 = .ok (.iload 7, 2) := by decide +kernel
theorem dX8_pack_118 : decode cX8_pack 118 = .ok (.invokevirtual 77, 3) := by decide +kernel
theorem dX8_pack_121 : decode cX8_pack 121 = .ok (.aload_n 0, 1) := by decide +kernel
theorem dX8_pack_122 : decode cX8_pack 122 = .ok (.dup, 1) := by decide +kernel
theorem dX8_pack_123 : decode cX8_pack 123 = .ok (.getfield 94, 3) := by decide +kernel
theorem dX8_pack_126 : decode cX8_pack 126 = .ok (.iload 7, 2) := by decide +kernel
theorem dX8_pack_128 : decode cX8_pack 128 = .ok (.i2l, 1) := by decide +kernel
theorem dX8_pack_129 : decode cX8_pack 129 = .ok (.ladd, 1) := by decide +kernel
theorem dX8_pack_130 : decode cX8_pack 130 = .ok (.putfield 94, 3) := by decide +kernel
theorem dX8_pack_133 : decode cX8_pack 133 = .ok (.iload_n 2, 1) := by decide +kernel
theorem dX8_pack_134 : decode cX8_pack 134 = .ok (.iload_n 1, 1) := by decide +kernel
theorem dX8_pack_135 : decode cX8_pack 135 = .ok (.if_icmp .ne 15, 3) := by decide +kernel
theorem dX8_pack_138 : decode cX8_pack 138 = .ok (.aload_n 0, 1) := by decide +kernel
theorem dX8_pack_139 : decode cX8_pack 139 = .ok (.iload 4, 2) := by decide +kernel
theorem dX8_pack_141 : decode cX8_pack 141 = .ok (.iload 5, 2) := by decide +kernel
theorem dX8_pack_143 : decode cX8_pack 143 = .ok (.iload 6, 2) := by decide +kernel
theorem dX8_pack_145 : decode cX8_pack 145 = .ok (.iload 7, 2) := by decide +kernel
theorem dX8_pack_147 : decode cX8_pack 147 = .ok (.invokevirtual 97, 3) := by decide +kernel
theorem dX8_pack_150 : decode cX8_pack 150 = .ok (.iinc 2 1, 3) := by decide +kernel
theorem dX8_pack_153 : decode cX8_pack 153 = .ok (.iinc 6 1, 3) := by decide +kernel
theorem dX8_pack_156 : decode cX8_pack 156 = .ok (.goto (-95), 3) := by decide +kernel
theorem dX8_pack_159 : decode cX8_pack 159 = .ok (.iinc 5 1, 3) := by decide +kernel
theorem dX8_pack_162 : decode cX8_pack 162 = .ok (.goto (-113), 3) := by decide +kernel
theorem dX8_pack_165 : decode cX8_pack 165 = .ok (.iinc 4 1, 3) := by decide +kernel
theorem dX8_pack_168 : decode cX8_pack 168 = .ok (.goto (-131), 3) := by decide +kernel
theorem dX8_pack_171 : decode cX8_pack 171 = .ok (.return_, 1) := by decide +kernel
theorem dX8_remember_0 : decode cX8_remember 0 = .ok (.aload_n 0, 1) := by decide +kernel
theorem dX8_remember_1 : decode cX8_remember 1 = .ok (.getfield 18, 3) := by decide +kernel
theorem dX8_remember_4 : decode cX8_remember 4 = .ok (.iconst 0, 1) := by decide +kernel
theorem dX8_remember_5 : decode cX8_remember 5 = .ok (.iload_n 1, 1) := by decide +kernel
theorem dX8_remember_6 : decode cX8_remember 6 = .ok (.iastore, 1) := by decide +kernel
theorem dX8_remember_7 : decode cX8_remember 7 = .ok (.aload_n 0, 1) := by decide +kernel
theorem dX8_remember_8 : decode cX8_remember 8 = .ok (.getfield 18, 3) := by decide +kernel
theorem dX8_remember_11 : decode cX8_remember 11 = .ok (.iconst 1, 1) := by decide +kernel
theorem dX8_remember_12 : decode cX8_remember 12 = .ok (.iload_n 2, 1) := by decide +kernel
theorem dX8_remember_13 : decode cX8_remember 13 = .ok (.iastore, 1) := by decide +kernel
theorem dX8_remember_14 : decode cX8_remember 14 = .ok (.aload_n 0, 1) := by decide +kernel
theorem dX8_remember_15 : decode cX8_remember 15 = .ok (.getfield 18, 3) := by decide +kernel
theorem dX8_remember_18 : decode cX8_remember 18 = .ok (.iconst 2, 1) := by decide +kernel
theorem dX8_remember_19 : decode cX8_remember 19 = .ok (.iload_n 3, 1) := by decide +kernel
theorem dX8_remember_20 : decode cX8_remember 20 = .ok (.iastore, 1) := by decide +kernel
theorem dX8_remember_21 : decode cX8_remember 21 = .ok (.aload_n 0, 1) := by decide +kernel
theorem dX8_remember_22 : decode cX8_remember 22 = .ok (.getfield 18, 3) := by decide +kernel
theorem dX8_remember_25 : decode cX8_remember 25 = .ok (.iconst 3, 1) := by decide +kernel
theorem dX8_remember_26 : decode cX8_remember 26 = .ok (.iload 4, 2) := by decide +kernel
theorem dX8_remember_28 : decode cX8_remember 28 = .ok (.iastore, 1) := by decide +kernel
theorem dX8_remember_29 : decode cX8_remember 29 = .ok (.return_, 1) := by decide +kernel
theorem dX8_hit_0 : decode cX8_hit 0 = .ok (.aload_n 0, 1) := by decide +kernel
theorem dX8_hit_1 : decode cX8_hit 1 = .ok (.getfield 18, 3) := by decide +kernel
theorem dX8_hit_4 : decode cX8_hit 4 = .ok (.iload_n 1, 1) := by decide +kernel
theorem dX8_hit_5 : decode cX8_hit 5 = .ok (.iaload, 1) := by decide +kernel
theorem dX8_hit_6 : decode cX8_hit 6 = .ok (.ireturn, 1) := by decide +kernel
theorem dX9_init_0 : decode cX9_init 0 = .ok (.aload_n 0, 1) := by decide +kernel
theorem dX9_init_1 : decode cX9_init 1 = .ok (.invokespecial 3, 3) := by decide +kernel
theorem dX9_init_4 : decode cX9_init 4 = .ok (.aload_n 0, 1) := by decide +kernel
theorem dX9_init_5 : decode cX9_init 5 = .ok (.bipush 16, 2) := by decide +kernel
theorem dX9_init_7 : decode cX9_init 7 = .ok (.newarray .int, 2) := by decide +kernel
theorem dX9_init_9 : decode cX9_init 9 = .ok (.putfield 9, 3) := by decide +kernel
theorem dX9_init_12 : decode cX9_init 12 = .ok (.aload_n 0, 1) := by decide +kernel
theorem dX9_init_13 : decode cX9_init 13 = .ok (.bipush 17, 2) := by decide +kernel
theorem dX9_init_15 : decode cX9_init 15 = .ok (.newarray .int, 2) := by decide +kernel
theorem dX9_init_17 : decode cX9_init 17 = .ok (.putfield 15, 3) := by decide +kernel
theorem dX9_init_20 : decode cX9_init 20 = .ok (.aload_n 0, 1) := by decide +kernel
theorem dX9_init_21 : decode cX9_init 21 = .ok (.bipush 16, 2) := by decide +kernel
theorem dX9_init_23 : decode cX9_init 23 = .ok (.newarray .int, 2) := by decide +kernel
theorem dX9_init_25 : decode cX9_init 25 = .ok (.putfield 18, 3) := by decide +kernel
theorem dX9_init_28 : decode cX9_init 28 = .ok (.aload_n 0, 1) := by decide +kernel
theorem dX9_init_29 : decode cX9_init 29 = .ok (.sipush 400, 3) := by decide +kernel
theorem dX9_init_32 : decode cX9_init 32 = .ok (.newarray .int, 2) := by decide +kernel
theorem dX9_init_34 : decode cX9_init 34 = .ok (.putfield 21, 3) := by decide +kernel
theorem dX9_init_37 : decode cX9_init 37 = .ok (.aload_n 0, 1) := by decide +kernel
theorem dX9_init_38 : decode cX9_init 38 = .ok (.sipush 400, 3) := by decide +kernel
theorem dX9_init_41 : decode cX9_init 41 = .ok (.newarray .int, 2) := by decide +kernel
theorem dX9_init_43 : decode cX9_init 43 = .ok (.putfield 24, 3) := by decide +kernel
theorem dX9_init_46 : decode cX9_init 46 = .ok (.aload_n 0, 1) := by decide +kernel
theorem dX9_init_47 : decode cX9_init 47 = .ok (.bipush 64, 2) := by decide +kernel
theorem dX9_init_49 : decode cX9_init 49 = .ok (.newarray .int, 2) := by decide +kernel
theorem dX9_init_51 : decode cX9_init 51 = .ok (.putfield 27, 3) := by decide +kernel
theorem dX9_init_54 : decode cX9_init 54 = .ok (.return_, 1) := by decide +kernel
theorem dX9_clear_0 : decode cX9_clear 0 = .ok (.aload_n 0, 1) := by decide +kernel
theorem dX9_clear_1 : decode cX9_clear 1 = .ok (.iconst 0, 1) := by decide +kernel
theorem dX9_clear_2 : decode cX9_clear 2 = .ok (.putfield 30, 3) := by decide +kernel
theorem dX9_clear_5 : decode cX9_clear 5 = .ok (.aload_n 0, 1) := by decide +kernel
theorem dX9_clear_6 : decode cX9_clear 6 = .ok (.iconst 0, 1) := by decide +kernel
theorem dX9_clear_7 : decode cX9_clear 7 = .ok (.putfield 34, 3) := by decide +kernel
theorem dX9_clear_10 : decode cX9_clear 10 = .ok (.return_, 1) := by decide +kernel
theorem dX9_isFull_0 : decode cX9_isFull 0 = .ok (.aload_n 0, 1) := by decide +kernel
theorem dX9_isFull_1 : decode cX9_isFull 1 = .ok (.getfield 30, 3) := by decide +kernel
theorem dX9_isFull_4 : decode cX9_isFull 4 = .ok (.bipush 16, 2) := by decide +kernel
theorem dX9_isFull_6 : decode cX9_isFull 6 = .ok (.if_icmp .lt 7, 3) := by decide +kernel
theorem dX9_isFull_9 : decode cX9_isFull 9 = .ok (.iconst 1, 1) := by decide +kernel
theorem dX9_isFull_10 : decode cX9_isFull 10 = .ok (.goto 4, 3) := by decide +kernel
theorem dX9_isFull_13 : decode cX9_isFull 13 = .ok (.iconst 0, 1) := by decide +kernel
theorem dX9_isFull_14 : decode cX9_isFull 14 = .ok (.ireturn, 1) := by decide +kernel
theorem dX9_emit_0 : decode cX9_emit 0 = .ok (.aload_n 0, 1) := by decide +kernel
theorem dX9_emit_1 : decode cX9_emit 1 = .ok (.getfield 34, 3) := by decide +kernel
theorem dX9_emit_4 : decode cX9_emit 4 = .ok (.sipush 400, 3) := by decide +kernel
theorem dX9_emit_7 : decode cX9_emit 7 = .ok (.if_icmp .ge 33, 3) := by decide +kernel
theorem dX9_emit_10 : decode cX9_emit 10 = .ok (.aload_n 0, 1) := by decide +kernel
theorem dX9_emit_11 : decode cX9_emit 11 = .ok (.getfield 21, 3) := by decide +kernel
theorem dX9_emit_14 : decode cX9_emit 14 = .ok (.aload_n 0, 1) := by decide +kernel
theorem dX9_emit_15 : decode cX9_emit 15 = .ok (.getfield 34, 3) := by decide +kernel
theorem dX9_emit_18 : decode cX9_emit 18 = .ok (.iload_n 1, 1) := by decide +kernel
theorem dX9_emit_19 : decode cX9_emit 19 = .ok (.iastore, 1) := by decide +kernel
theorem dX9_emit_20 : decode cX9_emit 20 = .ok (.aload_n 0, 1) := by decide +kernel
theorem dX9_emit_21 : decode cX9_emit 21 = .ok (.getfield 24, 3) := by decide +kernel
theorem dX9_emit_24 : decode cX9_emit 24 = .ok (.aload_n 0, 1) := by decide +kernel
theorem dX9_emit_25 : decode cX9_emit 25 = .ok (.getfield 34, 3) := by decide +kernel
theorem dX9_emit_28 : decode cX9_emit 28 = .ok (.iload_n 2, 1) := by decide +kernel
theorem dX9_emit_29 : decode cX9_emit 29 = .ok (.iastore, 1) := by decide +kernel
theorem dX9_emit_30 : decode cX9_emit 30 = .ok (.aload_n 0, 1) := by decide +kernel
theorem dX9_emit_31 : decode cX9_emit 31 = .ok (.dup, 1) := by decide +kernel
theorem dX9_emit_32 : decode cX9_emit 32 = .ok (.getfield 34, 3) := by decide +kernel
theorem dX9_emit_35 : decode cX9_emit 35 = .ok (.iconst 1, 1) := by decide +kernel
theorem dX9_emit_36 : decode cX9_emit 36 = .ok (.iadd, 1) := by decide +kernel
theorem dX9_emit_37 : decode cX9_emit 37 = .ok (.putfield 34, 3) := by decide +kernel
theorem dX9_emit_40 : decode cX9_emit 40 = .ok (.return_, 1) := by decide +kernel
theorem dX9_open_0 : decode cX9_open 0 = .ok (.aload_n 0, 1) := by decide +kernel
theorem dX9_open_1 : decode cX9_open 1 = .ok (.getfield 9, 3) := by decide +kernel
theorem dX9_open_4 : decode cX9_open 4 = .ok (.aload_n 0, 1) := by decide +kernel
theorem dX9_open_5 : decode cX9_open 5 = .ok (.getfield 30, 3) := by decide +kernel
theorem dX9_open_8 : decode cX9_open 8 = .ok (.iload_n 1, 1) := by decide +kernel
theorem dX9_open_9 : decode cX9_open 9 = .ok (.iastore, 1) := by decide +kernel
theorem dX9_open_10 : decode cX9_open 10 = .ok (.aload_n 0, 1) := by decide +kernel
theorem dX9_open_11 : decode cX9_open 11 = .ok (.getfield 15, 3) := by decide +kernel
theorem dX9_open_14 : decode cX9_open 14 = .ok (.aload_n 0, 1) := by decide +kernel
theorem dX9_open_15 : decode cX9_open 15 = .ok (.getfield 30, 3) := by decide +kernel
theorem dX9_open_18 : decode cX9_open 18 = .ok (.aload_n 0, 1) := by decide +kernel
theorem dX9_open_19 : decode cX9_open 19 = .ok (.getfield 34, 3) := by decide +kernel
theorem dX9_open_22 : decode cX9_open 22 = .ok (.iastore, 1) := by decide +kernel
theorem dX9_open_23 : decode cX9_open 23 = .ok (.return_, 1) := by decide +kernel
theorem dX9_beginCondition_0 : decode cX9_beginCondition 0 = .ok (.aload_n 0, 1) := by decide +kernel
theorem dX9_beginCondition_1 : decode cX9_beginCondition 1 = .ok (.getfield 18, 3) := by decide +kernel
theorem dX9_beginCondition_4 : decode cX9_beginCondition 4 = .ok (.aload_n 0, 1) := by decide +kernel
theorem dX9_beginCondition_5 : decode cX9_beginCondition 5 = .ok (.getfield 30, 3) := by decide +kernel
theorem dX9_beginCondition_8 : decode cX9_beginCondition 8 = .ok (.aload_n 0, 1) := by decide +kernel
theorem dX9_beginCondition_9 : decode cX9_beginCondition 9 = .ok (.getfield 34, 3) := by decide +kernel
theorem dX9_beginCondition_12 : decode cX9_beginCondition 12 = .ok (.iastore, 1) := by decide +kernel
theorem dX9_beginCondition_13 : decode cX9_beginCondition 13 = .ok (.return_, 1) := by decide +kernel
theorem dX9_close_0 : decode cX9_close 0 = .ok (.aload_n 0, 1) := by decide +kernel
theorem dX9_close_1 : decode cX9_close 1 = .ok (.dup, 1) := by decide +kernel
theorem dX9_close_2 : decode cX9_close 2 = .ok (.getfield 30, 3) := by decide +kernel
theorem dX9_close_5 : decode cX9_close 5 = .ok (.iconst 1, 1) := by decide +kernel
theorem dX9_close_6 : decode cX9_close 6 = .ok (.iadd, 1) := by decide +kernel
theorem dX9_close_7 : decode cX9_close 7 = .ok (.putfield 30, 3) := by decide +kernel
theorem dX9_close_10 : decode cX9_close 10 = .ok (.aload_n 0, 1) := by decide +kernel
theorem dX9_close_11 : decode cX9_close 11 = .ok (.getfield 15, 3) := by decide +kernel
theorem dX9_close_14 : decode cX9_close 14 = .ok (.aload_n 0, 1) := by decide +kernel
theorem dX9_close_15 : decode cX9_close 15 = .ok (.getfield 30, 3) := by decide +kernel
theorem dX9_close_18 : decode cX9_close 18 = .ok (.aload_n 0, 1) := by decide +kernel
theorem dX9_close_19 : decode cX9_close 19 = .ok (.getfield 34, 3) := by decide +kernel
theorem dX9_close_22 : decode cX9_close 22 = .ok (.iastore, 1) := by decide +kernel
theorem dX9_close_23 : decode cX9_close 23 = .ok (.return_, 1) := by decide +kernel
theorem dX9_judge_0 : decode cX9_judge 0 = .ok (.aload_n 0, 1) := by decide +kernel
theorem dX9_judge_1 : decode cX9_judge 1 = .ok (.iconst 0, 1) := by decide +kernel
theorem dX9_judge_2 : decode cX9_judge 2 = .ok (.putfield 37, 3) := by decide +kernel
theorem dX9_judge_5 : decode cX9_judge 5 = .ok (.aload_n 0, 1) := by decide +kernel
theorem dX9_judge_6 : decode cX9_judge 6 = .ok (.iconst 0, 1) := by decide +kernel
theorem dX9_judge_7 : decode cX9_judge 7 = .ok (.putfield 40, 3) := by decide +kernel
theorem dX9_judge_10 : decode cX9_judge 10 = .ok (.aload_n 0, 1) := by decide +kernel
theorem dX9_judge_11 : decode cX9_judge 11 = .ok (.iconst 0, 1) := by decide +kernel
theorem dX9_judge_12 : decode cX9_judge 12 = .ok (.putfield 43, 3) := by decide +kernel
theorem dX9_judge_15 : decode cX9_judge 15 = .ok (.aload_n 0, 1) := by decide +kernel
theorem dX9_judge_16 : decode cX9_judge 16 = .ok (.aload_n 1, 1) := by decide +kernel
theorem dX9_judge_17 : decode cX9_judge 17 = .ok (.invokevirtual 47, 3) := by decide +kernel
theorem dX9_judge_20 : decode cX9_judge 20 = .ok (.istore_n 2, 1) := by decide +kernel
theorem dX9_judge_21 : decode cX9_judge 21 = .ok (.aload_n 0, 1) := by decide +kernel
theorem dX9_judge_22 : decode cX9_judge 22 = .ok (.iload_n 2, 1) := by decide +kernel
theorem dX9_judge_23 : decode cX9_judge 23 = .ok (.ifCond .eq 14, 3) := by decide +kernel
theorem dX9_judge_26 : decode cX9_judge 26 = .ok (.aload_n 0, 1) := by decide +kernel
theorem dX9_judge_27 : decode cX9_judge 27 = .ok (.getfield 40, 3) := by decide +kernel
theorem dX9_judge_30 : decode cX9_judge 30 = .ok (.ifCond .ne 7, 3) := by decide +kernel
theorem dX9_judge_33 : decode cX9_judge 33 = .ok (.iconst 1, 1) := by decide +kernel
theorem dX9_judge_34 : decode cX9_judge 34 = .ok (.goto 4, 3) := by decide +kernel
theorem dX9_judge_37 : decode cX9_judge 37 = .ok (.iconst 0, 1) := by decide +kernel
theorem dX9_judge_38 : decode cX9_judge 38 = .ok (.putfield 51, 3) := by decide +kernel
theorem dX9_judge_41 : decode cX9_judge 41 = .ok (.aload_n 0, 1) := by decide +kernel
theorem dX9_judge_42 : decode cX9_judge 42 = .ok (.getfield 51, 3) := by decide +kernel
theorem dX9_judge_45 : decode cX9_judge 45 = .ok (.ifCond .ne 8, 3) := by decide +kernel
theorem dX9_judge_48 : decode cX9_judge 48 = .ok (.aload_n 0, 1) := by decide +kernel
theorem dX9_judge_49 : decode cX9_judge 49 = .ok (.aload_n 1, 1) := by decide +kernel
theorem dX9_judge_50 : decode cX9_judge 50 = .ok (.invokevirtual 54, 3) := by decide +kernel
theorem dX9_judge_53 : decode cX9_judge 53 = .ok (.aload_n 0, 1) := by decide +kernel
theorem dX9_judge_54 : decode cX9_judge 54 = .ok (.sipush (-10000), 3) := by decide +kernel
theorem dX9_judge_57 : decode cX9_judge 57 = .ok (.sipush 10000, 3) := by decide +kernel
theorem dX9_judge_60 : decode cX9_judge 60 = .ok (.aload_n 0, 1) := by decide +kernel
theorem dX9_judge_61 : decode cX9_judge 61 = .ok (.getfield 37, 3) := by decide +kernel
theorem dX9_judge_64 : decode cX9_judge 64 = .ok (.invokestatic 58, 3) := by decide +kernel
theorem dX9_judge_67 : decode cX9_judge 67 = .ok (.invokestatic 64, 3) := by decide +kernel
theorem dX9_judge_70 : decode cX9_judge 70 = .ok (.putfield 37, 3) := by decide +kernel
theorem dX9_judge_73 : decode cX9_judge 73 = .ok (.return_, 1) := by decide +kernel
theorem dX9_workLooks_0 : decode cX9_workLooks 0 = .ok (.iconst 0, 1) := by decide +kernel
theorem dX9_workLooks_1 : decode cX9_workLooks 1 = .ok (.istore_n 2, 1) := by decide +kernel
theorem dX9_workLooks_2 : decode cX9_workLooks 2 = .ok (.iconst 0, 1) := by decide +kernel
theorem dX9_workLooks_3 : decode cX9_workLooks 3 = .ok (.istore_n 3, 1) := by decide +kernel
theorem dX9_workLooks_4 : decode cX9_workLooks 4 = .ok (.iload_n 3, 1) := by decide +kernel
theorem dX9_workLooks_5 : decode cX9_workLooks 5 = .ok (.aload_n 0, 1) := by decide +kernel
theorem dX9_workLooks_6 : decode cX9_workLooks 6 = .ok (.getfield 30, 3) := by decide +kernel
theorem dX9_workLooks_9 : decode cX9_workLooks 9 = .ok (.if_icmp .ge 43, 3) := by decide +kernel
theorem dX9_workLooks_12 : decode cX9_workLooks 12 = .ok (.aload_n 0, 1) := by decide +kernel
theorem dX9_workLooks_13 : decode cX9_workLooks 13 = .ok (.getfield 9, 3) := by decide +kernel
theorem dX9_workLooks_16 : decode cX9_workLooks 16 = .ok (.iload_n 3, 1) := by decide +kernel
theorem dX9_workLooks_17 : decode cX9_workLooks 17 = .ok (.iaload, 1) := by decide +kernel
theorem dX9_workLooks_18 : decode cX9_workLooks 18 = .ok (.bipush (-12), 2) := by decide +kernel
theorem dX9_workLooks_20 : decode cX9_workLooks 20 = .ok (.if_icmp .ne 26, 3) := by decide +kernel
theorem dX9_workLooks_23 : decode cX9_workLooks 23 = .ok (.iconst 1, 1) := by decide +kernel
theorem dX9_workLooks_24 : decode cX9_workLooks 24 = .ok (.istore_n 2, 1) := by decide +kernel
theorem dX9_workLooks_25 : decode cX9_workLooks 25 = .ok (.aload_n 0, 1) := by decide +kernel
theorem dX9_workLooks_26 : decode cX9_workLooks 26 = .ok (.iload_n 3, 1) := by decide +kernel
theorem dX9_workLooks_27 : decode cX9_workLooks 27 = .ok (.aload_n 1, 1) := by decide +kernel
theorem dX9_workLooks_28 : decode cX9_workLooks 28 = .ok (.invokevirtual 67, 3) := by decide +kernel
theorem dX9_workLooks_31 : decode cX9_workLooks 31 = .ok (.ifCond .eq 15, 3) := by decide +kernel
theorem dX9_workLooks_34 : decode cX9_workLooks 34 = .ok (.aload_n 0, 1) := by decide +kernel
theorem dX9_workLooks_35 : decode cX9_workLooks 35 = .ok (.dup, 1) := by decide +kernel
theorem dX9_workLooks_36 : decode cX9_workLooks 36 = .ok (.getfield 40, 3) := by decide +kernel
theorem dX9_workLooks_39 : decode cX9_workLooks 39 = .ok (.iconst 1, 1) := by decide +kernel
theorem dX9_workLooks_40 : decode cX9_workLooks 40 = .ok (.iload_n 3, 1) := by decide +kernel
theorem dX9_workLooks_41 : decode cX9_workLooks 41 = .ok (.ishl, 1) := by decide +kernel
theorem dX9_workLooks_42 : decode cX9_workLooks 42 = .ok (.ior, 1) := by decide +kernel
theorem dX9_workLooks_43 : decode cX9_workLooks 43 = .ok (.putfield 40, 3) := by decide +kernel
theorem dX9_workLooks_46 : decode cX9_workLooks 46 = .ok (.iinc 3 1, 3) := by decide +kernel
theorem dX9_workLooks_49 : decode cX9_workLooks 49 = .ok (.goto (-45), 3) := by decide +kernel
theorem dX9_workLooks_52 : decode cX9_workLooks 52 = .ok (.iload_n 2, 1) := by decide +kernel
theorem dX9_workLooks_53 : decode cX9_workLooks 53 = .ok (.ireturn, 1) := by decide +kernel
theorem dX9_workOthers_0 : decode cX9_workOthers 0 = .ok (.iconst 0, 1) := by decide +kernel
theorem dX9_workOthers_1 : decode cX9_workOthers 1 = .ok (.istore_n 2, 1) := by decide +kernel
theorem dX9_workOthers_2 : decode cX9_workOthers 2 = .ok (.iload_n 2, 1) := by decide +kernel
theorem dX9_workOthers_3 : decode cX9_workOthers 3 = .ok (.aload_n 0, 1) := by decide +kernel
theorem dX9_workOthers_4 : decode cX9_workOthers 4 = .ok (.getfield 30, 3) := by decide +kernel
theorem dX9_workOthers_7 : decode cX9_workOthers 7 = .ok (.if_icmp .ge 111, 3) := by decide +kernel
theorem dX9_workOthers_10 : decode cX9_workOthers 10 = .ok (.aload_n 0, 1) := by decide +kernel
theorem dX9_workOthers_11 : decode cX9_workOthers 11 = .ok (.getfield 9, 3) := by decide +kernel
theorem dX9_workOthers_14 : decode cX9_workOthers 14 = .ok (.iload_n 2, 1) := by decide +kernel
theorem dX9_workOthers_15 : decode cX9_workOthers 15 = .ok (.iaload, 1) := by decide +kernel
theorem dX9_workOthers_16 : decode cX9_workOthers 16 = .ok (.bipush (-12), 2) := by decide +kernel
theorem dX9_workOthers_18 : decode cX9_workOthers 18 = .ok (.if_icmp .eq 94, 3) := by decide +kernel
theorem dX9_workOthers_21 : decode cX9_workOthers 21 = .ok (.aload_n 0, 1) := by decide +kernel
theorem dX9_workOthers_22 : decode cX9_workOthers 22 = .ok (.iload_n 2, 1) := by decide +kernel
theorem dX9_workOthers_23 : decode cX9_workOthers 23 = .ok (.aload_n 1, 1) := by decide +kernel
theorem dX9_workOthers_24 : decode cX9_workOthers 24 = .ok (.invokevirtual 67, 3) := by decide +kernel
theorem dX9_workOthers_27 : decode cX9_workOthers 27 = .ok (.ifCond .ne 6, 3) := by decide +kernel
theorem dX9_workOthers_30 : decode cX9_workOthers 30 = .ok (.goto 82, 3) := by decide +kernel
theorem dX9_workOthers_33 : decode cX9_workOthers 33 = .ok (.aload_n 0, 1) := by decide +kernel
theorem dX9_workOthers_34 : decode cX9_workOthers 34 = .ok (.dup, 1) := by decide +kernel
theorem dX9_workOthers_35 : decode cX9_workOthers 35 = .ok (.getfield 40, 3) := by decide +kernel
theorem dX9_workOthers_38 : decode cX9_workOthers 38 = .ok (.iconst 1, 1) := by decide +kernel
theorem dX9_workOthers_39 : decode cX9_workOthers 39 = .ok (.iload_n 2, 1) := by decide +kernel
theorem dX9_workOthers_40 : decode cX9_workOthers 40 = .ok (.ishl, 1) := by decide +kernel
theorem dX9_workOthers_41 : decode cX9_workOthers 41 = .ok (.ior, 1) := by decide +kernel
theorem dX9_workOthers_42 : decode cX9_workOthers 42 = .ok (.putfield 40, 3) := by decide +kernel
theorem dX9_workOthers_45 : decode cX9_workOthers 45 = .ok (.aload_n 0, 1) := by decide +kernel
theorem dX9_workOthers_46 : decode cX9_workOthers 46 = .ok (.getfield 9, 3) := by decide +kernel
theorem dX9_workOthers_49 : decode cX9_workOthers 49 = .ok (.iload_n 2, 1) := by decide +kernel
theorem dX9_workOthers_50 : decode cX9_workOthers 50 = .ok (.iaload, 1) := by decide +kernel
theorem dX9_workOthers_51 : decode cX9_workOthers 51 = .ok (.bipush (-11), 2) := by decide +kernel
theorem dX9_workOthers_53 : decode cX9_workOthers 53 = .ok (.if_icmp .ne 11, 3) := by decide +kernel
theorem dX9_workOthers_56 : decode cX9_workOthers 56 = .ok (.aload_n 0, 1) := by decide +kernel
theorem dX9_workOthers_57 : decode cX9_workOthers 57 = .ok (.iconst 1, 1) := by decide +kernel
theorem dX9_workOthers_58 : decode cX9_workOthers 58 = .ok (.putfield 43, 3) := by decide +kernel
theorem dX9_workOthers_61 : decode cX9_workOthers 61 = .ok (.goto 51, 3) := by decide +kernel
theorem dX9_workOthers_64 : decode cX9_workOthers 64 = .ok (.aload_n 0, 1) := by decide +kernel
theorem dX9_workOthers_65 : decode cX9_workOthers 65 = .ok (.aload_n 0, 1) := by decide +kernel
theorem dX9_workOthers_66 : decode cX9_workOthers 66 = .ok (.getfield 15, 3) := by decide +kernel
theorem dX9_workOthers_69 : decode cX9_workOthers 69 = .ok (.iload_n 2, 1) := by decide +kernel
theorem dX9_workOthers_70 : decode cX9_workOthers 70 = .ok (.iaload, 1) := by decide +kernel
theorem dX9_workOthers_71 : decode cX9_workOthers 71 = .ok (.aload_n 0, 1) := by decide +kernel
theorem dX9_workOthers_72 : decode cX9_workOthers 72 = .ok (.getfield 18, 3) := by decide +kernel
theorem dX9_workOthers_75 : decode cX9_workOthers 75 = .ok (.iload_n 2, 1) := by decide +kernel
theorem dX9_workOthers_76 : decode cX9_workOthers 76 = .ok (.iaload, 1) := by decide +kernel
theorem dX9_workOthers_77 : decode cX9_workOthers 77 = .ok (.aload_n 1, 1) := by decide +kernel
theorem dX9_workOthers_78 : decode cX9_workOthers 78 = .ok (.invokevirtual 71, 3) := by decide +kernel
theorem dX9_workOthers_81 : decode cX9_workOthers 81 = .ok (.istore_n 3, 1) := by decide +kernel
theorem dX9_workOthers_82 : decode cX9_workOthers 82 = .ok (.aload_n 0, 1) := by decide +kernel
theorem dX9_workOthers_83 : decode cX9_workOthers 83 = .ok (.aload_n 0, 1) := by decide +kernel
theorem dX9_workOthers_84 : decode cX9_workOthers 84 = .ok (.getfield 9, 3) := by decide +kernel
theorem dX9_workOthers_87 : decode cX9_workOthers 87 = .ok (.iload_n 2, 1) := by decide +kernel
theorem dX9_workOthers_88 : decode cX9_workOthers 88 = .ok (.iaload, 1) := by decide +kernel
theorem dX9_workOthers_89 : decode cX9_workOthers 89 = .ok (.bipush (-9), 2) := by decide +kernel
theorem dX9_workOthers_91 : decode cX9_workOthers 91 = .ok (.if_icmp .ne 12, 3) := by decide +kernel
theorem dX9_workOthers_94 : decode cX9_workOthers 94 = .ok (.aload_n 0, 1) := by decide +kernel
theorem dX9_workOthers_95 : decode cX9_workOthers 95 = .ok (.getfield 37, 3) := by decide +kernel
theorem dX9_workOthers_98 : decode cX9_workOthers 98 = .ok (.iload_n 3, 1) := by decide +kernel
theorem dX9_workOthers_99 : decode cX9_workOthers 99 = .ok (.iadd, 1) := by decide +kernel
theorem dX9_workOthers_100 : decode cX9_workOthers 100 = .ok (.goto 9, 3) := by decide +kernel
theorem dX9_workOthers_103 : decode cX9_workOthers 103 = .ok (.aload_n 0, 1) := by decide +kernel
theorem dX9_workOthers_104 : decode cX9_workOthers 104 = .ok (.getfield 37, 3) := by decide +kernel
theorem dX9_workOthers_107 : decode cX9_workOthers 107 = .ok (.iload_n 3, 1) := by decide +kernel
theorem dX9_workOthers_108 : decode cX9_workOthers 108 = .ok (.isub, 1) := by decide +kernel
theorem dX9_workOthers_109 : decode cX9_workOthers 109 = .ok (.putfield 37, 3) := by decide +kernel
theorem dX9_workOthers_112 : decode cX9_workOthers 112 = .ok (.iinc 2 1, 3) := by decide +kernel
theorem dX9_workOthers_115 : decode cX9_workOthers 115 = .ok (.goto (-113), 3) := by decide +kernel
theorem dX9_workOthers_118 : decode cX9_workOthers 118 = .ok (.return_, 1) := by decide +kernel
theorem dX9_applies_0 : decode cX9_applies 0 = .ok (.aload_n 0, 1) := by decide +kernel
theorem dX9_applies_1 : decode cX9_applies 1 = .ok (.getfield 18, 3) := by decide +kernel
theorem dX9_applies_4 : decode cX9_applies 4 = .ok (.iload_n 1, 1) := by decide +kernel
theorem dX9_applies_5 : decode cX9_applies 5 = .ok (.iaload, 1) := by decide +kernel
theorem dX9_applies_6 : decode cX9_applies 6 = .ok (.aload_n 0, 1) := by decide +kernel
theorem dX9_applies_7 : decode cX9_applies 7 = .ok (.getfield 15, 3) := by decide +kernel
theorem dX9_applies_10 : decode cX9_applies 10 = .ok (.iload_n 1, 1) := by decide +kernel
theorem dX9_applies_11 : decode cX9_applies 11 = .ok (.iconst 1, 1) := by decide +kernel
theorem dX9_applies_12 : decode cX9_applies 12 = .ok (.iadd, 1) := by decide +kernel
theorem dX9_applies_13 : decode cX9_applies 13 = .ok (.iaload, 1) := by decide +kernel
theorem dX9_applies_14 : decode cX9_applies 14 = .ok (.if_icmp .ne 7, 3) := by decide +kernel
theorem dX9_applies_17 : decode cX9_applies 17 = .ok (.iconst 1, 1) := by decide +kernel
theorem dX9_applies_18 : decode cX9_applies 18 = .ok (.goto 4, 3) := by decide +kernel
theorem dX9_applies_21 : decode cX9_applies 21 = .ok (.iconst 0, 1) := by decide +kernel
theorem dX9_applies_22 : decode cX9_applies 22 = .ok (.istore_n 3, 1) := by decide +kernel
theorem dX9_applies_23 : decode cX9_applies 23 = .ok (.iload_n 3, 1) := by decide +kernel
theorem dX9_applies_24 : decode cX9_applies 24 = .ok (.ifCond .ne 25, 3) := by decide +kernel
theorem dX9_applies_27 : decode cX9_applies 27 = .ok (.aload_n 0, 1) := by decide +kernel
theorem dX9_applies_28 : decode cX9_applies 28 = .ok (.aload_n 0, 1) := by decide +kernel
theorem dX9_applies_29 : decode cX9_applies 29 = .ok (.getfield 18, 3) := by decide +kernel
theorem dX9_applies_32 : decode cX9_applies 32 = .ok (.iload_n 1, 1) := by decide +kernel
theorem dX9_applies_33 : decode cX9_applies 33 = .ok (.iaload, 1) := by decide +kernel
theorem dX9_applies_34 : decode cX9_applies 34 = .ok (.aload_n 0, 1) := by decide +kernel
theorem dX9_applies_35 : decode cX9_applies 35 = .ok (.getfield 15, 3) := by decide +kernel
theorem dX9_applies_38 : decode cX9_applies 38 = .ok (.iload_n 1, 1) := by decide +kernel
theorem dX9_applies_39 : decode cX9_applies 39 = .ok (.iconst 1, 1) := by decide +kernel
theorem dX9_applies_40 : decode cX9_applies 40 = .ok (.iadd, 1) := by decide +kernel
theorem dX9_applies_41 : decode cX9_applies 41 = .ok (.iaload, 1) := by decide +kernel
theorem dX9_applies_42 : decode cX9_applies 42 = .ok (.aload_n 2, 1) := by decide +kernel
theorem dX9_applies_43 : decode cX9_applies 43 = .ok (.invokevirtual 71, 3) := by decide +kernel
theorem dX9_applies_46 : decode cX9_applies 46 = .ok (.ifCond .eq 7, 3) := by decide +kernel
theorem dX9_applies_49 : decode cX9_applies 49 = .ok (.iconst 1, 1) := by decide +kernel
theorem dX9_applies_50 : decode cX9_applies 50 = .ok (.goto 4, 3) := by decide +kernel
theorem dX9_applies_53 : decode cX9_applies 53 = .ok (.iconst 0, 1) := by decide +kernel
theorem dX9_applies_54 : decode cX9_applies 54 = .ok (.ireturn, 1) := by decide +kernel
theorem dX9_work_0 : decode cX9_work 0 = .ok (.iconst 0, 1) := by decide +kernel
theorem dX9_work_1 : decode cX9_work 1 = .ok (.istore 4, 2) := by decide +kernel
theorem dX9_work_3 : decode cX9_work 3 = .ok (.iload_n 1, 1) := by decide +kernel
theorem dX9_work_4 : decode cX9_work 4 = .ok (.istore 5, 2) := by decide +kernel
theorem dX9_work_6 : decode cX9_work 6 = .ok (.iload 5, 2) := by decide +kernel
theorem dX9_work_8 : decode cX9_work 8 = .ok (.iload_n 2, 1) := by decide +kernel
theorem dX9_work_9 : decode cX9_work 9 = .ok (.if_icmp .ge 143, 3) := by decide +kernel
theorem dX9_work_12 : decode cX9_work 12 = .ok (.aload_n 0, 1) := by decide +kernel
theorem dX9_work_13 : decode cX9_work 13 = .ok (.getfield 21, 3) := by decide +kernel
theorem dX9_work_16 : decode cX9_work 16 = .ok (.iload 5, 2) := by decide +kernel
theorem dX9_work_18 : decode cX9_work 18 = .ok (.iaload, 1) := by decide +kernel
theorem dX9_work_19 : decode cX9_work 19 = .ok (.istore 6, 2) := by decide +kernel
theorem dX9_work_21 : decode cX9_work 21 = .ok (.iload 6, 2) := by decide +kernel
theorem dX9_work_23 : decode cX9_work 23 = .ok (.bipush 6, 2) := by decide +kernel
theorem dX9_work_25 : decode cX9_work 25 = .ok (.if_icmp .gt 44, 3) := by decide +kernel
theorem dX9_work_28 : decode cX9_work 28 = .ok (.iload 4, 2) := by decide +kernel
theorem dX9_work_30 : decode cX9_work 30 = .ok (.bipush 64, 2) := by decide +kernel
theorem dX9_work_32 : decode cX9_work 32 = .ok (.if_icmp .ge 114, 3) := by decide +kernel
theorem dX9_work_35 : decode cX9_work 35 = .ok (.aload_n 0, 1) := by decide +kernel
theorem dX9_work_36 : decode cX9_work 36 = .ok (.getfield 27, 3) := by decide +kernel
theorem dX9_work_39 : decode cX9_work 39 = .ok (.iload 4, 2) := by decide +kernel
theorem dX9_work_41 : decode cX9_work 41 = .ok (.iload 6, 2) := by decide +kernel
theorem dX9_work_43 : decode cX9_work 43 = .ok (.bipush 6, 2) := by decide +kernel
theorem dX9_work_45 : decode cX9_work 45 = .ok (.if_icmp .ge 10, 3) := by decide +kernel
theorem dX9_work_48 : decode cX9_work 48 = .ok (.aload_n 3, 1) := by decide +kernel
theorem dX9_work_49 : decode cX9_work 49 = .ok (.iload 6, 2) := by decide +kernel
theorem dX9_work_51 : decode cX9_work 51 = .ok (.iaload, 1) := by decide +kernel
theorem dX9_work_52 : decode cX9_work 52 = .ok (.goto 10, 3) := by decide +kernel
theorem dX9_work_55 : decode cX9_work 55 = .ok (.aload_n 0, 1) := by decide +kernel
theorem dX9_work_56 : decode cX9_work 56 = .ok (.getfield 24, 3) := by decide +kernel
theorem dX9_work_59 : decode cX9_work 59 = .ok (.iload 5, 2) := by decide +kernel
theorem dX9_work_61 : decode cX9_work 61 = .ok (.iaload, 1) := by decide +kernel
theorem dX9_work_62 : decode cX9_work 62 = .ok (.iastore, 1) := by decide +kernel
theorem dX9_work_63 : decode cX9_work 63 = .ok (.iinc 4 1, 3) := by decide +kernel
theorem dX9_work_66 : decode cX9_work 66 = .ok (.goto 80, 3) := by decide +kernel
theorem dX9_work_69 : decode cX9_work 69 = .ok (.iload 6, 2) := by decide +kernel
theorem dX9_work_71 : decode cX9_work 71 = .ok (.bipush 7, 2) := by decide +kernel
theorem dX9_work_73 : decode cX9_work 73 = .ok (.if_icmp .ne 32, 3) := by decide +kernel
theorem dX9_work_76 : decode cX9_work 76 = .ok (.iload 4, 2) := by decide +kernel
theorem dX9_work_78 : decode cX9_work 78 = .ok (.iconst 1, 1) := by decide +kernel
theorem dX9_work_79 : decode cX9_work 79 = .ok (.if_icmp .lt 67, 3) := by decide +kernel
theorem dX9_work_82 : decode cX9_work 82 = .ok (.aload_n 0, 1) := by decide +kernel
theorem dX9_work_83 : decode cX9_work 83 = .ok (.getfield 27, 3) := by decide +kernel
theorem dX9_work_86 : decode cX9_work 86 = .ok (.iload 4, 2) := by decide +kernel
theorem dX9_work_88 : decode cX9_work 88 = .ok (.iconst 1, 1) := by decide +kernel
theorem dX9_work_89 : decode cX9_work 89 = .ok (.isub, 1) := by decide +kernel
theorem dX9_work_90 : decode cX9_work 90 = .ok (.iconst 1, 1) := by decide +kernel
theorem dX9_work_91 : decode cX9_work 91 = .ok (.aload_n 0, 1) := by decide +kernel
theorem dX9_work_92 : decode cX9_work 92 = .ok (.getfield 27, 3) := by decide +kernel
theorem dX9_work_95 : decode cX9_work 95 = .ok (.iload 4, 2) := by decide +kernel
theorem dX9_work_97 : decode cX9_work 97 = .ok (.iconst 1, 1) := by decide +kernel
theorem dX9_work_98 : decode cX9_work 98 = .ok (.isub, 1) := by decide +kernel
theorem dX9_work_99 : decode cX9_work 99 = .ok (.iaload, 1) := by decide +kernel
theorem dX9_work_100 : decode cX9_work 100 = .ok (.isub, 1) := by decide +kernel
theorem dX9_work_101 : decode cX9_work 101 = .ok (.iastore, 1) := by decide +kernel
theorem dX9_work_102 : decode cX9_work 102 = .ok (.goto 44, 3) := by decide +kernel
theorem dX9_work_105 : decode cX9_work 105 = .ok (.iload 4, 2) := by decide +kernel
theorem dX9_work_107 : decode cX9_work 107 = .ok (.iconst 2, 1) := by decide +kernel
theorem dX9_work_108 : decode cX9_work 108 = .ok (.if_icmp .lt 38, 3) := by decide +kernel
theorem dX9_work_111 : decode cX9_work 111 = .ok (.aload_n 0, 1) := by decide +kernel
theorem dX9_work_112 : decode cX9_work 112 = .ok (.getfield 27, 3) := by decide +kernel
theorem dX9_work_115 : decode cX9_work 115 = .ok (.iload 4, 2) := by decide +kernel
theorem dX9_work_117 : decode cX9_work 117 = .ok (.iconst 2, 1) := by decide +kernel
theorem dX9_work_118 : decode cX9_work 118 = .ok (.isub, 1) := by decide +kernel
theorem dX9_work_119 : decode cX9_work 119 = .ok (.iload 6, 2) := by decide +kernel
theorem dX9_work_121 : decode cX9_work 121 = .ok (.aload_n 0, 1) := by decide +kernel
theorem dX9_work_122 : decode cX9_work 122 = .ok (.getfield 27, 3) := by decide +kernel
theorem dX9_work_125 : decode cX9_work 125 = .ok (.iload 4, 2) := by decide +kernel
theorem dX9_work_127 : decode cX9_work 127 = .ok (.iconst 2, 1) := by decide +kernel
theorem dX9_work_128 : decode cX9_work 128 = .ok (.isub, 1) := by decide +kernel
theorem dX9_work_129 : decode cX9_work 129 = .ok (.iaload, 1) := by decide +kernel
theorem dX9_work_130 : decode cX9_work 130 = .ok (.aload_n 0, 1) := by decide +kernel
theorem dX9_work_131 : decode cX9_work 131 = .ok (.getfield 27, 3) := by decide +kernel
theorem dX9_work_134 : decode cX9_work 134 = .ok (.iload 4, 2) := by decide +kernel
theorem dX9_work_136 : decode cX9_work 136 = .ok (.iconst 1, 1) := by decide +kernel
theorem dX9_work_137 : decode cX9_work 137 = .ok (.isub, 1) := by decide +kernel
theorem dX9_work_138 : decode cX9_work 138 = .ok (.iaload, 1) := by decide +kernel
theorem dX9_work_139 : decode cX9_work 139 = .ok (.invokestatic 75, 3) := by decide +kernel
theorem dX9_work_142 : decode cX9_work 142 = .ok (.iastore, 1) := by decide +kernel
theorem dX9_work_143 : decode cX9_work 143 = .ok (.iinc 4 (-1), 3) := by decide +kernel
theorem dX9_work_146 : decode cX9_work 146 = .ok (.iinc 5 1, 3) := by decide +kernel
theorem dX9_work_149 : decode cX9_work 149 = .ok (.goto (-143), 3) := by decide +kernel
theorem dX9_work_152 : decode cX9_work 152 = .ok (.iload 4, 2) := by decide +kernel
theorem dX9_work_154 : decode cX9_work 154 = .ok (.iconst 1, 1) := by decide +kernel
theorem dX9_work_155 : decode cX9_work 155 = .ok (.if_icmp .lt 15, 3) := by decide +kernel
theorem dX9_work_158 : decode cX9_work 158 = .ok (.aload_n 0, 1) := by decide +kernel
theorem dX9_work_159 : decode cX9_work 159 = .ok (.getfield 27, 3) := by decide +kernel
theorem dX9_work_162 : decode cX9_work 162 = .ok (.iload 4, 2) := by decide +kernel
theorem dX9_work_164 : decode cX9_work 164 = .ok (.iconst 1, 1) := by decide +kernel
theorem dX9_work_165 : decode cX9_work 165 = .ok (.isub, 1) := by decide +kernel
theorem dX9_work_166 : decode cX9_work 166 = .ok (.iaload, 1) := by decide +kernel
theorem dX9_work_167 : decode cX9_work 167 = .ok (.goto 4, 3) := by decide +kernel
theorem dX9_work_170 : decode cX9_work 170 = .ok (.iconst 0, 1) := by decide +kernel
theorem dX9_work_171 : decode cX9_work 171 = .ok (.ireturn, 1) := by decide +kernel
theorem dX9_combine_0 : decode cX9_combine 0 = .ok (.iload_n 0, 1) := by decide +kernel
theorem dX9_combine_1 : decode cX9_combine 1 = .ok (.tableswitch 138 8 17 #[55, 59, 63, 67, 79, 90, 101, 112, 123, 134], 55) := by decide +kernel
theorem dX9_combine_56 : decode cX9_combine 56 = .ok (.iload_n 1, 1) := by decide +kernel
theorem dX9_combine_57 : decode cX9_combine 57 = .ok (.iload_n 2, 1) := by decide +kernel
theorem dX9_combine_58 : decode cX9_combine 58 = .ok (.iadd, 1) := by decide +kernel
theorem dX9_combine_59 : decode cX9_combine 59 = .ok (.ireturn, 1) := by decide +kernel
theorem dX9_combine_60 : decode cX9_combine 60 = .ok (.iload_n 1, 1) := by decide +kernel
theorem dX9_combine_61 : decode cX9_combine 61 = .ok (.iload_n 2, 1) := by decide +kernel
theorem dX9_combine_62 : decode cX9_combine 62 = .ok (.isub, 1) := by decide +kernel
theorem dX9_combine_63 : decode cX9_combine 63 = .ok (.ireturn, 1) := by decide +kernel
theorem dX9_combine_64 : decode cX9_combine 64 = .ok (.iload_n 1, 1) := by decide +kernel
theorem dX9_combine_65 : decode cX9_combine 65 = .ok (.iload_n 2, 1) := by decide +kernel
theorem dX9_combine_66 : decode cX9_combine 66 = .ok (.imul, 1) := by decide +kernel
theorem dX9_combine_67 : decode cX9_combine 67 = .ok (.ireturn, 1) := by decide +kernel
theorem dX9_combine_68 : decode cX9_combine 68 = .ok (.iload_n 2, 1) := by decide +kernel
theorem dX9_combine_69 : decode cX9_combine 69 = .ok (.ifCond .ne 7, 3) := by decide +kernel
theorem dX9_combine_72 : decode cX9_combine 72 = .ok (.iconst 0, 1) := by decide +kernel
theorem dX9_combine_73 : decode cX9_combine 73 = .ok (.goto 6, 3) := by decide +kernel
theorem dX9_combine_76 : decode cX9_combine 76 = .ok (.iload_n 1, 1) := by decide +kernel
theorem dX9_combine_77 : decode cX9_combine 77 = .ok (.iload_n 2, 1) := by decide +kernel
theorem dX9_combine_78 : decode cX9_combine 78 = .ok (.idiv, 1) := by decide +kernel
theorem dX9_combine_79 : decode cX9_combine 79 = .ok (.ireturn, 1) := by decide +kernel
theorem dX9_combine_80 : decode cX9_combine 80 = .ok (.iload_n 1, 1) := by decide +kernel
theorem dX9_combine_81 : decode cX9_combine 81 = .ok (.iload_n 2, 1) := by decide +kernel
theorem dX9_combine_82 : decode cX9_combine 82 = .ok (.if_icmp .ge 7, 3) := by decide +kernel
theorem dX9_combine_85 : decode cX9_combine 85 = .ok (.iload_n 1, 1) := by decide +kernel
theorem dX9_combine_86 : decode cX9_combine 86 = .ok (.goto 4, 3) := by decide +kernel
theorem dX9_combine_89 : decode cX9_combine 89 = .ok (.iload_n 2, 1) := by decide +kernel
theorem dX9_combine_90 : decode cX9_combine 90 = .ok (.ireturn, 1) := by decide +kernel
theorem dX9_combine_91 : decode cX9_combine 91 = .ok (.iload_n 1, 1) := by decide +kernel
theorem dX9_combine_92 : decode cX9_combine 92 = .ok (.iload_n 2, 1) := by decide +kernel
theorem dX9_combine_93 : decode cX9_combine 93 = .ok (.if_icmp .le 7, 3) := by decide +kernel
theorem dX9_combine_96 : decode cX9_combine 96 = .ok (.iload_n 1, 1) := by decide +kernel
theorem dX9_combine_97 : decode cX9_combine 97 = .ok (.goto 4, 3) := by decide +kernel
theorem dX9_combine_100 : decode cX9_combine 100 = .ok (.iload_n 2, 1) := by decide +kernel
theorem dX9_combine_101 : decode cX9_combine 101 = .ok (.ireturn, 1) := by decide +kernel
theorem dX9_combine_102 : decode cX9_combine 102 = .ok (.iload_n 1, 1) := by decide +kernel
theorem dX9_combine_103 : decode cX9_combine 103 = .ok (.iload_n 2, 1) := by decide +kernel
theorem dX9_combine_104 : decode cX9_combine 104 = .ok (.if_icmp .ge 7, 3) := by decide +kernel
theorem dX9_combine_107 : decode cX9_combine 107 = .ok (.iconst 1, 1) := by decide +kernel
theorem dX9_combine_108 : decode cX9_combine 108 = .ok (.goto 4, 3) := by decide +kernel
theorem dX9_combine_111 : decode cX9_combine 111 = .ok (.iconst 0, 1) := by decide +kernel
theorem dX9_combine_112 : decode cX9_combine 112 = .ok (.ireturn, 1) := by decide +kernel
theorem dX9_combine_113 : decode cX9_combine 113 = .ok (.iload_n 1, 1) := by decide +kernel
theorem dX9_combine_114 : decode cX9_combine 114 = .ok (.iload_n 2, 1) := by decide +kernel
theorem dX9_combine_115 : decode cX9_combine 115 = .ok (.if_icmp .le 7, 3) := by decide +kernel
theorem dX9_combine_118 : decode cX9_combine 118 = .ok (.iconst 1, 1) := by decide +kernel
theorem dX9_combine_119 : decode cX9_combine 119 = .ok (.goto 4, 3) := by decide +kernel
theorem dX9_combine_122 : decode cX9_combine 122 = .ok (.iconst 0, 1) := by decide +kernel
theorem dX9_combine_123 : decode cX9_combine 123 = .ok (.ireturn, 1) := by decide +kernel
theorem dX9_combine_124 : decode cX9_combine 124 = .ok (.iload_n 1, 1) := by decide +kernel
theorem dX9_combine_125 : decode cX9_combine 125 = .ok (.iload_n 2, 1) := by decide +kernel
theorem dX9_combine_126 : decode cX9_combine 126 = .ok (.if_icmp .ne 7, 3) := by decide +kernel
theorem dX9_combine_129 : decode cX9_combine 129 = .ok (.iconst 1, 1) := by decide +kernel
theorem dX9_combine_130 : decode cX9_combine 130 = .ok (.goto 4, 3) := by decide +kernel
theorem dX9_combine_133 : decode cX9_combine 133 = .ok (.iconst 0, 1) := by decide +kernel
theorem dX9_combine_134 : decode cX9_combine 134 = .ok (.ireturn, 1) := by decide +kernel
theorem dX9_combine_135 : decode cX9_combine 135 = .ok (.iload_n 1, 1) := by decide +kernel
theorem dX9_combine_136 : decode cX9_combine 136 = .ok (.iload_n 2, 1) := by decide +kernel
theorem dX9_combine_137 : decode cX9_combine 137 = .ok (.ior, 1) := by decide +kernel
theorem dX9_combine_138 : decode cX9_combine 138 = .ok (.ireturn, 1) := by decide +kernel
theorem dX9_combine_139 : decode cX9_combine 139 = .ok (.iload_n 1, 1) := by decide +kernel
theorem dX9_combine_140 : decode cX9_combine 140 = .ok (.iload_n 2, 1) := by decide +kernel
theorem dX9_combine_141 : decode cX9_combine 141 = .ok (.iand, 1) := by decide +kernel
theorem dX9_combine_142 : decode cX9_combine 142 = .ok (.ireturn, 1) := by decide +kernel
theorem dX10_init_0 : decode cX10_init 0 = .ok (.aload_n 0, 1) := by decide +kernel
theorem dX10_init_1 : decode cX10_init 1 = .ok (.invokespecial 3, 3) := by decide +kernel
theorem dX10_init_4 : decode cX10_init 4 = .ok (.aload_n 0, 1) := by decide +kernel
theorem dX10_init_5 : decode cX10_init 5 = .ok (.bipush 11, 2) := by decide +kernel
theorem dX10_init_7 : decode cX10_init 7 = .ok (.newarray .int, 2) := by decide +kernel
theorem dX10_init_9 : decode cX10_init 9 = .ok (.putfield 9, 3) := by decide +kernel
theorem dX10_init_12 : decode cX10_init 12 = .ok (.aload_n 0, 1) := by decide +kernel
theorem dX10_init_13 : decode cX10_init 13 = .ok (.bipush 10, 2) := by decide +kernel
theorem dX10_init_15 : decode cX10_init 15 = .ok (.newarray .int, 2) := by decide +kernel
theorem dX10_init_17 : decode cX10_init 17 = .ok (.putfield 15, 3) := by decide +kernel
theorem dX10_init_20 : decode cX10_init 20 = .ok (.aload_n 0, 1) := by decide +kernel
theorem dX10_init_21 : decode cX10_init 21 = .ok (.bipush 10, 2) := by decide +kernel
theorem dX10_init_23 : decode cX10_init 23 = .ok (.newarray .int, 2) := by decide +kernel
theorem dX10_init_25 : decode cX10_init 25 = .ok (.putfield 18, 3) := by decide +kernel
theorem dX10_init_28 : decode cX10_init 28 = .ok (.aload_n 0, 1) := by decide +kernel
theorem dX10_init_29 : decode cX10_init 29 = .ok (.bipush 10, 2) := by decide +kernel
theorem dX10_init_31 : decode cX10_init 31 = .ok (.newarray .int, 2) := by decide +kernel
theorem dX10_init_33 : decode cX10_init 33 = .ok (.putfield 21, 3) := by decide +kernel
theorem dX10_init_36 : decode cX10_init 36 = .ok (.aload_n 0, 1) := by decide +kernel
theorem dX10_init_37 : decode cX10_init 37 = .ok (.bipush 10, 2) := by decide +kernel
theorem dX10_init_39 : decode cX10_init 39 = .ok (.newarray .int, 2) := by decide +kernel
theorem dX10_init_41 : decode cX10_init 41 = .ok (.putfield 24, 3) := by decide +kernel
theorem dX10_init_44 : decode cX10_init 44 = .ok (.aload_n 0, 1) := by decide +kernel
theorem dX10_init_45 : decode cX10_init 45 = .ok (.sipush 200, 3) := by decide +kernel
theorem dX10_init_48 : decode cX10_init 48 = .ok (.newarray .long, 2) := by decide +kernel
theorem dX10_init_50 : decode cX10_init 50 = .ok (.putfield 27, 3) := by decide +kernel
theorem dX10_init_53 : decode cX10_init 53 = .ok (.aload_n 0, 1) := by decide +kernel
theorem dX10_init_54 : decode cX10_init 54 = .ok (.aload_n 1, 1) := by decide +kernel
theorem dX10_init_55 : decode cX10_init 55 = .ok (.putfield 31, 3) := by decide +kernel
theorem dX10_init_58 : decode cX10_init 58 = .ok (.return_, 1) := by decide +kernel
theorem dX10_measure_0 : decode cX10_measure 0 = .ok (.aload_n 0, 1) := by decide +kernel
theorem dX10_measure_1 : decode cX10_measure 1 = .ok (.iconst 0, 1) := by decide +kernel
theorem dX10_measure_2 : decode cX10_measure 2 = .ok (.putfield 35, 3) := by decide +kernel
theorem dX10_measure_5 : decode cX10_measure 5 = .ok (.aload_n 0, 1) := by decide +kernel
theorem dX10_measure_6 : decode cX10_measure 6 = .ok (.ldc 39, 2) := by decide +kernel
theorem dX10_measure_8 : decode cX10_measure 8 = .ok (.putfield 40, 3) := by decide +kernel
theorem dX10_measure_11 : decode cX10_measure 11 = .ok (.aload_n 0, 1) := by decide +kernel
theorem dX10_measure_12 : decode cX10_measure 12 = .ok (.iconst 0, 1) := by decide +kernel
theorem dX10_measure_13 : decode cX10_measure 13 = .ok (.putfield 43, 3) := by decide +kernel
theorem dX10_measure_16 : decode cX10_measure 16 = .ok (.aload_n 0, 1) := by decide +kernel
theorem dX10_measure_17 : decode cX10_measure 17 = .ok (.getfield 9, 3) := by decide +kernel
theorem dX10_measure_20 : decode cX10_measure 20 = .ok (.aload_n 0, 1) := by decide +kernel
theorem dX10_measure_21 : decode cX10_measure 21 = .ok (.getfield 31, 3) := by decide +kernel
theorem dX10_measure_24 : decode cX10_measure 24 = .ok (.getfield 46, 3) := by decide +kernel
theorem dX10_measure_27 : decode cX10_measure 27 = .ok (.iconst 0, 1) := by decide +kernel
theorem dX10_measure_28 : decode cX10_measure 28 = .ok (.iastore, 1) := by decide +kernel
theorem dX10_measure_29 : decode cX10_measure 29 = .ok (.aload_n 0, 1) := by decide +kernel
theorem dX10_measure_30 : decode cX10_measure 30 = .ok (.getfield 31, 3) := by decide +kernel
theorem dX10_measure_33 : decode cX10_measure 33 = .ok (.getfield 46, 3) := by decide +kernel
theorem dX10_measure_36 : decode cX10_measure 36 = .ok (.iconst 1, 1) := by decide +kernel
theorem dX10_measure_37 : decode cX10_measure 37 = .ok (.isub, 1) := by decide +kernel
theorem dX10_measure_38 : decode cX10_measure 38 = .ok (.istore_n 1, 1) := by decide +kernel
theorem dX10_measure_39 : decode cX10_measure 39 = .ok (.iload_n 1, 1) := by decide +kernel
theorem dX10_measure_40 : decode cX10_measure 40 = .ok (.ifCond .lt 55, 3) := by decide +kernel
theorem dX10_measure_43 : decode cX10_measure 43 = .ok (.aload_n 0, 1) := by decide +kernel
theorem dX10_measure_44 : decode cX10_measure 44 = .ok (.ldc 39, 2) := by decide +kernel
theorem dX10_measure_46 : decode cX10_measure 46 = .ok (.putfield 43, 3) := by decide +kernel
theorem dX10_measure_49 : decode cX10_measure 49 = .ok (.aload_n 0, 1) := by decide +kernel
theorem dX10_measure_50 : decode cX10_measure 50 = .ok (.ldc 39, 2) := by decide +kernel
theorem dX10_measure_52 : decode cX10_measure 52 = .ok (.putfield 51, 3) := by decide +kernel
theorem dX10_measure_55 : decode cX10_measure 55 = .ok (.aload_n 0, 1) := by decide +kernel
theorem dX10_measure_56 : decode cX10_measure 56 = .ok (.iload_n 1, 1) := by decide +kernel
theorem dX10_measure_57 : decode cX10_measure 57 = .ok (.putfield 54, 3) := by decide +kernel
theorem dX10_measure_60 : decode cX10_measure 60 = .ok (.aload_n 0, 1) := by decide +kernel
theorem dX10_measure_61 : decode cX10_measure 61 = .ok (.iload_n 1, 1) := by decide +kernel
theorem dX10_measure_62 : decode cX10_measure 62 = .ok (.iconst 0, 1) := by decide +kernel
theorem dX10_measure_63 : decode cX10_measure 63 = .ok (.iconst 0, 1) := by decide +kernel
theorem dX10_measure_64 : decode cX10_measure 64 = .ok (.lconst 0, 1) := by decide +kernel
theorem dX10_measure_65 : decode cX10_measure 65 = .ok (.invokevirtual 57, 3) := by decide +kernel
theorem dX10_measure_68 : decode cX10_measure 68 = .ok (.aload_n 0, 1) := by decide +kernel
theorem dX10_measure_69 : decode cX10_measure 69 = .ok (.getfield 43, 3) := by decide +kernel
theorem dX10_measure_72 : decode cX10_measure 72 = .ok (.ldc 39, 2) := by decide +kernel
theorem dX10_measure_74 : decode cX10_measure 74 = .ok (.if_icmp .ne 5, 3) := by decide +kernel
theorem dX10_measure_77 : decode cX10_measure 77 = .ok (.iconst 0, 1) := by decide +kernel
theorem dX10_measure_78 : decode cX10_measure 78 = .ok (.ireturn, 1) := by decide +kernel
theorem dX10_measure_79 : decode cX10_measure 79 = .ok (.aload_n 0, 1) := by decide +kernel
theorem dX10_measure_80 : decode cX10_measure 80 = .ok (.getfield 9, 3) := by decide +kernel
theorem dX10_measure_83 : decode cX10_measure 83 = .ok (.iload_n 1, 1) := by decide +kernel
theorem dX10_measure_84 : decode cX10_measure 84 = .ok (.aload_n 0, 1) := by decide +kernel
theorem dX10_measure_85 : decode cX10_measure 85 = .ok (.getfield 43, 3) := by decide +kernel
theorem dX10_measure_88 : decode cX10_measure 88 = .ok (.iastore, 1) := by decide +kernel
theorem dX10_measure_89 : decode cX10_measure 89 = .ok (.iinc 1 (-1), 3) := by decide +kernel
theorem dX10_measure_92 : decode cX10_measure 92 = .ok (.goto (-53), 3) := by decide +kernel
theorem dX10_measure_95 : decode cX10_measure 95 = .ok (.iconst 1, 1) := by decide +kernel
theorem dX10_measure_96 : decode cX10_measure 96 = .ok (.ireturn, 1) := by decide +kernel
theorem dX10_list_0 : decode cX10_list 0 = .ok (.aload_n 0, 1) := by decide +kernel
theorem dX10_list_1 : decode cX10_list 1 = .ok (.iconst 1, 1) := by decide +kernel
theorem dX10_list_2 : decode cX10_list 2 = .ok (.putfield 35, 3) := by decide +kernel
theorem dX10_list_5 : decode cX10_list 5 = .ok (.aload_n 0, 1) := by decide +kernel
theorem dX10_list_6 : decode cX10_list 6 = .ok (.aload_n 0, 1) := by decide +kernel
theorem dX10_list_7 : decode cX10_list 7 = .ok (.getfield 43, 3) := by decide +kernel
theorem dX10_list_10 : decode cX10_list 10 = .ok (.putfield 51, 3) := by decide +kernel
theorem dX10_list_13 : decode cX10_list 13 = .ok (.aload_n 0, 1) := by decide +kernel
theorem dX10_list_14 : decode cX10_list 14 = .ok (.iconst 0, 1) := by decide +kernel
theorem dX10_list_15 : decode cX10_list 15 = .ok (.putfield 61, 3) := by decide +kernel
theorem dX10_list_18 : decode cX10_list 18 = .ok (.aload_n 0, 1) := by decide +kernel
theorem dX10_list_19 : decode cX10_list 19 = .ok (.ldc2_w 64, 3) := by decide +kernel
theorem dX10_list_22 : decode cX10_list 22 = .ok (.putfield 66, 3) := by decide +kernel
theorem dX10_list_25 : decode cX10_list 25 = .ok (.aload_n 0, 1) := by decide +kernel
theorem dX10_list_26 : decode cX10_list 26 = .ok (.lconst 0, 1) := by decide +kernel
theorem dX10_list_27 : decode cX10_list 27 = .ok (.putfield 70, 3) := by decide +kernel
theorem dX10_list_30 : decode cX10_list 30 = .ok (.aload_n 0, 1) := by decide +kernel
theorem dX10_list_31 : decode cX10_list 31 = .ok (.iconst 0, 1) := by decide +kernel
theorem dX10_list_32 : decode cX10_list 32 = .ok (.iconst 0, 1) := by decide +kernel
theorem dX10_list_33 : decode cX10_list 33 = .ok (.iconst 0, 1) := by decide +kernel
theorem dX10_list_34 : decode cX10_list 34 = .ok (.lconst 0, 1) := by decide +kernel
theorem dX10_list_35 : decode cX10_list 35 = .ok (.invokevirtual 57, 3) := by decide +kernel
theorem dX10_list_38 : decode cX10_list 38 = .ok (.return_, 1) := by decide +kernel
theorem dX10_approach_0 : decode cX10_approach 0 = .ok (.aload_n 0, 1) := by decide +kernel
theorem dX10_approach_1 : decode cX10_approach 1 = .ok (.iconst 2, 1) := by decide +kernel
theorem dX10_approach_2 : decode cX10_approach 2 = .ok (.putfield 35, 3) := by decide +kernel
theorem dX10_approach_5 : decode cX10_approach 5 = .ok (.aload_n 0, 1) := by decide +kernel
theorem dX10_approach_6 : decode cX10_approach 6 = .ok (.aload_n 0, 1) := by decide +kernel
theorem dX10_approach_7 : decode cX10_approach 7 = .ok (.getfield 43, 3) := by decide +kernel
theorem dX10_approach_10 : decode cX10_approach 10 = .ok (.iload_n 1, 1) := by decide +kernel
theorem dX10_approach_11 : decode cX10_approach 11 = .ok (.iadd, 1) := by decide +kernel
theorem dX10_approach_12 : decode cX10_approach 12 = .ok (.putfield 51, 3) := by decide +kernel
theorem dX10_approach_15 : decode cX10_approach 15 = .ok (.aload_n 0, 1) := by decide +kernel
theorem dX10_approach_16 : decode cX10_approach 16 = .ok (.iconst 0, 1) := by decide +kernel
theorem dX10_approach_17 : decode cX10_approach 17 = .ok (.iconst 0, 1) := by decide +kernel
theorem dX10_approach_18 : decode cX10_approach 18 = .ok (.iconst 0, 1) := by decide +kernel
theorem dX10_approach_19 : decode cX10_approach 19 = .ok (.lconst 0, 1) := by decide +kernel
theorem dX10_approach_20 : decode cX10_approach 20 = .ok (.invokevirtual 57, 3) := by decide +kernel
theorem dX10_approach_23 : decode cX10_approach 23 = .ok (.return_, 1) := by decide +kernel
theorem dX10_place_0 : decode cX10_place 0 = .ok (.iload_n 1, 1) := by decide +kernel
theorem dX10_place_1 : decode cX10_place 1 = .ok (.aload_n 0, 1) := by decide +kernel
theorem dX10_place_2 : decode cX10_place 2 = .ok (.getfield 31, 3) := by decide +kernel
theorem dX10_place_5 : decode cX10_place 5 = .ok (.getfield 46, 3) := by decide +kernel
theorem dX10_place_8 : decode cX10_place 8 = .ok (.if_icmp .ge 9, 3) := by decide +kernel
theorem dX10_place_11 : decode cX10_place 11 = .ok (.iload_n 1, 1) := by decide +kernel
theorem dX10_place_12 : decode cX10_place 12 = .ok (.bipush 10, 2) := by decide +kernel
theorem dX10_place_14 : decode cX10_place 14 = .ok (.if_icmp .lt 12, 3) := by decide +kernel
theorem dX10_place_17 : decode cX10_place 17 = .ok (.aload_n 0, 1) := by decide +kernel
theorem dX10_place_18 : decode cX10_place 18 = .ok (.iload_n 2, 1) := by decide +kernel
theorem dX10_place_19 : decode cX10_place 19 = .ok (.iload_n 3, 1) := by decide +kernel
theorem dX10_place_20 : decode cX10_place 20 = .ok (.lload 4, 2) := by decide +kernel
theorem dX10_place_22 : decode cX10_place 22 = .ok (.invokevirtual 73, 3) := by decide +kernel
theorem dX10_place_25 : decode cX10_place 25 = .ok (.return_, 1) := by decide +kernel
theorem dX10_place_26 : decode cX10_place 26 = .ok (.iload_n 2, 1) := by decide +kernel
theorem dX10_place_27 : decode cX10_place 27 = .ok (.aload_n 0, 1) := by decide +kernel
theorem dX10_place_28 : decode cX10_place 28 = .ok (.iload_n 1, 1) := by decide +kernel
theorem dX10_place_29 : decode cX10_place 29 = .ok (.invokevirtual 77, 3) := by decide +kernel
theorem dX10_place_32 : decode cX10_place 32 = .ok (.iadd, 1) := by decide +kernel
theorem dX10_place_33 : decode cX10_place 33 = .ok (.istore 6, 2) := by decide +kernel
theorem dX10_place_35 : decode cX10_place 35 = .ok (.aload_n 0, 1) := by decide +kernel
theorem dX10_place_36 : decode cX10_place 36 = .ok (.getfield 81, 3) := by decide +kernel
theorem dX10_place_39 : decode cX10_place 39 = .ok (.istore 7, 2) := by decide +kernel
theorem dX10_place_41 : decode cX10_place 41 = .ok (.iconst 0, 1) := by decide +kernel
theorem dX10_place_42 : decode cX10_place 42 = .ok (.istore 8, 2) := by decide +kernel
theorem dX10_place_44 : decode cX10_place 44 = .ok (.iload 8, 2) := by decide +kernel
theorem dX10_place_46 : decode cX10_place 46 = .ok (.iload 7, 2) := by decide +kernel
theorem dX10_place_48 : decode cX10_place 48 = .ok (.if_icmp .ge 21, 3) := by decide +kernel
theorem dX10_place_51 : decode cX10_place 51 = .ok (.aload_n 0, 1) := by decide +kernel
theorem dX10_place_52 : decode cX10_place 52 = .ok (.iload_n 1, 1) := by decide +kernel
theorem dX10_place_53 : decode cX10_place 53 = .ok (.iload 8, 2) := by decide +kernel
theorem dX10_place_55 : decode cX10_place 55 = .ok (.iload 6, 2) := by decide +kernel
theorem dX10_place_57 : decode cX10_place 57 = .ok (.iload_n 3, 1) := by decide +kernel
theorem dX10_place_58 : decode cX10_place 58 = .ok (.lload 4, 2) := by decide +kernel
theorem dX10_place_60 : decode cX10_place 60 = .ok (.invokevirtual 84, 3) := by decide +kernel
theorem dX10_place_63 : decode cX10_place 63 = .ok (.iinc 8 1, 3) := by decide +kernel
theorem dX10_place_66 : decode cX10_place 66 = .ok (.goto (-22), 3) := by decide +kernel
theorem dX10_place_69 : decode cX10_place 69 = .ok (.aload_n 0, 1) := by decide +kernel
theorem dX10_place_70 : decode cX10_place 70 = .ok (.getfield 15, 3) := by decide +kernel
theorem dX10_place_73 : decode cX10_place 73 = .ok (.iload 7, 2) := by decide +kernel
theorem dX10_place_75 : decode cX10_place 75 = .ok (.iconst 0, 1) := by decide +kernel
theorem dX10_place_76 : decode cX10_place 76 = .ok (.iastore, 1) := by decide +kernel
theorem dX10_place_77 : decode cX10_place 77 = .ok (.aload_n 0, 1) := by decide +kernel
theorem dX10_place_78 : decode cX10_place 78 = .ok (.getfield 18, 3) := by decide +kernel
theorem dX10_place_81 : decode cX10_place 81 = .ok (.iload 7, 2) := by decide +kernel
theorem dX10_place_83 : decode cX10_place 83 = .ok (.iload_n 1, 1) := by decide +kernel
theorem dX10_place_84 : decode cX10_place 84 = .ok (.iastore, 1) := by decide +kernel
theorem dX10_place_85 : decode cX10_place 85 = .ok (.aload_n 0, 1) := by decide +kernel
theorem dX10_place_86 : decode cX10_place 86 = .ok (.iload 7, 2) := by decide +kernel
theorem dX10_place_88 : decode cX10_place 88 = .ok (.iconst 1, 1) := by decide +kernel
theorem dX10_place_89 : decode cX10_place 89 = .ok (.iadd, 1) := by decide +kernel
theorem dX10_place_90 : decode cX10_place 90 = .ok (.putfield 81, 3) := by decide +kernel
theorem dX10_place_93 : decode cX10_place 93 = .ok (.aload_n 0, 1) := by decide +kernel
theorem dX10_place_94 : decode cX10_place 94 = .ok (.iload_n 1, 1) := by decide +kernel
theorem dX10_place_95 : decode cX10_place 95 = .ok (.iload 7, 2) := by decide +kernel
theorem dX10_place_97 : decode cX10_place 97 = .ok (.iload 6, 2) := by decide +kernel
theorem dX10_place_99 : decode cX10_place 99 = .ok (.iload_n 3, 1) := by decide +kernel
theorem dX10_place_100 : decode cX10_place 100 = .ok (.lload 4, 2) := by decide +kernel
theorem dX10_place_102 : decode cX10_place 102 = .ok (.invokevirtual 84, 3) := by decide +kernel
theorem dX10_place_105 : decode cX10_place 105 = .ok (.aload_n 0, 1) := by decide +kernel
theorem dX10_place_106 : decode cX10_place 106 = .ok (.iload 7, 2) := by decide +kernel
theorem dX10_place_108 : decode cX10_place 108 = .ok (.putfield 81, 3) := by decide +kernel
theorem dX10_place_111 : decode cX10_place 111 = .ok (.return_, 1) := by decide +kernel
theorem dX10_enter_0 : decode cX10_enter 0 = .ok (.aload_n 0, 1) := by decide +kernel
theorem dX10_enter_1 : decode cX10_enter 1 = .ok (.getfield 15, 3) := by decide +kernel
theorem dX10_enter_4 : decode cX10_enter 4 = .ok (.iload_n 2, 1) := by decide +kernel
theorem dX10_enter_5 : decode cX10_enter 5 = .ok (.iaload, 1) := by decide +kernel
theorem dX10_enter_6 : decode cX10_enter 6 = .ok (.istore 7, 2) := by decide +kernel
theorem dX10_enter_8 : decode cX10_enter 8 = .ok (.iconst 1, 1) := by decide +kernel
theorem dX10_enter_9 : decode cX10_enter 9 = .ok (.iload_n 1, 1) := by decide +kernel
theorem dX10_enter_10 : decode cX10_enter 10 = .ok (.ishl, 1) := by decide +kernel
theorem dX10_enter_11 : decode cX10_enter 11 = .ok (.iconst 1, 1) := by decide +kernel
theorem dX10_enter_12 : decode cX10_enter 12 = .ok (.aload_n 0, 1) := by decide +kernel
theorem dX10_enter_13 : decode cX10_enter 13 = .ok (.getfield 54, 3) := by decide +kernel
theorem dX10_enter_16 : decode cX10_enter 16 = .ok (.ishl, 1) := by decide +kernel
theorem dX10_enter_17 : decode cX10_enter 17 = .ok (.isub, 1) := by decide +kernel
theorem dX10_enter_18 : decode cX10_enter 18 = .ok (.istore 8, 2) := by decide +kernel
theorem dX10_enter_20 : decode cX10_enter 20 = .ok (.aload_n 0, 1) := by decide +kernel
theorem dX10_enter_21 : decode cX10_enter 21 = .ok (.getfield 31, 3) := by decide +kernel
theorem dX10_enter_24 : decode cX10_enter 24 = .ok (.getfield 88, 3) := by decide +kernel
theorem dX10_enter_27 : decode cX10_enter 27 = .ok (.iload_n 1, 1) := by decide +kernel
theorem dX10_enter_28 : decode cX10_enter 28 = .ok (.iaload, 1) := by decide +kernel
theorem dX10_enter_29 : decode cX10_enter 29 = .ok (.iload 7, 2) := by decide +kernel
theorem dX10_enter_31 : decode cX10_enter 31 = .ok (.iand, 1) := by decide +kernel
theorem dX10_enter_32 : decode cX10_enter 32 = .ok (.ifCond .ne 23, 3) := by decide +kernel
theorem dX10_enter_35 : decode cX10_enter 35 = .ok (.aload_n 0, 1) := by decide +kernel
theorem dX10_enter_36 : decode cX10_enter 36 = .ok (.getfield 31, 3) := by decide +kernel
theorem dX10_enter_39 : decode cX10_enter 39 = .ok (.getfield 91, 3) := by decide +kernel
theorem dX10_enter_42 : decode cX10_enter 42 = .ok (.iload_n 1, 1) := by decide +kernel
theorem dX10_enter_43 : decode cX10_enter 43 = .ok (.iaload, 1) := by decide +kernel
theorem dX10_enter_44 : decode cX10_enter 44 = .ok (.iload 8, 2) := by decide +kernel
theorem dX10_enter_46 : decode cX10_enter 46 = .ok (.iand, 1) := by decide +kernel
theorem dX10_enter_47 : decode cX10_enter 47 = .ok (.iload 7, 2) := by decide +kernel
theorem dX10_enter_49 : decode cX10_enter 49 = .ok (.iconst (-1), 1) := by decide +kernel
theorem dX10_enter_50 : decode cX10_enter 50 = .ok (.ixor, 1) := by decide +kernel
theorem dX10_enter_51 : decode cX10_enter 51 = .ok (.iand, 1) := by decide +kernel
theorem dX10_enter_52 : decode cX10_enter 52 = .ok (.ifCond .eq 7, 3) := by decide +kernel
theorem dX10_enter_55 : decode cX10_enter 55 = .ok (.iconst 1, 1) := by decide +kernel
theorem dX10_enter_56 : decode cX10_enter 56 = .ok (.goto 4, 3) := by decide +kernel
theorem dX10_enter_59 : decode cX10_enter 59 = .ok (.iconst 0, 1) := by decide +kernel
theorem dX10_enter_60 : decode cX10_enter 60 = .ok (.istore 9, 2) := by decide +kernel
theorem dX10_enter_62 : decode cX10_enter 62 = .ok (.iload 9, 2) := by decide +kernel
theorem dX10_enter_64 : decode cX10_enter 64 = .ok (.ifCond .ne 18, 3) := by decide +kernel
theorem dX10_enter_67 : decode cX10_enter 67 = .ok (.iload 7, 2) := by decide +kernel
theorem dX10_enter_69 : decode cX10_enter 69 = .ok (.invokestatic 94, 3) := by decide +kernel
theorem dX10_enter_72 : decode cX10_enter 72 = .ok (.aload_n 0, 1) := by decide +kernel
theorem dX10_enter_73 : decode cX10_enter 73 = .ok (.getfield 31, 3) := by decide +kernel
theorem dX10_enter_76 : decode cX10_enter 76 = .ok (.getfield 99, 3) := by decide +kernel
theorem dX10_enter_79 : decode cX10_enter 79 = .ok (.if_icmp .lt 4, 3) := by decide +kernel
theorem dX10_enter_82 : decode cX10_enter 82 = .ok (.return_, 1) := by decide +kernel
theorem dX10_enter_83 : decode cX10_enter 83 = .ok (.iload_n 3, 1) := by decide +kernel
theorem dX10_enter_84 : decode cX10_enter 84 = .ok (.aload_n 0, 1) := by decide +kernel
theorem dX10_enter_85 : decode cX10_enter 85 = .ok (.iload_n 1, 1) := by decide +kernel
theorem dX10_enter_86 : decode cX10_enter 86 = .ok (.iload 7, 2) := by decide +kernel
theorem dX10_enter_88 : decode cX10_enter 88 = .ok (.invokevirtual 102, 3) := by decide +kernel
theorem dX10_enter_91 : decode cX10_enter 91 = .ok (.isub, 1) := by decide +kernel
theorem dX10_enter_92 : decode cX10_enter 92 = .ok (.istore 10, 2) := by decide +kernel
theorem dX10_enter_94 : decode cX10_enter 94 = .ok (.aload_n 0, 1) := by decide +kernel
theorem dX10_enter_95 : decode cX10_enter 95 = .ok (.getfield 35, 3) := by decide +kernel
theorem dX10_enter_98 : decode cX10_enter 98 = .ok (.iconst 2, 1) := by decide +kernel
theorem dX10_enter_99 : decode cX10_enter 99 = .ok (.if_icmp .ne 27, 3) := by decide +kernel
theorem dX10_enter_102 : decode cX10_enter 102 = .ok (.iload 4, 2) := by decide +kernel
theorem dX10_enter_104 : decode cX10_enter 104 = .ok (.iload 7, 2) := by decide +kernel
theorem dX10_enter_106 : decode cX10_enter 106 = .ok (.aload_n 0, 1) := by decide +kernel
theorem dX10_enter_107 : decode cX10_enter 107 = .ok (.getfield 31, 3) := by decide +kernel
theorem dX10_enter_110 : decode cX10_enter 110 = .ok (.getfield 106, 3) := by decide +kernel
theorem dX10_enter_113 : decode cX10_enter 113 = .ok (.iload_n 1, 1) := by decide +kernel
theorem dX10_enter_114 : decode cX10_enter 114 = .ok (.iaload, 1) := by decide +kernel
theorem dX10_enter_115 : decode cX10_enter 115 = .ok (.ixor, 1) := by decide +kernel
theorem dX10_enter_116 : decode cX10_enter 116 = .ok (.iload 8, 2) := by decide +kernel
theorem dX10_enter_118 : decode cX10_enter 118 = .ok (.iand, 1) := by decide +kernel
theorem dX10_enter_119 : decode cX10_enter 119 = .ok (.invokestatic 94, 3) := by decide +kernel
theorem dX10_enter_122 : decode cX10_enter 122 = .ok (.iadd, 1) := by decide +kernel
theorem dX10_enter_123 : decode cX10_enter 123 = .ok (.goto 5, 3) := by decide +kernel
theorem dX10_enter_126 : decode cX10_enter 126 = .ok (.iload 4, 2) := by decide +kernel
theorem dX10_enter_128 : decode cX10_enter 128 = .ok (.istore 11, 2) := by decide +kernel
theorem dX10_enter_130 : decode cX10_enter 130 = .ok (.iload 10, 2) := by decide +kernel
theorem dX10_enter_132 : decode cX10_enter 132 = .ok (.aload_n 0, 1) := by decide +kernel
theorem dX10_enter_133 : decode cX10_enter 133 = .ok (.getfield 9, 3) := by decide +kernel
theorem dX10_enter_136 : decode cX10_enter 136 = .ok (.iload_n 1, 1) := by decide +kernel
theorem dX10_enter_137 : decode cX10_enter 137 = .ok (.iconst 1, 1) := by decide +kernel
theorem dX10_enter_138 : decode cX10_enter 138 = .ok (.iadd, 1) := by decide +kernel
theorem dX10_enter_139 : decode cX10_enter 139 = .ok (.iaload, 1) := by decide +kernel
theorem dX10_enter_140 : decode cX10_enter 140 = .ok (.iadd, 1) := by decide +kernel
theorem dX10_enter_141 : decode cX10_enter 141 = .ok (.aload_n 0, 1) := by decide +kernel
theorem dX10_enter_142 : decode cX10_enter 142 = .ok (.getfield 51, 3) := by decide +kernel
theorem dX10_enter_145 : decode cX10_enter 145 = .ok (.if_icmp .gt 69, 3) := by decide +kernel
theorem dX10_enter_148 : decode cX10_enter 148 = .ok (.iload 11, 2) := by decide +kernel
theorem dX10_enter_150 : decode cX10_enter 150 = .ok (.aload_n 0, 1) := by decide +kernel
theorem dX10_enter_151 : decode cX10_enter 151 = .ok (.getfield 40, 3) := by decide +kernel
theorem dX10_enter_154 : decode cX10_enter 154 = .ok (.if_icmp .ge 60, 3) := by decide +kernel
theorem dX10_enter_157 : decode cX10_enter 157 = .ok (.aload_n 0, 1) := by decide +kernel
theorem dX10_enter_158 : decode cX10_enter 158 = .ok (.getfield 15, 3) := by decide +kernel
theorem dX10_enter_161 : decode cX10_enter 161 = .ok (.iload_n 2, 1) := by decide +kernel
theorem dX10_enter_162 : decode cX10_enter 162 = .ok (.iload 7, 2) := by decide +kernel
theorem dX10_enter_164 : decode cX10_enter 164 = .ok (.iconst 1, 1) := by decide +kernel
theorem dX10_enter_165 : decode cX10_enter 165 = .ok (.iload_n 1, 1) := by decide +kernel
theorem dX10_enter_166 : decode cX10_enter 166 = .ok (.ishl, 1) := by decide +kernel
theorem dX10_enter_167 : decode cX10_enter 167 = .ok (.ior, 1) := by decide +kernel
theorem dX10_enter_168 : decode cX10_enter 168 = .ok (.iastore, 1) := by decide +kernel
theorem dX10_enter_169 : decode cX10_enter 169 = .ok (.aload_n 0, 1) := by decide +kernel
theorem dX10_enter_170 : decode cX10_enter 170 = .ok (.getfield 21, 3) := by decide +kernel
theorem dX10_enter_173 : decode cX10_enter 173 = .ok (.iload_n 1, 1) := by decide +kernel
theorem dX10_enter_174 : decode cX10_enter 174 = .ok (.aload_n 0, 1) := by decide +kernel
theorem dX10_enter_175 : decode cX10_enter 175 = .ok (.getfield 18, 3) := by decide +kernel
theorem dX10_enter_178 : decode cX10_enter 178 = .ok (.iload_n 2, 1) := by decide +kernel
theorem dX10_enter_179 : decode cX10_enter 179 = .ok (.iaload, 1) := by decide +kernel
theorem dX10_enter_180 : decode cX10_enter 180 = .ok (.iastore, 1) := by decide +kernel
theorem dX10_enter_181 : decode cX10_enter 181 = .ok (.aload_n 0, 1) := by decide +kernel
theorem dX10_enter_182 : decode cX10_enter 182 = .ok (.iload_n 1, 1) := by decide +kernel
theorem dX10_enter_183 : decode cX10_enter 183 = .ok (.iconst 1, 1) := by decide +kernel
theorem dX10_enter_184 : decode cX10_enter 184 = .ok (.iadd, 1) := by decide +kernel
theorem dX10_enter_185 : decode cX10_enter 185 = .ok (.iload 10, 2) := by decide +kernel
theorem dX10_enter_187 : decode cX10_enter 187 = .ok (.iload 11, 2) := by decide +kernel
theorem dX10_enter_189 : decode cX10_enter 189 = .ok (.lload 5, 2) := by decide +kernel
theorem dX10_enter_191 : decode cX10_enter 191 = .ok (.iload 7, 2) := by decide +kernel
theorem dX10_enter_193 : decode cX10_enter 193 = .ok (.i2l, 1) := by decide +kernel
theorem dX10_enter_194 : decode cX10_enter 194 = .ok (.iload_n 1, 1) := by decide +kernel
theorem dX10_enter_195 : decode cX10_enter 195 = .ok (.iload_n 1, 1) := by decide +kernel
theorem dX10_enter_196 : decode cX10_enter 196 = .ok (.iconst 1, 1) := by decide +kernel
theorem dX10_enter_197 : decode cX10_enter 197 = .ok (.isub, 1) := by decide +kernel
theorem dX10_enter_198 : decode cX10_enter 198 = .ok (.imul, 1) := by decide +kernel
theorem dX10_enter_199 : decode cX10_enter 199 = .ok (.iconst 2, 1) := by decide +kernel
theorem dX10_enter_200 : decode cX10_enter 200 = .ok (.idiv, 1) := by decide +kernel
theorem dX10_enter_201 : decode cX10_enter 201 = .ok (.lshl, 1) := by decide +kernel
theorem dX10_enter_202 : decode cX10_enter 202 = .ok (.lor, 1) := by decide +kernel
theorem dX10_enter_203 : decode cX10_enter 203 = .ok (.invokevirtual 57, 3) := by decide +kernel
theorem dX10_enter_206 : decode cX10_enter 206 = .ok (.aload_n 0, 1) := by decide +kernel
theorem dX10_enter_207 : decode cX10_enter 207 = .ok (.getfield 15, 3) := by decide +kernel
theorem dX10_enter_210 : decode cX10_enter 210 = .ok (.iload_n 2, 1) := by decide +kernel
theorem dX10_enter_211 : decode cX10_enter 211 = .ok (.iload 7, 2) := by decide +kernel
theorem dX10_enter_213 : decode cX10_enter 213 = .ok (.iastore, 1) := by decide +kernel
theorem dX10_enter_214 : decode cX10_enter 214 = .ok (.return_, 1) := by decide +kernel
theorem dX10_drawn_0 : decode cX10_drawn 0 = .ok (.iconst 0, 1) := by decide +kernel
theorem dX10_drawn_1 : decode cX10_drawn 1 = .ok (.istore_n 2, 1) := by decide +kernel
theorem dX10_drawn_2 : decode cX10_drawn 2 = .ok (.aload_n 0, 1) := by decide +kernel
theorem dX10_drawn_3 : decode cX10_drawn 3 = .ok (.getfield 54, 3) := by decide +kernel
theorem dX10_drawn_6 : decode cX10_drawn 6 = .ok (.istore_n 3, 1) := by decide +kernel
theorem dX10_drawn_7 : decode cX10_drawn 7 = .ok (.iload_n 3, 1) := by decide +kernel
theorem dX10_drawn_8 : decode cX10_drawn 8 = .ok (.iload_n 1, 1) := by decide +kernel
theorem dX10_drawn_9 : decode cX10_drawn 9 = .ok (.if_icmp .ge 25, 3) := by decide +kernel
theorem dX10_drawn_12 : decode cX10_drawn 12 = .ok (.iload_n 2, 1) := by decide +kernel
theorem dX10_drawn_13 : decode cX10_drawn 13 = .ok (.iconst 0, 1) := by decide +kernel
theorem dX10_drawn_14 : decode cX10_drawn 14 = .ok (.aload_n 0, 1) := by decide +kernel
theorem dX10_drawn_15 : decode cX10_drawn 15 = .ok (.getfield 31, 3) := by decide +kernel
theorem dX10_drawn_18 : decode cX10_drawn 18 = .ok (.iload_n 1, 1) := by decide +kernel
theorem dX10_drawn_19 : decode cX10_drawn 19 = .ok (.iload_n 3, 1) := by decide +kernel
theorem dX10_drawn_20 : decode cX10_drawn 20 = .ok (.invokevirtual 109, 3) := by decide +kernel
theorem dX10_drawn_23 : decode cX10_drawn 23 = .ok (.invokestatic 112, 3) := by decide +kernel
theorem dX10_drawn_26 : decode cX10_drawn 26 = .ok (.iadd, 1) := by decide +kernel
theorem dX10_drawn_27 : decode cX10_drawn 27 = .ok (.istore_n 2, 1) := by decide +kernel
theorem dX10_drawn_28 : decode cX10_drawn 28 = .ok (.iinc 3 1, 3) := by decide +kernel
theorem dX10_drawn_31 : decode cX10_drawn 31 = .ok (.goto (-24), 3) := by decide +kernel
theorem dX10_drawn_34 : decode cX10_drawn 34 = .ok (.iload_n 2, 1) := by decide +kernel
theorem dX10_drawn_35 : decode cX10_drawn 35 = .ok (.ireturn, 1) := by decide +kernel
theorem dX10_pullTo_0 : decode cX10_pullTo 0 = .ok (.iconst 0, 1) := by decide +kernel
theorem dX10_pullTo_1 : decode cX10_pullTo 1 = .ok (.istore_n 3, 1) := by decide +kernel
theorem dX10_pullTo_2 : decode cX10_pullTo 2 = .ok (.aload_n 0, 1) := by decide +kernel
theorem dX10_pullTo_3 : decode cX10_pullTo 3 = .ok (.getfield 54, 3) := by decide +kernel
theorem dX10_pullTo_6 : decode cX10_pullTo 6 = .ok (.istore 4, 2) := by decide +kernel
theorem dX10_pullTo_8 : decode cX10_pullTo 8 = .ok (.iload 4, 2) := by decide +kernel
theorem dX10_pullTo_10 : decode cX10_pullTo 10 = .ok (.iload_n 1, 1) := by decide +kernel
theorem dX10_pullTo_11 : decode cX10_pullTo 11 = .ok (.if_icmp .ge 31, 3) := by decide +kernel
theorem dX10_pullTo_14 : decode cX10_pullTo 14 = .ok (.iload_n 2, 1) := by decide +kernel
theorem dX10_pullTo_15 : decode cX10_pullTo 15 = .ok (.iload 4, 2) := by decide +kernel
theorem dX10_pullTo_17 : decode cX10_pullTo 17 = .ok (.iushr, 1) := by decide +kernel
theorem dX10_pullTo_18 : decode cX10_pullTo 18 = .ok (.iconst 1, 1) := by decide +kernel
theorem dX10_pullTo_19 : decode cX10_pullTo 19 = .ok (.iand, 1) := by decide +kernel
theorem dX10_pullTo_20 : decode cX10_pullTo 20 = .ok (.ifCond .eq 16, 3) := by decide +kernel
theorem dX10_pullTo_23 : decode cX10_pullTo 23 = .ok (.iload_n 3, 1) := by decide +kernel
theorem dX10_pullTo_24 : decode cX10_pullTo 24 = .ok (.aload_n 0, 1) := by decide +kernel
theorem dX10_pullTo_25 : decode cX10_pullTo 25 = .ok (.getfield 31, 3) := by decide +kernel
theorem dX10_pullTo_28 : decode cX10_pullTo 28 = .ok (.iload_n 1, 1) := by decide +kernel
theorem dX10_pullTo_29 : decode cX10_pullTo 29 = .ok (.iload 4, 2) := by decide +kernel
theorem dX10_pullTo_31 : decode cX10_pullTo 31 = .ok (.invokevirtual 109, 3) := by decide +kernel
theorem dX10_pullTo_34 : decode cX10_pullTo 34 = .ok (.iadd, 1) := by decide +kernel
theorem dX10_pullTo_35 : decode cX10_pullTo 35 = .ok (.istore_n 3, 1) := by decide +kernel
theorem dX10_pullTo_36 : decode cX10_pullTo 36 = .ok (.iinc 4 1, 3) := by decide +kernel
theorem dX10_pullTo_39 : decode cX10_pullTo 39 = .ok (.goto (-31), 3) := by decide +kernel
theorem dX10_pullTo_42 : decode cX10_pullTo 42 = .ok (.iload_n 3, 1) := by decide +kernel
theorem dX10_pullTo_43 : decode cX10_pullTo 43 = .ok (.ireturn, 1) := by decide +kernel
theorem dX10_record_0 : decode cX10_record 0 = .ok (.aload_n 0, 1) := by decide +kernel
theorem dX10_record_1 : decode cX10_record 1 = .ok (.getfield 35, 3) := by decide +kernel
theorem dX10_record_4 : decode cX10_record 4 = .ok (.ifCond .ne 16, 3) := by decide +kernel
theorem dX10_record_7 : decode cX10_record 7 = .ok (.aload_n 0, 1) := by decide +kernel
theorem dX10_record_8 : decode cX10_record 8 = .ok (.iload_n 1, 1) := by decide +kernel
theorem dX10_record_9 : decode cX10_record 9 = .ok (.putfield 43, 3) := by decide +kernel
theorem dX10_record_12 : decode cX10_record 12 = .ok (.aload_n 0, 1) := by decide +kernel
theorem dX10_record_13 : decode cX10_record 13 = .ok (.iload_n 1, 1) := by decide +kernel
theorem dX10_record_14 : decode cX10_record 14 = .ok (.iconst 1, 1) := by decide +kernel
theorem dX10_record_15 : decode cX10_record 15 = .ok (.isub, 1) := by decide +kernel
theorem dX10_record_16 : decode cX10_record 16 = .ok (.putfield 51, 3) := by decide +kernel
theorem dX10_record_19 : decode cX10_record 19 = .ok (.return_, 1) := by decide +kernel
theorem dX10_record_20 : decode cX10_record 20 = .ok (.aload_n 0, 1) := by decide +kernel
theorem dX10_record_21 : decode cX10_record 21 = .ok (.getfield 35, 3) := by decide +kernel
theorem dX10_record_24 : decode cX10_record 24 = .ok (.iconst 2, 1) := by decide +kernel
theorem dX10_record_25 : decode cX10_record 25 = .ok (.if_icmp .ne 13, 3) := by decide +kernel
theorem dX10_record_28 : decode cX10_record 28 = .ok (.aload_n 0, 1) := by decide +kernel
theorem dX10_record_29 : decode cX10_record 29 = .ok (.iload_n 2, 1) := by decide +kernel
theorem dX10_record_30 : decode cX10_record 30 = .ok (.putfield 40, 3) := by decide +kernel
theorem dX10_record_33 : decode cX10_record 33 = .ok (.aload_n 0, 1) := by decide +kernel
theorem dX10_record_34 : decode cX10_record 34 = .ok (.invokevirtual 117, 3) := by decide +kernel
theorem dX10_record_37 : decode cX10_record 37 = .ok (.return_, 1) := by decide +kernel
theorem dX10_record_38 : decode cX10_record 38 = .ok (.aload_n 0, 1) := by decide +kernel
theorem dX10_record_39 : decode cX10_record 39 = .ok (.getfield 61, 3) := by decide +kernel
theorem dX10_record_42 : decode cX10_record 42 = .ok (.ifCond .ne 7, 3) := by decide +kernel
theorem dX10_record_45 : decode cX10_record 45 = .ok (.aload_n 0, 1) := by decide +kernel
theorem dX10_record_46 : decode cX10_record 46 = .ok (.invokevirtual 117, 3) := by decide +kernel
theorem dX10_record_49 : decode cX10_record 49 = .ok (.aload_n 0, 1) := by decide +kernel
theorem dX10_record_50 : decode cX10_record 50 = .ok (.dup, 1) := by decide +kernel
theorem dX10_record_51 : decode cX10_record 51 = .ok (.getfield 66, 3) := by decide +kernel
theorem dX10_record_54 : decode cX10_record 54 = .ok (.lload_n 3, 1) := by decide +kernel
theorem dX10_record_55 : decode cX10_record 55 = .ok (.land, 1) := by decide +kernel
theorem dX10_record_56 : decode cX10_record 56 = .ok (.putfield 66, 3) := by decide +kernel
theorem dX10_record_59 : decode cX10_record 59 = .ok (.aload_n 0, 1) := by decide +kernel
theorem dX10_record_60 : decode cX10_record 60 = .ok (.dup, 1) := by decide +kernel
theorem dX10_record_61 : decode cX10_record 61 = .ok (.getfield 70, 3) := by decide +kernel
theorem dX10_record_64 : decode cX10_record 64 = .ok (.lload_n 3, 1) := by decide +kernel
theorem dX10_record_65 : decode cX10_record 65 = .ok (.lor, 1) := by decide +kernel
theorem dX10_record_66 : decode cX10_record 66 = .ok (.putfield 70, 3) := by decide +kernel
theorem dX10_record_69 : decode cX10_record 69 = .ok (.aload_n 0, 1) := by decide +kernel
theorem dX10_record_70 : decode cX10_record 70 = .ok (.getfield 61, 3) := by decide +kernel
theorem dX10_record_73 : decode cX10_record 73 = .ok (.sipush 200, 3) := by decide +kernel
theorem dX10_record_76 : decode cX10_record 76 = .ok (.if_icmp .ge 13, 3) := by decide +kernel
theorem dX10_record_79 : decode cX10_record 79 = .ok (.aload_n 0, 1) := by decide +kernel
theorem dX10_record_80 : decode cX10_record 80 = .ok (.getfield 27, 3) := by decide +kernel
theorem dX10_record_83 : decode cX10_record 83 = .ok (.aload_n 0, 1) := by decide +kernel
theorem dX10_record_84 : decode cX10_record 84 = .ok (.getfield 61, 3) := by decide +kernel
theorem dX10_record_87 : decode cX10_record 87 = .ok (.lload_n 3, 1) := by decide +kernel
theorem dX10_record_88 : decode cX10_record 88 = .ok (.lastore, 1) := by decide +kernel
theorem dX10_record_89 : decode cX10_record 89 = .ok (.aload_n 0, 1) := by decide +kernel
theorem dX10_record_90 : decode cX10_record 90 = .ok (.dup, 1) := by decide +kernel
theorem dX10_record_91 : decode cX10_record 91 = .ok (.getfield 61, 3) := by decide +kernel
theorem dX10_record_94 : decode cX10_record 94 = .ok (.iconst 1, 1) := by decide +kernel
theorem dX10_record_95 : decode cX10_record 95 = .ok (.iadd, 1) := by decide +kernel
theorem dX10_record_96 : decode cX10_record 96 = .ok (.putfield 61, 3) := by decide +kernel
theorem dX10_record_99 : decode cX10_record 99 = .ok (.return_, 1) := by decide +kernel
theorem dX10_choose_0 : decode cX10_choose 0 = .ok (.aload_n 0, 1) := by decide +kernel
theorem dX10_choose_1 : decode cX10_choose 1 = .ok (.getfield 21, 3) := by decide +kernel
theorem dX10_choose_4 : decode cX10_choose 4 = .ok (.iconst 0, 1) := by decide +kernel
theorem dX10_choose_5 : decode cX10_choose 5 = .ok (.aload_n 0, 1) := by decide +kernel
theorem dX10_choose_6 : decode cX10_choose 6 = .ok (.getfield 24, 3) := by decide +kernel
theorem dX10_choose_9 : decode cX10_choose 9 = .ok (.iconst 0, 1) := by decide +kernel
theorem dX10_choose_10 : decode cX10_choose 10 = .ok (.bipush 10, 2) := by decide +kernel
theorem dX10_choose_12 : decode cX10_choose 12 = .ok (.invokestatic 120, 3) := by decide +kernel
theorem dX10_choose_15 : decode cX10_choose 15 = .ok (.return_, 1) := by decide +kernel
theorem dX10_heapOf_0 : decode cX10_heapOf 0 = .ok (.aload_n 0, 1) := by decide +kernel
theorem dX10_heapOf_1 : decode cX10_heapOf 1 = .ok (.getfield 31, 3) := by decide +kernel
theorem dX10_heapOf_4 : decode cX10_heapOf 4 = .ok (.iload_n 1, 1) := by decide +kernel
theorem dX10_heapOf_5 : decode cX10_heapOf 5 = .ok (.invokevirtual 126, 3) := by decide +kernel
theorem dX10_heapOf_8 : decode cX10_heapOf 8 = .ok (.istore_n 2, 1) := by decide +kernel
theorem dX10_heapOf_9 : decode cX10_heapOf 9 = .ok (.iload_n 2, 1) := by decide +kernel
theorem dX10_heapOf_10 : decode cX10_heapOf 10 = .ok (.iconst (-1), 1) := by decide +kernel
theorem dX10_heapOf_11 : decode cX10_heapOf 11 = .ok (.if_icmp .ne 7, 3) := by decide +kernel
theorem dX10_heapOf_14 : decode cX10_heapOf 14 = .ok (.iconst (-1), 1) := by decide +kernel
theorem dX10_heapOf_15 : decode cX10_heapOf 15 = .ok (.goto 17, 3) := by decide +kernel
theorem dX10_heapOf_18 : decode cX10_heapOf 18 = .ok (.aload_n 0, 1) := by decide +kernel
theorem dX10_heapOf_19 : decode cX10_heapOf 19 = .ok (.getfield 31, 3) := by decide +kernel
theorem dX10_heapOf_22 : decode cX10_heapOf 22 = .ok (.getfield 129, 3) := by decide +kernel
theorem dX10_heapOf_25 : decode cX10_heapOf 25 = .ok (.aload_n 0, 1) := by decide +kernel
theorem dX10_heapOf_26 : decode cX10_heapOf 26 = .ok (.getfield 24, 3) := by decide +kernel
theorem dX10_heapOf_29 : decode cX10_heapOf 29 = .ok (.iload_n 2, 1) := by decide +kernel
theorem dX10_heapOf_30 : decode cX10_heapOf 30 = .ok (.iaload, 1) := by decide +kernel
theorem dX10_heapOf_31 : decode cX10_heapOf 31 = .ok (.iaload, 1) := by decide +kernel
theorem dX10_heapOf_32 : decode cX10_heapOf 32 = .ok (.ireturn, 1) := by decide +kernel
theorem dX10_copyFirst_0 : decode cX10_copyFirst 0 = .ok (.iconst 0, 1) := by decide +kernel
theorem dX10_copyFirst_1 : decode cX10_copyFirst 1 = .ok (.istore_n 2, 1) := by decide +kernel
theorem dX10_copyFirst_2 : decode cX10_copyFirst 2 = .ok (.iload_n 2, 1) := by decide +kernel
theorem dX10_copyFirst_3 : decode cX10_copyFirst 3 = .ok (.aload_n 0, 1) := by decide +kernel
theorem dX10_copyFirst_4 : decode cX10_copyFirst 4 = .ok (.getfield 31, 3) := by decide +kernel
theorem dX10_copyFirst_7 : decode cX10_copyFirst 7 = .ok (.getfield 46, 3) := by decide +kernel
theorem dX10_copyFirst_10 : decode cX10_copyFirst 10 = .ok (.if_icmp .ge 34, 3) := by decide +kernel
theorem dX10_copyFirst_13 : decode cX10_copyFirst 13 = .ok (.aload_n 1, 1) := by decide +kernel
theorem dX10_copyFirst_14 : decode cX10_copyFirst 14 = .ok (.aload_n 0, 1) := by decide +kernel
theorem dX10_copyFirst_15 : decode cX10_copyFirst 15 = .ok (.getfield 31, 3) := by decide +kernel
theorem dX10_copyFirst_18 : decode cX10_copyFirst 18 = .ok (.getfield 129, 3) := by decide +kernel
theorem dX10_copyFirst_21 : decode cX10_copyFirst 21 = .ok (.iload_n 2, 1) := by decide +kernel
theorem dX10_copyFirst_22 : decode cX10_copyFirst 22 = .ok (.iaload, 1) := by decide +kernel
theorem dX10_copyFirst_23 : decode cX10_copyFirst 23 = .ok (.aload_n 0, 1) := by decide +kernel
theorem dX10_copyFirst_24 : decode cX10_copyFirst 24 = .ok (.getfield 31, 3) := by decide +kernel
theorem dX10_copyFirst_27 : decode cX10_copyFirst 27 = .ok (.getfield 129, 3) := by decide +kernel
theorem dX10_copyFirst_30 : decode cX10_copyFirst 30 = .ok (.aload_n 0, 1) := by decide +kernel
theorem dX10_copyFirst_31 : decode cX10_copyFirst 31 = .ok (.getfield 24, 3) := by decide +kernel
theorem dX10_copyFirst_34 : decode cX10_copyFirst 34 = .ok (.iload_n 2, 1) := by decide +kernel
theorem dX10_copyFirst_35 : decode cX10_copyFirst 35 = .ok (.iaload, 1) := by decide +kernel
theorem dX10_copyFirst_36 : decode cX10_copyFirst 36 = .ok (.iaload, 1) := by decide +kernel
theorem dX10_copyFirst_37 : decode cX10_copyFirst 37 = .ok (.iastore, 1) := by decide +kernel
theorem dX10_copyFirst_38 : decode cX10_copyFirst 38 = .ok (.iinc 2 1, 3) := by decide +kernel
theorem dX10_copyFirst_41 : decode cX10_copyFirst 41 = .ok (.goto (-39), 3) := by decide +kernel
theorem dX10_copyFirst_44 : decode cX10_copyFirst 44 = .ok (.return_, 1) := by decide +kernel
theorem dX10_pairBit_0 : decode cX10_pairBit 0 = .ok (.lconst 1, 1) := by decide +kernel
theorem dX10_pairBit_1 : decode cX10_pairBit 1 = .ok (.iload_n 1, 1) := by decide +kernel
theorem dX10_pairBit_2 : decode cX10_pairBit 2 = .ok (.iload_n 1, 1) := by decide +kernel
theorem dX10_pairBit_3 : decode cX10_pairBit 3 = .ok (.iconst 1, 1) := by decide +kernel
theorem dX10_pairBit_4 : decode cX10_pairBit 4 = .ok (.isub, 1) := by decide +kernel
theorem dX10_pairBit_5 : decode cX10_pairBit 5 = .ok (.imul, 1) := by decide +kernel
theorem dX10_pairBit_6 : decode cX10_pairBit 6 = .ok (.iconst 2, 1) := by decide +kernel
theorem dX10_pairBit_7 : decode cX10_pairBit 7 = .ok (.idiv, 1) := by decide +kernel
theorem dX10_pairBit_8 : decode cX10_pairBit 8 = .ok (.iload_n 0, 1) := by decide +kernel
theorem dX10_pairBit_9 : decode cX10_pairBit 9 = .ok (.iadd, 1) := by decide +kernel
theorem dX10_pairBit_10 : decode cX10_pairBit 10 = .ok (.lshl, 1) := by decide +kernel
theorem dX10_pairBit_11 : decode cX10_pairBit 11 = .ok (.lreturn, 1) := by decide +kernel
theorem dX10_togetherness_0 : decode cX10_togetherness 0 = .ok (.aload_n 0, 1) := by decide +kernel
theorem dX10_togetherness_1 : decode cX10_togetherness 1 = .ok (.getfield 31, 3) := by decide +kernel
theorem dX10_togetherness_4 : decode cX10_togetherness 4 = .ok (.iload_n 1, 1) := by decide +kernel
theorem dX10_togetherness_5 : decode cX10_togetherness 5 = .ok (.invokevirtual 126, 3) := by decide +kernel
theorem dX10_togetherness_8 : decode cX10_togetherness 8 = .ok (.istore_n 3, 1) := by decide +kernel
theorem dX10_togetherness_9 : decode cX10_togetherness 9 = .ok (.aload_n 0, 1) := by decide +kernel
theorem dX10_togetherness_10 : decode cX10_togetherness 10 = .ok (.getfield 31, 3) := by decide +kernel
theorem dX10_togetherness_13 : decode cX10_togetherness 13 = .ok (.iload_n 2, 1) := by decide +kernel
theorem dX10_togetherness_14 : decode cX10_togetherness 14 = .ok (.invokevirtual 126, 3) := by decide +kernel
theorem dX10_togetherness_17 : decode cX10_togetherness 17 = .ok (.istore 4, 2) := by decide +kernel
theorem dX10_togetherness_19 : decode cX10_togetherness 19 = .ok (.iload_n 3, 1) := by decide +kernel
theorem dX10_togetherness_20 : decode cX10_togetherness 20 = .ok (.iconst (-1), 1) := by decide +kernel
theorem dX10_togetherness_21 : decode cX10_togetherness 21 = .ok (.if_icmp .eq 9, 3) := by decide +kernel
theorem dX10_togetherness_24 : decode cX10_togetherness 24 = .ok (.iload 4, 2) := by decide +kernel
theorem dX10_togetherness_26 : decode cX10_togetherness 26 = .ok (.iconst (-1), 1) := by decide +kernel
theorem dX10_togetherness_27 : decode cX10_togetherness 27 = .ok (.if_icmp .ne 6, 3) := by decide +kernel
theorem dX10_togetherness_30 : decode cX10_togetherness 30 = .ok (.bipush (-2), 2) := by decide +kernel
theorem dX10_togetherness_32 : decode cX10_togetherness 32 = .ok (.ireturn, 1) := by decide +kernel
theorem dX10_togetherness_33 : decode cX10_togetherness 33 = .ok (.iload_n 3, 1) := by decide +kernel
theorem dX10_togetherness_34 : decode cX10_togetherness 34 = .ok (.iload 4, 2) := by decide +kernel
theorem dX10_togetherness_36 : decode cX10_togetherness 36 = .ok (.invokestatic 132, 3) := by decide +kernel
theorem dX10_togetherness_39 : decode cX10_togetherness 39 = .ok (.iload_n 3, 1) := by decide +kernel
theorem dX10_togetherness_40 : decode cX10_togetherness 40 = .ok (.iload 4, 2) := by decide +kernel
theorem dX10_togetherness_42 : decode cX10_togetherness 42 = .ok (.invokestatic 112, 3) := by decide +kernel
theorem dX10_togetherness_45 : decode cX10_togetherness 45 = .ok (.invokestatic 135, 3) := by decide +kernel
theorem dX10_togetherness_48 : decode cX10_togetherness 48 = .ok (.lstore 5, 2) := by decide +kernel
theorem dX10_togetherness_50 : decode cX10_togetherness 50 = .ok (.aload_n 0, 1) := by decide +kernel
theorem dX10_togetherness_51 : decode cX10_togetherness 51 = .ok (.getfield 66, 3) := by decide +kernel
theorem dX10_togetherness_54 : decode cX10_togetherness 54 = .ok (.lload 5, 2) := by decide +kernel
theorem dX10_togetherness_56 : decode cX10_togetherness 56 = .ok (.land, 1) := by decide +kernel
theorem dX10_togetherness_57 : decode cX10_togetherness 57 = .ok (.lconst 0, 1) := by decide +kernel
theorem dX10_togetherness_58 : decode cX10_togetherness 58 = .ok (.lcmp, 1) := by decide +kernel
theorem dX10_togetherness_59 : decode cX10_togetherness 59 = .ok (.ifCond .eq 7, 3) := by decide +kernel
theorem dX10_togetherness_62 : decode cX10_togetherness 62 = .ok (.iconst 1, 1) := by decide +kernel
theorem dX10_togetherness_63 : decode cX10_togetherness 63 = .ok (.goto 20, 3) := by decide +kernel
theorem dX10_togetherness_66 : decode cX10_togetherness 66 = .ok (.aload_n 0, 1) := by decide +kernel
theorem dX10_togetherness_67 : decode cX10_togetherness 67 = .ok (.getfield 70, 3) := by decide +kernel
theorem dX10_togetherness_70 : decode cX10_togetherness 70 = .ok (.lload 5, 2) := by decide +kernel
theorem dX10_togetherness_72 : decode cX10_togetherness 72 = .ok (.land, 1) := by decide +kernel
theorem dX10_togetherness_73 : decode cX10_togetherness 73 = .ok (.lconst 0, 1) := by decide +kernel
theorem dX10_togetherness_74 : decode cX10_togetherness 74 = .ok (.lcmp, 1) := by decide +kernel
theorem dX10_togetherness_75 : decode cX10_togetherness 75 = .ok (.ifCond .eq 7, 3) := by decide +kernel
theorem dX10_togetherness_78 : decode cX10_togetherness 78 = .ok (.iconst 0, 1) := by decide +kernel
theorem dX10_togetherness_79 : decode cX10_togetherness 79 = .ok (.goto 4, 3) := by decide +kernel
theorem dX10_togetherness_82 : decode cX10_togetherness 82 = .ok (.iconst (-1), 1) := by decide +kernel
theorem dX10_togetherness_83 : decode cX10_togetherness 83 = .ok (.ireturn, 1) := by decide +kernel
theorem dX10_question_0 : decode cX10_question 0 = .ok (.aload_n 0, 1) := by decide +kernel
theorem dX10_question_1 : decode cX10_question 1 = .ok (.getfield 70, 3) := by decide +kernel
theorem dX10_question_4 : decode cX10_question 4 = .ok (.aload_n 0, 1) := by decide +kernel
theorem dX10_question_5 : decode cX10_question 5 = .ok (.getfield 66, 3) := by decide +kernel
theorem dX10_question_8 : decode cX10_question 8 = .ok (.ldc2_w 64, 3) := by decide +kernel
theorem dX10_question_11 : decode cX10_question 11 = .ok (.lxor, 1) := by decide +kernel
theorem dX10_question_12 : decode cX10_question 12 = .ok (.land, 1) := by decide +kernel
theorem dX10_question_13 : decode cX10_question 13 = .ok (.lstore_n 1, 1) := by decide +kernel
theorem dX10_question_14 : decode cX10_question 14 = .ok (.ldc 39, 2) := by decide +kernel
theorem dX10_question_16 : decode cX10_question 16 = .ok (.istore_n 3, 1) := by decide +kernel
theorem dX10_question_17 : decode cX10_question 17 = .ok (.iconst (-1), 1) := by decide +kernel
theorem dX10_question_18 : decode cX10_question 18 = .ok (.istore 4, 2) := by decide +kernel
theorem dX10_question_20 : decode cX10_question 20 = .ok (.iconst 0, 1) := by decide +kernel
theorem dX10_question_21 : decode cX10_question 21 = .ok (.istore 5, 2) := by decide +kernel
theorem dX10_question_23 : decode cX10_question 23 = .ok (.iload 5, 2) := by decide +kernel
theorem dX10_question_25 : decode cX10_question 25 = .ok (.aload_n 0, 1) := by decide +kernel
theorem dX10_question_26 : decode cX10_question 26 = .ok (.getfield 31, 3) := by decide +kernel
theorem dX10_question_29 : decode cX10_question 29 = .ok (.getfield 46, 3) := by decide +kernel
theorem dX10_question_32 : decode cX10_question 32 = .ok (.if_icmp .ge 106, 3) := by decide +kernel
theorem dX10_question_35 : decode cX10_question 35 = .ok (.iload 5, 2) := by decide +kernel
theorem dX10_question_37 : decode cX10_question 37 = .ok (.iconst 1, 1) := by decide +kernel
theorem dX10_question_38 : decode cX10_question 38 = .ok (.iadd, 1) := by decide +kernel
theorem dX10_question_39 : decode cX10_question 39 = .ok (.istore 6, 2) := by decide +kernel
theorem dX10_question_41 : decode cX10_question 41 = .ok (.iload 6, 2) := by decide +kernel
theorem dX10_question_43 : decode cX10_question 43 = .ok (.aload_n 0, 1) := by decide +kernel
theorem dX10_question_44 : decode cX10_question 44 = .ok (.getfield 31, 3) := by decide +kernel
theorem dX10_question_47 : decode cX10_question 47 = .ok (.getfield 46, 3) := by decide +kernel
theorem dX10_question_50 : decode cX10_question 50 = .ok (.if_icmp .ge 82, 3) := by decide +kernel
theorem dX10_question_53 : decode cX10_question 53 = .ok (.iload 5, 2) := by decide +kernel
theorem dX10_question_55 : decode cX10_question 55 = .ok (.iload 6, 2) := by decide +kernel
theorem dX10_question_57 : decode cX10_question 57 = .ok (.invokestatic 135, 3) := by decide +kernel
theorem dX10_question_60 : decode cX10_question 60 = .ok (.lstore 7, 2) := by decide +kernel
theorem dX10_question_62 : decode cX10_question 62 = .ok (.lload_n 1, 1) := by decide +kernel
theorem dX10_question_63 : decode cX10_question 63 = .ok (.lload 7, 2) := by decide +kernel
theorem dX10_question_65 : decode cX10_question 65 = .ok (.land, 1) := by decide +kernel
theorem dX10_question_66 : decode cX10_question 66 = .ok (.lconst 0, 1) := by decide +kernel
theorem dX10_question_67 : decode cX10_question 67 = .ok (.lcmp, 1) := by decide +kernel
theorem dX10_question_68 : decode cX10_question 68 = .ok (.ifCond .eq 58, 3) := by decide +kernel
theorem dX10_question_71 : decode cX10_question 71 = .ok (.aload_n 0, 1) := by decide +kernel
theorem dX10_question_72 : decode cX10_question 72 = .ok (.lload 7, 2) := by decide +kernel
theorem dX10_question_74 : decode cX10_question 74 = .ok (.lload 7, 2) := by decide +kernel
theorem dX10_question_76 : decode cX10_question 76 = .ok (.invokevirtual 139, 3) := by decide +kernel
theorem dX10_question_79 : decode cX10_question 79 = .ok (.aload_n 0, 1) := by decide +kernel
theorem dX10_question_80 : decode cX10_question 80 = .ok (.lload 7, 2) := by decide +kernel
theorem dX10_question_82 : decode cX10_question 82 = .ok (.lconst 0, 1) := by decide +kernel
theorem dX10_question_83 : decode cX10_question 83 = .ok (.invokevirtual 139, 3) := by decide +kernel
theorem dX10_question_86 : decode cX10_question 86 = .ok (.invokestatic 112, 3) := by decide +kernel
theorem dX10_question_89 : decode cX10_question 89 = .ok (.istore 9, 2) := by decide +kernel
theorem dX10_question_91 : decode cX10_question 91 = .ok (.iload 9, 2) := by decide +kernel
theorem dX10_question_93 : decode cX10_question 93 = .ok (.iload_n 3, 1) := by decide +kernel
theorem dX10_question_94 : decode cX10_question 94 = .ok (.if_icmp .ge 32, 3) := by decide +kernel
theorem dX10_question_97 : decode cX10_question 97 = .ok (.iload 9, 2) := by decide +kernel
theorem dX10_question_99 : decode cX10_question 99 = .ok (.istore_n 3, 1) := by decide +kernel
theorem dX10_question_100 : decode cX10_question 100 = .ok (.bipush 32, 2) := by decide +kernel
theorem dX10_question_102 : decode cX10_question 102 = .ok (.aload_n 0, 1) := by decide +kernel
theorem dX10_question_103 : decode cX10_question 103 = .ok (.getfield 31, 3) := by decide +kernel
theorem dX10_question_106 : decode cX10_question 106 = .ok (.getfield 129, 3) := by decide +kernel
theorem dX10_question_109 : decode cX10_question 109 = .ok (.iload 5, 2) := by decide +kernel
theorem dX10_question_111 : decode cX10_question 111 = .ok (.iaload, 1) := by decide +kernel
theorem dX10_question_112 : decode cX10_question 112 = .ok (.imul, 1) := by decide +kernel
theorem dX10_question_113 : decode cX10_question 113 = .ok (.aload_n 0, 1) := by decide +kernel
theorem dX10_question_114 : decode cX10_question 114 = .ok (.getfield 31, 3) := by decide +kernel
theorem dX10_question_117 : decode cX10_question 117 = .ok (.getfield 129, 3) := by decide +kernel
theorem dX10_question_120 : decode cX10_question 120 = .ok (.iload 6, 2) := by decide +kernel
theorem dX10_question_122 : decode cX10_question 122 = .ok (.iaload, 1) := by decide +kernel
theorem dX10_question_123 : decode cX10_question 123 = .ok (.iadd, 1) := by decide +kernel
theorem dX10_question_124 : decode cX10_question 124 = .ok (.istore 4, 2) := by decide +kernel
theorem dX10_question_126 : decode cX10_question 126 = .ok (.iinc 6 1, 3) := by decide +kernel
theorem dX10_question_129 : decode cX10_question 129 = .ok (.goto (-88), 3) := by decide +kernel
theorem dX10_question_132 : decode cX10_question 132 = .ok (.iinc 5 1, 3) := by decide +kernel
theorem dX10_question_135 : decode cX10_question 135 = .ok (.goto (-112), 3) := by decide +kernel
theorem dX10_question_138 : decode cX10_question 138 = .ok (.iload 4, 2) := by decide +kernel
theorem dX10_question_140 : decode cX10_question 140 = .ok (.ireturn, 1) := by decide +kernel
theorem dX10_freeLeft_0 : decode cX10_freeLeft 0 = .ok (.ldc2_w 64, 3) := by decide +kernel
theorem dX10_freeLeft_3 : decode cX10_freeLeft 3 = .ok (.lstore 5, 2) := by decide +kernel
theorem dX10_freeLeft_5 : decode cX10_freeLeft 5 = .ok (.lconst 0, 1) := by decide +kernel
theorem dX10_freeLeft_6 : decode cX10_freeLeft 6 = .ok (.lstore 7, 2) := by decide +kernel
theorem dX10_freeLeft_8 : decode cX10_freeLeft 8 = .ok (.iconst 0, 1) := by decide +kernel
theorem dX10_freeLeft_9 : decode cX10_freeLeft 9 = .ok (.istore 9, 2) := by decide +kernel
theorem dX10_freeLeft_11 : decode cX10_freeLeft 11 = .ok (.iload 9, 2) := by decide +kernel
theorem dX10_freeLeft_13 : decode cX10_freeLeft 13 = .ok (.aload_n 0, 1) := by decide +kernel
theorem dX10_freeLeft_14 : decode cX10_freeLeft 14 = .ok (.getfield 61, 3) := by decide +kernel
theorem dX10_freeLeft_17 : decode cX10_freeLeft 17 = .ok (.if_icmp .ge 55, 3) := by decide +kernel
theorem dX10_freeLeft_20 : decode cX10_freeLeft 20 = .ok (.iload 9, 2) := by decide +kernel
theorem dX10_freeLeft_22 : decode cX10_freeLeft 22 = .ok (.sipush 200, 3) := by decide +kernel
theorem dX10_freeLeft_25 : decode cX10_freeLeft 25 = .ok (.if_icmp .ge 47, 3) := by decide +kernel
theorem dX10_freeLeft_28 : decode cX10_freeLeft 28 = .ok (.aload_n 0, 1) := by decide +kernel
theorem dX10_freeLeft_29 : decode cX10_freeLeft 29 = .ok (.getfield 27, 3) := by decide +kernel
theorem dX10_freeLeft_32 : decode cX10_freeLeft 32 = .ok (.iload 9, 2) := by decide +kernel
theorem dX10_freeLeft_34 : decode cX10_freeLeft 34 = .ok (.laload, 1) := by decide +kernel
theorem dX10_freeLeft_35 : decode cX10_freeLeft 35 = .ok (.lload_n 1, 1) := by decide +kernel
theorem dX10_freeLeft_36 : decode cX10_freeLeft 36 = .ok (.land, 1) := by decide +kernel
theorem dX10_freeLeft_37 : decode cX10_freeLeft 37 = .ok (.lload_n 3, 1) := by decide +kernel
theorem dX10_freeLeft_38 : decode cX10_freeLeft 38 = .ok (.lcmp, 1) := by decide +kernel
theorem dX10_freeLeft_39 : decode cX10_freeLeft 39 = .ok (.ifCond .ne 27, 3) := by decide +kernel
theorem dX10_freeLeft_42 : decode cX10_freeLeft 42 = .ok (.lload 5, 2) := by decide +kernel
theorem dX10_freeLeft_44 : decode cX10_freeLeft 44 = .ok (.aload_n 0, 1) := by decide +kernel
theorem dX10_freeLeft_45 : decode cX10_freeLeft 45 = .ok (.getfield 27, 3) := by decide +kernel
theorem dX10_freeLeft_48 : decode cX10_freeLeft 48 = .ok (.iload 9, 2) := by decide +kernel
theorem dX10_freeLeft_50 : decode cX10_freeLeft 50 = .ok (.laload, 1) := by decide +kernel
theorem dX10_freeLeft_51 : decode cX10_freeLeft 51 = .ok (.land, 1) := by decide +kernel
theorem dX10_freeLeft_52 : decode cX10_freeLeft 52 = .ok (.lstore 5, 2) := by decide +kernel
theorem dX10_freeLeft_54 : decode cX10_freeLeft 54 = .ok (.lload 7, 2) := by decide +kernel
theorem dX10_freeLeft_56 : decode cX10_freeLeft 56 = .ok (.aload_n 0, 1) := by decide +kernel
theorem dX10_freeLeft_57 : decode cX10_freeLeft 57 = .ok (.getfield 27, 3) := by decide +kernel
theorem dX10_freeLeft_60 : decode cX10_freeLeft 60 = .ok (.iload 9, 2) := by decide +kernel
theorem dX10_freeLeft_62 : decode cX10_freeLeft 62 = .ok (.laload, 1) := by decide +kernel
theorem dX10_freeLeft_63 : decode cX10_freeLeft 63 = .ok (.lor, 1) := by decide +kernel
theorem dX10_freeLeft_64 : decode cX10_freeLeft 64 = .ok (.lstore 7, 2) := by decide +kernel
theorem dX10_freeLeft_66 : decode cX10_freeLeft 66 = .ok (.iinc 9 1, 3) := by decide +kernel
theorem dX10_freeLeft_69 : decode cX10_freeLeft 69 = .ok (.goto (-58), 3) := by decide +kernel
theorem dX10_freeLeft_72 : decode cX10_freeLeft 72 = .ok (.lload 7, 2) := by decide +kernel
theorem dX10_freeLeft_74 : decode cX10_freeLeft 74 = .ok (.lload 5, 2) := by decide +kernel
theorem dX10_freeLeft_76 : decode cX10_freeLeft 76 = .ok (.ldc2_w 64, 3) := by decide +kernel
theorem dX10_freeLeft_79 : decode cX10_freeLeft 79 = .ok (.lxor, 1) := by decide +kernel
theorem dX10_freeLeft_80 : decode cX10_freeLeft 80 = .ok (.land, 1) := by decide +kernel
theorem dX10_freeLeft_81 : decode cX10_freeLeft 81 = .ok (.invokestatic 143, 3) := by decide +kernel
theorem dX10_freeLeft_84 : decode cX10_freeLeft 84 = .ok (.ireturn, 1) := by decide +kernel
theorem dX11_init_0 : decode cX11_init 0 = .ok (.aload_n 0, 1) := by decide +kernel
theorem dX11_init_1 : decode cX11_init 1 = .ok (.invokespecial 3, 3) := by decide +kernel
theorem dX11_init_4 : decode cX11_init 4 = .ok (.aload_n 0, 1) := by decide +kernel
theorem dX11_init_5 : decode cX11_init 5 = .ok (.new 9, 3) := by decide +kernel
theorem dX11_init_8 : decode cX11_init 8 = .ok (.dup, 1) := by decide +kernel
theorem dX11_init_9 : decode cX11_init 9 = .ok (.invokespecial 11, 3) := by decide +kernel
theorem dX11_init_12 : decode cX11_init 12 = .ok (.putfield 12, 3) := by decide +kernel
theorem dX11_init_15 : decode cX11_init 15 = .ok (.aload_n 0, 1) := by decide +kernel
theorem dX11_init_16 : decode cX11_init 16 = .ok (.new 18, 3) := by decide +kernel
theorem dX11_init_19 : decode cX11_init 19 = .ok (.dup, 1) := by decide +kernel
theorem dX11_init_20 : decode cX11_init 20 = .ok (.invokespecial 20, 3) := by decide +kernel
theorem dX11_init_23 : decode cX11_init 23 = .ok (.putfield 21, 3) := by decide +kernel
theorem dX11_init_26 : decode cX11_init 26 = .ok (.aload_n 0, 1) := by decide +kernel
theorem dX11_init_27 : decode cX11_init 27 = .ok (.new 25, 3) := by decide +kernel
theorem dX11_init_30 : decode cX11_init 30 = .ok (.dup, 1) := by decide +kernel
theorem dX11_init_31 : decode cX11_init 31 = .ok (.aload_n 0, 1) := by decide +kernel
theorem dX11_init_32 : decode cX11_init 32 = .ok (.getfield 12, 3) := by decide +kernel
theorem dX11_init_35 : decode cX11_init 35 = .ok (.invokespecial 27, 3) := by decide +kernel
theorem dX11_init_38 : decode cX11_init 38 = .ok (.putfield 30, 3) := by decide +kernel
theorem dX11_init_41 : decode cX11_init 41 = .ok (.aload_n 0, 1) := by decide +kernel
theorem dX11_init_42 : decode cX11_init 42 = .ok (.new 34, 3) := by decide +kernel
theorem dX11_init_45 : decode cX11_init 45 = .ok (.dup, 1) := by decide +kernel
theorem dX11_init_46 : decode cX11_init 46 = .ok (.aload_n 0, 1) := by decide +kernel
theorem dX11_init_47 : decode cX11_init 47 = .ok (.getfield 12, 3) := by decide +kernel
theorem dX11_init_50 : decode cX11_init 50 = .ok (.aload_n 0, 1) := by decide +kernel
theorem dX11_init_51 : decode cX11_init 51 = .ok (.getfield 30, 3) := by decide +kernel
theorem dX11_init_54 : decode cX11_init 54 = .ok (.invokespecial 36, 3) := by decide +kernel
theorem dX11_init_57 : decode cX11_init 57 = .ok (.putfield 39, 3) := by decide +kernel
theorem dX11_init_60 : decode cX11_init 60 = .ok (.aload_n 0, 1) := by decide +kernel
theorem dX11_init_61 : decode cX11_init 61 = .ok (.new 43, 3) := by decide +kernel
theorem dX11_init_64 : decode cX11_init 64 = .ok (.dup, 1) := by decide +kernel
theorem dX11_init_65 : decode cX11_init 65 = .ok (.aload_n 0, 1) := by decide +kernel
theorem dX11_init_66 : decode cX11_init 66 = .ok (.getfield 30, 3) := by decide +kernel
theorem dX11_init_69 : decode cX11_init 69 = .ok (.aload_n 0, 1) := by decide +kernel
theorem dX11_init_70 : decode cX11_init 70 = .ok (.getfield 39, 3) := by decide +kernel
theorem dX11_init_73 : decode cX11_init 73 = .ok (.invokespecial 45, 3) := by decide +kernel
theorem dX11_init_76 : decode cX11_init 76 = .ok (.putfield 48, 3) := by decide +kernel
theorem dX11_init_79 : decode cX11_init 79 = .ok (.aload_n 0, 1) := by decide +kernel
theorem dX11_init_80 : decode cX11_init 80 = .ok (.new 52, 3) := by decide +kernel
theorem dX11_init_83 : decode cX11_init 83 = .ok (.dup, 1) := by decide +kernel
theorem dX11_init_84 : decode cX11_init 84 = .ok (.aload_n 0, 1) := by decide +kernel
theorem dX11_init_85 : decode cX11_init 85 = .ok (.getfield 48, 3) := by decide +kernel
theorem dX11_init_88 : decode cX11_init 88 = .ok (.aload_n 0, 1) := by decide +kernel
theorem dX11_init_89 : decode cX11_init 89 = .ok (.getfield 30, 3) := by decide +kernel
theorem dX11_init_92 : decode cX11_init 92 = .ok (.aload_n 0, 1) := by decide +kernel
theorem dX11_init_93 : decode cX11_init 93 = .ok (.getfield 39, 3) := by decide +kernel
theorem dX11_init_96 : decode cX11_init 96 = .ok (.invokespecial 54, 3) := by decide +kernel
theorem dX11_init_99 : decode cX11_init 99 = .ok (.putfield 57, 3) := by decide +kernel
theorem dX11_init_102 : decode cX11_init 102 = .ok (.aload_n 0, 1) := by decide +kernel
theorem dX11_init_103 : decode cX11_init 103 = .ok (.new 61, 3) := by decide +kernel
theorem dX11_init_106 : decode cX11_init 106 = .ok (.dup, 1) := by decide +kernel
theorem dX11_init_107 : decode cX11_init 107 = .ok (.aload_n 0, 1) := by decide +kernel
theorem dX11_init_108 : decode cX11_init 108 = .ok (.getfield 30, 3) := by decide +kernel
theorem dX11_init_111 : decode cX11_init 111 = .ok (.invokespecial 63, 3) := by decide +kernel
theorem dX11_init_114 : decode cX11_init 114 = .ok (.putfield 66, 3) := by decide +kernel
theorem dX11_init_117 : decode cX11_init 117 = .ok (.aload_n 0, 1) := by decide +kernel
theorem dX11_init_118 : decode cX11_init 118 = .ok (.new 70, 3) := by decide +kernel
theorem dX11_init_121 : decode cX11_init 121 = .ok (.dup, 1) := by decide +kernel
theorem dX11_init_122 : decode cX11_init 122 = .ok (.aload_n 0, 1) := by decide +kernel
theorem dX11_init_123 : decode cX11_init 123 = .ok (.getfield 30, 3) := by decide +kernel
theorem dX11_init_126 : decode cX11_init 126 = .ok (.aload_n 0, 1) := by decide +kernel
theorem dX11_init_127 : decode cX11_init 127 = .ok (.getfield 39, 3) := by decide +kernel
theorem dX11_init_130 : decode cX11_init 130 = .ok (.invokespecial 72, 3) := by decide +kernel
theorem dX11_init_133 : decode cX11_init 133 = .ok (.putfield 73, 3) := by decide +kernel
theorem dX11_init_136 : decode cX11_init 136 = .ok (.aload_n 0, 1) := by decide +kernel
theorem dX11_init_137 : decode cX11_init 137 = .ok (.new 77, 3) := by decide +kernel
theorem dX11_init_140 : decode cX11_init 140 = .ok (.dup, 1) := by decide +kernel
theorem dX11_init_141 : decode cX11_init 141 = .ok (.aload_n 0, 1) := by decide +kernel
theorem dX11_init_142 : decode cX11_init 142 = .ok (.getfield 30, 3) := by decide +kernel
theorem dX11_init_145 : decode cX11_init 145 = .ok (.aload_n 0, 1) := by decide +kernel
theorem dX11_init_146 : decode cX11_init 146 = .ok (.getfield 39, 3) := by decide +kernel
theorem dX11_init_149 : decode cX11_init 149 = .ok (.invokespecial 79, 3) := by decide +kernel
theorem dX11_init_152 : decode cX11_init 152 = .ok (.putfield 80, 3) := by decide +kernel
theorem dX11_init_155 : decode cX11_init 155 = .ok (.aload_n 0, 1) := by decide +kernel
theorem dX11_init_156 : decode cX11_init 156 = .ok (.new 84, 3) := by decide +kernel
theorem dX11_init_159 : decode cX11_init 159 = .ok (.dup, 1) := by decide +kernel
theorem dX11_init_160 : decode cX11_init 160 = .ok (.aload_n 0, 1) := by decide +kernel
theorem dX11_init_161 : decode cX11_init 161 = .ok (.getfield 80, 3) := by decide +kernel
theorem dX11_init_164 : decode cX11_init 164 = .ok (.invokespecial 86, 3) := by decide +kernel
theorem dX11_init_167 : decode cX11_init 167 = .ok (.putfield 89, 3) := by decide +kernel
theorem dX11_init_170 : decode cX11_init 170 = .ok (.aload_n 0, 1) := by decide +kernel
theorem dX11_init_171 : decode cX11_init 171 = .ok (.bipush 30, 2) := by decide +kernel
theorem dX11_init_173 : decode cX11_init 173 = .ok (.newarray .int, 2) := by decide +kernel
theorem dX11_init_175 : decode cX11_init 175 = .ok (.putfield 93, 3) := by decide +kernel
theorem dX11_init_178 : decode cX11_init 178 = .ok (.aload_n 0, 1) := by decide +kernel
theorem dX11_init_179 : decode cX11_init 179 = .ok (.bipush 30, 2) := by decide +kernel
theorem dX11_init_181 : decode cX11_init 181 = .ok (.newarray .int, 2) := by decide +kernel
theorem dX11_init_183 : decode cX11_init 183 = .ok (.putfield 97, 3) := by decide +kernel
theorem dX11_init_186 : decode cX11_init 186 = .ok (.return_, 1) := by decide +kernel
theorem dX11_entry_0 : decode cX11_entry 0 = .ok (.iload_n 1, 1) := by decide +kernel
theorem dX11_entry_1 : decode cX11_entry 1 = .ok (.iconst 0, 1) := by decide +kernel
theorem dX11_entry_2 : decode cX11_entry 2 = .ok (.bipush 7, 2) := by decide +kernel
theorem dX11_entry_4 : decode cX11_entry 4 = .ok (.invokestatic 100, 3) := by decide +kernel
theorem dX11_entry_7 : decode cX11_entry 7 = .ok (.invokestatic 104, 3) := by decide +kernel
theorem dX11_entry_10 : decode cX11_entry 10 = .ok (.iload_n 2, 1) := by decide +kernel
theorem dX11_entry_11 : decode cX11_entry 11 = .ok (.iconst 0, 1) := by decide +kernel
theorem dX11_entry_12 : decode cX11_entry 12 = .ok (.bipush 15, 2) := by decide +kernel
theorem dX11_entry_14 : decode cX11_entry 14 = .ok (.invokestatic 100, 3) := by decide +kernel
theorem dX11_entry_17 : decode cX11_entry 17 = .ok (.invokestatic 104, 3) := by decide +kernel
theorem dX11_entry_20 : decode cX11_entry 20 = .ok (.iload_n 3, 1) := by decide +kernel
theorem dX11_entry_21 : decode cX11_entry 21 = .ok (.iconst 0, 1) := by decide +kernel
theorem dX11_entry_22 : decode cX11_entry 22 = .ok (.bipush 7, 2) := by decide +kernel
theorem dX11_entry_24 : decode cX11_entry 24 = .ok (.invokestatic 100, 3) := by decide +kernel
theorem dX11_entry_27 : decode cX11_entry 27 = .ok (.invokestatic 104, 3) := by decide +kernel
theorem dX11_entry_30 : decode cX11_entry 30 = .ok (.iload 4, 2) := by decide +kernel
theorem dX11_entry_32 : decode cX11_entry 32 = .ok (.iconst 0, 1) := by decide +kernel
theorem dX11_entry_33 : decode cX11_entry 33 = .ok (.sipush 199, 3) := by decide +kernel
theorem dX11_entry_36 : decode cX11_entry 36 = .ok (.invokestatic 100, 3) := by decide +kernel
theorem dX11_entry_39 : decode cX11_entry 39 = .ok (.invokestatic 104, 3) := by decide +kernel
theorem dX11_entry_42 : decode cX11_entry 42 = .ok (.iload 5, 2) := by decide +kernel
theorem dX11_entry_44 : decode cX11_entry 44 = .ok (.iconst (-1), 1) := by decide +kernel
theorem dX11_entry_45 : decode cX11_entry 45 = .ok (.bipush 15, 2) := by decide +kernel
theorem dX11_entry_47 : decode cX11_entry 47 = .ok (.invokestatic 100, 3) := by decide +kernel
theorem dX11_entry_50 : decode cX11_entry 50 = .ok (.invokestatic 104, 3) := by decide +kernel
theorem dX11_entry_53 : decode cX11_entry 53 = .ok (.aload_n 0, 1) := by decide +kernel
theorem dX11_entry_54 : decode cX11_entry 54 = .ok (.getfield 12, 3) := by decide +kernel
theorem dX11_entry_57 : decode cX11_entry 57 = .ok (.getfield 108, 3) := by decide +kernel
theorem dX11_entry_60 : decode cX11_entry 60 = .ok (.bipush 30, 2) := by decide +kernel
theorem dX11_entry_62 : decode cX11_entry 62 = .ok (.if_icmp .lt 5, 3) := by decide +kernel
theorem dX11_entry_65 : decode cX11_entry 65 = .ok (.iconst (-1), 1) := by decide +kernel
theorem dX11_entry_66 : decode cX11_entry 66 = .ok (.ireturn, 1) := by decide +kernel
theorem dX11_entry_67 : decode cX11_entry 67 = .ok (.aload_n 0, 1) := by decide +kernel
theorem dX11_entry_68 : decode cX11_entry 68 = .ok (.getfield 12, 3) := by decide +kernel
theorem dX11_entry_71 : decode cX11_entry 71 = .ok (.iload_n 1, 1) := by decide +kernel
theorem dX11_entry_72 : decode cX11_entry 72 = .ok (.iload_n 2, 1) := by decide +kernel
theorem dX11_entry_73 : decode cX11_entry 73 = .ok (.iload_n 3, 1) := by decide +kernel
theorem dX11_entry_74 : decode cX11_entry 74 = .ok (.iload 4, 2) := by decide +kernel
theorem dX11_entry_76 : decode cX11_entry 76 = .ok (.iload 5, 2) := by decide +kernel
theorem dX11_entry_78 : decode cX11_entry 78 = .ok (.invokevirtual 112, 3) := by decide +kernel
theorem dX11_entry_81 : decode cX11_entry 81 = .ok (.istore 6, 2) := by decide +kernel
theorem dX11_entry_83 : decode cX11_entry 83 = .ok (.aload_n 0, 1) := by decide +kernel
theorem dX11_entry_84 : decode cX11_entry 84 = .ok (.getfield 30, 3) := by decide +kernel
theorem dX11_entry_87 : decode cX11_entry 87 = .ok (.iload 6, 2) := by decide +kernel
theorem dX11_entry_89 : decode cX11_entry 89 = .ok (.invokevirtual 116, 3) := by decide +kernel
theorem dX11_entry_92 : decode cX11_entry 92 = .ok (.aload_n 0, 1) := by decide +kernel
theorem dX11_entry_93 : decode cX11_entry 93 = .ok (.getfield 48, 3) := by decide +kernel
theorem dX11_entry_96 : decode cX11_entry 96 = .ok (.invokevirtual 120, 3) := by decide +kernel
theorem dX11_entry_99 : decode cX11_entry 99 = .ok (.aload_n 0, 1) := by decide +kernel
theorem dX11_entry_100 : decode cX11_entry 100 = .ok (.getfield 66, 3) := by decide +kernel
theorem dX11_entry_103 : decode cX11_entry 103 = .ok (.invokevirtual 123, 3) := by decide +kernel
theorem dX11_entry_106 : decode cX11_entry 106 = .ok (.iload 6, 2) := by decide +kernel
theorem dX11_entry_108 : decode cX11_entry 108 = .ok (.ireturn, 1) := by decide +kernel
theorem dX11_of_0 : decode cX11_of 0 = .ok (.aload_n 0, 1) := by decide +kernel
theorem dX11_of_1 : decode cX11_of 1 = .ok (.iload_n 1, 1) := by decide +kernel
theorem dX11_of_2 : decode cX11_of 2 = .ok (.invokevirtual 126, 3) := by decide +kernel
theorem dX11_of_5 : decode cX11_of 5 = .ok (.iload_n 2, 1) := by decide +kernel
theorem dX11_of_6 : decode cX11_of 6 = .ok (.iconst 0, 1) := by decide +kernel
theorem dX11_of_7 : decode cX11_of 7 = .ok (.bipush 7, 2) := by decide +kernel
theorem dX11_of_9 : decode cX11_of 9 = .ok (.invokestatic 100, 3) := by decide +kernel
theorem dX11_of_12 : decode cX11_of 12 = .ok (.invokestatic 104, 3) := by decide +kernel
theorem dX11_of_15 : decode cX11_of 15 = .ok (.iload_n 2, 1) := by decide +kernel
theorem dX11_of_16 : decode cX11_of 16 = .ok (.iconst 5, 1) := by decide +kernel
theorem dX11_of_17 : decode cX11_of 17 = .ok (.if_icmp .ge 13, 3) := by decide +kernel
theorem dX11_of_20 : decode cX11_of 20 = .ok (.aload_n 0, 1) := by decide +kernel
theorem dX11_of_21 : decode cX11_of 21 = .ok (.getfield 12, 3) := by decide +kernel
theorem dX11_of_24 : decode cX11_of 24 = .ok (.iload_n 1, 1) := by decide +kernel
theorem dX11_of_25 : decode cX11_of 25 = .ok (.iload_n 2, 1) := by decide +kernel
theorem dX11_of_26 : decode cX11_of 26 = .ok (.invokevirtual 129, 3) := by decide +kernel
theorem dX11_of_29 : decode cX11_of 29 = .ok (.ireturn, 1) := by decide +kernel
theorem dX11_of_30 : decode cX11_of 30 = .ok (.iload_n 2, 1) := by decide +kernel
theorem dX11_of_31 : decode cX11_of 31 = .ok (.iconst 5, 1) := by decide +kernel
theorem dX11_of_32 : decode cX11_of 32 = .ok (.if_icmp .ne 13, 3) := by decide +kernel
theorem dX11_of_35 : decode cX11_of 35 = .ok (.aload_n 0, 1) := by decide +kernel
theorem dX11_of_36 : decode cX11_of 36 = .ok (.getfield 48, 3) := by decide +kernel
theorem dX11_of_39 : decode cX11_of 39 = .ok (.getfield 133, 3) := by decide +kernel
theorem dX11_of_42 : decode cX11_of 42 = .ok (.iload_n 1, 1) := by decide +kernel
theorem dX11_of_43 : decode cX11_of 43 = .ok (.iaload, 1) := by decide +kernel
theorem dX11_of_44 : decode cX11_of 44 = .ok (.ireturn, 1) := by decide +kernel
theorem dX11_of_45 : decode cX11_of 45 = .ok (.aload_n 0, 1) := by decide +kernel
theorem dX11_of_46 : decode cX11_of 46 = .ok (.getfield 73, 3) := by decide +kernel
theorem dX11_of_49 : decode cX11_of 49 = .ok (.aload_n 0, 1) := by decide +kernel
theorem dX11_of_50 : decode cX11_of 50 = .ok (.getfield 12, 3) := by decide +kernel
theorem dX11_of_53 : decode cX11_of 53 = .ok (.invokevirtual 136, 3) := by decide +kernel
theorem dX11_of_56 : decode cX11_of 56 = .ok (.invokevirtual 140, 3) := by decide +kernel
theorem dX11_of_59 : decode cX11_of 59 = .ok (.pop, 1) := by decide +kernel
theorem dX11_of_60 : decode cX11_of 60 = .ok (.iload_n 2, 1) := by decide +kernel
theorem dX11_of_61 : decode cX11_of 61 = .ok (.bipush 6, 2) := by decide +kernel
theorem dX11_of_63 : decode cX11_of 63 = .ok (.if_icmp .ne 15, 3) := by decide +kernel
theorem dX11_of_66 : decode cX11_of 66 = .ok (.aload_n 0, 1) := by decide +kernel
theorem dX11_of_67 : decode cX11_of 67 = .ok (.getfield 73, 3) := by decide +kernel
theorem dX11_of_70 : decode cX11_of 70 = .ok (.getfield 144, 3) := by decide +kernel
theorem dX11_of_73 : decode cX11_of 73 = .ok (.iload_n 1, 1) := by decide +kernel
theorem dX11_of_74 : decode cX11_of 74 = .ok (.iaload, 1) := by decide +kernel
theorem dX11_of_75 : decode cX11_of 75 = .ok (.goto 14, 3) := by decide +kernel
theorem dX11_of_78 : decode cX11_of 78 = .ok (.aload_n 0, 1) := by decide +kernel
theorem dX11_of_79 : decode cX11_of 79 = .ok (.getfield 73, 3) := by decide +kernel
theorem dX11_of_82 : decode cX11_of 82 = .ok (.iload_n 1, 1) := by decide +kernel
theorem dX11_of_83 : decode cX11_of 83 = .ok (.invokevirtual 147, 3) := by decide +kernel
theorem dX11_of_86 : decode cX11_of 86 = .ok (.invokestatic 150, 3) := by decide +kernel
theorem dX11_of_89 : decode cX11_of 89 = .ok (.ireturn, 1) := by decide +kernel
theorem dX11_like_0 : decode cX11_like 0 = .ok (.iload_n 1, 1) := by decide +kernel
theorem dX11_like_1 : decode cX11_like 1 = .ok (.iconst 0, 1) := by decide +kernel
theorem dX11_like_2 : decode cX11_like 2 = .ok (.bipush 15, 2) := by decide +kernel
theorem dX11_like_4 : decode cX11_like 4 = .ok (.invokestatic 100, 3) := by decide +kernel
theorem dX11_like_7 : decode cX11_like 7 = .ok (.invokestatic 104, 3) := by decide +kernel
theorem dX11_like_10 : decode cX11_like 10 = .ok (.iload_n 2, 1) := by decide +kernel
theorem dX11_like_11 : decode cX11_like 11 = .ok (.iconst 0, 1) := by decide +kernel
theorem dX11_like_12 : decode cX11_like 12 = .ok (.bipush 15, 2) := by decide +kernel
theorem dX11_like_14 : decode cX11_like 14 = .ok (.invokestatic 100, 3) := by decide +kernel
theorem dX11_like_17 : decode cX11_like 17 = .ok (.invokestatic 104, 3) := by decide +kernel
theorem dX11_like_20 : decode cX11_like 20 = .ok (.iload_n 3, 1) := by decide +kernel
theorem dX11_like_21 : decode cX11_like 21 = .ok (.iconst 0, 1) := by decide +kernel
theorem dX11_like_22 : decode cX11_like 22 = .ok (.bipush 100, 2) := by decide +kernel
theorem dX11_like_24 : decode cX11_like 24 = .ok (.invokestatic 100, 3) := by decide +kernel
theorem dX11_like_27 : decode cX11_like 27 = .ok (.invokestatic 104, 3) := by decide +kernel
theorem dX11_like_30 : decode cX11_like 30 = .ok (.iload_n 1, 1) := by decide +kernel
theorem dX11_like_31 : decode cX11_like 31 = .ok (.iload_n 2, 1) := by decide +kernel
theorem dX11_like_32 : decode cX11_like 32 = .ok (.if_icmp .ne 5, 3) := by decide +kernel
theorem dX11_like_35 : decode cX11_like 35 = .ok (.iconst (-1), 1) := by decide +kernel
theorem dX11_like_36 : decode cX11_like 36 = .ok (.ireturn, 1) := by decide +kernel
theorem dX11_like_37 : decode cX11_like 37 = .ok (.aload_n 0, 1) := by decide +kernel
theorem dX11_like_38 : decode cX11_like 38 = .ok (.getfield 12, 3) := by decide +kernel
theorem dX11_like_41 : decode cX11_like 41 = .ok (.iload_n 1, 1) := by decide +kernel
theorem dX11_like_42 : decode cX11_like 42 = .ok (.iload_n 2, 1) := by decide +kernel
theorem dX11_like_43 : decode cX11_like 43 = .ok (.iload_n 3, 1) := by decide +kernel
theorem dX11_like_44 : decode cX11_like 44 = .ok (.invokevirtual 153, 3) := by decide +kernel
theorem dX11_like_47 : decode cX11_like 47 = .ok (.istore 4, 2) := by decide +kernel
theorem dX11_like_49 : decode cX11_like 49 = .ok (.aload_n 0, 1) := by decide +kernel
theorem dX11_like_50 : decode cX11_like 50 = .ok (.getfield 30, 3) := by decide +kernel
theorem dX11_like_53 : decode cX11_like 53 = .ok (.iconst 0, 1) := by decide +kernel
theorem dX11_like_54 : decode cX11_like 54 = .ok (.invokevirtual 116, 3) := by decide +kernel
theorem dX11_like_57 : decode cX11_like 57 = .ok (.aload_n 0, 1) := by decide +kernel
theorem dX11_like_58 : decode cX11_like 58 = .ok (.getfield 66, 3) := by decide +kernel
theorem dX11_like_61 : decode cX11_like 61 = .ok (.invokevirtual 123, 3) := by decide +kernel
theorem dX11_like_64 : decode cX11_like 64 = .ok (.iload 4, 2) := by decide +kernel
theorem dX11_like_66 : decode cX11_like 66 = .ok (.ireturn, 1) := by decide +kernel
theorem dX11_feed_0 : decode cX11_feed 0 = .ok (.aload_n 0, 1) := by decide +kernel
theorem dX11_feed_1 : decode cX11_feed 1 = .ok (.getfield 21, 3) := by decide +kernel
theorem dX11_feed_4 : decode cX11_feed 4 = .ok (.getfield 157, 3) := by decide +kernel
theorem dX11_feed_7 : decode cX11_feed 7 = .ok (.bipush 20, 2) := by decide +kernel
theorem dX11_feed_9 : decode cX11_feed 9 = .ok (.iadd, 1) := by decide +kernel
theorem dX11_feed_10 : decode cX11_feed 10 = .ok (.sipush 400, 3) := by decide +kernel
theorem dX11_feed_13 : decode cX11_feed 13 = .ok (.if_icmp .le 5, 3) := by decide +kernel
theorem dX11_feed_16 : decode cX11_feed 16 = .ok (.iconst (-1), 1) := by decide +kernel
theorem dX11_feed_17 : decode cX11_feed 17 = .ok (.ireturn, 1) := by decide +kernel
theorem dX11_feed_18 : decode cX11_feed 18 = .ok (.aload_n 0, 1) := by decide +kernel
theorem dX11_feed_19 : decode cX11_feed 19 = .ok (.getfield 21, 3) := by decide +kernel
theorem dX11_feed_22 : decode cX11_feed 22 = .ok (.iload_n 1, 1) := by decide +kernel
theorem dX11_feed_23 : decode cX11_feed 23 = .ok (.invokevirtual 160, 3) := by decide +kernel
theorem dX11_feed_26 : decode cX11_feed 26 = .ok (.aload_n 0, 1) := by decide +kernel
theorem dX11_feed_27 : decode cX11_feed 27 = .ok (.getfield 21, 3) := by decide +kernel
theorem dX11_feed_30 : decode cX11_feed 30 = .ok (.iload_n 2, 1) := by decide +kernel
theorem dX11_feed_31 : decode cX11_feed 31 = .ok (.invokevirtual 160, 3) := by decide +kernel
theorem dX11_feed_34 : decode cX11_feed 34 = .ok (.aload_n 0, 1) := by decide +kernel
theorem dX11_feed_35 : decode cX11_feed 35 = .ok (.getfield 21, 3) := by decide +kernel
theorem dX11_feed_38 : decode cX11_feed 38 = .ok (.iload_n 3, 1) := by decide +kernel
theorem dX11_feed_39 : decode cX11_feed 39 = .ok (.invokevirtual 160, 3) := by decide +kernel
theorem dX11_feed_42 : decode cX11_feed 42 = .ok (.aload_n 0, 1) := by decide +kernel
theorem dX11_feed_43 : decode cX11_feed 43 = .ok (.getfield 21, 3) := by decide +kernel
theorem dX11_feed_46 : decode cX11_feed 46 = .ok (.iload 4, 2) := by decide +kernel
theorem dX11_feed_48 : decode cX11_feed 48 = .ok (.invokevirtual 160, 3) := by decide +kernel
theorem dX11_feed_51 : decode cX11_feed 51 = .ok (.aload_n 0, 1) := by decide +kernel
theorem dX11_feed_52 : decode cX11_feed 52 = .ok (.getfield 21, 3) := by decide +kernel
theorem dX11_feed_55 : decode cX11_feed 55 = .ok (.iload 5, 2) := by decide +kernel
theorem dX11_feed_57 : decode cX11_feed 57 = .ok (.invokevirtual 160, 3) := by decide +kernel
theorem dX11_feed_60 : decode cX11_feed 60 = .ok (.aload_n 0, 1) := by decide +kernel
theorem dX11_feed_61 : decode cX11_feed 61 = .ok (.getfield 21, 3) := by decide +kernel
theorem dX11_feed_64 : decode cX11_feed 64 = .ok (.getfield 157, 3) := by decide +kernel
theorem dX11_feed_67 : decode cX11_feed 67 = .ok (.ireturn, 1) := by decide +kernel
theorem dX11_rules_0 : decode cX11_rules 0 = .ok (.iload_n 1, 1) := by decide +kernel
theorem dX11_rules_1 : decode cX11_rules 1 = .ok (.iconst 0, 1) := by decide +kernel
theorem dX11_rules_2 : decode cX11_rules 2 = .ok (.aload_n 0, 1) := by decide +kernel
theorem dX11_rules_3 : decode cX11_rules 3 = .ok (.getfield 21, 3) := by decide +kernel
theorem dX11_rules_6 : decode cX11_rules 6 = .ok (.getfield 157, 3) := by decide +kernel
theorem dX11_rules_9 : decode cX11_rules 9 = .ok (.invokestatic 100, 3) := by decide +kernel
theorem dX11_rules_12 : decode cX11_rules 12 = .ok (.invokestatic 104, 3) := by decide +kernel
theorem dX11_rules_15 : decode cX11_rules 15 = .ok (.aload_n 0, 1) := by decide +kernel
theorem dX11_rules_16 : decode cX11_rules 16 = .ok (.getfield 21, 3) := by decide +kernel
theorem dX11_rules_19 : decode cX11_rules 19 = .ok (.iload_n 1, 1) := by decide +kernel
theorem dX11_rules_20 : decode cX11_rules 20 = .ok (.invokevirtual 163, 3) := by decide +kernel
theorem dX11_rules_23 : decode cX11_rules 23 = .ok (.ifCond .ne 14, 3) := by decide +kernel
theorem dX11_rules_26 : decode cX11_rules 26 = .ok (.aload_n 0, 1) := by decide +kernel
theorem dX11_rules_27 : decode cX11_rules 27 = .ok (.getfield 21, 3) := by decide +kernel
theorem dX11_rules_30 : decode cX11_rules 30 = .ok (.getfield 167, 3) := by decide +kernel
theorem dX11_rules_33 : decode cX11_rules 33 = .ok (.bipush 10, 2) := by decide +kernel
theorem dX11_rules_35 : decode cX11_rules 35 = .ok (.isub, 1) := by decide +kernel
theorem dX11_rules_36 : decode cX11_rules 36 = .ok (.ireturn, 1) := by decide +kernel
theorem dX11_rules_37 : decode cX11_rules 37 = .ok (.aload_n 0, 1) := by decide +kernel
theorem dX11_rules_38 : decode cX11_rules 38 = .ok (.getfield 21, 3) := by decide +kernel
theorem dX11_rules_41 : decode cX11_rules 41 = .ok (.getfield 170, 3) := by decide +kernel
theorem dX11_rules_44 : decode cX11_rules 44 = .ok (.astore_n 2, 1) := by decide +kernel
theorem dX11_rules_45 : decode cX11_rules 45 = .ok (.aload_n 0, 1) := by decide +kernel
theorem dX11_rules_46 : decode cX11_rules 46 = .ok (.getfield 21, 3) := by decide +kernel
theorem dX11_rules_49 : decode cX11_rules 49 = .ok (.aload_n 0, 1) := by decide +kernel
theorem dX11_rules_50 : decode cX11_rules 50 = .ok (.getfield 30, 3) := by decide +kernel
theorem dX11_rules_53 : decode cX11_rules 53 = .ok (.getfield 174, 3) := by decide +kernel
theorem dX11_rules_56 : decode cX11_rules 56 = .ok (.putfield 170, 3) := by decide +kernel
theorem dX11_rules_59 : decode cX11_rules 59 = .ok (.aload_n 0, 1) := by decide +kernel
theorem dX11_rules_60 : decode cX11_rules 60 = .ok (.getfield 30, 3) := by decide +kernel
theorem dX11_rules_63 : decode cX11_rules 63 = .ok (.aload_n 2, 1) := by decide +kernel
theorem dX11_rules_64 : decode cX11_rules 64 = .ok (.putfield 174, 3) := by decide +kernel
theorem dX11_rules_67 : decode cX11_rules 67 = .ok (.aload_n 0, 1) := by decide +kernel
theorem dX11_rules_68 : decode cX11_rules 68 = .ok (.getfield 30, 3) := by decide +kernel
theorem dX11_rules_71 : decode cX11_rules 71 = .ok (.iconst 0, 1) := by decide +kernel
theorem dX11_rules_72 : decode cX11_rules 72 = .ok (.invokevirtual 116, 3) := by decide +kernel
theorem dX11_rules_75 : decode cX11_rules 75 = .ok (.aload_n 0, 1) := by decide +kernel
theorem dX11_rules_76 : decode cX11_rules 76 = .ok (.getfield 66, 3) := by decide +kernel
theorem dX11_rules_79 : decode cX11_rules 79 = .ok (.invokevirtual 123, 3) := by decide +kernel
theorem dX11_rules_82 : decode cX11_rules 82 = .ok (.aload_n 2, 1) := by decide +kernel
theorem dX11_rules_83 : decode cX11_rules 83 = .ok (.getfield 177, 3) := by decide +kernel
theorem dX11_rules_86 : decode cX11_rules 86 = .ok (.ireturn, 1) := by decide +kernel
theorem dX11_fault_0 : decode cX11_fault 0 = .ok (.aload_n 0, 1) := by decide +kernel
theorem dX11_fault_1 : decode cX11_fault 1 = .ok (.getfield 21, 3) := by decide +kernel
theorem dX11_fault_4 : decode cX11_fault 4 = .ok (.getfield 182, 3) := by decide +kernel
theorem dX11_fault_7 : decode cX11_fault 7 = .ok (.ireturn, 1) := by decide +kernel
theorem dX11_weight_0 : decode cX11_weight 0 = .ok (.aload_n 0, 1) := by decide +kernel
theorem dX11_weight_1 : decode cX11_weight 1 = .ok (.iload_n 1, 1) := by decide +kernel
theorem dX11_weight_2 : decode cX11_weight 2 = .ok (.iload_n 2, 1) := by decide +kernel
theorem dX11_weight_3 : decode cX11_weight 3 = .ok (.invokevirtual 185, 3) := by decide +kernel
theorem dX11_weight_6 : decode cX11_weight 6 = .ok (.aload_n 0, 1) := by decide +kernel
theorem dX11_weight_7 : decode cX11_weight 7 = .ok (.getfield 30, 3) := by decide +kernel
theorem dX11_weight_10 : decode cX11_weight 10 = .ok (.iload_n 1, 1) := by decide +kernel
theorem dX11_weight_11 : decode cX11_weight 11 = .ok (.iload_n 2, 1) := by decide +kernel
theorem dX11_weight_12 : decode cX11_weight 12 = .ok (.invokevirtual 189, 3) := by decide +kernel
theorem dX11_weight_15 : decode cX11_weight 15 = .ok (.ifCond .eq 8, 3) := by decide +kernel
theorem dX11_weight_18 : decode cX11_weight 18 = .ok (.ldc 193, 2) := by decide +kernel
theorem dX11_weight_20 : decode cX11_weight 20 = .ok (.goto 12, 3) := by decide +kernel
theorem dX11_weight_23 : decode cX11_weight 23 = .ok (.aload_n 0, 1) := by decide +kernel
theorem dX11_weight_24 : decode cX11_weight 24 = .ok (.getfield 30, 3) := by decide +kernel
theorem dX11_weight_27 : decode cX11_weight 27 = .ok (.iload_n 1, 1) := by decide +kernel
theorem dX11_weight_28 : decode cX11_weight 28 = .ok (.iload_n 2, 1) := by decide +kernel
theorem dX11_weight_29 : decode cX11_weight 29 = .ok (.invokevirtual 194, 3) := by decide +kernel
theorem dX11_weight_32 : decode cX11_weight 32 = .ok (.ireturn, 1) := by decide +kernel
theorem dX11_why_0 : decode cX11_why 0 = .ok (.aload_n 0, 1) := by decide +kernel
theorem dX11_why_1 : decode cX11_why 1 = .ok (.iload_n 1, 1) := by decide +kernel
theorem dX11_why_2 : decode cX11_why 2 = .ok (.iload_n 2, 1) := by decide +kernel
theorem dX11_why_3 : decode cX11_why 3 = .ok (.invokevirtual 185, 3) := by decide +kernel
theorem dX11_why_6 : decode cX11_why 6 = .ok (.aload_n 0, 1) := by decide +kernel
theorem dX11_why_7 : decode cX11_why 7 = .ok (.getfield 30, 3) := by decide +kernel
theorem dX11_why_10 : decode cX11_why 10 = .ok (.iload_n 1, 1) := by decide +kernel
theorem dX11_why_11 : decode cX11_why 11 = .ok (.iload_n 2, 1) := by decide +kernel
theorem dX11_why_12 : decode cX11_why 12 = .ok (.invokevirtual 197, 3) := by decide +kernel
theorem dX11_why_15 : decode cX11_why 15 = .ok (.ifCond .eq 7, 3) := by decide +kernel
theorem dX11_why_18 : decode cX11_why 18 = .ok (.iconst (-1), 1) := by decide +kernel
theorem dX11_why_19 : decode cX11_why 19 = .ok (.goto 12, 3) := by decide +kernel
theorem dX11_why_22 : decode cX11_why 22 = .ok (.aload_n 0, 1) := by decide +kernel
theorem dX11_why_23 : decode cX11_why 23 = .ok (.getfield 30, 3) := by decide +kernel
theorem dX11_why_26 : decode cX11_why 26 = .ok (.iload_n 1, 1) := by decide +kernel
theorem dX11_why_27 : decode cX11_why 27 = .ok (.iload_n 2, 1) := by decide +kernel
theorem dX11_why_28 : decode cX11_why 28 = .ok (.invokevirtual 200, 3) := by decide +kernel
theorem dX11_why_31 : decode cX11_why 31 = .ok (.ireturn, 1) := by decide +kernel
theorem dX11_weigh_0 : decode cX11_weigh 0 = .ok (.aload_n 0, 1) := by decide +kernel
theorem dX11_weigh_1 : decode cX11_weigh 1 = .ok (.iload_n 1, 1) := by decide +kernel
theorem dX11_weigh_2 : decode cX11_weigh 2 = .ok (.iload_n 2, 1) := by decide +kernel
theorem dX11_weigh_3 : decode cX11_weigh 3 = .ok (.invokevirtual 185, 3) := by decide +kernel
theorem dX11_weigh_6 : decode cX11_weigh 6 = .ok (.iload_n 3, 1) := by decide +kernel
theorem dX11_weigh_7 : decode cX11_weigh 7 = .ok (.ldc 193, 2) := by decide +kernel
theorem dX11_weigh_9 : decode cX11_weigh 9 = .ok (.if_icmp .eq 16, 3) := by decide +kernel
theorem dX11_weigh_12 : decode cX11_weigh 12 = .ok (.iload_n 3, 1) := by decide +kernel
theorem dX11_weigh_13 : decode cX11_weigh 13 = .ok (.sipush (-10000), 3) := by decide +kernel
theorem dX11_weigh_16 : decode cX11_weigh 16 = .ok (.sipush 10000, 3) := by decide +kernel
theorem dX11_weigh_19 : decode cX11_weigh 19 = .ok (.invokestatic 100, 3) := by decide +kernel
theorem dX11_weigh_22 : decode cX11_weigh 22 = .ok (.ifCond .eq 7, 3) := by decide +kernel
theorem dX11_weigh_25 : decode cX11_weigh 25 = .ok (.iconst 1, 1) := by decide +kernel
theorem dX11_weigh_26 : decode cX11_weigh 26 = .ok (.goto 4, 3) := by decide +kernel
theorem dX11_weigh_29 : decode cX11_weigh 29 = .ok (.iconst 0, 1) := by decide +kernel
theorem dX11_weigh_30 : decode cX11_weigh 30 = .ok (.invokestatic 104, 3) := by decide +kernel
theorem dX11_weigh_33 : decode cX11_weigh 33 = .ok (.aload_n 0, 1) := by decide +kernel
theorem dX11_weigh_34 : decode cX11_weigh 34 = .ok (.getfield 30, 3) := by decide +kernel
theorem dX11_weigh_37 : decode cX11_weigh 37 = .ok (.iload_n 1, 1) := by decide +kernel
theorem dX11_weigh_38 : decode cX11_weigh 38 = .ok (.iload_n 2, 1) := by decide +kernel
theorem dX11_weigh_39 : decode cX11_weigh 39 = .ok (.invokevirtual 197, 3) := by decide +kernel
theorem dX11_weigh_42 : decode cX11_weigh 42 = .ok (.ifCond .ne 7, 3) := by decide +kernel
theorem dX11_weigh_45 : decode cX11_weigh 45 = .ok (.iconst 1, 1) := by decide +kernel
theorem dX11_weigh_46 : decode cX11_weigh 46 = .ok (.goto 4, 3) := by decide +kernel
theorem dX11_weigh_49 : decode cX11_weigh 49 = .ok (.iconst 0, 1) := by decide +kernel
theorem dX11_weigh_50 : decode cX11_weigh 50 = .ok (.istore 4, 2) := by decide +kernel
theorem dX11_weigh_52 : decode cX11_weigh 52 = .ok (.iload 4, 2) := by decide +kernel
theorem dX11_weigh_54 : decode cX11_weigh 54 = .ok (.ifCond .eq 17, 3) := by decide +kernel
theorem dX11_weigh_57 : decode cX11_weigh 57 = .ok (.aload_n 0, 1) := by decide +kernel
theorem dX11_weigh_58 : decode cX11_weigh 58 = .ok (.getfield 30, 3) := by decide +kernel
theorem dX11_weigh_61 : decode cX11_weigh 61 = .ok (.getfield 203, 3) := by decide +kernel
theorem dX11_weigh_64 : decode cX11_weigh 64 = .ok (.bipush 60, 2) := by decide +kernel
theorem dX11_weigh_66 : decode cX11_weigh 66 = .ok (.if_icmp .lt 5, 3) := by decide +kernel
theorem dX11_weigh_69 : decode cX11_weigh 69 = .ok (.iconst (-1), 1) := by decide +kernel
theorem dX11_weigh_70 : decode cX11_weigh 70 = .ok (.ireturn, 1) := by decide +kernel
theorem dX11_weigh_71 : decode cX11_weigh 71 = .ok (.aload_n 0, 1) := by decide +kernel
theorem dX11_weigh_72 : decode cX11_weigh 72 = .ok (.getfield 30, 3) := by decide +kernel
theorem dX11_weigh_75 : decode cX11_weigh 75 = .ok (.iload_n 1, 1) := by decide +kernel
theorem dX11_weigh_76 : decode cX11_weigh 76 = .ok (.iload_n 2, 1) := by decide +kernel
theorem dX11_weigh_77 : decode cX11_weigh 77 = .ok (.iload_n 3, 1) := by decide +kernel
theorem dX11_weigh_78 : decode cX11_weigh 78 = .ok (.invokevirtual 206, 3) := by decide +kernel
theorem dX11_weigh_81 : decode cX11_weigh 81 = .ok (.aload_n 0, 1) := by decide +kernel
theorem dX11_weigh_82 : decode cX11_weigh 82 = .ok (.getfield 66, 3) := by decide +kernel
theorem dX11_weigh_85 : decode cX11_weigh 85 = .ok (.invokevirtual 123, 3) := by decide +kernel
theorem dX11_weigh_88 : decode cX11_weigh 88 = .ok (.iload 4, 2) := by decide +kernel
theorem dX11_weigh_90 : decode cX11_weigh 90 = .ok (.ifCond .eq 7, 3) := by decide +kernel
theorem dX11_weigh_93 : decode cX11_weigh 93 = .ok (.iconst 1, 1) := by decide +kernel
theorem dX11_weigh_94 : decode cX11_weigh 94 = .ok (.goto 4, 3) := by decide +kernel
theorem dX11_weigh_97 : decode cX11_weigh 97 = .ok (.iconst 0, 1) := by decide +kernel
theorem dX11_weigh_98 : decode cX11_weigh 98 = .ok (.ireturn, 1) := by decide +kernel
theorem dX11_forget_0 : decode cX11_forget 0 = .ok (.aload_n 0, 1) := by decide +kernel
theorem dX11_forget_1 : decode cX11_forget 1 = .ok (.iload_n 1, 1) := by decide +kernel
theorem dX11_forget_2 : decode cX11_forget 2 = .ok (.iload_n 2, 1) := by decide +kernel
theorem dX11_forget_3 : decode cX11_forget 3 = .ok (.invokevirtual 185, 3) := by decide +kernel
theorem dX11_forget_6 : decode cX11_forget 6 = .ok (.aload_n 0, 1) := by decide +kernel
theorem dX11_forget_7 : decode cX11_forget 7 = .ok (.getfield 30, 3) := by decide +kernel
theorem dX11_forget_10 : decode cX11_forget 10 = .ok (.iload_n 1, 1) := by decide +kernel
theorem dX11_forget_11 : decode cX11_forget 11 = .ok (.iload_n 2, 1) := by decide +kernel
theorem dX11_forget_12 : decode cX11_forget 12 = .ok (.invokevirtual 197, 3) := by decide +kernel
theorem dX11_forget_15 : decode cX11_forget 15 = .ok (.ifCond .ne 5, 3) := by decide +kernel
theorem dX11_forget_18 : decode cX11_forget 18 = .ok (.iconst 0, 1) := by decide +kernel
theorem dX11_forget_19 : decode cX11_forget 19 = .ok (.ireturn, 1) := by decide +kernel
theorem dX11_forget_20 : decode cX11_forget 20 = .ok (.aload_n 0, 1) := by decide +kernel
theorem dX11_forget_21 : decode cX11_forget 21 = .ok (.getfield 30, 3) := by decide +kernel
theorem dX11_forget_24 : decode cX11_forget 24 = .ok (.iload_n 1, 1) := by decide +kernel
theorem dX11_forget_25 : decode cX11_forget 25 = .ok (.iload_n 2, 1) := by decide +kernel
theorem dX11_forget_26 : decode cX11_forget 26 = .ok (.invokevirtual 210, 3) := by decide +kernel
theorem dX11_forget_29 : decode cX11_forget 29 = .ok (.aload_n 0, 1) := by decide +kernel
theorem dX11_forget_30 : decode cX11_forget 30 = .ok (.getfield 66, 3) := by decide +kernel
theorem dX11_forget_33 : decode cX11_forget 33 = .ok (.invokevirtual 123, 3) := by decide +kernel
theorem dX11_forget_36 : decode cX11_forget 36 = .ok (.iconst 1, 1) := by decide +kernel
theorem dX11_forget_37 : decode cX11_forget 37 = .ok (.ireturn, 1) := by decide +kernel
theorem dX11_law_0 : decode cX11_law 0 = .ok (.iload_n 1, 1) := by decide +kernel
theorem dX11_law_1 : decode cX11_law 1 = .ok (.iconst 0, 1) := by decide +kernel
theorem dX11_law_2 : decode cX11_law 2 = .ok (.iconst 2, 1) := by decide +kernel
theorem dX11_law_3 : decode cX11_law 3 = .ok (.invokestatic 100, 3) := by decide +kernel
theorem dX11_law_6 : decode cX11_law 6 = .ok (.invokestatic 104, 3) := by decide +kernel
theorem dX11_law_9 : decode cX11_law 9 = .ok (.iload_n 1, 1) := by decide +kernel
theorem dX11_law_10 : decode cX11_law 10 = .ok (.iconst 2, 1) := by decide +kernel
theorem dX11_law_11 : decode cX11_law 11 = .ok (.if_icmp .ne 7, 3) := by decide +kernel
theorem dX11_law_14 : decode cX11_law 14 = .ok (.iconst (-1), 1) := by decide +kernel
theorem dX11_law_15 : decode cX11_law 15 = .ok (.goto 4, 3) := by decide +kernel
theorem dX11_law_18 : decode cX11_law 18 = .ok (.iconst 0, 1) := by decide +kernel
theorem dX11_law_19 : decode cX11_law 19 = .ok (.istore_n 3, 1) := by decide +kernel
theorem dX11_law_20 : decode cX11_law 20 = .ok (.iload_n 1, 1) := by decide +kernel
theorem dX11_law_21 : decode cX11_law 21 = .ok (.ifCond .ne 8, 3) := by decide +kernel
theorem dX11_law_24 : decode cX11_law 24 = .ok (.bipush 30, 2) := by decide +kernel
theorem dX11_law_26 : decode cX11_law 26 = .ok (.goto 15, 3) := by decide +kernel
theorem dX11_law_29 : decode cX11_law 29 = .ok (.iload_n 1, 1) := by decide +kernel
theorem dX11_law_30 : decode cX11_law 30 = .ok (.iconst 1, 1) := by decide +kernel
theorem dX11_law_31 : decode cX11_law 31 = .ok (.if_icmp .ne 7, 3) := by decide +kernel
theorem dX11_law_34 : decode cX11_law 34 = .ok (.iconst 1, 1) := by decide +kernel
theorem dX11_law_35 : decode cX11_law 35 = .ok (.goto 6, 3) := by decide +kernel
theorem dX11_law_38 : decode cX11_law 38 = .ok (.sipush 199, 3) := by decide +kernel
theorem dX11_law_41 : decode cX11_law 41 = .ok (.istore 4, 2) := by decide +kernel
theorem dX11_law_43 : decode cX11_law 43 = .ok (.iload_n 2, 1) := by decide +kernel
theorem dX11_law_44 : decode cX11_law 44 = .ok (.iload_n 3, 1) := by decide +kernel
theorem dX11_law_45 : decode cX11_law 45 = .ok (.iload 4, 2) := by decide +kernel
theorem dX11_law_47 : decode cX11_law 47 = .ok (.invokestatic 100, 3) := by decide +kernel
theorem dX11_law_50 : decode cX11_law 50 = .ok (.invokestatic 104, 3) := by decide +kernel
theorem dX11_law_53 : decode cX11_law 53 = .ok (.aload_n 0, 1) := by decide +kernel
theorem dX11_law_54 : decode cX11_law 54 = .ok (.getfield 39, 3) := by decide +kernel
theorem dX11_law_57 : decode cX11_law 57 = .ok (.iload_n 1, 1) := by decide +kernel
theorem dX11_law_58 : decode cX11_law 58 = .ok (.iload_n 2, 1) := by decide +kernel
theorem dX11_law_59 : decode cX11_law 59 = .ok (.invokevirtual 213, 3) := by decide +kernel
theorem dX11_law_62 : decode cX11_law 62 = .ok (.ireturn, 1) := by decide +kernel
theorem dX11_fix_0 : decode cX11_fix 0 = .ok (.aload_n 0, 1) := by decide +kernel
theorem dX11_fix_1 : decode cX11_fix 1 = .ok (.iload_n 1, 1) := by decide +kernel
theorem dX11_fix_2 : decode cX11_fix 2 = .ok (.iload_n 2, 1) := by decide +kernel
theorem dX11_fix_3 : decode cX11_fix 3 = .ok (.invokevirtual 185, 3) := by decide +kernel
theorem dX11_fix_6 : decode cX11_fix 6 = .ok (.aload_n 0, 1) := by decide +kernel
theorem dX11_fix_7 : decode cX11_fix 7 = .ok (.getfield 39, 3) := by decide +kernel
theorem dX11_fix_10 : decode cX11_fix 10 = .ok (.iload_n 1, 1) := by decide +kernel
theorem dX11_fix_11 : decode cX11_fix 11 = .ok (.iload_n 2, 1) := by decide +kernel
theorem dX11_fix_12 : decode cX11_fix 12 = .ok (.invokevirtual 216, 3) := by decide +kernel
theorem dX11_fix_15 : decode cX11_fix 15 = .ok (.ifCond .eq 5, 3) := by decide +kernel
theorem dX11_fix_18 : decode cX11_fix 18 = .ok (.iconst 0, 1) := by decide +kernel
theorem dX11_fix_19 : decode cX11_fix 19 = .ok (.ireturn, 1) := by decide +kernel
theorem dX11_fix_20 : decode cX11_fix 20 = .ok (.aload_n 0, 1) := by decide +kernel
theorem dX11_fix_21 : decode cX11_fix 21 = .ok (.getfield 39, 3) := by decide +kernel
theorem dX11_fix_24 : decode cX11_fix 24 = .ok (.getfield 219, 3) := by decide +kernel
theorem dX11_fix_27 : decode cX11_fix 27 = .ok (.bipush 20, 2) := by decide +kernel
theorem dX11_fix_29 : decode cX11_fix 29 = .ok (.if_icmp .lt 5, 3) := by decide +kernel
theorem dX11_fix_32 : decode cX11_fix 32 = .ok (.iconst (-1), 1) := by decide +kernel
theorem dX11_fix_33 : decode cX11_fix 33 = .ok (.ireturn, 1) := by decide +kernel
theorem dX11_fix_34 : decode cX11_fix 34 = .ok (.aload_n 0, 1) := by decide +kernel
theorem dX11_fix_35 : decode cX11_fix 35 = .ok (.getfield 39, 3) := by decide +kernel
theorem dX11_fix_38 : decode cX11_fix 38 = .ok (.iload_n 1, 1) := by decide +kernel
theorem dX11_fix_39 : decode cX11_fix 39 = .ok (.iload_n 2, 1) := by decide +kernel
theorem dX11_fix_40 : decode cX11_fix 40 = .ok (.iload_n 3, 1) := by decide +kernel
theorem dX11_fix_41 : decode cX11_fix 41 = .ok (.invokevirtual 222, 3) := by decide +kernel
theorem dX11_fix_44 : decode cX11_fix 44 = .ok (.aload_n 0, 1) := by decide +kernel
theorem dX11_fix_45 : decode cX11_fix 45 = .ok (.getfield 39, 3) := by decide +kernel
theorem dX11_fix_48 : decode cX11_fix 48 = .ok (.getfield 219, 3) := by decide +kernel
theorem dX11_fix_51 : decode cX11_fix 51 = .ok (.ireturn, 1) := by decide +kernel
theorem dX11_loose_0 : decode cX11_loose 0 = .ok (.aload_n 0, 1) := by decide +kernel
theorem dX11_loose_1 : decode cX11_loose 1 = .ok (.iload_n 1, 1) := by decide +kernel
theorem dX11_loose_2 : decode cX11_loose 2 = .ok (.iload_n 2, 1) := by decide +kernel
theorem dX11_loose_3 : decode cX11_loose 3 = .ok (.invokevirtual 185, 3) := by decide +kernel
theorem dX11_loose_6 : decode cX11_loose 6 = .ok (.aload_n 0, 1) := by decide +kernel
theorem dX11_loose_7 : decode cX11_loose 7 = .ok (.getfield 39, 3) := by decide +kernel
theorem dX11_loose_10 : decode cX11_loose 10 = .ok (.iload_n 1, 1) := by decide +kernel
theorem dX11_loose_11 : decode cX11_loose 11 = .ok (.iload_n 2, 1) := by decide +kernel
theorem dX11_loose_12 : decode cX11_loose 12 = .ok (.invokevirtual 216, 3) := by decide +kernel
theorem dX11_loose_15 : decode cX11_loose 15 = .ok (.ifCond .ne 5, 3) := by decide +kernel
theorem dX11_loose_18 : decode cX11_loose 18 = .ok (.iconst 0, 1) := by decide +kernel
theorem dX11_loose_19 : decode cX11_loose 19 = .ok (.ireturn, 1) := by decide +kernel
theorem dX11_loose_20 : decode cX11_loose 20 = .ok (.aload_n 0, 1) := by decide +kernel
theorem dX11_loose_21 : decode cX11_loose 21 = .ok (.getfield 39, 3) := by decide +kernel
theorem dX11_loose_24 : decode cX11_loose 24 = .ok (.iload_n 1, 1) := by decide +kernel
theorem dX11_loose_25 : decode cX11_loose 25 = .ok (.iload_n 2, 1) := by decide +kernel
theorem dX11_loose_26 : decode cX11_loose 26 = .ok (.invokevirtual 226, 3) := by decide +kernel
theorem dX11_loose_29 : decode cX11_loose 29 = .ok (.iconst 1, 1) := by decide +kernel
theorem dX11_loose_30 : decode cX11_loose 30 = .ok (.ireturn, 1) := by decide +kernel
theorem dX11_put_0 : decode cX11_put 0 = .ok (.aload_n 0, 1) := by decide +kernel
theorem dX11_put_1 : decode cX11_put 1 = .ok (.iload_n 1, 1) := by decide +kernel
theorem dX11_put_2 : decode cX11_put 2 = .ok (.iload_n 2, 1) := by decide +kernel
theorem dX11_put_3 : decode cX11_put 3 = .ok (.invokevirtual 185, 3) := by decide +kernel
theorem dX11_put_6 : decode cX11_put 6 = .ok (.aload_n 0, 1) := by decide +kernel
theorem dX11_put_7 : decode cX11_put 7 = .ok (.getfield 48, 3) := by decide +kernel
theorem dX11_put_10 : decode cX11_put 10 = .ok (.iload_n 1, 1) := by decide +kernel
theorem dX11_put_11 : decode cX11_put 11 = .ok (.aload_n 0, 1) := by decide +kernel
theorem dX11_put_12 : decode cX11_put 12 = .ok (.getfield 48, 3) := by decide +kernel
theorem dX11_put_15 : decode cX11_put 15 = .ok (.getfield 133, 3) := by decide +kernel
theorem dX11_put_18 : decode cX11_put 18 = .ok (.iload_n 2, 1) := by decide +kernel
theorem dX11_put_19 : decode cX11_put 19 = .ok (.iaload, 1) := by decide +kernel
theorem dX11_put_20 : decode cX11_put 20 = .ok (.invokevirtual 229, 3) := by decide +kernel
theorem dX11_put_23 : decode cX11_put 23 = .ok (.aload_n 0, 1) := by decide +kernel
theorem dX11_put_24 : decode cX11_put 24 = .ok (.getfield 48, 3) := by decide +kernel
theorem dX11_put_27 : decode cX11_put 27 = .ok (.getfield 133, 3) := by decide +kernel
theorem dX11_put_30 : decode cX11_put 30 = .ok (.iload_n 1, 1) := by decide +kernel
theorem dX11_put_31 : decode cX11_put 31 = .ok (.iaload, 1) := by decide +kernel
theorem dX11_put_32 : decode cX11_put 32 = .ok (.ireturn, 1) := by decide +kernel
theorem dX11_alone_0 : decode cX11_alone 0 = .ok (.aload_n 0, 1) := by decide +kernel
theorem dX11_alone_1 : decode cX11_alone 1 = .ok (.iload_n 1, 1) := by decide +kernel
theorem dX11_alone_2 : decode cX11_alone 2 = .ok (.invokevirtual 126, 3) := by decide +kernel
theorem dX11_alone_5 : decode cX11_alone 5 = .ok (.aload_n 0, 1) := by decide +kernel
theorem dX11_alone_6 : decode cX11_alone 6 = .ok (.getfield 48, 3) := by decide +kernel
theorem dX11_alone_9 : decode cX11_alone 9 = .ok (.iload_n 1, 1) := by decide +kernel
theorem dX11_alone_10 : decode cX11_alone 10 = .ok (.invokevirtual 232, 3) := by decide +kernel
theorem dX11_alone_13 : decode cX11_alone 13 = .ok (.ifCond .eq 5, 3) := by decide +kernel
theorem dX11_alone_16 : decode cX11_alone 16 = .ok (.iconst 0, 1) := by decide +kernel
theorem dX11_alone_17 : decode cX11_alone 17 = .ok (.ireturn, 1) := by decide +kernel
theorem dX11_alone_18 : decode cX11_alone 18 = .ok (.aload_n 0, 1) := by decide +kernel
theorem dX11_alone_19 : decode cX11_alone 19 = .ok (.getfield 48, 3) := by decide +kernel
theorem dX11_alone_22 : decode cX11_alone 22 = .ok (.iload_n 1, 1) := by decide +kernel
theorem dX11_alone_23 : decode cX11_alone 23 = .ok (.invokevirtual 235, 3) := by decide +kernel
theorem dX11_alone_26 : decode cX11_alone 26 = .ok (.iconst 1, 1) := by decide +kernel
theorem dX11_alone_27 : decode cX11_alone 27 = .ok (.ireturn, 1) := by decide +kernel
theorem dX11_join_0 : decode cX11_join 0 = .ok (.aload_n 0, 1) := by decide +kernel
theorem dX11_join_1 : decode cX11_join 1 = .ok (.iload_n 1, 1) := by decide +kernel
theorem dX11_join_2 : decode cX11_join 2 = .ok (.invokevirtual 126, 3) := by decide +kernel
theorem dX11_join_5 : decode cX11_join 5 = .ok (.aload_n 0, 1) := by decide +kernel
theorem dX11_join_6 : decode cX11_join 6 = .ok (.iload_n 2, 1) := by decide +kernel
theorem dX11_join_7 : decode cX11_join 7 = .ok (.invokevirtual 126, 3) := by decide +kernel
theorem dX11_join_10 : decode cX11_join 10 = .ok (.aload_n 0, 1) := by decide +kernel
theorem dX11_join_11 : decode cX11_join 11 = .ok (.getfield 48, 3) := by decide +kernel
theorem dX11_join_14 : decode cX11_join 14 = .ok (.getfield 133, 3) := by decide +kernel
theorem dX11_join_17 : decode cX11_join 17 = .ok (.iload_n 1, 1) := by decide +kernel
theorem dX11_join_18 : decode cX11_join 18 = .ok (.iaload, 1) := by decide +kernel
theorem dX11_join_19 : decode cX11_join 19 = .ok (.aload_n 0, 1) := by decide +kernel
theorem dX11_join_20 : decode cX11_join 20 = .ok (.getfield 48, 3) := by decide +kernel
theorem dX11_join_23 : decode cX11_join 23 = .ok (.getfield 133, 3) := by decide +kernel
theorem dX11_join_26 : decode cX11_join 26 = .ok (.iload_n 2, 1) := by decide +kernel
theorem dX11_join_27 : decode cX11_join 27 = .ok (.iaload, 1) := by decide +kernel
theorem dX11_join_28 : decode cX11_join 28 = .ok (.if_icmp .ne 5, 3) := by decide +kernel
theorem dX11_join_31 : decode cX11_join 31 = .ok (.iconst (-1), 1) := by decide +kernel
theorem dX11_join_32 : decode cX11_join 32 = .ok (.ireturn, 1) := by decide +kernel
theorem dX11_join_33 : decode cX11_join 33 = .ok (.aload_n 0, 1) := by decide +kernel
theorem dX11_join_34 : decode cX11_join 34 = .ok (.getfield 48, 3) := by decide +kernel
theorem dX11_join_37 : decode cX11_join 37 = .ok (.aload_n 0, 1) := by decide +kernel
theorem dX11_join_38 : decode cX11_join 38 = .ok (.getfield 48, 3) := by decide +kernel
theorem dX11_join_41 : decode cX11_join 41 = .ok (.getfield 133, 3) := by decide +kernel
theorem dX11_join_44 : decode cX11_join 44 = .ok (.iload_n 1, 1) := by decide +kernel
theorem dX11_join_45 : decode cX11_join 45 = .ok (.iaload, 1) := by decide +kernel
theorem dX11_join_46 : decode cX11_join 46 = .ok (.aload_n 0, 1) := by decide +kernel
theorem dX11_join_47 : decode cX11_join 47 = .ok (.getfield 48, 3) := by decide +kernel
theorem dX11_join_50 : decode cX11_join 50 = .ok (.getfield 133, 3) := by decide +kernel
theorem dX11_join_53 : decode cX11_join 53 = .ok (.iload_n 2, 1) := by decide +kernel
theorem dX11_join_54 : decode cX11_join 54 = .ok (.iaload, 1) := by decide +kernel
theorem dX11_join_55 : decode cX11_join 55 = .ok (.invokevirtual 238, 3) := by decide +kernel
theorem dX11_join_58 : decode cX11_join 58 = .ok (.aload_n 0, 1) := by decide +kernel
theorem dX11_join_59 : decode cX11_join 59 = .ok (.getfield 48, 3) := by decide +kernel
theorem dX11_join_62 : decode cX11_join 62 = .ok (.getfield 133, 3) := by decide +kernel
theorem dX11_join_65 : decode cX11_join 65 = .ok (.iload_n 1, 1) := by decide +kernel
theorem dX11_join_66 : decode cX11_join 66 = .ok (.iaload, 1) := by decide +kernel
theorem dX11_join_67 : decode cX11_join 67 = .ok (.ireturn, 1) := by decide +kernel
theorem dX11_swap_0 : decode cX11_swap 0 = .ok (.aload_n 0, 1) := by decide +kernel
theorem dX11_swap_1 : decode cX11_swap 1 = .ok (.iload_n 1, 1) := by decide +kernel
theorem dX11_swap_2 : decode cX11_swap 2 = .ok (.invokevirtual 126, 3) := by decide +kernel
theorem dX11_swap_5 : decode cX11_swap 5 = .ok (.aload_n 0, 1) := by decide +kernel
theorem dX11_swap_6 : decode cX11_swap 6 = .ok (.iload_n 2, 1) := by decide +kernel
theorem dX11_swap_7 : decode cX11_swap 7 = .ok (.invokevirtual 126, 3) := by decide +kernel
theorem dX11_swap_10 : decode cX11_swap 10 = .ok (.aload_n 0, 1) := by decide +kernel
theorem dX11_swap_11 : decode cX11_swap 11 = .ok (.getfield 48, 3) := by decide +kernel
theorem dX11_swap_14 : decode cX11_swap 14 = .ok (.getfield 133, 3) := by decide +kernel
theorem dX11_swap_17 : decode cX11_swap 17 = .ok (.iload_n 1, 1) := by decide +kernel
theorem dX11_swap_18 : decode cX11_swap 18 = .ok (.iaload, 1) := by decide +kernel
theorem dX11_swap_19 : decode cX11_swap 19 = .ok (.aload_n 0, 1) := by decide +kernel
theorem dX11_swap_20 : decode cX11_swap 20 = .ok (.getfield 48, 3) := by decide +kernel
theorem dX11_swap_23 : decode cX11_swap 23 = .ok (.getfield 133, 3) := by decide +kernel
theorem dX11_swap_26 : decode cX11_swap 26 = .ok (.iload_n 2, 1) := by decide +kernel
theorem dX11_swap_27 : decode cX11_swap 27 = .ok (.iaload, 1) := by decide +kernel
theorem dX11_swap_28 : decode cX11_swap 28 = .ok (.if_icmp .ne 5, 3) := by decide +kernel
theorem dX11_swap_31 : decode cX11_swap 31 = .ok (.iconst (-1), 1) := by decide +kernel
theorem dX11_swap_32 : decode cX11_swap 32 = .ok (.ireturn, 1) := by decide +kernel
theorem dX11_swap_33 : decode cX11_swap 33 = .ok (.aload_n 0, 1) := by decide +kernel
theorem dX11_swap_34 : decode cX11_swap 34 = .ok (.getfield 48, 3) := by decide +kernel
theorem dX11_swap_37 : decode cX11_swap 37 = .ok (.iload_n 1, 1) := by decide +kernel
theorem dX11_swap_38 : decode cX11_swap 38 = .ok (.iload_n 2, 1) := by decide +kernel
theorem dX11_swap_39 : decode cX11_swap 39 = .ok (.invokevirtual 241, 3) := by decide +kernel
theorem dX11_swap_42 : decode cX11_swap 42 = .ok (.iconst 1, 1) := by decide +kernel
theorem dX11_swap_43 : decode cX11_swap 43 = .ok (.ireturn, 1) := by decide +kernel
theorem dX11_cost_0 : decode cX11_cost 0 = .ok (.aload_n 0, 1) := by decide +kernel
theorem dX11_cost_1 : decode cX11_cost 1 = .ok (.getfield 48, 3) := by decide +kernel
theorem dX11_cost_4 : decode cX11_cost 4 = .ok (.invokevirtual 244, 3) := by decide +kernel
theorem dX11_cost_7 : decode cX11_cost 7 = .ok (.lreturn, 1) := by decide +kernel
theorem dX11_barred_0 : decode cX11_barred 0 = .ok (.aload_n 0, 1) := by decide +kernel
theorem dX11_barred_1 : decode cX11_barred 1 = .ok (.getfield 48, 3) := by decide +kernel
theorem dX11_barred_4 : decode cX11_barred 4 = .ok (.invokevirtual 248, 3) := by decide +kernel
theorem dX11_barred_7 : decode cX11_barred 7 = .ok (.ireturn, 1) := by decide +kernel
theorem dX11_better_0 : decode cX11_better 0 = .ok (.iload_n 1, 1) := by decide +kernel
theorem dX11_better_1 : decode cX11_better 1 = .ok (.iconst 0, 1) := by decide +kernel
theorem dX11_better_2 : decode cX11_better 2 = .ok (.iconst 3, 1) := by decide +kernel
theorem dX11_better_3 : decode cX11_better 3 = .ok (.invokestatic 100, 3) := by decide +kernel
theorem dX11_better_6 : decode cX11_better 6 = .ok (.invokestatic 104, 3) := by decide +kernel
theorem dX11_better_9 : decode cX11_better 9 = .ok (.aload_n 0, 1) := by decide +kernel
theorem dX11_better_10 : decode cX11_better 10 = .ok (.getfield 48, 3) := by decide +kernel
theorem dX11_better_13 : decode cX11_better 13 = .ok (.invokevirtual 248, 3) := by decide +kernel
theorem dX11_better_16 : decode cX11_better 16 = .ok (.iconst (-1), 1) := by decide +kernel
theorem dX11_better_17 : decode cX11_better 17 = .ok (.if_icmp .eq 7, 3) := by decide +kernel
theorem dX11_better_20 : decode cX11_better 20 = .ok (.ldc2_w 251, 3) := by decide +kernel
theorem dX11_better_23 : decode cX11_better 23 = .ok (.lreturn, 1) := by decide +kernel
theorem dX11_better_24 : decode cX11_better 24 = .ok (.aload_n 0, 1) := by decide +kernel
theorem dX11_better_25 : decode cX11_better 25 = .ok (.getfield 57, 3) := by decide +kernel
theorem dX11_better_28 : decode cX11_better 28 = .ok (.invokevirtual 253, 3) := by decide +kernel
theorem dX11_better_31 : decode cX11_better 31 = .ok (.aload_n 0, 1) := by decide +kernel
theorem dX11_better_32 : decode cX11_better 32 = .ok (.getfield 57, 3) := by decide +kernel
theorem dX11_better_35 : decode cX11_better 35 = .ok (.invokevirtual 256, 3) := by decide +kernel
theorem dX11_better_38 : decode cX11_better 38 = .ok (.aload_n 0, 1) := by decide +kernel
theorem dX11_better_39 : decode cX11_better 39 = .ok (.getfield 57, 3) := by decide +kernel
theorem dX11_better_42 : decode cX11_better 42 = .ok (.getfield 259, 3) := by decide +kernel
theorem dX11_better_45 : decode cX11_better 45 = .ok (.iconst (-1), 1) := by decide +kernel
theorem dX11_better_46 : decode cX11_better 46 = .ok (.if_icmp .ne 7, 3) := by decide +kernel
theorem dX11_better_49 : decode cX11_better 49 = .ok (.ldc2_w 251, 3) := by decide +kernel
theorem dX11_better_52 : decode cX11_better 52 = .ok (.lreturn, 1) := by decide +kernel
theorem dX11_better_53 : decode cX11_better 53 = .ok (.iload_n 1, 1) := by decide +kernel
theorem dX11_better_54 : decode cX11_better 54 = .ok (.ifCond .ne 11, 3) := by decide +kernel
theorem dX11_better_57 : decode cX11_better 57 = .ok (.aload_n 0, 1) := by decide +kernel
theorem dX11_better_58 : decode cX11_better 58 = .ok (.getfield 57, 3) := by decide +kernel
theorem dX11_better_61 : decode cX11_better 61 = .ok (.getfield 262, 3) := by decide +kernel
theorem dX11_better_64 : decode cX11_better 64 = .ok (.lreturn, 1) := by decide +kernel
theorem dX11_better_65 : decode cX11_better 65 = .ok (.iload_n 1, 1) := by decide +kernel
theorem dX11_better_66 : decode cX11_better 66 = .ok (.iconst 1, 1) := by decide +kernel
theorem dX11_better_67 : decode cX11_better 67 = .ok (.if_icmp .ne 14, 3) := by decide +kernel
theorem dX11_better_70 : decode cX11_better 70 = .ok (.aload_n 0, 1) := by decide +kernel
theorem dX11_better_71 : decode cX11_better 71 = .ok (.getfield 57, 3) := by decide +kernel
theorem dX11_better_74 : decode cX11_better 74 = .ok (.getfield 259, 3) := by decide +kernel
theorem dX11_better_77 : decode cX11_better 77 = .ok (.i2l, 1) := by decide +kernel
theorem dX11_better_78 : decode cX11_better 78 = .ok (.goto 27, 3) := by decide +kernel
theorem dX11_better_81 : decode cX11_better 81 = .ok (.iload_n 1, 1) := by decide +kernel
theorem dX11_better_82 : decode cX11_better 82 = .ok (.iconst 2, 1) := by decide +kernel
theorem dX11_better_83 : decode cX11_better 83 = .ok (.if_icmp .ne 14, 3) := by decide +kernel
theorem dX11_better_86 : decode cX11_better 86 = .ok (.aload_n 0, 1) := by decide +kernel
theorem dX11_better_87 : decode cX11_better 87 = .ok (.getfield 57, 3) := by decide +kernel
theorem dX11_better_90 : decode cX11_better 90 = .ok (.getfield 266, 3) := by decide +kernel
theorem dX11_better_93 : decode cX11_better 93 = .ok (.i2l, 1) := by decide +kernel
theorem dX11_better_94 : decode cX11_better 94 = .ok (.goto 11, 3) := by decide +kernel
theorem dX11_better_97 : decode cX11_better 97 = .ok (.aload_n 0, 1) := by decide +kernel
theorem dX11_better_98 : decode cX11_better 98 = .ok (.getfield 57, 3) := by decide +kernel
theorem dX11_better_101 : decode cX11_better 101 = .ok (.getfield 269, 3) := by decide +kernel
theorem dX11_better_104 : decode cX11_better 104 = .ok (.i2l, 1) := by decide +kernel
theorem dX11_better_105 : decode cX11_better 105 = .ok (.lreturn, 1) := by decide +kernel
theorem dX11_grow_0 : decode cX11_grow 0 = .ok (.iload_n 1, 1) := by decide +kernel
theorem dX11_grow_1 : decode cX11_grow 1 = .ok (.iconst 0, 1) := by decide +kernel
theorem dX11_grow_2 : decode cX11_grow 2 = .ok (.bipush 100, 2) := by decide +kernel
theorem dX11_grow_4 : decode cX11_grow 4 = .ok (.invokestatic 100, 3) := by decide +kernel
theorem dX11_grow_7 : decode cX11_grow 7 = .ok (.invokestatic 104, 3) := by decide +kernel
theorem dX11_grow_10 : decode cX11_grow 10 = .ok (.aload_n 0, 1) := by decide +kernel
theorem dX11_grow_11 : decode cX11_grow 11 = .ok (.getfield 48, 3) := by decide +kernel
theorem dX11_grow_14 : decode cX11_grow 14 = .ok (.invokevirtual 248, 3) := by decide +kernel
theorem dX11_grow_17 : decode cX11_grow 17 = .ok (.iconst (-1), 1) := by decide +kernel
theorem dX11_grow_18 : decode cX11_grow 18 = .ok (.if_icmp .eq 5, 3) := by decide +kernel
theorem dX11_grow_21 : decode cX11_grow 21 = .ok (.iconst (-1), 1) := by decide +kernel
theorem dX11_grow_22 : decode cX11_grow 22 = .ok (.ireturn, 1) := by decide +kernel
theorem dX11_grow_23 : decode cX11_grow 23 = .ok (.aload_n 0, 1) := by decide +kernel
theorem dX11_grow_24 : decode cX11_grow 24 = .ok (.getfield 57, 3) := by decide +kernel
theorem dX11_grow_27 : decode cX11_grow 27 = .ok (.invokevirtual 253, 3) := by decide +kernel
theorem dX11_grow_30 : decode cX11_grow 30 = .ok (.iconst 0, 1) := by decide +kernel
theorem dX11_grow_31 : decode cX11_grow 31 = .ok (.istore_n 2, 1) := by decide +kernel
theorem dX11_grow_32 : decode cX11_grow 32 = .ok (.iconst 0, 1) := by decide +kernel
theorem dX11_grow_33 : decode cX11_grow 33 = .ok (.istore_n 3, 1) := by decide +kernel
theorem dX11_grow_34 : decode cX11_grow 34 = .ok (.iload_n 3, 1) := by decide +kernel
theorem dX11_grow_35 : decode cX11_grow 35 = .ok (.iload_n 1, 1) := by decide +kernel
theorem dX11_grow_36 : decode cX11_grow 36 = .ok (.if_icmp .ge 40, 3) := by decide +kernel
theorem dX11_grow_39 : decode cX11_grow 39 = .ok (.aload_n 0, 1) := by decide +kernel
theorem dX11_grow_40 : decode cX11_grow 40 = .ok (.getfield 57, 3) := by decide +kernel
theorem dX11_grow_43 : decode cX11_grow 43 = .ok (.invokevirtual 256, 3) := by decide +kernel
theorem dX11_grow_46 : decode cX11_grow 46 = .ok (.aload_n 0, 1) := by decide +kernel
theorem dX11_grow_47 : decode cX11_grow 47 = .ok (.getfield 57, 3) := by decide +kernel
theorem dX11_grow_50 : decode cX11_grow 50 = .ok (.getfield 259, 3) := by decide +kernel
theorem dX11_grow_53 : decode cX11_grow 53 = .ok (.iconst (-1), 1) := by decide +kernel
theorem dX11_grow_54 : decode cX11_grow 54 = .ok (.if_icmp .ne 6, 3) := by decide +kernel
theorem dX11_grow_57 : decode cX11_grow 57 = .ok (.goto 19, 3) := by decide +kernel
theorem dX11_grow_60 : decode cX11_grow 60 = .ok (.aload_n 0, 1) := by decide +kernel
theorem dX11_grow_61 : decode cX11_grow 61 = .ok (.getfield 57, 3) := by decide +kernel
theorem dX11_grow_64 : decode cX11_grow 64 = .ok (.invokevirtual 272, 3) := by decide +kernel
theorem dX11_grow_67 : decode cX11_grow 67 = .ok (.iinc 2 1, 3) := by decide +kernel
theorem dX11_grow_70 : decode cX11_grow 70 = .ok (.iinc 3 1, 3) := by decide +kernel
theorem dX11_grow_73 : decode cX11_grow 73 = .ok (.goto (-39), 3) := by decide +kernel
theorem dX11_grow_76 : decode cX11_grow 76 = .ok (.iload_n 2, 1) := by decide +kernel
theorem dX11_grow_77 : decode cX11_grow 77 = .ok (.ireturn, 1) := by decide +kernel
theorem dX11_bound_0 : decode cX11_bound 0 = .ok (.aload_n 0, 1) := by decide +kernel
theorem dX11_bound_1 : decode cX11_bound 1 = .ok (.getfield 66, 3) := by decide +kernel
theorem dX11_bound_4 : decode cX11_bound 4 = .ok (.iconst (-1), 1) := by decide +kernel
theorem dX11_bound_5 : decode cX11_bound 5 = .ok (.invokevirtual 275, 3) := by decide +kernel
theorem dX11_bound_8 : decode cX11_bound 8 = .ok (.aload_n 0, 1) := by decide +kernel
theorem dX11_bound_9 : decode cX11_bound 9 = .ok (.getfield 66, 3) := by decide +kernel
theorem dX11_bound_12 : decode cX11_bound 12 = .ok (.getfield 278, 3) := by decide +kernel
theorem dX11_bound_15 : decode cX11_bound 15 = .ok (.lreturn, 1) := by decide +kernel
theorem dX11_ring_0 : decode cX11_ring 0 = .ok (.iload_n 2, 1) := by decide +kernel
theorem dX11_ring_1 : decode cX11_ring 1 = .ok (.iconst 0, 1) := by decide +kernel
theorem dX11_ring_2 : decode cX11_ring 2 = .ok (.iconst 3, 1) := by decide +kernel
theorem dX11_ring_3 : decode cX11_ring 3 = .ok (.invokestatic 100, 3) := by decide +kernel
theorem dX11_ring_6 : decode cX11_ring 6 = .ok (.invokestatic 104, 3) := by decide +kernel
theorem dX11_ring_9 : decode cX11_ring 9 = .ok (.iload_n 1, 1) := by decide +kernel
theorem dX11_ring_10 : decode cX11_ring 10 = .ok (.ifCond .ge 5, 3) := by decide +kernel
theorem dX11_ring_13 : decode cX11_ring 13 = .ok (.iconst (-1), 1) := by decide +kernel
theorem dX11_ring_14 : decode cX11_ring 14 = .ok (.ireturn, 1) := by decide +kernel
theorem dX11_ring_15 : decode cX11_ring 15 = .ok (.aload_n 0, 1) := by decide +kernel
theorem dX11_ring_16 : decode cX11_ring 16 = .ok (.getfield 66, 3) := by decide +kernel
theorem dX11_ring_19 : decode cX11_ring 19 = .ok (.iload_n 1, 1) := by decide +kernel
theorem dX11_ring_20 : decode cX11_ring 20 = .ok (.invokevirtual 275, 3) := by decide +kernel
theorem dX11_ring_23 : decode cX11_ring 23 = .ok (.aload_n 0, 1) := by decide +kernel
theorem dX11_ring_24 : decode cX11_ring 24 = .ok (.getfield 66, 3) := by decide +kernel
theorem dX11_ring_27 : decode cX11_ring 27 = .ok (.iload_n 2, 1) := by decide +kernel
theorem dX11_ring_28 : decode cX11_ring 28 = .ok (.invokevirtual 281, 3) := by decide +kernel
theorem dX11_ring_31 : decode cX11_ring 31 = .ok (.ireturn, 1) := by decide +kernel
theorem dX11_rings_0 : decode cX11_rings 0 = .ok (.aload_n 0, 1) := by decide +kernel
theorem dX11_rings_1 : decode cX11_rings 1 = .ok (.getfield 66, 3) := by decide +kernel
theorem dX11_rings_4 : decode cX11_rings 4 = .ok (.invokevirtual 284, 3) := by decide +kernel
theorem dX11_rings_7 : decode cX11_rings 7 = .ok (.ireturn, 1) := by decide +kernel
theorem dX11_told_0 : decode cX11_told 0 = .ok (.aload_n 0, 1) := by decide +kernel
theorem dX11_told_1 : decode cX11_told 1 = .ok (.iload_n 1, 1) := by decide +kernel
theorem dX11_told_2 : decode cX11_told 2 = .ok (.invokevirtual 126, 3) := by decide +kernel
theorem dX11_told_5 : decode cX11_told 5 = .ok (.aload_n 0, 1) := by decide +kernel
theorem dX11_told_6 : decode cX11_told 6 = .ok (.iload_n 2, 1) := by decide +kernel
theorem dX11_told_7 : decode cX11_told 7 = .ok (.invokevirtual 126, 3) := by decide +kernel
theorem dX11_told_10 : decode cX11_told 10 = .ok (.aload_n 0, 1) := by decide +kernel
theorem dX11_told_11 : decode cX11_told 11 = .ok (.iload_n 3, 1) := by decide +kernel
theorem dX11_told_12 : decode cX11_told 12 = .ok (.invokevirtual 126, 3) := by decide +kernel
theorem dX11_told_15 : decode cX11_told 15 = .ok (.iload_n 1, 1) := by decide +kernel
theorem dX11_told_16 : decode cX11_told 16 = .ok (.iload_n 2, 1) := by decide +kernel
theorem dX11_told_17 : decode cX11_told 17 = .ok (.if_icmp .eq 17, 3) := by decide +kernel
theorem dX11_told_20 : decode cX11_told 20 = .ok (.iload_n 2, 1) := by decide +kernel
theorem dX11_told_21 : decode cX11_told 21 = .ok (.iload_n 3, 1) := by decide +kernel
theorem dX11_told_22 : decode cX11_told 22 = .ok (.if_icmp .eq 12, 3) := by decide +kernel
theorem dX11_told_25 : decode cX11_told 25 = .ok (.iload_n 1, 1) := by decide +kernel
theorem dX11_told_26 : decode cX11_told 26 = .ok (.iload_n 3, 1) := by decide +kernel
theorem dX11_told_27 : decode cX11_told 27 = .ok (.if_icmp .eq 7, 3) := by decide +kernel
theorem dX11_told_30 : decode cX11_told 30 = .ok (.iconst 1, 1) := by decide +kernel
theorem dX11_told_31 : decode cX11_told 31 = .ok (.goto 4, 3) := by decide +kernel
theorem dX11_told_34 : decode cX11_told 34 = .ok (.iconst 0, 1) := by decide +kernel
theorem dX11_told_35 : decode cX11_told 35 = .ok (.invokestatic 104, 3) := by decide +kernel
theorem dX11_told_38 : decode cX11_told 38 = .ok (.iload 4, 2) := by decide +kernel
theorem dX11_told_40 : decode cX11_told 40 = .ok (.iconst 1, 1) := by decide +kernel
theorem dX11_told_41 : decode cX11_told 41 = .ok (.ldc_w 287, 3) := by decide +kernel
theorem dX11_told_44 : decode cX11_told 44 = .ok (.invokestatic 100, 3) := by decide +kernel
theorem dX11_told_47 : decode cX11_told 47 = .ok (.invokestatic 104, 3) := by decide +kernel
theorem dX11_told_50 : decode cX11_told 50 = .ok (.aload_n 0, 1) := by decide +kernel
theorem dX11_told_51 : decode cX11_told 51 = .ok (.getfield 66, 3) := by decide +kernel
theorem dX11_told_54 : decode cX11_told 54 = .ok (.iload_n 1, 1) := by decide +kernel
theorem dX11_told_55 : decode cX11_told 55 = .ok (.iload_n 2, 1) := by decide +kernel
theorem dX11_told_56 : decode cX11_told 56 = .ok (.iload_n 3, 1) := by decide +kernel
theorem dX11_told_57 : decode cX11_told 57 = .ok (.invokevirtual 288, 3) := by decide +kernel
theorem dX11_told_60 : decode cX11_told 60 = .ok (.ifCond .ne 7, 3) := by decide +kernel
theorem dX11_told_63 : decode cX11_told 63 = .ok (.ldc2_w 291, 3) := by decide +kernel
theorem dX11_told_66 : decode cX11_told 66 = .ok (.lreturn, 1) := by decide +kernel
theorem dX11_told_67 : decode cX11_told 67 = .ok (.aload_n 0, 1) := by decide +kernel
theorem dX11_told_68 : decode cX11_told 68 = .ok (.getfield 66, 3) := by decide +kernel
theorem dX11_told_71 : decode cX11_told 71 = .ok (.iload_n 1, 1) := by decide +kernel
theorem dX11_told_72 : decode cX11_told 72 = .ok (.iload_n 2, 1) := by decide +kernel
theorem dX11_told_73 : decode cX11_told 73 = .ok (.iload_n 3, 1) := by decide +kernel
theorem dX11_told_74 : decode cX11_told 74 = .ok (.iload 4, 2) := by decide +kernel
theorem dX11_told_76 : decode cX11_told 76 = .ok (.invokevirtual 293, 3) := by decide +kernel
theorem dX11_told_79 : decode cX11_told 79 = .ok (.ifCond .ne 7, 3) := by decide +kernel
theorem dX11_told_82 : decode cX11_told 82 = .ok (.ldc2_w 297, 3) := by decide +kernel
theorem dX11_told_85 : decode cX11_told 85 = .ok (.lreturn, 1) := by decide +kernel
theorem dX11_told_86 : decode cX11_told 86 = .ok (.aload_n 0, 1) := by decide +kernel
theorem dX11_told_87 : decode cX11_told 87 = .ok (.getfield 66, 3) := by decide +kernel
theorem dX11_told_90 : decode cX11_told 90 = .ok (.getfield 299, 3) := by decide +kernel
theorem dX11_told_93 : decode cX11_told 93 = .ok (.bipush 40, 2) := by decide +kernel
theorem dX11_told_95 : decode cX11_told 95 = .ok (.if_icmp .lt 7, 3) := by decide +kernel
theorem dX11_told_98 : decode cX11_told 98 = .ok (.ldc2_w 302, 3) := by decide +kernel
theorem dX11_told_101 : decode cX11_told 101 = .ok (.lreturn, 1) := by decide +kernel
theorem dX11_told_102 : decode cX11_told 102 = .ok (.aload_n 0, 1) := by decide +kernel
theorem dX11_told_103 : decode cX11_told 103 = .ok (.getfield 66, 3) := by decide +kernel
theorem dX11_told_106 : decode cX11_told 106 = .ok (.iload_n 1, 1) := by decide +kernel
theorem dX11_told_107 : decode cX11_told 107 = .ok (.iload_n 2, 1) := by decide +kernel
theorem dX11_told_108 : decode cX11_told 108 = .ok (.iload_n 3, 1) := by decide +kernel
theorem dX11_told_109 : decode cX11_told 109 = .ok (.iload 4, 2) := by decide +kernel
theorem dX11_told_111 : decode cX11_told 111 = .ok (.invokevirtual 304, 3) := by decide +kernel
theorem dX11_told_114 : decode cX11_told 114 = .ok (.aload_n 0, 1) := by decide +kernel
theorem dX11_told_115 : decode cX11_told 115 = .ok (.getfield 66, 3) := by decide +kernel
theorem dX11_told_118 : decode cX11_told 118 = .ok (.getfield 308, 3) := by decide +kernel
theorem dX11_told_121 : decode cX11_told 121 = .ok (.lreturn, 1) := by decide +kernel
theorem dX11_best_0 : decode cX11_best 0 = .ok (.aload_n 0, 1) := by decide +kernel
theorem dX11_best_1 : decode cX11_best 1 = .ok (.iload_n 1, 1) := by decide +kernel
theorem dX11_best_2 : decode cX11_best 2 = .ok (.invokevirtual 126, 3) := by decide +kernel
theorem dX11_best_5 : decode cX11_best 5 = .ok (.aload_n 0, 1) := by decide +kernel
theorem dX11_best_6 : decode cX11_best 6 = .ok (.iload_n 1, 1) := by decide +kernel
theorem dX11_best_7 : decode cX11_best 7 = .ok (.invokevirtual 311, 3) := by decide +kernel
theorem dX11_best_10 : decode cX11_best 10 = .ok (.istore_n 2, 1) := by decide +kernel
theorem dX11_best_11 : decode cX11_best 11 = .ok (.iload_n 2, 1) := by decide +kernel
theorem dX11_best_12 : decode cX11_best 12 = .ok (.ifCond .ge 8, 3) := by decide +kernel
theorem dX11_best_15 : decode cX11_best 15 = .ok (.iload_n 2, 1) := by decide +kernel
theorem dX11_best_16 : decode cX11_best 16 = .ok (.i2l, 1) := by decide +kernel
theorem dX11_best_17 : decode cX11_best 17 = .ok (.goto 11, 3) := by decide +kernel
theorem dX11_best_20 : decode cX11_best 20 = .ok (.aload_n 0, 1) := by decide +kernel
theorem dX11_best_21 : decode cX11_best 21 = .ok (.getfield 89, 3) := by decide +kernel
theorem dX11_best_24 : decode cX11_best 24 = .ok (.getfield 314, 3) := by decide +kernel
theorem dX11_best_27 : decode cX11_best 27 = .ok (.i2l, 1) := by decide +kernel
theorem dX11_best_28 : decode cX11_best 28 = .ok (.lreturn, 1) := by decide +kernel
theorem dX11_many_0 : decode cX11_many 0 = .ok (.aload_n 0, 1) := by decide +kernel
theorem dX11_many_1 : decode cX11_many 1 = .ok (.iload_n 1, 1) := by decide +kernel
theorem dX11_many_2 : decode cX11_many 2 = .ok (.invokevirtual 126, 3) := by decide +kernel
theorem dX11_many_5 : decode cX11_many 5 = .ok (.aload_n 0, 1) := by decide +kernel
theorem dX11_many_6 : decode cX11_many 6 = .ok (.iload_n 1, 1) := by decide +kernel
theorem dX11_many_7 : decode cX11_many 7 = .ok (.invokevirtual 316, 3) := by decide +kernel
theorem dX11_many_10 : decode cX11_many 10 = .ok (.istore_n 2, 1) := by decide +kernel
theorem dX11_many_11 : decode cX11_many 11 = .ok (.iload_n 2, 1) := by decide +kernel
theorem dX11_many_12 : decode cX11_many 12 = .ok (.bipush (-2), 2) := by decide +kernel
theorem dX11_many_14 : decode cX11_many 14 = .ok (.if_icmp .ne 8, 3) := by decide +kernel
theorem dX11_many_17 : decode cX11_many 17 = .ok (.bipush (-2), 2) := by decide +kernel
theorem dX11_many_19 : decode cX11_many 19 = .ok (.goto 18, 3) := by decide +kernel
theorem dX11_many_22 : decode cX11_many 22 = .ok (.iload_n 2, 1) := by decide +kernel
theorem dX11_many_23 : decode cX11_many 23 = .ok (.ifCond .ge 7, 3) := by decide +kernel
theorem dX11_many_26 : decode cX11_many 26 = .ok (.iconst 0, 1) := by decide +kernel
theorem dX11_many_27 : decode cX11_many 27 = .ok (.goto 10, 3) := by decide +kernel
theorem dX11_many_30 : decode cX11_many 30 = .ok (.aload_n 0, 1) := by decide +kernel
theorem dX11_many_31 : decode cX11_many 31 = .ok (.getfield 89, 3) := by decide +kernel
theorem dX11_many_34 : decode cX11_many 34 = .ok (.getfield 319, 3) := by decide +kernel
theorem dX11_many_37 : decode cX11_many 37 = .ok (.ireturn, 1) := by decide +kernel
theorem dX11_first_0 : decode cX11_first 0 = .ok (.aload_n 0, 1) := by decide +kernel
theorem dX11_first_1 : decode cX11_first 1 = .ok (.iload_n 1, 1) := by decide +kernel
theorem dX11_first_2 : decode cX11_first 2 = .ok (.invokevirtual 126, 3) := by decide +kernel
theorem dX11_first_5 : decode cX11_first 5 = .ok (.aload_n 0, 1) := by decide +kernel
theorem dX11_first_6 : decode cX11_first 6 = .ok (.iload_n 1, 1) := by decide +kernel
theorem dX11_first_7 : decode cX11_first 7 = .ok (.invokevirtual 316, 3) := by decide +kernel
theorem dX11_first_10 : decode cX11_first 10 = .ok (.istore_n 2, 1) := by decide +kernel
theorem dX11_first_11 : decode cX11_first 11 = .ok (.iload_n 2, 1) := by decide +kernel
theorem dX11_first_12 : decode cX11_first 12 = .ok (.ifCond .ge 7, 3) := by decide +kernel
theorem dX11_first_15 : decode cX11_first 15 = .ok (.iload_n 2, 1) := by decide +kernel
theorem dX11_first_16 : decode cX11_first 16 = .ok (.goto 11, 3) := by decide +kernel
theorem dX11_first_19 : decode cX11_first 19 = .ok (.aload_n 0, 1) := by decide +kernel
theorem dX11_first_20 : decode cX11_first 20 = .ok (.getfield 89, 3) := by decide +kernel
theorem dX11_first_23 : decode cX11_first 23 = .ok (.iload_n 1, 1) := by decide +kernel
theorem dX11_first_24 : decode cX11_first 24 = .ok (.invokevirtual 322, 3) := by decide +kernel
theorem dX11_first_27 : decode cX11_first 27 = .ok (.ireturn, 1) := by decide +kernel
theorem dX11_all_0 : decode cX11_all 0 = .ok (.aload_n 0, 1) := by decide +kernel
theorem dX11_all_1 : decode cX11_all 1 = .ok (.aload_n 0, 1) := by decide +kernel
theorem dX11_all_2 : decode cX11_all 2 = .ok (.getfield 12, 3) := by decide +kernel
theorem dX11_all_5 : decode cX11_all 5 = .ok (.invokevirtual 136, 3) := by decide +kernel
theorem dX11_all_8 : decode cX11_all 8 = .ok (.aload_n 0, 1) := by decide +kernel
theorem dX11_all_9 : decode cX11_all 9 = .ok (.getfield 93, 3) := by decide +kernel
theorem dX11_all_12 : decode cX11_all 12 = .ok (.invokevirtual 325, 3) := by decide +kernel
theorem dX11_all_15 : decode cX11_all 15 = .ok (.lreturn, 1) := by decide +kernel
theorem dX11_take_0 : decode cX11_take 0 = .ok (.aload_n 0, 1) := by decide +kernel
theorem dX11_take_1 : decode cX11_take 1 = .ok (.aload_n 0, 1) := by decide +kernel
theorem dX11_take_2 : decode cX11_take 2 = .ok (.getfield 12, 3) := by decide +kernel
theorem dX11_take_5 : decode cX11_take 5 = .ok (.invokevirtual 136, 3) := by decide +kernel
theorem dX11_take_8 : decode cX11_take 8 = .ok (.aload_n 0, 1) := by decide +kernel
theorem dX11_take_9 : decode cX11_take 9 = .ok (.getfield 93, 3) := by decide +kernel
theorem dX11_take_12 : decode cX11_take 12 = .ok (.invokevirtual 325, 3) := by decide +kernel
theorem dX11_take_15 : decode cX11_take 15 = .ok (.lstore_n 1, 1) := by decide +kernel
theorem dX11_take_16 : decode cX11_take 16 = .ok (.lload_n 1, 1) := by decide +kernel
theorem dX11_take_17 : decode cX11_take 17 = .ok (.lconst 0, 1) := by decide +kernel
theorem dX11_take_18 : decode cX11_take 18 = .ok (.lcmp, 1) := by decide +kernel
theorem dX11_take_19 : decode cX11_take 19 = .ok (.ifCond .ge 6, 3) := by decide +kernel
theorem dX11_take_22 : decode cX11_take 22 = .ok (.lload_n 1, 1) := by decide +kernel
theorem dX11_take_23 : decode cX11_take 23 = .ok (.l2i, 1) := by decide +kernel
theorem dX11_take_24 : decode cX11_take 24 = .ok (.ireturn, 1) := by decide +kernel
theorem dX11_take_25 : decode cX11_take 25 = .ok (.aload_n 0, 1) := by decide +kernel
theorem dX11_take_26 : decode cX11_take 26 = .ok (.getfield 48, 3) := by decide +kernel
theorem dX11_take_29 : decode cX11_take 29 = .ok (.aload_n 0, 1) := by decide +kernel
theorem dX11_take_30 : decode cX11_take 30 = .ok (.getfield 93, 3) := by decide +kernel
theorem dX11_take_33 : decode cX11_take 33 = .ok (.invokevirtual 329, 3) := by decide +kernel
theorem dX11_take_36 : decode cX11_take 36 = .ok (.iconst 1, 1) := by decide +kernel
theorem dX11_take_37 : decode cX11_take 37 = .ok (.ireturn, 1) := by decide +kernel
theorem dX11_always_0 : decode cX11_always 0 = .ok (.aload_n 0, 1) := by decide +kernel
theorem dX11_always_1 : decode cX11_always 1 = .ok (.iload_n 1, 1) := by decide +kernel
theorem dX11_always_2 : decode cX11_always 2 = .ok (.iload_n 2, 1) := by decide +kernel
theorem dX11_always_3 : decode cX11_always 3 = .ok (.invokevirtual 185, 3) := by decide +kernel
theorem dX11_always_6 : decode cX11_always 6 = .ok (.aload_n 0, 1) := by decide +kernel
theorem dX11_always_7 : decode cX11_always 7 = .ok (.iload_n 1, 1) := by decide +kernel
theorem dX11_always_8 : decode cX11_always 8 = .ok (.invokevirtual 316, 3) := by decide +kernel
theorem dX11_always_11 : decode cX11_always 11 = .ok (.ifCond .ge 8, 3) := by decide +kernel
theorem dX11_always_14 : decode cX11_always 14 = .ok (.bipush (-2), 2) := by decide +kernel
theorem dX11_always_16 : decode cX11_always 16 = .ok (.goto 12, 3) := by decide +kernel
theorem dX11_always_19 : decode cX11_always 19 = .ok (.aload_n 0, 1) := by decide +kernel
theorem dX11_always_20 : decode cX11_always 20 = .ok (.getfield 89, 3) := by decide +kernel
theorem dX11_always_23 : decode cX11_always 23 = .ok (.iload_n 1, 1) := by decide +kernel
theorem dX11_always_24 : decode cX11_always 24 = .ok (.iload_n 2, 1) := by decide +kernel
theorem dX11_always_25 : decode cX11_always 25 = .ok (.invokevirtual 333, 3) := by decide +kernel
theorem dX11_always_28 : decode cX11_always 28 = .ok (.ireturn, 1) := by decide +kernel
theorem dX11_edge_0 : decode cX11_edge 0 = .ok (.aload_n 0, 1) := by decide +kernel
theorem dX11_edge_1 : decode cX11_edge 1 = .ok (.iload_n 1, 1) := by decide +kernel
theorem dX11_edge_2 : decode cX11_edge 2 = .ok (.iload_n 2, 1) := by decide +kernel
theorem dX11_edge_3 : decode cX11_edge 3 = .ok (.invokevirtual 185, 3) := by decide +kernel
theorem dX11_edge_6 : decode cX11_edge 6 = .ok (.aload_n 0, 1) := by decide +kernel
theorem dX11_edge_7 : decode cX11_edge 7 = .ok (.iload_n 1, 1) := by decide +kernel
theorem dX11_edge_8 : decode cX11_edge 8 = .ok (.iload_n 2, 1) := by decide +kernel
theorem dX11_edge_9 : decode cX11_edge 9 = .ok (.invokevirtual 336, 3) := by decide +kernel
theorem dX11_edge_12 : decode cX11_edge 12 = .ok (.lreturn, 1) := by decide +kernel
theorem dX11_holds_0 : decode cX11_holds 0 = .ok (.aload_n 0, 1) := by decide +kernel
theorem dX11_holds_1 : decode cX11_holds 1 = .ok (.iload_n 1, 1) := by decide +kernel
theorem dX11_holds_2 : decode cX11_holds 2 = .ok (.iload_n 2, 1) := by decide +kernel
theorem dX11_holds_3 : decode cX11_holds 3 = .ok (.invokevirtual 185, 3) := by decide +kernel
theorem dX11_holds_6 : decode cX11_holds 6 = .ok (.iload_n 3, 1) := by decide +kernel
theorem dX11_holds_7 : decode cX11_holds 7 = .ok (.iconst 0, 1) := by decide +kernel
theorem dX11_holds_8 : decode cX11_holds 8 = .ok (.bipush 100, 2) := by decide +kernel
theorem dX11_holds_10 : decode cX11_holds 10 = .ok (.invokestatic 100, 3) := by decide +kernel
theorem dX11_holds_13 : decode cX11_holds 13 = .ok (.invokestatic 104, 3) := by decide +kernel
theorem dX11_holds_16 : decode cX11_holds 16 = .ok (.aload_n 0, 1) := by decide +kernel
theorem dX11_holds_17 : decode cX11_holds 17 = .ok (.iload_n 1, 1) := by decide +kernel
theorem dX11_holds_18 : decode cX11_holds 18 = .ok (.iload_n 2, 1) := by decide +kernel
theorem dX11_holds_19 : decode cX11_holds 19 = .ok (.invokevirtual 336, 3) := by decide +kernel
theorem dX11_holds_22 : decode cX11_holds 22 = .ok (.lstore 4, 2) := by decide +kernel
theorem dX11_holds_24 : decode cX11_holds 24 = .ok (.lload 4, 2) := by decide +kernel
theorem dX11_holds_26 : decode cX11_holds 26 = .ok (.ldc2_w 251, 3) := by decide +kernel
theorem dX11_holds_29 : decode cX11_holds 29 = .ok (.lcmp, 1) := by decide +kernel
theorem dX11_holds_30 : decode cX11_holds 30 = .ok (.ifCond .ne 6, 3) := by decide +kernel
theorem dX11_holds_33 : decode cX11_holds 33 = .ok (.bipush (-2), 2) := by decide +kernel
theorem dX11_holds_35 : decode cX11_holds 35 = .ok (.ireturn, 1) := by decide +kernel
theorem dX11_holds_36 : decode cX11_holds 36 = .ok (.ldc2_w 340, 3) := by decide +kernel
theorem dX11_holds_39 : decode cX11_holds 39 = .ok (.iload_n 3, 1) := by decide +kernel
theorem dX11_holds_40 : decode cX11_holds 40 = .ok (.i2l, 1) := by decide +kernel
theorem dX11_holds_41 : decode cX11_holds 41 = .ok (.lmul, 1) := by decide +kernel
theorem dX11_holds_42 : decode cX11_holds 42 = .ok (.aload_n 0, 1) := by decide +kernel
theorem dX11_holds_43 : decode cX11_holds 43 = .ok (.getfield 80, 3) := by decide +kernel
theorem dX11_holds_46 : decode cX11_holds 46 = .ok (.invokevirtual 342, 3) := by decide +kernel
theorem dX11_holds_49 : decode cX11_holds 49 = .ok (.lmul, 1) := by decide +kernel
theorem dX11_holds_50 : decode cX11_holds 50 = .ok (.lstore 6, 2) := by decide +kernel
theorem dX11_holds_52 : decode cX11_holds 52 = .ok (.ldc2_w 345, 3) := by decide +kernel
theorem dX11_holds_55 : decode cX11_holds 55 = .ok (.lload 4, 2) := by decide +kernel
theorem dX11_holds_57 : decode cX11_holds 57 = .ok (.lmul, 1) := by decide +kernel
theorem dX11_holds_58 : decode cX11_holds 58 = .ok (.lload 6, 2) := by decide +kernel
theorem dX11_holds_60 : decode cX11_holds 60 = .ok (.lcmp, 1) := by decide +kernel
theorem dX11_holds_61 : decode cX11_holds 61 = .ok (.ifCond .le 7, 3) := by decide +kernel
theorem dX11_holds_64 : decode cX11_holds 64 = .ok (.iconst 1, 1) := by decide +kernel
theorem dX11_holds_65 : decode cX11_holds 65 = .ok (.goto 21, 3) := by decide +kernel
theorem dX11_holds_68 : decode cX11_holds 68 = .ok (.ldc2_w 345, 3) := by decide +kernel
theorem dX11_holds_71 : decode cX11_holds 71 = .ok (.lload 4, 2) := by decide +kernel
theorem dX11_holds_73 : decode cX11_holds 73 = .ok (.lmul, 1) := by decide +kernel
theorem dX11_holds_74 : decode cX11_holds 74 = .ok (.lload 6, 2) := by decide +kernel
theorem dX11_holds_76 : decode cX11_holds 76 = .ok (.lneg, 1) := by decide +kernel
theorem dX11_holds_77 : decode cX11_holds 77 = .ok (.lcmp, 1) := by decide +kernel
theorem dX11_holds_78 : decode cX11_holds 78 = .ok (.ifCond .ge 7, 3) := by decide +kernel
theorem dX11_holds_81 : decode cX11_holds 81 = .ok (.iconst (-1), 1) := by decide +kernel
theorem dX11_holds_82 : decode cX11_holds 82 = .ok (.goto 4, 3) := by decide +kernel
theorem dX11_holds_85 : decode cX11_holds 85 = .ok (.iconst 0, 1) := by decide +kernel
theorem dX11_holds_86 : decode cX11_holds 86 = .ok (.ireturn, 1) := by decide +kernel
theorem dX11_asked_0 : decode cX11_asked 0 = .ok (.aload_n 0, 1) := by decide +kernel
theorem dX11_asked_1 : decode cX11_asked 1 = .ok (.iload_n 1, 1) := by decide +kernel
theorem dX11_asked_2 : decode cX11_asked 2 = .ok (.invokevirtual 126, 3) := by decide +kernel
theorem dX11_asked_5 : decode cX11_asked 5 = .ok (.aload_n 0, 1) := by decide +kernel
theorem dX11_asked_6 : decode cX11_asked 6 = .ok (.iload_n 1, 1) := by decide +kernel
theorem dX11_asked_7 : decode cX11_asked 7 = .ok (.invokevirtual 316, 3) := by decide +kernel
theorem dX11_asked_10 : decode cX11_asked 10 = .ok (.istore_n 2, 1) := by decide +kernel
theorem dX11_asked_11 : decode cX11_asked 11 = .ok (.iload_n 2, 1) := by decide +kernel
theorem dX11_asked_12 : decode cX11_asked 12 = .ok (.ifCond .ge 5, 3) := by decide +kernel
theorem dX11_asked_15 : decode cX11_asked 15 = .ok (.iload_n 2, 1) := by decide +kernel
theorem dX11_asked_16 : decode cX11_asked 16 = .ok (.ireturn, 1) := by decide +kernel
theorem dX11_asked_17 : decode cX11_asked 17 = .ok (.aload_n 0, 1) := by decide +kernel
theorem dX11_asked_18 : decode cX11_asked 18 = .ok (.getfield 89, 3) := by decide +kernel
theorem dX11_asked_21 : decode cX11_asked 21 = .ok (.getfield 319, 3) := by decide +kernel
theorem dX11_asked_24 : decode cX11_asked 24 = .ok (.sipush 200, 3) := by decide +kernel
theorem dX11_asked_27 : decode cX11_asked 27 = .ok (.if_icmp .le 8, 3) := by decide +kernel
theorem dX11_asked_30 : decode cX11_asked 30 = .ok (.bipush (-2), 2) := by decide +kernel
theorem dX11_asked_32 : decode cX11_asked 32 = .ok (.goto 10, 3) := by decide +kernel
theorem dX11_asked_35 : decode cX11_asked 35 = .ok (.aload_n 0, 1) := by decide +kernel
theorem dX11_asked_36 : decode cX11_asked 36 = .ok (.getfield 89, 3) := by decide +kernel
theorem dX11_asked_39 : decode cX11_asked 39 = .ok (.invokevirtual 347, 3) := by decide +kernel
theorem dX11_asked_42 : decode cX11_asked 42 = .ok (.ireturn, 1) := by decide +kernel
theorem dX11_near_0 : decode cX11_near 0 = .ok (.aload_n 0, 1) := by decide +kernel
theorem dX11_near_1 : decode cX11_near 1 = .ok (.iload_n 1, 1) := by decide +kernel
theorem dX11_near_2 : decode cX11_near 2 = .ok (.invokevirtual 126, 3) := by decide +kernel
theorem dX11_near_5 : decode cX11_near 5 = .ok (.iload_n 2, 1) := by decide +kernel
theorem dX11_near_6 : decode cX11_near 6 = .ok (.iconst 0, 1) := by decide +kernel
theorem dX11_near_7 : decode cX11_near 7 = .ok (.ldc_w 350, 3) := by decide +kernel
theorem dX11_near_10 : decode cX11_near 10 = .ok (.invokestatic 100, 3) := by decide +kernel
theorem dX11_near_13 : decode cX11_near 13 = .ok (.invokestatic 104, 3) := by decide +kernel
theorem dX11_near_16 : decode cX11_near 16 = .ok (.aload_n 0, 1) := by decide +kernel
theorem dX11_near_17 : decode cX11_near 17 = .ok (.iload_n 1, 1) := by decide +kernel
theorem dX11_near_18 : decode cX11_near 18 = .ok (.iload_n 2, 1) := by decide +kernel
theorem dX11_near_19 : decode cX11_near 19 = .ok (.invokevirtual 351, 3) := by decide +kernel
theorem dX11_near_22 : decode cX11_near 22 = .ok (.istore_n 3, 1) := by decide +kernel
theorem dX11_near_23 : decode cX11_near 23 = .ok (.iload_n 3, 1) := by decide +kernel
theorem dX11_near_24 : decode cX11_near 24 = .ok (.ifCond .ge 7, 3) := by decide +kernel
theorem dX11_near_27 : decode cX11_near 27 = .ok (.iload_n 3, 1) := by decide +kernel
theorem dX11_near_28 : decode cX11_near 28 = .ok (.goto 10, 3) := by decide +kernel
theorem dX11_near_31 : decode cX11_near 31 = .ok (.aload_n 0, 1) := by decide +kernel
theorem dX11_near_32 : decode cX11_near 32 = .ok (.getfield 89, 3) := by decide +kernel
theorem dX11_near_35 : decode cX11_near 35 = .ok (.getfield 354, 3) := by decide +kernel
theorem dX11_near_38 : decode cX11_near 38 = .ok (.ireturn, 1) := by decide +kernel
theorem dX11_nearest_0 : decode cX11_nearest 0 = .ok (.aload_n 0, 1) := by decide +kernel
theorem dX11_nearest_1 : decode cX11_nearest 1 = .ok (.iload_n 1, 1) := by decide +kernel
theorem dX11_nearest_2 : decode cX11_nearest 2 = .ok (.invokevirtual 126, 3) := by decide +kernel
theorem dX11_nearest_5 : decode cX11_nearest 5 = .ok (.iload_n 2, 1) := by decide +kernel
theorem dX11_nearest_6 : decode cX11_nearest 6 = .ok (.iconst 0, 1) := by decide +kernel
theorem dX11_nearest_7 : decode cX11_nearest 7 = .ok (.ldc_w 350, 3) := by decide +kernel
theorem dX11_nearest_10 : decode cX11_nearest 10 = .ok (.invokestatic 100, 3) := by decide +kernel
theorem dX11_nearest_13 : decode cX11_nearest 13 = .ok (.invokestatic 104, 3) := by decide +kernel
theorem dX11_nearest_16 : decode cX11_nearest 16 = .ok (.aload_n 0, 1) := by decide +kernel
theorem dX11_nearest_17 : decode cX11_nearest 17 = .ok (.iload_n 1, 1) := by decide +kernel
theorem dX11_nearest_18 : decode cX11_nearest 18 = .ok (.iload_n 2, 1) := by decide +kernel
theorem dX11_nearest_19 : decode cX11_nearest 19 = .ok (.invokevirtual 351, 3) := by decide +kernel
theorem dX11_nearest_22 : decode cX11_nearest 22 = .ok (.istore_n 3, 1) := by decide +kernel
theorem dX11_nearest_23 : decode cX11_nearest 23 = .ok (.iload_n 3, 1) := by decide +kernel
theorem dX11_nearest_24 : decode cX11_nearest 24 = .ok (.ifCond .ge 7, 3) := by decide +kernel
theorem dX11_nearest_27 : decode cX11_nearest 27 = .ok (.iload_n 3, 1) := by decide +kernel
theorem dX11_nearest_28 : decode cX11_nearest 28 = .ok (.goto 11, 3) := by decide +kernel
theorem dX11_nearest_31 : decode cX11_nearest 31 = .ok (.aload_n 0, 1) := by decide +kernel
theorem dX11_nearest_32 : decode cX11_nearest 32 = .ok (.getfield 89, 3) := by decide +kernel
theorem dX11_nearest_35 : decode cX11_nearest 35 = .ok (.iload_n 1, 1) := by decide +kernel
theorem dX11_nearest_36 : decode cX11_nearest 36 = .ok (.invokevirtual 322, 3) := by decide +kernel
theorem dX11_nearest_39 : decode cX11_nearest 39 = .ok (.ireturn, 1) := by decide +kernel
theorem dX11_without_0 : decode cX11_without 0 = .ok (.iload_n 1, 1) := by decide +kernel
theorem dX11_without_1 : decode cX11_without 1 = .ok (.iconst 0, 1) := by decide +kernel
theorem dX11_without_2 : decode cX11_without 2 = .ok (.bipush 7, 2) := by decide +kernel
theorem dX11_without_4 : decode cX11_without 4 = .ok (.invokestatic 100, 3) := by decide +kernel
theorem dX11_without_7 : decode cX11_without 7 = .ok (.invokestatic 104, 3) := by decide +kernel
theorem dX11_without_10 : decode cX11_without 10 = .ok (.aload_n 0, 1) := by decide +kernel
theorem dX11_without_11 : decode cX11_without 11 = .ok (.aload_n 0, 1) := by decide +kernel
theorem dX11_without_12 : decode cX11_without 12 = .ok (.getfield 12, 3) := by decide +kernel
theorem dX11_without_15 : decode cX11_without 15 = .ok (.iload_n 1, 1) := by decide +kernel
theorem dX11_without_16 : decode cX11_without 16 = .ok (.invokevirtual 357, 3) := by decide +kernel
theorem dX11_without_19 : decode cX11_without 19 = .ok (.aload_n 0, 1) := by decide +kernel
theorem dX11_without_20 : decode cX11_without 20 = .ok (.getfield 97, 3) := by decide +kernel
theorem dX11_without_23 : decode cX11_without 23 = .ok (.invokevirtual 325, 3) := by decide +kernel
theorem dX11_without_26 : decode cX11_without 26 = .ok (.lreturn, 1) := by decide +kernel
theorem dX11_stands_0 : decode cX11_stands 0 = .ok (.iload_n 1, 1) := by decide +kernel
theorem dX11_stands_1 : decode cX11_stands 1 = .ok (.iconst 0, 1) := by decide +kernel
theorem dX11_stands_2 : decode cX11_stands 2 = .ok (.bipush 7, 2) := by decide +kernel
theorem dX11_stands_4 : decode cX11_stands 4 = .ok (.invokestatic 100, 3) := by decide +kernel
theorem dX11_stands_7 : decode cX11_stands 7 = .ok (.invokestatic 104, 3) := by decide +kernel
theorem dX11_stands_10 : decode cX11_stands 10 = .ok (.aload_n 0, 1) := by decide +kernel
theorem dX11_stands_11 : decode cX11_stands 11 = .ok (.aload_n 0, 1) := by decide +kernel
theorem dX11_stands_12 : decode cX11_stands 12 = .ok (.getfield 12, 3) := by decide +kernel
theorem dX11_stands_15 : decode cX11_stands 15 = .ok (.invokevirtual 136, 3) := by decide +kernel
theorem dX11_stands_18 : decode cX11_stands 18 = .ok (.aload_n 0, 1) := by decide +kernel
theorem dX11_stands_19 : decode cX11_stands 19 = .ok (.getfield 93, 3) := by decide +kernel
theorem dX11_stands_22 : decode cX11_stands 22 = .ok (.invokevirtual 325, 3) := by decide +kernel
theorem dX11_stands_25 : decode cX11_stands 25 = .ok (.lstore_n 2, 1) := by decide +kernel
theorem dX11_stands_26 : decode cX11_stands 26 = .ok (.lload_n 2, 1) := by decide +kernel
theorem dX11_stands_27 : decode cX11_stands 27 = .ok (.lconst 0, 1) := by decide +kernel
theorem dX11_stands_28 : decode cX11_stands 28 = .ok (.lcmp, 1) := by decide +kernel
theorem dX11_stands_29 : decode cX11_stands 29 = .ok (.ifCond .ge 6, 3) := by decide +kernel
theorem dX11_stands_32 : decode cX11_stands 32 = .ok (.lload_n 2, 1) := by decide +kernel
theorem dX11_stands_33 : decode cX11_stands 33 = .ok (.l2i, 1) := by decide +kernel
theorem dX11_stands_34 : decode cX11_stands 34 = .ok (.ireturn, 1) := by decide +kernel
theorem dX11_stands_35 : decode cX11_stands 35 = .ok (.aload_n 0, 1) := by decide +kernel
theorem dX11_stands_36 : decode cX11_stands 36 = .ok (.getfield 12, 3) := by decide +kernel
theorem dX11_stands_39 : decode cX11_stands 39 = .ok (.iload_n 1, 1) := by decide +kernel
theorem dX11_stands_40 : decode cX11_stands 40 = .ok (.invokevirtual 357, 3) := by decide +kernel
theorem dX11_stands_43 : decode cX11_stands 43 = .ok (.istore 4, 2) := by decide +kernel
theorem dX11_stands_45 : decode cX11_stands 45 = .ok (.aload_n 0, 1) := by decide +kernel
theorem dX11_stands_46 : decode cX11_stands 46 = .ok (.iload 4, 2) := by decide +kernel
theorem dX11_stands_48 : decode cX11_stands 48 = .ok (.aload_n 0, 1) := by decide +kernel
theorem dX11_stands_49 : decode cX11_stands 49 = .ok (.getfield 97, 3) := by decide +kernel
theorem dX11_stands_52 : decode cX11_stands 52 = .ok (.invokevirtual 325, 3) := by decide +kernel
theorem dX11_stands_55 : decode cX11_stands 55 = .ok (.lstore_n 2, 1) := by decide +kernel
theorem dX11_stands_56 : decode cX11_stands 56 = .ok (.lload_n 2, 1) := by decide +kernel
theorem dX11_stands_57 : decode cX11_stands 57 = .ok (.lconst 0, 1) := by decide +kernel
theorem dX11_stands_58 : decode cX11_stands 58 = .ok (.lcmp, 1) := by decide +kernel
theorem dX11_stands_59 : decode cX11_stands 59 = .ok (.ifCond .ge 6, 3) := by decide +kernel
theorem dX11_stands_62 : decode cX11_stands 62 = .ok (.lload_n 2, 1) := by decide +kernel
theorem dX11_stands_63 : decode cX11_stands 63 = .ok (.l2i, 1) := by decide +kernel
theorem dX11_stands_64 : decode cX11_stands 64 = .ok (.ireturn, 1) := by decide +kernel
theorem dX11_stands_65 : decode cX11_stands 65 = .ok (.iconst 0, 1) := by decide +kernel
theorem dX11_stands_66 : decode cX11_stands 66 = .ok (.istore 5, 2) := by decide +kernel
theorem dX11_stands_68 : decode cX11_stands 68 = .ok (.iconst 0, 1) := by decide +kernel
theorem dX11_stands_69 : decode cX11_stands 69 = .ok (.istore 6, 2) := by decide +kernel
theorem dX11_stands_71 : decode cX11_stands 71 = .ok (.iload 6, 2) := by decide +kernel
theorem dX11_stands_73 : decode cX11_stands 73 = .ok (.aload_n 0, 1) := by decide +kernel
theorem dX11_stands_74 : decode cX11_stands 74 = .ok (.getfield 12, 3) := by decide +kernel
theorem dX11_stands_77 : decode cX11_stands 77 = .ok (.getfield 108, 3) := by decide +kernel
theorem dX11_stands_80 : decode cX11_stands 80 = .ok (.if_icmp .ge 50, 3) := by decide +kernel
theorem dX11_stands_83 : decode cX11_stands 83 = .ok (.aload_n 0, 1) := by decide +kernel
theorem dX11_stands_84 : decode cX11_stands 84 = .ok (.aload_n 0, 1) := by decide +kernel
theorem dX11_stands_85 : decode cX11_stands 85 = .ok (.getfield 93, 3) := by decide +kernel
theorem dX11_stands_88 : decode cX11_stands 88 = .ok (.iload 6, 2) := by decide +kernel
theorem dX11_stands_90 : decode cX11_stands 90 = .ok (.invokevirtual 360, 3) := by decide +kernel
theorem dX11_stands_93 : decode cX11_stands 93 = .ok (.iload 4, 2) := by decide +kernel
theorem dX11_stands_95 : decode cX11_stands 95 = .ok (.iand, 1) := by decide +kernel
theorem dX11_stands_96 : decode cX11_stands 96 = .ok (.istore 7, 2) := by decide +kernel
theorem dX11_stands_98 : decode cX11_stands 98 = .ok (.iload 7, 2) := by decide +kernel
theorem dX11_stands_100 : decode cX11_stands 100 = .ok (.ifCond .eq 24, 3) := by decide +kernel
theorem dX11_stands_103 : decode cX11_stands 103 = .ok (.iload 7, 2) := by decide +kernel
theorem dX11_stands_105 : decode cX11_stands 105 = .ok (.aload_n 0, 1) := by decide +kernel
theorem dX11_stands_106 : decode cX11_stands 106 = .ok (.aload_n 0, 1) := by decide +kernel
theorem dX11_stands_107 : decode cX11_stands 107 = .ok (.getfield 97, 3) := by decide +kernel
theorem dX11_stands_110 : decode cX11_stands 110 = .ok (.iload 7, 2) := by decide +kernel
theorem dX11_stands_112 : decode cX11_stands 112 = .ok (.invokestatic 364, 3) := by decide +kernel
theorem dX11_stands_115 : decode cX11_stands 115 = .ok (.invokevirtual 360, 3) := by decide +kernel
theorem dX11_stands_118 : decode cX11_stands 118 = .ok (.if_icmp .ne 6, 3) := by decide +kernel
theorem dX11_stands_121 : decode cX11_stands 121 = .ok (.iinc 5 1, 3) := by decide +kernel
theorem dX11_stands_124 : decode cX11_stands 124 = .ok (.iinc 6 1, 3) := by decide +kernel
theorem dX11_stands_127 : decode cX11_stands 127 = .ok (.goto (-56), 3) := by decide +kernel
theorem dX11_stands_130 : decode cX11_stands 130 = .ok (.iload 5, 2) := by decide +kernel
theorem dX11_stands_132 : decode cX11_stands 132 = .ok (.ireturn, 1) := by decide +kernel
theorem dX11_mark_0 : decode cX11_mark 0 = .ok (.aload_n 0, 1) := by decide +kernel
theorem dX11_mark_1 : decode cX11_mark 1 = .ok (.getfield 48, 3) := by decide +kernel
theorem dX11_mark_4 : decode cX11_mark 4 = .ok (.invokevirtual 367, 3) := by decide +kernel
theorem dX11_mark_7 : decode cX11_mark 7 = .ok (.ifCond .eq 13, 3) := by decide +kernel
theorem dX11_mark_10 : decode cX11_mark 10 = .ok (.aload_n 0, 1) := by decide +kernel
theorem dX11_mark_11 : decode cX11_mark 11 = .ok (.getfield 48, 3) := by decide +kernel
theorem dX11_mark_14 : decode cX11_mark 14 = .ok (.getfield 371, 3) := by decide +kernel
theorem dX11_mark_17 : decode cX11_mark 17 = .ok (.goto 4, 3) := by decide +kernel
theorem dX11_mark_20 : decode cX11_mark 20 = .ok (.iconst (-1), 1) := by decide +kernel
theorem dX11_mark_21 : decode cX11_mark 21 = .ok (.ireturn, 1) := by decide +kernel
theorem dX11_back_0 : decode cX11_back 0 = .ok (.aload_n 0, 1) := by decide +kernel
theorem dX11_back_1 : decode cX11_back 1 = .ok (.getfield 48, 3) := by decide +kernel
theorem dX11_back_4 : decode cX11_back 4 = .ok (.invokevirtual 374, 3) := by decide +kernel
theorem dX11_back_7 : decode cX11_back 7 = .ok (.ifCond .eq 13, 3) := by decide +kernel
theorem dX11_back_10 : decode cX11_back 10 = .ok (.aload_n 0, 1) := by decide +kernel
theorem dX11_back_11 : decode cX11_back 11 = .ok (.getfield 48, 3) := by decide +kernel
theorem dX11_back_14 : decode cX11_back 14 = .ok (.getfield 371, 3) := by decide +kernel
theorem dX11_back_17 : decode cX11_back 17 = .ok (.goto 4, 3) := by decide +kernel
theorem dX11_back_20 : decode cX11_back 20 = .ok (.iconst (-1), 1) := by decide +kernel
theorem dX11_back_21 : decode cX11_back 21 = .ok (.ireturn, 1) := by decide +kernel
theorem dX11_count_0 : decode cX11_count 0 = .ok (.iload_n 1, 1) := by decide +kernel
theorem dX11_count_1 : decode cX11_count 1 = .ok (.tableswitch 145 0 9 #[55, 63, 74, 82, 90, 98, 113, 121, 129, 137], 55) := by decide +kernel
theorem dX11_count_56 : decode cX11_count 56 = .ok (.aload_n 0, 1) := by decide +kernel
theorem dX11_count_57 : decode cX11_count 57 = .ok (.getfield 12, 3) := by decide +kernel
theorem dX11_count_60 : decode cX11_count 60 = .ok (.getfield 108, 3) := by decide +kernel
theorem dX11_count_63 : decode cX11_count 63 = .ok (.ireturn, 1) := by decide +kernel
theorem dX11_count_64 : decode cX11_count 64 = .ok (.aload_n 0, 1) := by decide +kernel
theorem dX11_count_65 : decode cX11_count 65 = .ok (.getfield 30, 3) := by decide +kernel
theorem dX11_count_68 : decode cX11_count 68 = .ok (.getfield 174, 3) := by decide +kernel
theorem dX11_count_71 : decode cX11_count 71 = .ok (.getfield 177, 3) := by decide +kernel
theorem dX11_count_74 : decode cX11_count 74 = .ok (.ireturn, 1) := by decide +kernel
theorem dX11_count_75 : decode cX11_count 75 = .ok (.aload_n 0, 1) := by decide +kernel
theorem dX11_count_76 : decode cX11_count 76 = .ok (.getfield 30, 3) := by decide +kernel
theorem dX11_count_79 : decode cX11_count 79 = .ok (.getfield 203, 3) := by decide +kernel
theorem dX11_count_82 : decode cX11_count 82 = .ok (.ireturn, 1) := by decide +kernel
theorem dX11_count_83 : decode cX11_count 83 = .ok (.aload_n 0, 1) := by decide +kernel
theorem dX11_count_84 : decode cX11_count 84 = .ok (.getfield 39, 3) := by decide +kernel
theorem dX11_count_87 : decode cX11_count 87 = .ok (.getfield 219, 3) := by decide +kernel
theorem dX11_count_90 : decode cX11_count 90 = .ok (.ireturn, 1) := by decide +kernel
theorem dX11_count_91 : decode cX11_count 91 = .ok (.aload_n 0, 1) := by decide +kernel
theorem dX11_count_92 : decode cX11_count 92 = .ok (.getfield 48, 3) := by decide +kernel
theorem dX11_count_95 : decode cX11_count 95 = .ok (.invokevirtual 377, 3) := by decide +kernel
theorem dX11_count_98 : decode cX11_count 98 = .ok (.ireturn, 1) := by decide +kernel
theorem dX11_count_99 : decode cX11_count 99 = .ok (.aload_n 0, 1) := by decide +kernel
theorem dX11_count_100 : decode cX11_count 100 = .ok (.getfield 73, 3) := by decide +kernel
theorem dX11_count_103 : decode cX11_count 103 = .ok (.aload_n 0, 1) := by decide +kernel
theorem dX11_count_104 : decode cX11_count 104 = .ok (.getfield 12, 3) := by decide +kernel
theorem dX11_count_107 : decode cX11_count 107 = .ok (.invokevirtual 136, 3) := by decide +kernel
theorem dX11_count_110 : decode cX11_count 110 = .ok (.invokevirtual 140, 3) := by decide +kernel
theorem dX11_count_113 : decode cX11_count 113 = .ok (.ireturn, 1) := by decide +kernel
theorem dX11_count_114 : decode cX11_count 114 = .ok (.aload_n 0, 1) := by decide +kernel
theorem dX11_count_115 : decode cX11_count 115 = .ok (.getfield 66, 3) := by decide +kernel
theorem dX11_count_118 : decode cX11_count 118 = .ok (.getfield 299, 3) := by decide +kernel
theorem dX11_count_121 : decode cX11_count 121 = .ok (.ireturn, 1) := by decide +kernel
theorem dX11_count_122 : decode cX11_count 122 = .ok (.aload_n 0, 1) := by decide +kernel
theorem dX11_count_123 : decode cX11_count 123 = .ok (.getfield 48, 3) := by decide +kernel
theorem dX11_count_126 : decode cX11_count 126 = .ok (.getfield 371, 3) := by decide +kernel
theorem dX11_count_129 : decode cX11_count 129 = .ok (.ireturn, 1) := by decide +kernel
theorem dX11_count_130 : decode cX11_count 130 = .ok (.aload_n 0, 1) := by decide +kernel
theorem dX11_count_131 : decode cX11_count 131 = .ok (.getfield 21, 3) := by decide +kernel
theorem dX11_count_134 : decode cX11_count 134 = .ok (.getfield 157, 3) := by decide +kernel
theorem dX11_count_137 : decode cX11_count 137 = .ok (.ireturn, 1) := by decide +kernel
theorem dX11_count_138 : decode cX11_count 138 = .ok (.aload_n 0, 1) := by decide +kernel
theorem dX11_count_139 : decode cX11_count 139 = .ok (.getfield 30, 3) := by decide +kernel
theorem dX11_count_142 : decode cX11_count 142 = .ok (.invokevirtual 380, 3) := by decide +kernel
theorem dX11_count_145 : decode cX11_count 145 = .ok (.ireturn, 1) := by decide +kernel
theorem dX11_count_146 : decode cX11_count 146 = .ok (.iconst (-1), 1) := by decide +kernel
theorem dX11_count_147 : decode cX11_count 147 = .ok (.ireturn, 1) := by decide +kernel
theorem dX11_isWithin_0 : decode cX11_isWithin 0 = .ok (.iload_n 0, 1) := by decide +kernel
theorem dX11_isWithin_1 : decode cX11_isWithin 1 = .ok (.iload_n 1, 1) := by decide +kernel
theorem dX11_isWithin_2 : decode cX11_isWithin 2 = .ok (.if_icmp .lt 12, 3) := by decide +kernel
theorem dX11_isWithin_5 : decode cX11_isWithin 5 = .ok (.iload_n 0, 1) := by decide +kernel
theorem dX11_isWithin_6 : decode cX11_isWithin 6 = .ok (.iload_n 2, 1) := by decide +kernel
theorem dX11_isWithin_7 : decode cX11_isWithin 7 = .ok (.if_icmp .gt 7, 3) := by decide +kernel
theorem dX11_isWithin_10 : decode cX11_isWithin 10 = .ok (.iconst 1, 1) := by decide +kernel
theorem dX11_isWithin_11 : decode cX11_isWithin 11 = .ok (.goto 4, 3) := by decide +kernel
theorem dX11_isWithin_14 : decode cX11_isWithin 14 = .ok (.iconst 0, 1) := by decide +kernel
theorem dX11_isWithin_15 : decode cX11_isWithin 15 = .ok (.ireturn, 1) := by decide +kernel
theorem dX11_refuseUnless_0 : decode cX11_refuseUnless 0 = .ok (.iload_n 0, 1) := by decide +kernel
theorem dX11_refuseUnless_1 : decode cX11_refuseUnless 1 = .ok (.ifCond .ne 11, 3) := by decide +kernel
theorem dX11_refuseUnless_4 : decode cX11_refuseUnless 4 = .ok (.new 383, 3) := by decide +kernel
theorem dX11_refuseUnless_7 : decode cX11_refuseUnless 7 = .ok (.dup, 1) := by decide +kernel
theorem dX11_refuseUnless_8 : decode cX11_refuseUnless 8 = .ok (.invokespecial 385, 3) := by decide +kernel
theorem dX11_refuseUnless_11 : decode cX11_refuseUnless 11 = .ok (.athrow, 1) := by decide +kernel
theorem dX11_refuseUnless_12 : decode cX11_refuseUnless 12 = .ok (.return_, 1) := by decide +kernel
theorem dX11_needEntry_0 : decode cX11_needEntry 0 = .ok (.iload_n 1, 1) := by decide +kernel
theorem dX11_needEntry_1 : decode cX11_needEntry 1 = .ok (.ifCond .lt 14, 3) := by decide +kernel
theorem dX11_needEntry_4 : decode cX11_needEntry 4 = .ok (.iload_n 1, 1) := by decide +kernel
theorem dX11_needEntry_5 : decode cX11_needEntry 5 = .ok (.aload_n 0, 1) := by decide +kernel
theorem dX11_needEntry_6 : decode cX11_needEntry 6 = .ok (.getfield 12, 3) := by decide +kernel
theorem dX11_needEntry_9 : decode cX11_needEntry 9 = .ok (.getfield 108, 3) := by decide +kernel
theorem dX11_needEntry_12 : decode cX11_needEntry 12 = .ok (.if_icmp .lt 11, 3) := by decide +kernel
theorem dX11_needEntry_15 : decode cX11_needEntry 15 = .ok (.new 386, 3) := by decide +kernel
theorem dX11_needEntry_18 : decode cX11_needEntry 18 = .ok (.dup, 1) := by decide +kernel
theorem dX11_needEntry_19 : decode cX11_needEntry 19 = .ok (.invokespecial 388, 3) := by decide +kernel
theorem dX11_needEntry_22 : decode cX11_needEntry 22 = .ok (.athrow, 1) := by decide +kernel
theorem dX11_needEntry_23 : decode cX11_needEntry 23 = .ok (.return_, 1) := by decide +kernel
theorem dX11_needPair_0 : decode cX11_needPair 0 = .ok (.aload_n 0, 1) := by decide +kernel
theorem dX11_needPair_1 : decode cX11_needPair 1 = .ok (.iload_n 1, 1) := by decide +kernel
theorem dX11_needPair_2 : decode cX11_needPair 2 = .ok (.invokevirtual 126, 3) := by decide +kernel
theorem dX11_needPair_5 : decode cX11_needPair 5 = .ok (.aload_n 0, 1) := by decide +kernel
theorem dX11_needPair_6 : decode cX11_needPair 6 = .ok (.iload_n 2, 1) := by decide +kernel
theorem dX11_needPair_7 : decode cX11_needPair 7 = .ok (.invokevirtual 126, 3) := by decide +kernel
theorem dX11_needPair_10 : decode cX11_needPair 10 = .ok (.iload_n 1, 1) := by decide +kernel
theorem dX11_needPair_11 : decode cX11_needPair 11 = .ok (.iload_n 2, 1) := by decide +kernel
theorem dX11_needPair_12 : decode cX11_needPair 12 = .ok (.if_icmp .eq 7, 3) := by decide +kernel
theorem dX11_needPair_15 : decode cX11_needPair 15 = .ok (.iconst 1, 1) := by decide +kernel
theorem dX11_needPair_16 : decode cX11_needPair 16 = .ok (.goto 4, 3) := by decide +kernel
theorem dX11_needPair_19 : decode cX11_needPair 19 = .ok (.iconst 0, 1) := by decide +kernel
theorem dX11_needPair_20 : decode cX11_needPair 20 = .ok (.invokestatic 104, 3) := by decide +kernel
theorem dX11_needPair_23 : decode cX11_needPair 23 = .ok (.return_, 1) := by decide +kernel
theorem dX11_solvePartOf_0 : decode cX11_solvePartOf 0 = .ok (.aload_n 0, 1) := by decide +kernel
theorem dX11_solvePartOf_1 : decode cX11_solvePartOf 1 = .ok (.getfield 73, 3) := by decide +kernel
theorem dX11_solvePartOf_4 : decode cX11_solvePartOf 4 = .ok (.aload_n 0, 1) := by decide +kernel
theorem dX11_solvePartOf_5 : decode cX11_solvePartOf 5 = .ok (.getfield 12, 3) := by decide +kernel
theorem dX11_solvePartOf_8 : decode cX11_solvePartOf 8 = .ok (.invokevirtual 136, 3) := by decide +kernel
theorem dX11_solvePartOf_11 : decode cX11_solvePartOf 11 = .ok (.invokevirtual 140, 3) := by decide +kernel
theorem dX11_solvePartOf_14 : decode cX11_solvePartOf 14 = .ok (.pop, 1) := by decide +kernel
theorem dX11_solvePartOf_15 : decode cX11_solvePartOf 15 = .ok (.aload_n 0, 1) := by decide +kernel
theorem dX11_solvePartOf_16 : decode cX11_solvePartOf 16 = .ok (.aload_n 0, 1) := by decide +kernel
theorem dX11_solvePartOf_17 : decode cX11_solvePartOf 17 = .ok (.getfield 73, 3) := by decide +kernel
theorem dX11_solvePartOf_20 : decode cX11_solvePartOf 20 = .ok (.iload_n 1, 1) := by decide +kernel
theorem dX11_solvePartOf_21 : decode cX11_solvePartOf 21 = .ok (.invokevirtual 147, 3) := by decide +kernel
theorem dX11_solvePartOf_24 : decode cX11_solvePartOf 24 = .ok (.invokevirtual 389, 3) := by decide +kernel
theorem dX11_solvePartOf_27 : decode cX11_solvePartOf 27 = .ok (.ireturn, 1) := by decide +kernel
theorem dX11_solve_0 : decode cX11_solve 0 = .ok (.iload_n 1, 1) := by decide +kernel
theorem dX11_solve_1 : decode cX11_solve 1 = .ok (.invokestatic 150, 3) := by decide +kernel
theorem dX11_solve_4 : decode cX11_solve 4 = .ok (.bipush 10, 2) := by decide +kernel
theorem dX11_solve_6 : decode cX11_solve 6 = .ok (.if_icmp .le 6, 3) := by decide +kernel
theorem dX11_solve_9 : decode cX11_solve 9 = .ok (.bipush (-2), 2) := by decide +kernel
theorem dX11_solve_11 : decode cX11_solve 11 = .ok (.ireturn, 1) := by decide +kernel
theorem dX11_solve_12 : decode cX11_solve 12 = .ok (.aload_n 0, 1) := by decide +kernel
theorem dX11_solve_13 : decode cX11_solve 13 = .ok (.getfield 80, 3) := by decide +kernel
theorem dX11_solve_16 : decode cX11_solve 16 = .ok (.iload_n 1, 1) := by decide +kernel
theorem dX11_solve_17 : decode cX11_solve 17 = .ok (.invokevirtual 392, 3) := by decide +kernel
theorem dX11_solve_20 : decode cX11_solve 20 = .ok (.aload_n 0, 1) := by decide +kernel
theorem dX11_solve_21 : decode cX11_solve 21 = .ok (.getfield 89, 3) := by decide +kernel
theorem dX11_solve_24 : decode cX11_solve 24 = .ok (.invokevirtual 395, 3) := by decide +kernel
theorem dX11_solve_27 : decode cX11_solve 27 = .ok (.ifCond .eq 7, 3) := by decide +kernel
theorem dX11_solve_30 : decode cX11_solve 30 = .ok (.iconst 1, 1) := by decide +kernel
theorem dX11_solve_31 : decode cX11_solve 31 = .ok (.goto 4, 3) := by decide +kernel
theorem dX11_solve_34 : decode cX11_solve 34 = .ok (.iconst (-1), 1) := by decide +kernel
theorem dX11_solve_35 : decode cX11_solve 35 = .ok (.ireturn, 1) := by decide +kernel
theorem dX11_listPartOf_0 : decode cX11_listPartOf 0 = .ok (.aload_n 0, 1) := by decide +kernel
theorem dX11_listPartOf_1 : decode cX11_listPartOf 1 = .ok (.iload_n 1, 1) := by decide +kernel
theorem dX11_listPartOf_2 : decode cX11_listPartOf 2 = .ok (.invokevirtual 311, 3) := by decide +kernel
theorem dX11_listPartOf_5 : decode cX11_listPartOf 5 = .ok (.istore_n 2, 1) := by decide +kernel
theorem dX11_listPartOf_6 : decode cX11_listPartOf 6 = .ok (.iload_n 2, 1) := by decide +kernel
theorem dX11_listPartOf_7 : decode cX11_listPartOf 7 = .ok (.ifCond .le 10, 3) := by decide +kernel
theorem dX11_listPartOf_10 : decode cX11_listPartOf 10 = .ok (.aload_n 0, 1) := by decide +kernel
theorem dX11_listPartOf_11 : decode cX11_listPartOf 11 = .ok (.getfield 89, 3) := by decide +kernel
theorem dX11_listPartOf_14 : decode cX11_listPartOf 14 = .ok (.invokevirtual 398, 3) := by decide +kernel
theorem dX11_listPartOf_17 : decode cX11_listPartOf 17 = .ok (.iload_n 2, 1) := by decide +kernel
theorem dX11_listPartOf_18 : decode cX11_listPartOf 18 = .ok (.ireturn, 1) := by decide +kernel
theorem dX11_solveAmong_0 : decode cX11_solveAmong 0 = .ok (.aload_n 0, 1) := by decide +kernel
theorem dX11_solveAmong_1 : decode cX11_solveAmong 1 = .ok (.getfield 73, 3) := by decide +kernel
theorem dX11_solveAmong_4 : decode cX11_solveAmong 4 = .ok (.iload_n 1, 1) := by decide +kernel
theorem dX11_solveAmong_5 : decode cX11_solveAmong 5 = .ok (.invokevirtual 140, 3) := by decide +kernel
theorem dX11_solveAmong_8 : decode cX11_solveAmong 8 = .ok (.pop, 1) := by decide +kernel
theorem dX11_solveAmong_9 : decode cX11_solveAmong 9 = .ok (.aload_n 2, 1) := by decide +kernel
theorem dX11_solveAmong_10 : decode cX11_solveAmong 10 = .ok (.iconst (-1), 1) := by decide +kernel
theorem dX11_solveAmong_11 : decode cX11_solveAmong 11 = .ok (.invokestatic 401, 3) := by decide +kernel
theorem dX11_solveAmong_14 : decode cX11_solveAmong 14 = .ok (.lconst 0, 1) := by decide +kernel
theorem dX11_solveAmong_15 : decode cX11_solveAmong 15 = .ok (.lstore_n 3, 1) := by decide +kernel
theorem dX11_solveAmong_16 : decode cX11_solveAmong 16 = .ok (.iconst 0, 1) := by decide +kernel
theorem dX11_solveAmong_17 : decode cX11_solveAmong 17 = .ok (.istore 5, 2) := by decide +kernel
theorem dX11_solveAmong_19 : decode cX11_solveAmong 19 = .ok (.iconst 0, 1) := by decide +kernel
theorem dX11_solveAmong_20 : decode cX11_solveAmong 20 = .ok (.istore 6, 2) := by decide +kernel
theorem dX11_solveAmong_22 : decode cX11_solveAmong 22 = .ok (.iload 6, 2) := by decide +kernel
theorem dX11_solveAmong_24 : decode cX11_solveAmong 24 = .ok (.aload_n 0, 1) := by decide +kernel
theorem dX11_solveAmong_25 : decode cX11_solveAmong 25 = .ok (.getfield 12, 3) := by decide +kernel
theorem dX11_solveAmong_28 : decode cX11_solveAmong 28 = .ok (.getfield 108, 3) := by decide +kernel
theorem dX11_solveAmong_31 : decode cX11_solveAmong 31 = .ok (.if_icmp .ge 91, 3) := by decide +kernel
theorem dX11_solveAmong_34 : decode cX11_solveAmong 34 = .ok (.aload_n 0, 1) := by decide +kernel
theorem dX11_solveAmong_35 : decode cX11_solveAmong 35 = .ok (.getfield 73, 3) := by decide +kernel
theorem dX11_solveAmong_38 : decode cX11_solveAmong 38 = .ok (.getfield 144, 3) := by decide +kernel
theorem dX11_solveAmong_41 : decode cX11_solveAmong 41 = .ok (.iload 6, 2) := by decide +kernel
theorem dX11_solveAmong_43 : decode cX11_solveAmong 43 = .ok (.iaload, 1) := by decide +kernel
theorem dX11_solveAmong_44 : decode cX11_solveAmong 44 = .ok (.iload 6, 2) := by decide +kernel
theorem dX11_solveAmong_46 : decode cX11_solveAmong 46 = .ok (.if_icmp .eq 6, 3) := by decide +kernel
theorem dX11_solveAmong_49 : decode cX11_solveAmong 49 = .ok (.goto 67, 3) := by decide +kernel
theorem dX11_solveAmong_52 : decode cX11_solveAmong 52 = .ok (.aload_n 0, 1) := by decide +kernel
theorem dX11_solveAmong_53 : decode cX11_solveAmong 53 = .ok (.aload_n 0, 1) := by decide +kernel
theorem dX11_solveAmong_54 : decode cX11_solveAmong 54 = .ok (.getfield 73, 3) := by decide +kernel
theorem dX11_solveAmong_57 : decode cX11_solveAmong 57 = .ok (.iload 6, 2) := by decide +kernel
theorem dX11_solveAmong_59 : decode cX11_solveAmong 59 = .ok (.invokevirtual 147, 3) := by decide +kernel
theorem dX11_solveAmong_62 : decode cX11_solveAmong 62 = .ok (.invokevirtual 389, 3) := by decide +kernel
theorem dX11_solveAmong_65 : decode cX11_solveAmong 65 = .ok (.istore 7, 2) := by decide +kernel
theorem dX11_solveAmong_67 : decode cX11_solveAmong 67 = .ok (.iload 7, 2) := by decide +kernel
theorem dX11_solveAmong_69 : decode cX11_solveAmong 69 = .ok (.iconst (-1), 1) := by decide +kernel
theorem dX11_solveAmong_70 : decode cX11_solveAmong 70 = .ok (.if_icmp .ne 7, 3) := by decide +kernel
theorem dX11_solveAmong_73 : decode cX11_solveAmong 73 = .ok (.ldc2_w 291, 3) := by decide +kernel
theorem dX11_solveAmong_76 : decode cX11_solveAmong 76 = .ok (.lreturn, 1) := by decide +kernel
theorem dX11_solveAmong_77 : decode cX11_solveAmong 77 = .ok (.iload 7, 2) := by decide +kernel
theorem dX11_solveAmong_79 : decode cX11_solveAmong 79 = .ok (.bipush (-2), 2) := by decide +kernel
theorem dX11_solveAmong_81 : decode cX11_solveAmong 81 = .ok (.if_icmp .ne 9, 3) := by decide +kernel
theorem dX11_solveAmong_84 : decode cX11_solveAmong 84 = .ok (.iconst 1, 1) := by decide +kernel
theorem dX11_solveAmong_85 : decode cX11_solveAmong 85 = .ok (.istore 5, 2) := by decide +kernel
theorem dX11_solveAmong_87 : decode cX11_solveAmong 87 = .ok (.goto 29, 3) := by decide +kernel
theorem dX11_solveAmong_90 : decode cX11_solveAmong 90 = .ok (.lload_n 3, 1) := by decide +kernel
theorem dX11_solveAmong_91 : decode cX11_solveAmong 91 = .ok (.aload_n 0, 1) := by decide +kernel
theorem dX11_solveAmong_92 : decode cX11_solveAmong 92 = .ok (.getfield 89, 3) := by decide +kernel
theorem dX11_solveAmong_95 : decode cX11_solveAmong 95 = .ok (.getfield 314, 3) := by decide +kernel
theorem dX11_solveAmong_98 : decode cX11_solveAmong 98 = .ok (.i2l, 1) := by decide +kernel
theorem dX11_solveAmong_99 : decode cX11_solveAmong 99 = .ok (.ladd, 1) := by decide +kernel
theorem dX11_solveAmong_100 : decode cX11_solveAmong 100 = .ok (.lstore_n 3, 1) := by decide +kernel
theorem dX11_solveAmong_101 : decode cX11_solveAmong 101 = .ok (.aload_n 0, 1) := by decide +kernel
theorem dX11_solveAmong_102 : decode cX11_solveAmong 102 = .ok (.getfield 89, 3) := by decide +kernel
theorem dX11_solveAmong_105 : decode cX11_solveAmong 105 = .ok (.invokevirtual 398, 3) := by decide +kernel
theorem dX11_solveAmong_108 : decode cX11_solveAmong 108 = .ok (.aload_n 0, 1) := by decide +kernel
theorem dX11_solveAmong_109 : decode cX11_solveAmong 109 = .ok (.getfield 89, 3) := by decide +kernel
theorem dX11_solveAmong_112 : decode cX11_solveAmong 112 = .ok (.aload_n 2, 1) := by decide +kernel
theorem dX11_solveAmong_113 : decode cX11_solveAmong 113 = .ok (.invokevirtual 407, 3) := by decide +kernel
theorem dX11_solveAmong_116 : decode cX11_solveAmong 116 = .ok (.iinc 6 1, 3) := by decide +kernel
theorem dX11_solveAmong_119 : decode cX11_solveAmong 119 = .ok (.goto (-97), 3) := by decide +kernel
theorem dX11_solveAmong_122 : decode cX11_solveAmong 122 = .ok (.iload 5, 2) := by decide +kernel
theorem dX11_solveAmong_124 : decode cX11_solveAmong 124 = .ok (.ifCond .eq 9, 3) := by decide +kernel
theorem dX11_solveAmong_127 : decode cX11_solveAmong 127 = .ok (.ldc2_w 297, 3) := by decide +kernel
theorem dX11_solveAmong_130 : decode cX11_solveAmong 130 = .ok (.goto 4, 3) := by decide +kernel
theorem dX11_solveAmong_133 : decode cX11_solveAmong 133 = .ok (.lload_n 3, 1) := by decide +kernel
theorem dX11_solveAmong_134 : decode cX11_solveAmong 134 = .ok (.lreturn, 1) := by decide +kernel
theorem dX11_edgeOf_0 : decode cX11_edgeOf 0 = .ok (.aload_n 0, 1) := by decide +kernel
theorem dX11_edgeOf_1 : decode cX11_edgeOf 1 = .ok (.getfield 73, 3) := by decide +kernel
theorem dX11_edgeOf_4 : decode cX11_edgeOf 4 = .ok (.aload_n 0, 1) := by decide +kernel
theorem dX11_edgeOf_5 : decode cX11_edgeOf 5 = .ok (.getfield 12, 3) := by decide +kernel
theorem dX11_edgeOf_8 : decode cX11_edgeOf 8 = .ok (.invokevirtual 136, 3) := by decide +kernel
theorem dX11_edgeOf_11 : decode cX11_edgeOf 11 = .ok (.invokevirtual 140, 3) := by decide +kernel
theorem dX11_edgeOf_14 : decode cX11_edgeOf 14 = .ok (.pop, 1) := by decide +kernel
theorem dX11_edgeOf_15 : decode cX11_edgeOf 15 = .ok (.aload_n 0, 1) := by decide +kernel
theorem dX11_edgeOf_16 : decode cX11_edgeOf 16 = .ok (.getfield 73, 3) := by decide +kernel
theorem dX11_edgeOf_19 : decode cX11_edgeOf 19 = .ok (.iload_n 1, 1) := by decide +kernel
theorem dX11_edgeOf_20 : decode cX11_edgeOf 20 = .ok (.invokevirtual 147, 3) := by decide +kernel
theorem dX11_edgeOf_23 : decode cX11_edgeOf 23 = .ok (.istore_n 3, 1) := by decide +kernel
theorem dX11_edgeOf_24 : decode cX11_edgeOf 24 = .ok (.iload_n 3, 1) := by decide +kernel
theorem dX11_edgeOf_25 : decode cX11_edgeOf 25 = .ok (.invokestatic 150, 3) := by decide +kernel
theorem dX11_edgeOf_28 : decode cX11_edgeOf 28 = .ok (.bipush 10, 2) := by decide +kernel
theorem dX11_edgeOf_30 : decode cX11_edgeOf 30 = .ok (.if_icmp .gt 24, 3) := by decide +kernel
theorem dX11_edgeOf_33 : decode cX11_edgeOf 33 = .ok (.aload_n 0, 1) := by decide +kernel
theorem dX11_edgeOf_34 : decode cX11_edgeOf 34 = .ok (.getfield 73, 3) := by decide +kernel
theorem dX11_edgeOf_37 : decode cX11_edgeOf 37 = .ok (.getfield 144, 3) := by decide +kernel
theorem dX11_edgeOf_40 : decode cX11_edgeOf 40 = .ok (.iload_n 1, 1) := by decide +kernel
theorem dX11_edgeOf_41 : decode cX11_edgeOf 41 = .ok (.iaload, 1) := by decide +kernel
theorem dX11_edgeOf_42 : decode cX11_edgeOf 42 = .ok (.aload_n 0, 1) := by decide +kernel
theorem dX11_edgeOf_43 : decode cX11_edgeOf 43 = .ok (.getfield 73, 3) := by decide +kernel
theorem dX11_edgeOf_46 : decode cX11_edgeOf 46 = .ok (.getfield 144, 3) := by decide +kernel
theorem dX11_edgeOf_49 : decode cX11_edgeOf 49 = .ok (.iload_n 2, 1) := by decide +kernel
theorem dX11_edgeOf_50 : decode cX11_edgeOf 50 = .ok (.iaload, 1) := by decide +kernel
theorem dX11_edgeOf_51 : decode cX11_edgeOf 51 = .ok (.if_icmp .eq 7, 3) := by decide +kernel
theorem dX11_edgeOf_54 : decode cX11_edgeOf 54 = .ok (.ldc2_w 251, 3) := by decide +kernel
theorem dX11_edgeOf_57 : decode cX11_edgeOf 57 = .ok (.lreturn, 1) := by decide +kernel
theorem dX11_edgeOf_58 : decode cX11_edgeOf 58 = .ok (.aload_n 0, 1) := by decide +kernel
theorem dX11_edgeOf_59 : decode cX11_edgeOf 59 = .ok (.getfield 80, 3) := by decide +kernel
theorem dX11_edgeOf_62 : decode cX11_edgeOf 62 = .ok (.iload_n 3, 1) := by decide +kernel
theorem dX11_edgeOf_63 : decode cX11_edgeOf 63 = .ok (.invokevirtual 392, 3) := by decide +kernel
theorem dX11_edgeOf_66 : decode cX11_edgeOf 66 = .ok (.aload_n 0, 1) := by decide +kernel
theorem dX11_edgeOf_67 : decode cX11_edgeOf 67 = .ok (.getfield 80, 3) := by decide +kernel
theorem dX11_edgeOf_70 : decode cX11_edgeOf 70 = .ok (.iload_n 1, 1) := by decide +kernel
theorem dX11_edgeOf_71 : decode cX11_edgeOf 71 = .ok (.iload_n 2, 1) := by decide +kernel
theorem dX11_edgeOf_72 : decode cX11_edgeOf 72 = .ok (.iconst 1, 1) := by decide +kernel
theorem dX11_edgeOf_73 : decode cX11_edgeOf 73 = .ok (.invokevirtual 410, 3) := by decide +kernel
theorem dX11_edgeOf_76 : decode cX11_edgeOf 76 = .ok (.aload_n 0, 1) := by decide +kernel
theorem dX11_edgeOf_77 : decode cX11_edgeOf 77 = .ok (.getfield 89, 3) := by decide +kernel
theorem dX11_edgeOf_80 : decode cX11_edgeOf 80 = .ok (.invokevirtual 395, 3) := by decide +kernel
theorem dX11_edgeOf_83 : decode cX11_edgeOf 83 = .ok (.ifCond .ne 7, 3) := by decide +kernel
theorem dX11_edgeOf_86 : decode cX11_edgeOf 86 = .ok (.ldc2_w 251, 3) := by decide +kernel
theorem dX11_edgeOf_89 : decode cX11_edgeOf 89 = .ok (.lreturn, 1) := by decide +kernel
theorem dX11_edgeOf_90 : decode cX11_edgeOf 90 = .ok (.aload_n 0, 1) := by decide +kernel
theorem dX11_edgeOf_91 : decode cX11_edgeOf 91 = .ok (.getfield 89, 3) := by decide +kernel
theorem dX11_edgeOf_94 : decode cX11_edgeOf 94 = .ok (.getfield 314, 3) := by decide +kernel
theorem dX11_edgeOf_97 : decode cX11_edgeOf 97 = .ok (.i2l, 1) := by decide +kernel
theorem dX11_edgeOf_98 : decode cX11_edgeOf 98 = .ok (.lstore 4, 2) := by decide +kernel
theorem dX11_edgeOf_100 : decode cX11_edgeOf 100 = .ok (.aload_n 0, 1) := by decide +kernel
theorem dX11_edgeOf_101 : decode cX11_edgeOf 101 = .ok (.getfield 80, 3) := by decide +kernel
theorem dX11_edgeOf_104 : decode cX11_edgeOf 104 = .ok (.iload_n 3, 1) := by decide +kernel
theorem dX11_edgeOf_105 : decode cX11_edgeOf 105 = .ok (.invokevirtual 392, 3) := by decide +kernel
theorem dX11_edgeOf_108 : decode cX11_edgeOf 108 = .ok (.aload_n 0, 1) := by decide +kernel
theorem dX11_edgeOf_109 : decode cX11_edgeOf 109 = .ok (.getfield 80, 3) := by decide +kernel
theorem dX11_edgeOf_112 : decode cX11_edgeOf 112 = .ok (.iload_n 1, 1) := by decide +kernel
theorem dX11_edgeOf_113 : decode cX11_edgeOf 113 = .ok (.iload_n 2, 1) := by decide +kernel
theorem dX11_edgeOf_114 : decode cX11_edgeOf 114 = .ok (.iconst 0, 1) := by decide +kernel
theorem dX11_edgeOf_115 : decode cX11_edgeOf 115 = .ok (.invokevirtual 410, 3) := by decide +kernel
theorem dX11_edgeOf_118 : decode cX11_edgeOf 118 = .ok (.aload_n 0, 1) := by decide +kernel
theorem dX11_edgeOf_119 : decode cX11_edgeOf 119 = .ok (.getfield 89, 3) := by decide +kernel
theorem dX11_edgeOf_122 : decode cX11_edgeOf 122 = .ok (.invokevirtual 395, 3) := by decide +kernel
theorem dX11_edgeOf_125 : decode cX11_edgeOf 125 = .ok (.ifCond .eq 17, 3) := by decide +kernel
theorem dX11_edgeOf_128 : decode cX11_edgeOf 128 = .ok (.aload_n 0, 1) := by decide +kernel
theorem dX11_edgeOf_129 : decode cX11_edgeOf 129 = .ok (.getfield 89, 3) := by decide +kernel
theorem dX11_edgeOf_132 : decode cX11_edgeOf 132 = .ok (.getfield 314, 3) := by decide +kernel
theorem dX11_edgeOf_135 : decode cX11_edgeOf 135 = .ok (.i2l, 1) := by decide +kernel
theorem dX11_edgeOf_136 : decode cX11_edgeOf 136 = .ok (.lload 4, 2) := by decide +kernel
theorem dX11_edgeOf_138 : decode cX11_edgeOf 138 = .ok (.lsub, 1) := by decide +kernel
theorem dX11_edgeOf_139 : decode cX11_edgeOf 139 = .ok (.goto 6, 3) := by decide +kernel
theorem dX11_edgeOf_142 : decode cX11_edgeOf 142 = .ok (.ldc2_w 251, 3) := by decide +kernel
theorem dX11_edgeOf_145 : decode cX11_edgeOf 145 = .ok (.lreturn, 1) := by decide +kernel
theorem dX11_nearPartOf_0 : decode cX11_nearPartOf 0 = .ok (.aload_n 0, 1) := by decide +kernel
theorem dX11_nearPartOf_1 : decode cX11_nearPartOf 1 = .ok (.iload_n 1, 1) := by decide +kernel
theorem dX11_nearPartOf_2 : decode cX11_nearPartOf 2 = .ok (.invokevirtual 311, 3) := by decide +kernel
theorem dX11_nearPartOf_5 : decode cX11_nearPartOf 5 = .ok (.istore_n 3, 1) := by decide +kernel
theorem dX11_nearPartOf_6 : decode cX11_nearPartOf 6 = .ok (.iload_n 3, 1) := by decide +kernel
theorem dX11_nearPartOf_7 : decode cX11_nearPartOf 7 = .ok (.ifCond .le 25, 3) := by decide +kernel
theorem dX11_nearPartOf_10 : decode cX11_nearPartOf 10 = .ok (.aload_n 0, 1) := by decide +kernel
theorem dX11_nearPartOf_11 : decode cX11_nearPartOf 11 = .ok (.getfield 80, 3) := by decide +kernel
theorem dX11_nearPartOf_14 : decode cX11_nearPartOf 14 = .ok (.aload_n 0, 1) := by decide +kernel
theorem dX11_nearPartOf_15 : decode cX11_nearPartOf 15 = .ok (.getfield 48, 3) := by decide +kernel
theorem dX11_nearPartOf_18 : decode cX11_nearPartOf 18 = .ok (.getfield 133, 3) := by decide +kernel
theorem dX11_nearPartOf_21 : decode cX11_nearPartOf 21 = .ok (.invokevirtual 413, 3) := by decide +kernel
theorem dX11_nearPartOf_24 : decode cX11_nearPartOf 24 = .ok (.aload_n 0, 1) := by decide +kernel
theorem dX11_nearPartOf_25 : decode cX11_nearPartOf 25 = .ok (.getfield 89, 3) := by decide +kernel
theorem dX11_nearPartOf_28 : decode cX11_nearPartOf 28 = .ok (.iload_n 2, 1) := by decide +kernel
theorem dX11_nearPartOf_29 : decode cX11_nearPartOf 29 = .ok (.invokevirtual 416, 3) := by decide +kernel
theorem dX11_nearPartOf_32 : decode cX11_nearPartOf 32 = .ok (.iload_n 3, 1) := by decide +kernel
theorem dX11_nearPartOf_33 : decode cX11_nearPartOf 33 = .ok (.ireturn, 1) := by decide +kernel
theorem dX11_maskOf_0 : decode cX11_maskOf 0 = .ok (.iconst 0, 1) := by decide +kernel
theorem dX11_maskOf_1 : decode cX11_maskOf 1 = .ok (.istore_n 3, 1) := by decide +kernel
theorem dX11_maskOf_2 : decode cX11_maskOf 2 = .ok (.iconst 0, 1) := by decide +kernel
theorem dX11_maskOf_3 : decode cX11_maskOf 3 = .ok (.istore 4, 2) := by decide +kernel
theorem dX11_maskOf_5 : decode cX11_maskOf 5 = .ok (.iload 4, 2) := by decide +kernel
theorem dX11_maskOf_7 : decode cX11_maskOf 7 = .ok (.aload_n 0, 1) := by decide +kernel
theorem dX11_maskOf_8 : decode cX11_maskOf 8 = .ok (.getfield 12, 3) := by decide +kernel
theorem dX11_maskOf_11 : decode cX11_maskOf 11 = .ok (.getfield 108, 3) := by decide +kernel
theorem dX11_maskOf_14 : decode cX11_maskOf 14 = .ok (.if_icmp .ge 24, 3) := by decide +kernel
theorem dX11_maskOf_17 : decode cX11_maskOf 17 = .ok (.aload_n 1, 1) := by decide +kernel
theorem dX11_maskOf_18 : decode cX11_maskOf 18 = .ok (.iload 4, 2) := by decide +kernel
theorem dX11_maskOf_20 : decode cX11_maskOf 20 = .ok (.iaload, 1) := by decide +kernel
theorem dX11_maskOf_21 : decode cX11_maskOf 21 = .ok (.iload_n 2, 1) := by decide +kernel
theorem dX11_maskOf_22 : decode cX11_maskOf 22 = .ok (.if_icmp .ne 10, 3) := by decide +kernel
theorem dX11_maskOf_25 : decode cX11_maskOf 25 = .ok (.iload_n 3, 1) := by decide +kernel
theorem dX11_maskOf_26 : decode cX11_maskOf 26 = .ok (.iconst 1, 1) := by decide +kernel
theorem dX11_maskOf_27 : decode cX11_maskOf 27 = .ok (.iload 4, 2) := by decide +kernel
theorem dX11_maskOf_29 : decode cX11_maskOf 29 = .ok (.ishl, 1) := by decide +kernel
theorem dX11_maskOf_30 : decode cX11_maskOf 30 = .ok (.ior, 1) := by decide +kernel
theorem dX11_maskOf_31 : decode cX11_maskOf 31 = .ok (.istore_n 3, 1) := by decide +kernel
theorem dX11_maskOf_32 : decode cX11_maskOf 32 = .ok (.iinc 4 1, 3) := by decide +kernel
theorem dX11_maskOf_35 : decode cX11_maskOf 35 = .ok (.goto (-30), 3) := by decide +kernel
theorem dX11_maskOf_38 : decode cX11_maskOf 38 = .ok (.iload_n 3, 1) := by decide +kernel
theorem dX11_maskOf_39 : decode cX11_maskOf 39 = .ok (.ireturn, 1) := by decide +kernel
theorem dX11_setBit_0 : decode cX11_setBit 0 = .ok (.iload_n 3, 1) := by decide +kernel
theorem dX11_setBit_1 : decode cX11_setBit 1 = .ok (.ifCond .eq 24, 3) := by decide +kernel
theorem dX11_setBit_4 : decode cX11_setBit 4 = .ok (.aload_n 0, 1) := by decide +kernel
theorem dX11_setBit_5 : decode cX11_setBit 5 = .ok (.iload_n 1, 1) := by decide +kernel
theorem dX11_setBit_6 : decode cX11_setBit 6 = .ok (.dup2, 1) := by decide +kernel
theorem dX11_setBit_7 : decode cX11_setBit 7 = .ok (.iaload, 1) := by decide +kernel
theorem dX11_setBit_8 : decode cX11_setBit 8 = .ok (.iconst 1, 1) := by decide +kernel
theorem dX11_setBit_9 : decode cX11_setBit 9 = .ok (.iload_n 2, 1) := by decide +kernel
theorem dX11_setBit_10 : decode cX11_setBit 10 = .ok (.ishl, 1) := by decide +kernel
theorem dX11_setBit_11 : decode cX11_setBit 11 = .ok (.ior, 1) := by decide +kernel
theorem dX11_setBit_12 : decode cX11_setBit 12 = .ok (.iastore, 1) := by decide +kernel
theorem dX11_setBit_13 : decode cX11_setBit 13 = .ok (.aload_n 0, 1) := by decide +kernel
theorem dX11_setBit_14 : decode cX11_setBit 14 = .ok (.iload_n 2, 1) := by decide +kernel
theorem dX11_setBit_15 : decode cX11_setBit 15 = .ok (.dup2, 1) := by decide +kernel
theorem dX11_setBit_16 : decode cX11_setBit 16 = .ok (.iaload, 1) := by decide +kernel
theorem dX11_setBit_17 : decode cX11_setBit 17 = .ok (.iconst 1, 1) := by decide +kernel
theorem dX11_setBit_18 : decode cX11_setBit 18 = .ok (.iload_n 1, 1) := by decide +kernel
theorem dX11_setBit_19 : decode cX11_setBit 19 = .ok (.ishl, 1) := by decide +kernel
theorem dX11_setBit_20 : decode cX11_setBit 20 = .ok (.ior, 1) := by decide +kernel
theorem dX11_setBit_21 : decode cX11_setBit 21 = .ok (.iastore, 1) := by decide +kernel
theorem dX11_setBit_22 : decode cX11_setBit 22 = .ok (.goto 25, 3) := by decide +kernel
theorem dX11_setBit_25 : decode cX11_setBit 25 = .ok (.aload_n 0, 1) := by decide +kernel
theorem dX11_setBit_26 : decode cX11_setBit 26 = .ok (.iload_n 1, 1) := by decide +kernel
theorem dX11_setBit_27 : decode cX11_setBit 27 = .ok (.dup2, 1) := by decide +kernel
theorem dX11_setBit_28 : decode cX11_setBit 28 = .ok (.iaload, 1) := by decide +kernel
theorem dX11_setBit_29 : decode cX11_setBit 29 = .ok (.iconst 1, 1) := by decide +kernel
theorem dX11_setBit_30 : decode cX11_setBit 30 = .ok (.iload_n 2, 1) := by decide +kernel
theorem dX11_setBit_31 : decode cX11_setBit 31 = .ok (.ishl, 1) := by decide +kernel
theorem dX11_setBit_32 : decode cX11_setBit 32 = .ok (.iconst (-1), 1) := by decide +kernel
theorem dX11_setBit_33 : decode cX11_setBit 33 = .ok (.ixor, 1) := by decide +kernel
theorem dX11_setBit_34 : decode cX11_setBit 34 = .ok (.iand, 1) := by decide +kernel
theorem dX11_setBit_35 : decode cX11_setBit 35 = .ok (.iastore, 1) := by decide +kernel
theorem dX11_setBit_36 : decode cX11_setBit 36 = .ok (.aload_n 0, 1) := by decide +kernel
theorem dX11_setBit_37 : decode cX11_setBit 37 = .ok (.iload_n 2, 1) := by decide +kernel
theorem dX11_setBit_38 : decode cX11_setBit 38 = .ok (.dup2, 1) := by decide +kernel
theorem dX11_setBit_39 : decode cX11_setBit 39 = .ok (.iaload, 1) := by decide +kernel
theorem dX11_setBit_40 : decode cX11_setBit 40 = .ok (.iconst 1, 1) := by decide +kernel
theorem dX11_setBit_41 : decode cX11_setBit 41 = .ok (.iload_n 1, 1) := by decide +kernel
theorem dX11_setBit_42 : decode cX11_setBit 42 = .ok (.ishl, 1) := by decide +kernel
theorem dX11_setBit_43 : decode cX11_setBit 43 = .ok (.iconst (-1), 1) := by decide +kernel
theorem dX11_setBit_44 : decode cX11_setBit 44 = .ok (.ixor, 1) := by decide +kernel
theorem dX11_setBit_45 : decode cX11_setBit 45 = .ok (.iand, 1) := by decide +kernel
theorem dX11_setBit_46 : decode cX11_setBit 46 = .ok (.iastore, 1) := by decide +kernel
theorem dX11_setBit_47 : decode cX11_setBit 47 = .ok (.return_, 1) := by decide +kernel
