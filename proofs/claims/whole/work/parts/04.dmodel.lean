theorem dX9_init_0 : decode cX9_init 0 = .ok (.aload_n 0, 1) := by decide +kernel
theorem dX9_init_1 : decode cX9_init 1 = .ok (.invokespecial 1, 3) := by decide +kernel
theorem dX9_init_4 : decode cX9_init 4 = .ok (.aload_n 0, 1) := by decide +kernel
theorem dX9_init_5 : decode cX9_init 5 = .ok (.sipush 640, 3) := by decide +kernel
theorem dX9_init_8 : decode cX9_init 8 = .ok (.newarray .int, 2) := by decide +kernel
theorem dX9_init_10 : decode cX9_init 10 = .ok (.putfield 7, 3) := by decide +kernel
theorem dX9_init_13 : decode cX9_init 13 = .ok (.aload_n 0, 1) := by decide +kernel
theorem dX9_init_14 : decode cX9_init 14 = .ok (.sipush 640, 3) := by decide +kernel
theorem dX9_init_17 : decode cX9_init 17 = .ok (.newarray .int, 2) := by decide +kernel
theorem dX9_init_19 : decode cX9_init 19 = .ok (.putfield 13, 3) := by decide +kernel
theorem dX9_init_22 : decode cX9_init 22 = .ok (.aload_n 0, 1) := by decide +kernel
theorem dX9_init_23 : decode cX9_init 23 = .ok (.sipush 640, 3) := by decide +kernel
theorem dX9_init_26 : decode cX9_init 26 = .ok (.newarray .int, 2) := by decide +kernel
theorem dX9_init_28 : decode cX9_init 28 = .ok (.putfield 16, 3) := by decide +kernel
theorem dX9_init_31 : decode cX9_init 31 = .ok (.aload_n 0, 1) := by decide +kernel
theorem dX9_init_32 : decode cX9_init 32 = .ok (.sipush 5120, 3) := by decide +kernel
theorem dX9_init_35 : decode cX9_init 35 = .ok (.newarray .int, 2) := by decide +kernel
theorem dX9_init_37 : decode cX9_init 37 = .ok (.putfield 19, 3) := by decide +kernel
theorem dX9_init_40 : decode cX9_init 40 = .ok (.aload_n 0, 1) := by decide +kernel
theorem dX9_init_41 : decode cX9_init 41 = .ok (.iconst 0, 1) := by decide +kernel
theorem dX9_init_42 : decode cX9_init 42 = .ok (.putfield 22, 3) := by decide +kernel
theorem dX9_init_45 : decode cX9_init 45 = .ok (.aload_n 0, 1) := by decide +kernel
theorem dX9_init_46 : decode cX9_init 46 = .ok (.iconst 0, 1) := by decide +kernel
theorem dX9_init_47 : decode cX9_init 47 = .ok (.putfield 26, 3) := by decide +kernel
theorem dX9_init_50 : decode cX9_init 50 = .ok (.aload_n 0, 1) := by decide +kernel
theorem dX9_init_51 : decode cX9_init 51 = .ok (.iconst 0, 1) := by decide +kernel
theorem dX9_init_52 : decode cX9_init 52 = .ok (.putfield 29, 3) := by decide +kernel
theorem dX9_init_55 : decode cX9_init 55 = .ok (.aload_n 0, 1) := by decide +kernel
theorem dX9_init_56 : decode cX9_init 56 = .ok (.iconst 0, 1) := by decide +kernel
theorem dX9_init_57 : decode cX9_init 57 = .ok (.putfield 32, 3) := by decide +kernel
theorem dX9_init_60 : decode cX9_init 60 = .ok (.aload_n 0, 1) := by decide +kernel
theorem dX9_init_61 : decode cX9_init 61 = .ok (.iconst 0, 1) := by decide +kernel
theorem dX9_init_62 : decode cX9_init 62 = .ok (.putfield 35, 3) := by decide +kernel
theorem dX9_init_65 : decode cX9_init 65 = .ok (.aload_n 0, 1) := by decide +kernel
theorem dX9_init_66 : decode cX9_init 66 = .ok (.iconst 0, 1) := by decide +kernel
theorem dX9_init_67 : decode cX9_init 67 = .ok (.putfield 38, 3) := by decide +kernel
theorem dX9_init_70 : decode cX9_init 70 = .ok (.aload_n 0, 1) := by decide +kernel
theorem dX9_init_71 : decode cX9_init 71 = .ok (.iconst (-1), 1) := by decide +kernel
theorem dX9_init_72 : decode cX9_init 72 = .ok (.putfield 41, 3) := by decide +kernel
theorem dX9_init_75 : decode cX9_init 75 = .ok (.aload_n 0, 1) := by decide +kernel
theorem dX9_init_76 : decode cX9_init 76 = .ok (.iconst (-1), 1) := by decide +kernel
theorem dX9_init_77 : decode cX9_init 77 = .ok (.putfield 44, 3) := by decide +kernel
theorem dX9_init_80 : decode cX9_init 80 = .ok (.aload_n 0, 1) := by decide +kernel
theorem dX9_init_81 : decode cX9_init 81 = .ok (.iconst 0, 1) := by decide +kernel
theorem dX9_init_82 : decode cX9_init 82 = .ok (.putfield 47, 3) := by decide +kernel
theorem dX9_init_85 : decode cX9_init 85 = .ok (.aload_n 0, 1) := by decide +kernel
theorem dX9_init_86 : decode cX9_init 86 = .ok (.sipush 1100, 3) := by decide +kernel
theorem dX9_init_89 : decode cX9_init 89 = .ok (.newarray .int, 2) := by decide +kernel
theorem dX9_init_91 : decode cX9_init 91 = .ok (.putfield 51, 3) := by decide +kernel
theorem dX9_init_94 : decode cX9_init 94 = .ok (.aload_n 0, 1) := by decide +kernel
theorem dX9_init_95 : decode cX9_init 95 = .ok (.sipush 1101, 3) := by decide +kernel
theorem dX9_init_98 : decode cX9_init 98 = .ok (.newarray .int, 2) := by decide +kernel
theorem dX9_init_100 : decode cX9_init 100 = .ok (.putfield 54, 3) := by decide +kernel
theorem dX9_init_103 : decode cX9_init 103 = .ok (.aload_n 0, 1) := by decide +kernel
theorem dX9_init_104 : decode cX9_init 104 = .ok (.iconst 0, 1) := by decide +kernel
theorem dX9_init_105 : decode cX9_init 105 = .ok (.putfield 57, 3) := by decide +kernel
theorem dX9_init_108 : decode cX9_init 108 = .ok (.aload_n 0, 1) := by decide +kernel
theorem dX9_init_109 : decode cX9_init 109 = .ok (.sipush 1100, 3) := by decide +kernel
theorem dX9_init_112 : decode cX9_init 112 = .ok (.newarray .int, 2) := by decide +kernel
theorem dX9_init_114 : decode cX9_init 114 = .ok (.putfield 60, 3) := by decide +kernel
theorem dX9_init_117 : decode cX9_init 117 = .ok (.aload_n 0, 1) := by decide +kernel
theorem dX9_init_118 : decode cX9_init 118 = .ok (.iconst 0, 1) := by decide +kernel
theorem dX9_init_119 : decode cX9_init 119 = .ok (.putfield 63, 3) := by decide +kernel
theorem dX9_init_122 : decode cX9_init 122 = .ok (.aload_n 0, 1) := by decide +kernel
theorem dX9_init_123 : decode cX9_init 123 = .ok (.bipush 60, 2) := by decide +kernel
theorem dX9_init_125 : decode cX9_init 125 = .ok (.newarray .int, 2) := by decide +kernel
theorem dX9_init_127 : decode cX9_init 127 = .ok (.putfield 66, 3) := by decide +kernel
theorem dX9_init_130 : decode cX9_init 130 = .ok (.aload_n 0, 1) := by decide +kernel
theorem dX9_init_131 : decode cX9_init 131 = .ok (.bipush 60, 2) := by decide +kernel
theorem dX9_init_133 : decode cX9_init 133 = .ok (.newarray .int, 2) := by decide +kernel
theorem dX9_init_135 : decode cX9_init 135 = .ok (.putfield 69, 3) := by decide +kernel
theorem dX9_init_138 : decode cX9_init 138 = .ok (.aload_n 0, 1) := by decide +kernel
theorem dX9_init_139 : decode cX9_init 139 = .ok (.sipush 180, 3) := by decide +kernel
theorem dX9_init_142 : decode cX9_init 142 = .ok (.newarray .int, 2) := by decide +kernel
theorem dX9_init_144 : decode cX9_init 144 = .ok (.putfield 72, 3) := by decide +kernel
theorem dX9_init_147 : decode cX9_init 147 = .ok (.aload_n 0, 1) := by decide +kernel
theorem dX9_init_148 : decode cX9_init 148 = .ok (.iconst 0, 1) := by decide +kernel
theorem dX9_init_149 : decode cX9_init 149 = .ok (.putfield 75, 3) := by decide +kernel
theorem dX9_init_152 : decode cX9_init 152 = .ok (.aload_n 0, 1) := by decide +kernel
theorem dX9_init_153 : decode cX9_init 153 = .ok (.iconst 0, 1) := by decide +kernel
theorem dX9_init_154 : decode cX9_init 154 = .ok (.putfield 78, 3) := by decide +kernel
theorem dX9_init_157 : decode cX9_init 157 = .ok (.aload_n 0, 1) := by decide +kernel
theorem dX9_init_158 : decode cX9_init 158 = .ok (.iconst 0, 1) := by decide +kernel
theorem dX9_init_159 : decode cX9_init 159 = .ok (.putfield 81, 3) := by decide +kernel
theorem dX9_init_162 : decode cX9_init 162 = .ok (.aload_n 0, 1) := by decide +kernel
theorem dX9_init_163 : decode cX9_init 163 = .ok (.iconst 0, 1) := by decide +kernel
theorem dX9_init_164 : decode cX9_init 164 = .ok (.putfield 84, 3) := by decide +kernel
theorem dX9_init_167 : decode cX9_init 167 = .ok (.aload_n 0, 1) := by decide +kernel
theorem dX9_init_168 : decode cX9_init 168 = .ok (.iconst 0, 1) := by decide +kernel
theorem dX9_init_169 : decode cX9_init 169 = .ok (.putfield 87, 3) := by decide +kernel
theorem dX9_init_172 : decode cX9_init 172 = .ok (.aload_n 0, 1) := by decide +kernel
theorem dX9_init_173 : decode cX9_init 173 = .ok (.iconst 0, 1) := by decide +kernel
theorem dX9_init_174 : decode cX9_init 174 = .ok (.putfield 90, 3) := by decide +kernel
theorem dX9_init_177 : decode cX9_init 177 = .ok (.aload_n 0, 1) := by decide +kernel
theorem dX9_init_178 : decode cX9_init 178 = .ok (.invokevirtual 93, 3) := by decide +kernel
theorem dX9_init_181 : decode cX9_init 181 = .ok (.return_, 1) := by decide +kernel
theorem dX9_thrown_0 : decode cX9_thrown 0 = .ok (.aload_n 0, 1) := by decide +kernel
theorem dX9_thrown_1 : decode cX9_thrown 1 = .ok (.getfield 22, 3) := by decide +kernel
theorem dX9_thrown_4 : decode cX9_thrown 4 = .ok (.ireturn, 1) := by decide +kernel
theorem dX9_in_0 : decode cX9_in 0 = .ok (.iload_n 0, 1) := by decide +kernel
theorem dX9_in_1 : decode cX9_in 1 = .ok (.iload_n 1, 1) := by decide +kernel
theorem dX9_in_2 : decode cX9_in 2 = .ok (.if_icmp .lt 12, 3) := by decide +kernel
theorem dX9_in_5 : decode cX9_in 5 = .ok (.iload_n 0, 1) := by decide +kernel
theorem dX9_in_6 : decode cX9_in 6 = .ok (.iload_n 2, 1) := by decide +kernel
theorem dX9_in_7 : decode cX9_in 7 = .ok (.if_icmp .gt 7, 3) := by decide +kernel
theorem dX9_in_10 : decode cX9_in 10 = .ok (.iconst 1, 1) := by decide +kernel
theorem dX9_in_11 : decode cX9_in 11 = .ok (.goto 4, 3) := by decide +kernel
theorem dX9_in_14 : decode cX9_in 14 = .ok (.iconst 0, 1) := by decide +kernel
theorem dX9_in_15 : decode cX9_in 15 = .ok (.ireturn, 1) := by decide +kernel
theorem dX9_copies_0 : decode cX9_copies 0 = .ok (.iconst 0, 1) := by decide +kernel
theorem dX9_copies_1 : decode cX9_copies 1 = .ok (.istore 4, 2) := by decide +kernel
theorem dX9_copies_3 : decode cX9_copies 3 = .ok (.iload 4, 2) := by decide +kernel
theorem dX9_copies_5 : decode cX9_copies 5 = .ok (.sipush 640, 3) := by decide +kernel
theorem dX9_copies_8 : decode cX9_copies 8 = .ok (.if_icmp .ge 21, 3) := by decide +kernel
theorem dX9_copies_11 : decode cX9_copies 11 = .ok (.aload_n 2, 1) := by decide +kernel
theorem dX9_copies_12 : decode cX9_copies 12 = .ok (.iload_n 3, 1) := by decide +kernel
theorem dX9_copies_13 : decode cX9_copies 13 = .ok (.iload 4, 2) := by decide +kernel
theorem dX9_copies_15 : decode cX9_copies 15 = .ok (.iadd, 1) := by decide +kernel
theorem dX9_copies_16 : decode cX9_copies 16 = .ok (.aload_n 0, 1) := by decide +kernel
theorem dX9_copies_17 : decode cX9_copies 17 = .ok (.iload_n 1, 1) := by decide +kernel
theorem dX9_copies_18 : decode cX9_copies 18 = .ok (.iload 4, 2) := by decide +kernel
theorem dX9_copies_20 : decode cX9_copies 20 = .ok (.iadd, 1) := by decide +kernel
theorem dX9_copies_21 : decode cX9_copies 21 = .ok (.iaload, 1) := by decide +kernel
theorem dX9_copies_22 : decode cX9_copies 22 = .ok (.iastore, 1) := by decide +kernel
theorem dX9_copies_23 : decode cX9_copies 23 = .ok (.iinc 4 1, 3) := by decide +kernel
theorem dX9_copies_26 : decode cX9_copies 26 = .ok (.goto (-23), 3) := by decide +kernel
theorem dX9_copies_29 : decode cX9_copies 29 = .ok (.return_, 1) := by decide +kernel
theorem dX9_no_0 : decode cX9_no 0 = .ok (.aload_n 0, 1) := by decide +kernel
theorem dX9_no_1 : decode cX9_no 1 = .ok (.iload_n 1, 1) := by decide +kernel
theorem dX9_no_2 : decode cX9_no 2 = .ok (.putfield 22, 3) := by decide +kernel
theorem dX9_no_5 : decode cX9_no 5 = .ok (.iconst 0, 1) := by decide +kernel
theorem dX9_no_6 : decode cX9_no 6 = .ok (.ireturn, 1) := by decide +kernel
theorem dX9_isBad_0 : decode cX9_isBad 0 = .ok (.aload_n 0, 1) := by decide +kernel
theorem dX9_isBad_1 : decode cX9_isBad 1 = .ok (.iload_n 1, 1) := by decide +kernel
theorem dX9_isBad_2 : decode cX9_isBad 2 = .ok (.putfield 29, 3) := by decide +kernel
theorem dX9_isBad_5 : decode cX9_isBad 5 = .ok (.aload_n 0, 1) := by decide +kernel
theorem dX9_isBad_6 : decode cX9_isBad 6 = .ok (.iload_n 2, 1) := by decide +kernel
theorem dX9_isBad_7 : decode cX9_isBad 7 = .ok (.putfield 32, 3) := by decide +kernel
theorem dX9_isBad_10 : decode cX9_isBad 10 = .ok (.iconst 1, 1) := by decide +kernel
theorem dX9_isBad_11 : decode cX9_isBad 11 = .ok (.ireturn, 1) := by decide +kernel
theorem dX9_refused_0 : decode cX9_refused 0 = .ok (.aload_n 0, 1) := by decide +kernel
theorem dX9_refused_1 : decode cX9_refused 1 = .ok (.aload_n 0, 1) := by decide +kernel
theorem dX9_refused_2 : decode cX9_refused 2 = .ok (.getfield 29, 3) := by decide +kernel
theorem dX9_refused_5 : decode cX9_refused 5 = .ok (.putfield 35, 3) := by decide +kernel
theorem dX9_refused_8 : decode cX9_refused 8 = .ok (.aload_n 0, 1) := by decide +kernel
theorem dX9_refused_9 : decode cX9_refused 9 = .ok (.aload_n 0, 1) := by decide +kernel
theorem dX9_refused_10 : decode cX9_refused 10 = .ok (.getfield 32, 3) := by decide +kernel
theorem dX9_refused_13 : decode cX9_refused 13 = .ok (.putfield 38, 3) := by decide +kernel
theorem dX9_refused_16 : decode cX9_refused 16 = .ok (.aload_n 0, 1) := by decide +kernel
theorem dX9_refused_17 : decode cX9_refused 17 = .ok (.iload_n 1, 1) := by decide +kernel
theorem dX9_refused_18 : decode cX9_refused 18 = .ok (.invokevirtual 96, 3) := by decide +kernel
theorem dX9_refused_21 : decode cX9_refused 21 = .ok (.ireturn, 1) := by decide +kernel
theorem dX9_begins_0 : decode cX9_begins 0 = .ok (.aload_n 0, 1) := by decide +kernel
theorem dX9_begins_1 : decode cX9_begins 1 = .ok (.iconst 0, 1) := by decide +kernel
theorem dX9_begins_2 : decode cX9_begins 2 = .ok (.putfield 22, 3) := by decide +kernel
theorem dX9_begins_5 : decode cX9_begins 5 = .ok (.aload_n 0, 1) := by decide +kernel
theorem dX9_begins_6 : decode cX9_begins 6 = .ok (.getfield 7, 3) := by decide +kernel
theorem dX9_begins_9 : decode cX9_begins 9 = .ok (.iconst 0, 1) := by decide +kernel
theorem dX9_begins_10 : decode cX9_begins 10 = .ok (.aload_n 0, 1) := by decide +kernel
theorem dX9_begins_11 : decode cX9_begins 11 = .ok (.getfield 13, 3) := by decide +kernel
theorem dX9_begins_14 : decode cX9_begins 14 = .ok (.iconst 0, 1) := by decide +kernel
theorem dX9_begins_15 : decode cX9_begins 15 = .ok (.invokestatic 100, 3) := by decide +kernel
theorem dX9_begins_18 : decode cX9_begins 18 = .ok (.return_, 1) := by decide +kernel
theorem dX9_keeps_0 : decode cX9_keeps 0 = .ok (.aload_n 0, 1) := by decide +kernel
theorem dX9_keeps_1 : decode cX9_keeps 1 = .ok (.getfield 26, 3) := by decide +kernel
theorem dX9_keeps_4 : decode cX9_keeps 4 = .ok (.bipush 8, 2) := by decide +kernel
theorem dX9_keeps_6 : decode cX9_keeps 6 = .ok (.if_icmp .ne 50, 3) := by decide +kernel
theorem dX9_keeps_9 : decode cX9_keeps 9 = .ok (.iconst 1, 1) := by decide +kernel
theorem dX9_keeps_10 : decode cX9_keeps 10 = .ok (.istore_n 2, 1) := by decide +kernel
theorem dX9_keeps_11 : decode cX9_keeps 11 = .ok (.iload_n 2, 1) := by decide +kernel
theorem dX9_keeps_12 : decode cX9_keeps 12 = .ok (.bipush 8, 2) := by decide +kernel
theorem dX9_keeps_14 : decode cX9_keeps 14 = .ok (.if_icmp .ge 32, 3) := by decide +kernel
theorem dX9_keeps_17 : decode cX9_keeps 17 = .ok (.aload_n 0, 1) := by decide +kernel
theorem dX9_keeps_18 : decode cX9_keeps 18 = .ok (.getfield 19, 3) := by decide +kernel
theorem dX9_keeps_21 : decode cX9_keeps 21 = .ok (.sipush 640, 3) := by decide +kernel
theorem dX9_keeps_24 : decode cX9_keeps 24 = .ok (.iload_n 2, 1) := by decide +kernel
theorem dX9_keeps_25 : decode cX9_keeps 25 = .ok (.imul, 1) := by decide +kernel
theorem dX9_keeps_26 : decode cX9_keeps 26 = .ok (.aload_n 0, 1) := by decide +kernel
theorem dX9_keeps_27 : decode cX9_keeps 27 = .ok (.getfield 19, 3) := by decide +kernel
theorem dX9_keeps_30 : decode cX9_keeps 30 = .ok (.sipush 640, 3) := by decide +kernel
theorem dX9_keeps_33 : decode cX9_keeps 33 = .ok (.iload_n 2, 1) := by decide +kernel
theorem dX9_keeps_34 : decode cX9_keeps 34 = .ok (.iconst 1, 1) := by decide +kernel
theorem dX9_keeps_35 : decode cX9_keeps 35 = .ok (.isub, 1) := by decide +kernel
theorem dX9_keeps_36 : decode cX9_keeps 36 = .ok (.imul, 1) := by decide +kernel
theorem dX9_keeps_37 : decode cX9_keeps 37 = .ok (.invokestatic 100, 3) := by decide +kernel
theorem dX9_keeps_40 : decode cX9_keeps 40 = .ok (.iinc 2 1, 3) := by decide +kernel
theorem dX9_keeps_43 : decode cX9_keeps 43 = .ok (.goto (-32), 3) := by decide +kernel
theorem dX9_keeps_46 : decode cX9_keeps 46 = .ok (.aload_n 0, 1) := by decide +kernel
theorem dX9_keeps_47 : decode cX9_keeps 47 = .ok (.dup, 1) := by decide +kernel
theorem dX9_keeps_48 : decode cX9_keeps 48 = .ok (.getfield 26, 3) := by decide +kernel
theorem dX9_keeps_51 : decode cX9_keeps 51 = .ok (.iconst 1, 1) := by decide +kernel
theorem dX9_keeps_52 : decode cX9_keeps 52 = .ok (.isub, 1) := by decide +kernel
theorem dX9_keeps_53 : decode cX9_keeps 53 = .ok (.putfield 26, 3) := by decide +kernel
theorem dX9_keeps_56 : decode cX9_keeps 56 = .ok (.aload_n 0, 1) := by decide +kernel
theorem dX9_keeps_57 : decode cX9_keeps 57 = .ok (.getfield 13, 3) := by decide +kernel
theorem dX9_keeps_60 : decode cX9_keeps 60 = .ok (.iconst 0, 1) := by decide +kernel
theorem dX9_keeps_61 : decode cX9_keeps 61 = .ok (.aload_n 0, 1) := by decide +kernel
theorem dX9_keeps_62 : decode cX9_keeps 62 = .ok (.getfield 19, 3) := by decide +kernel
theorem dX9_keeps_65 : decode cX9_keeps 65 = .ok (.sipush 640, 3) := by decide +kernel
theorem dX9_keeps_68 : decode cX9_keeps 68 = .ok (.aload_n 0, 1) := by decide +kernel
theorem dX9_keeps_69 : decode cX9_keeps 69 = .ok (.getfield 26, 3) := by decide +kernel
theorem dX9_keeps_72 : decode cX9_keeps 72 = .ok (.imul, 1) := by decide +kernel
theorem dX9_keeps_73 : decode cX9_keeps 73 = .ok (.invokestatic 100, 3) := by decide +kernel
theorem dX9_keeps_76 : decode cX9_keeps 76 = .ok (.aload_n 0, 1) := by decide +kernel
theorem dX9_keeps_77 : decode cX9_keeps 77 = .ok (.dup, 1) := by decide +kernel
theorem dX9_keeps_78 : decode cX9_keeps 78 = .ok (.getfield 26, 3) := by decide +kernel
theorem dX9_keeps_81 : decode cX9_keeps 81 = .ok (.iconst 1, 1) := by decide +kernel
theorem dX9_keeps_82 : decode cX9_keeps 82 = .ok (.iadd, 1) := by decide +kernel
theorem dX9_keeps_83 : decode cX9_keeps 83 = .ok (.putfield 26, 3) := by decide +kernel
theorem dX9_keeps_86 : decode cX9_keeps 86 = .ok (.iload_n 1, 1) := by decide +kernel
theorem dX9_keeps_87 : decode cX9_keeps 87 = .ok (.ireturn, 1) := by decide +kernel
theorem dX9_lv_0 : decode cX9_lv 0 = .ok (.aload_n 0, 1) := by decide +kernel
theorem dX9_lv_1 : decode cX9_lv 1 = .ok (.getfield 7, 3) := by decide +kernel
theorem dX9_lv_4 : decode cX9_lv 4 = .ok (.bipush 16, 2) := by decide +kernel
theorem dX9_lv_6 : decode cX9_lv 6 = .ok (.bipush 10, 2) := by decide +kernel
theorem dX9_lv_8 : decode cX9_lv 8 = .ok (.iload_n 1, 1) := by decide +kernel
theorem dX9_lv_9 : decode cX9_lv 9 = .ok (.imul, 1) := by decide +kernel
theorem dX9_lv_10 : decode cX9_lv 10 = .ok (.iadd, 1) := by decide +kernel
theorem dX9_lv_11 : decode cX9_lv 11 = .ok (.iload_n 2, 1) := by decide +kernel
theorem dX9_lv_12 : decode cX9_lv 12 = .ok (.iadd, 1) := by decide +kernel
theorem dX9_lv_13 : decode cX9_lv 13 = .ok (.iaload, 1) := by decide +kernel
theorem dX9_lv_14 : decode cX9_lv 14 = .ok (.ireturn, 1) := by decide +kernel
theorem dX9_ll_0 : decode cX9_ll 0 = .ok (.aload_n 0, 1) := by decide +kernel
theorem dX9_ll_1 : decode cX9_ll 1 = .ok (.getfield 7, 3) := by decide +kernel
theorem dX9_ll_4 : decode cX9_ll 4 = .ok (.bipush 16, 2) := by decide +kernel
theorem dX9_ll_6 : decode cX9_ll 6 = .ok (.bipush 10, 2) := by decide +kernel
theorem dX9_ll_8 : decode cX9_ll 8 = .ok (.iload_n 1, 1) := by decide +kernel
theorem dX9_ll_9 : decode cX9_ll 9 = .ok (.imul, 1) := by decide +kernel
theorem dX9_ll_10 : decode cX9_ll 10 = .ok (.iadd, 1) := by decide +kernel
theorem dX9_ll_11 : decode cX9_ll 11 = .ok (.iload_n 2, 1) := by decide +kernel
theorem dX9_ll_12 : decode cX9_ll 12 = .ok (.iadd, 1) := by decide +kernel
theorem dX9_ll_13 : decode cX9_ll 13 = .ok (.iload_n 3, 1) := by decide +kernel
theorem dX9_ll_14 : decode cX9_ll 14 = .ok (.iastore, 1) := by decide +kernel
theorem dX9_ll_15 : decode cX9_ll 15 = .ok (.return_, 1) := by decide +kernel
theorem dX9_pv_0 : decode cX9_pv 0 = .ok (.aload_n 0, 1) := by decide +kernel
theorem dX9_pv_1 : decode cX9_pv 1 = .ok (.getfield 7, 3) := by decide +kernel
theorem dX9_pv_4 : decode cX9_pv 4 = .ok (.bipush 92, 2) := by decide +kernel
theorem dX9_pv_6 : decode cX9_pv 6 = .ok (.iconst 3, 1) := by decide +kernel
theorem dX9_pv_7 : decode cX9_pv 7 = .ok (.iload_n 1, 1) := by decide +kernel
theorem dX9_pv_8 : decode cX9_pv 8 = .ok (.imul, 1) := by decide +kernel
theorem dX9_pv_9 : decode cX9_pv 9 = .ok (.iadd, 1) := by decide +kernel
theorem dX9_pv_10 : decode cX9_pv 10 = .ok (.iload_n 2, 1) := by decide +kernel
theorem dX9_pv_11 : decode cX9_pv 11 = .ok (.iadd, 1) := by decide +kernel
theorem dX9_pv_12 : decode cX9_pv 12 = .ok (.iaload, 1) := by decide +kernel
theorem dX9_pv_13 : decode cX9_pv 13 = .ok (.ireturn, 1) := by decide +kernel
theorem dX9_clears_0 : decode cX9_clears 0 = .ok (.iconst 0, 1) := by decide +kernel
theorem dX9_clears_1 : decode cX9_clears 1 = .ok (.istore_n 1, 1) := by decide +kernel
theorem dX9_clears_2 : decode cX9_clears 2 = .ok (.iload_n 1, 1) := by decide +kernel
theorem dX9_clears_3 : decode cX9_clears 3 = .ok (.sipush 640, 3) := by decide +kernel
theorem dX9_clears_6 : decode cX9_clears 6 = .ok (.if_icmp .ge 16, 3) := by decide +kernel
theorem dX9_clears_9 : decode cX9_clears 9 = .ok (.aload_n 0, 1) := by decide +kernel
theorem dX9_clears_10 : decode cX9_clears 10 = .ok (.getfield 7, 3) := by decide +kernel
theorem dX9_clears_13 : decode cX9_clears 13 = .ok (.iload_n 1, 1) := by decide +kernel
theorem dX9_clears_14 : decode cX9_clears 14 = .ok (.iconst 0, 1) := by decide +kernel
theorem dX9_clears_15 : decode cX9_clears 15 = .ok (.iastore, 1) := by decide +kernel
theorem dX9_clears_16 : decode cX9_clears 16 = .ok (.iinc 1 1, 3) := by decide +kernel
theorem dX9_clears_19 : decode cX9_clears 19 = .ok (.goto (-17), 3) := by decide +kernel
theorem dX9_clears_22 : decode cX9_clears 22 = .ok (.iconst 0, 1) := by decide +kernel
theorem dX9_clears_23 : decode cX9_clears 23 = .ok (.istore_n 1, 1) := by decide +kernel
theorem dX9_clears_24 : decode cX9_clears 24 = .ok (.iload_n 1, 1) := by decide +kernel
theorem dX9_clears_25 : decode cX9_clears 25 = .ok (.bipush 7, 2) := by decide +kernel
theorem dX9_clears_27 : decode cX9_clears 27 = .ok (.if_icmp .ge 25, 3) := by decide +kernel
theorem dX9_clears_30 : decode cX9_clears 30 = .ok (.aload_n 0, 1) := by decide +kernel
theorem dX9_clears_31 : decode cX9_clears 31 = .ok (.iload_n 1, 1) := by decide +kernel
theorem dX9_clears_32 : decode cX9_clears 32 = .ok (.iconst 3, 1) := by decide +kernel
theorem dX9_clears_33 : decode cX9_clears 33 = .ok (.bipush 10, 2) := by decide +kernel
theorem dX9_clears_35 : decode cX9_clears 35 = .ok (.invokevirtual 104, 3) := by decide +kernel
theorem dX9_clears_38 : decode cX9_clears 38 = .ok (.aload_n 0, 1) := by decide +kernel
theorem dX9_clears_39 : decode cX9_clears 39 = .ok (.iload_n 1, 1) := by decide +kernel
theorem dX9_clears_40 : decode cX9_clears 40 = .ok (.iconst 4, 1) := by decide +kernel
theorem dX9_clears_41 : decode cX9_clears 41 = .ok (.bipush 10, 2) := by decide +kernel
theorem dX9_clears_43 : decode cX9_clears 43 = .ok (.invokevirtual 104, 3) := by decide +kernel
theorem dX9_clears_46 : decode cX9_clears 46 = .ok (.iinc 1 1, 3) := by decide +kernel
theorem dX9_clears_49 : decode cX9_clears 49 = .ok (.goto (-25), 3) := by decide +kernel
theorem dX9_clears_52 : decode cX9_clears 52 = .ok (.return_, 1) := by decide +kernel
theorem dX9_signs_0 : decode cX9_signs 0 = .ok (.iconst 0, 1) := by decide +kernel
theorem dX9_signs_1 : decode cX9_signs 1 = .ok (.istore_n 1, 1) := by decide +kernel
theorem dX9_signs_2 : decode cX9_signs 2 = .ok (.iconst 0, 1) := by decide +kernel
theorem dX9_signs_3 : decode cX9_signs 3 = .ok (.istore_n 2, 1) := by decide +kernel
theorem dX9_signs_4 : decode cX9_signs 4 = .ok (.iload_n 2, 1) := by decide +kernel
theorem dX9_signs_5 : decode cX9_signs 5 = .ok (.bipush 7, 2) := by decide +kernel
theorem dX9_signs_7 : decode cX9_signs 7 = .ok (.if_icmp .ge 26, 3) := by decide +kernel
theorem dX9_signs_10 : decode cX9_signs 10 = .ok (.iload_n 1, 1) := by decide +kernel
theorem dX9_signs_11 : decode cX9_signs 11 = .ok (.aload_n 0, 1) := by decide +kernel
theorem dX9_signs_12 : decode cX9_signs 12 = .ok (.iload_n 2, 1) := by decide +kernel
theorem dX9_signs_13 : decode cX9_signs 13 = .ok (.iconst 0, 1) := by decide +kernel
theorem dX9_signs_14 : decode cX9_signs 14 = .ok (.invokevirtual 108, 3) := by decide +kernel
theorem dX9_signs_17 : decode cX9_signs 17 = .ok (.ifCond .le 7, 3) := by decide +kernel
theorem dX9_signs_20 : decode cX9_signs 20 = .ok (.iconst 1, 1) := by decide +kernel
theorem dX9_signs_21 : decode cX9_signs 21 = .ok (.goto 4, 3) := by decide +kernel
theorem dX9_signs_24 : decode cX9_signs 24 = .ok (.iconst 0, 1) := by decide +kernel
theorem dX9_signs_25 : decode cX9_signs 25 = .ok (.iadd, 1) := by decide +kernel
theorem dX9_signs_26 : decode cX9_signs 26 = .ok (.istore_n 1, 1) := by decide +kernel
theorem dX9_signs_27 : decode cX9_signs 27 = .ok (.iinc 2 1, 3) := by decide +kernel
theorem dX9_signs_30 : decode cX9_signs 30 = .ok (.goto (-26), 3) := by decide +kernel
theorem dX9_signs_33 : decode cX9_signs 33 = .ok (.iload_n 1, 1) := by decide +kernel
theorem dX9_signs_34 : decode cX9_signs 34 = .ok (.ireturn, 1) := by decide +kernel
theorem dX9_clear_0 : decode cX9_clear 0 = .ok (.aload_n 0, 1) := by decide +kernel
theorem dX9_clear_1 : decode cX9_clear 1 = .ok (.iconst 0, 1) := by decide +kernel
theorem dX9_clear_2 : decode cX9_clear 2 = .ok (.putfield 22, 3) := by decide +kernel
theorem dX9_clear_5 : decode cX9_clear 5 = .ok (.aload_n 0, 1) := by decide +kernel
theorem dX9_clear_6 : decode cX9_clear 6 = .ok (.invokevirtual 112, 3) := by decide +kernel
theorem dX9_clear_9 : decode cX9_clear 9 = .ok (.istore_n 1, 1) := by decide +kernel
theorem dX9_clear_10 : decode cX9_clear 10 = .ok (.aload_n 0, 1) := by decide +kernel
theorem dX9_clear_11 : decode cX9_clear 11 = .ok (.invokevirtual 93, 3) := by decide +kernel
theorem dX9_clear_14 : decode cX9_clear 14 = .ok (.aload_n 0, 1) := by decide +kernel
theorem dX9_clear_15 : decode cX9_clear 15 = .ok (.iconst 0, 1) := by decide +kernel
theorem dX9_clear_16 : decode cX9_clear 16 = .ok (.putfield 26, 3) := by decide +kernel
theorem dX9_clear_19 : decode cX9_clear 19 = .ok (.iload_n 1, 1) := by decide +kernel
theorem dX9_clear_20 : decode cX9_clear 20 = .ok (.ireturn, 1) := by decide +kernel
theorem dX9_isLine_0 : decode cX9_isLine 0 = .ok (.iload_n 0, 1) := by decide +kernel
theorem dX9_isLine_1 : decode cX9_isLine 1 = .ok (.iconst 0, 1) := by decide +kernel
theorem dX9_isLine_2 : decode cX9_isLine 2 = .ok (.bipush 6, 2) := by decide +kernel
theorem dX9_isLine_4 : decode cX9_isLine 4 = .ok (.invokestatic 116, 3) := by decide +kernel
theorem dX9_isLine_7 : decode cX9_isLine 7 = .ok (.ireturn, 1) := by decide +kernel
theorem dX9_isWord_0 : decode cX9_isWord 0 = .ok (.iload_n 0, 1) := by decide +kernel
theorem dX9_isWord_1 : decode cX9_isWord 1 = .ok (.iconst 1, 1) := by decide +kernel
theorem dX9_isWord_2 : decode cX9_isWord 2 = .ok (.bipush 6, 2) := by decide +kernel
theorem dX9_isWord_4 : decode cX9_isWord 4 = .ok (.invokestatic 116, 3) := by decide +kernel
theorem dX9_isWord_7 : decode cX9_isWord 7 = .ok (.ifCond .eq 20, 3) := by decide +kernel
theorem dX9_isWord_10 : decode cX9_isWord 10 = .ok (.iload_n 1, 1) := by decide +kernel
theorem dX9_isWord_11 : decode cX9_isWord 11 = .ok (.iconst 0, 1) := by decide +kernel
theorem dX9_isWord_12 : decode cX9_isWord 12 = .ok (.iconst 1, 1) := by decide +kernel
theorem dX9_isWord_13 : decode cX9_isWord 13 = .ok (.iload_n 0, 1) := by decide +kernel
theorem dX9_isWord_14 : decode cX9_isWord 14 = .ok (.ishl, 1) := by decide +kernel
theorem dX9_isWord_15 : decode cX9_isWord 15 = .ok (.iconst 1, 1) := by decide +kernel
theorem dX9_isWord_16 : decode cX9_isWord 16 = .ok (.isub, 1) := by decide +kernel
theorem dX9_isWord_17 : decode cX9_isWord 17 = .ok (.invokestatic 116, 3) := by decide +kernel
theorem dX9_isWord_20 : decode cX9_isWord 20 = .ok (.ifCond .eq 7, 3) := by decide +kernel
theorem dX9_isWord_23 : decode cX9_isWord 23 = .ok (.iconst 1, 1) := by decide +kernel
theorem dX9_isWord_24 : decode cX9_isWord 24 = .ok (.goto 4, 3) := by decide +kernel
theorem dX9_isWord_27 : decode cX9_isWord 27 = .ok (.iconst 0, 1) := by decide +kernel
theorem dX9_isWord_28 : decode cX9_isWord 28 = .ok (.ireturn, 1) := by decide +kernel
theorem dX9_steamOf_0 : decode cX9_steamOf 0 = .ok (.iload_n 0, 1) := by decide +kernel
theorem dX9_steamOf_1 : decode cX9_steamOf 1 = .ok (.istore_n 2, 1) := by decide +kernel
theorem dX9_steamOf_2 : decode cX9_steamOf 2 = .ok (.iconst 0, 1) := by decide +kernel
theorem dX9_steamOf_3 : decode cX9_steamOf 3 = .ok (.istore_n 3, 1) := by decide +kernel
theorem dX9_steamOf_4 : decode cX9_steamOf 4 = .ok (.iload_n 3, 1) := by decide +kernel
theorem dX9_steamOf_5 : decode cX9_steamOf 5 = .ok (.iload_n 0, 1) := by decide +kernel
theorem dX9_steamOf_6 : decode cX9_steamOf 6 = .ok (.if_icmp .ge 17, 3) := by decide +kernel
theorem dX9_steamOf_9 : decode cX9_steamOf 9 = .ok (.iload_n 2, 1) := by decide +kernel
theorem dX9_steamOf_10 : decode cX9_steamOf 10 = .ok (.iload_n 1, 1) := by decide +kernel
theorem dX9_steamOf_11 : decode cX9_steamOf 11 = .ok (.iload_n 3, 1) := by decide +kernel
theorem dX9_steamOf_12 : decode cX9_steamOf 12 = .ok (.ishr, 1) := by decide +kernel
theorem dX9_steamOf_13 : decode cX9_steamOf 13 = .ok (.iconst 1, 1) := by decide +kernel
theorem dX9_steamOf_14 : decode cX9_steamOf 14 = .ok (.iand, 1) := by decide +kernel
theorem dX9_steamOf_15 : decode cX9_steamOf 15 = .ok (.iadd, 1) := by decide +kernel
theorem dX9_steamOf_16 : decode cX9_steamOf 16 = .ok (.istore_n 2, 1) := by decide +kernel
theorem dX9_steamOf_17 : decode cX9_steamOf 17 = .ok (.iinc 3 1, 3) := by decide +kernel
theorem dX9_steamOf_20 : decode cX9_steamOf 20 = .ok (.goto (-16), 3) := by decide +kernel
theorem dX9_steamOf_23 : decode cX9_steamOf 23 = .ok (.iload_n 2, 1) := by decide +kernel
theorem dX9_steamOf_24 : decode cX9_steamOf 24 = .ok (.ireturn, 1) := by decide +kernel
theorem dX9_itsSteam_0 : decode cX9_itsSteam 0 = .ok (.aload_n 0, 1) := by decide +kernel
theorem dX9_itsSteam_1 : decode cX9_itsSteam 1 = .ok (.iload_n 1, 1) := by decide +kernel
theorem dX9_itsSteam_2 : decode cX9_itsSteam 2 = .ok (.iconst 0, 1) := by decide +kernel
theorem dX9_itsSteam_3 : decode cX9_itsSteam 3 = .ok (.invokevirtual 108, 3) := by decide +kernel
theorem dX9_itsSteam_6 : decode cX9_itsSteam 6 = .ok (.aload_n 0, 1) := by decide +kernel
theorem dX9_itsSteam_7 : decode cX9_itsSteam 7 = .ok (.iload_n 1, 1) := by decide +kernel
theorem dX9_itsSteam_8 : decode cX9_itsSteam 8 = .ok (.iconst 1, 1) := by decide +kernel
theorem dX9_itsSteam_9 : decode cX9_itsSteam 9 = .ok (.invokevirtual 108, 3) := by decide +kernel
theorem dX9_itsSteam_12 : decode cX9_itsSteam 12 = .ok (.invokestatic 120, 3) := by decide +kernel
theorem dX9_itsSteam_15 : decode cX9_itsSteam 15 = .ok (.ireturn, 1) := by decide +kernel
theorem dX9_isRefusedSign_0 : decode cX9_isRefusedSign 0 = .ok (.iconst 0, 1) := by decide +kernel
theorem dX9_isRefusedSign_1 : decode cX9_isRefusedSign 1 = .ok (.istore_n 3, 1) := by decide +kernel
theorem dX9_isRefusedSign_2 : decode cX9_isRefusedSign 2 = .ok (.iload_n 3, 1) := by decide +kernel
theorem dX9_isRefusedSign_3 : decode cX9_isRefusedSign 3 = .ok (.bipush 7, 2) := by decide +kernel
theorem dX9_isRefusedSign_5 : decode cX9_isRefusedSign 5 = .ok (.if_icmp .ge 36, 3) := by decide +kernel
theorem dX9_isRefusedSign_8 : decode cX9_isRefusedSign 8 = .ok (.aload_n 0, 1) := by decide +kernel
theorem dX9_isRefusedSign_9 : decode cX9_isRefusedSign 9 = .ok (.iload_n 3, 1) := by decide +kernel
theorem dX9_isRefusedSign_10 : decode cX9_isRefusedSign 10 = .ok (.iconst 0, 1) := by decide +kernel
theorem dX9_isRefusedSign_11 : decode cX9_isRefusedSign 11 = .ok (.invokevirtual 108, 3) := by decide +kernel
theorem dX9_isRefusedSign_14 : decode cX9_isRefusedSign 14 = .ok (.iload_n 1, 1) := by decide +kernel
theorem dX9_isRefusedSign_15 : decode cX9_isRefusedSign 15 = .ok (.if_icmp .ne 20, 3) := by decide +kernel
theorem dX9_isRefusedSign_18 : decode cX9_isRefusedSign 18 = .ok (.aload_n 0, 1) := by decide +kernel
theorem dX9_isRefusedSign_19 : decode cX9_isRefusedSign 19 = .ok (.iload_n 3, 1) := by decide +kernel
theorem dX9_isRefusedSign_20 : decode cX9_isRefusedSign 20 = .ok (.iconst 1, 1) := by decide +kernel
theorem dX9_isRefusedSign_21 : decode cX9_isRefusedSign 21 = .ok (.invokevirtual 108, 3) := by decide +kernel
theorem dX9_isRefusedSign_24 : decode cX9_isRefusedSign 24 = .ok (.iload_n 2, 1) := by decide +kernel
theorem dX9_isRefusedSign_25 : decode cX9_isRefusedSign 25 = .ok (.if_icmp .ne 10, 3) := by decide +kernel
theorem dX9_isRefusedSign_28 : decode cX9_isRefusedSign 28 = .ok (.aload_n 0, 1) := by decide +kernel
theorem dX9_isRefusedSign_29 : decode cX9_isRefusedSign 29 = .ok (.iconst 1, 1) := by decide +kernel
theorem dX9_isRefusedSign_30 : decode cX9_isRefusedSign 30 = .ok (.iload_n 3, 1) := by decide +kernel
theorem dX9_isRefusedSign_31 : decode cX9_isRefusedSign 31 = .ok (.invokevirtual 123, 3) := by decide +kernel
theorem dX9_isRefusedSign_34 : decode cX9_isRefusedSign 34 = .ok (.ireturn, 1) := by decide +kernel
theorem dX9_isRefusedSign_35 : decode cX9_isRefusedSign 35 = .ok (.iinc 3 1, 3) := by decide +kernel
theorem dX9_isRefusedSign_38 : decode cX9_isRefusedSign 38 = .ok (.goto (-36), 3) := by decide +kernel
theorem dX9_isRefusedSign_41 : decode cX9_isRefusedSign 41 = .ok (.iconst 0, 1) := by decide +kernel
theorem dX9_isRefusedSign_42 : decode cX9_isRefusedSign 42 = .ok (.ireturn, 1) := by decide +kernel
theorem dX9_tells_0 : decode cX9_tells 0 = .ok (.aload_n 0, 1) := by decide +kernel
theorem dX9_tells_1 : decode cX9_tells 1 = .ok (.iload_n 1, 1) := by decide +kernel
theorem dX9_tells_2 : decode cX9_tells 2 = .ok (.iconst 0, 1) := by decide +kernel
theorem dX9_tells_3 : decode cX9_tells 3 = .ok (.iload_n 2, 1) := by decide +kernel
theorem dX9_tells_4 : decode cX9_tells 4 = .ok (.invokevirtual 104, 3) := by decide +kernel
theorem dX9_tells_7 : decode cX9_tells 7 = .ok (.aload_n 0, 1) := by decide +kernel
theorem dX9_tells_8 : decode cX9_tells 8 = .ok (.iload_n 1, 1) := by decide +kernel
theorem dX9_tells_9 : decode cX9_tells 9 = .ok (.iconst 1, 1) := by decide +kernel
theorem dX9_tells_10 : decode cX9_tells 10 = .ok (.iload_n 3, 1) := by decide +kernel
theorem dX9_tells_11 : decode cX9_tells 11 = .ok (.invokevirtual 104, 3) := by decide +kernel
theorem dX9_tells_14 : decode cX9_tells 14 = .ok (.aload_n 0, 1) := by decide +kernel
theorem dX9_tells_15 : decode cX9_tells 15 = .ok (.iload_n 1, 1) := by decide +kernel
theorem dX9_tells_16 : decode cX9_tells 16 = .ok (.invokevirtual 127, 3) := by decide +kernel
theorem dX9_tells_19 : decode cX9_tells 19 = .ok (.ireturn, 1) := by decide +kernel
theorem dX9_sign_0 : decode cX9_sign 0 = .ok (.aload_n 0, 1) := by decide +kernel
theorem dX9_sign_1 : decode cX9_sign 1 = .ok (.invokevirtual 130, 3) := by decide +kernel
theorem dX9_sign_4 : decode cX9_sign 4 = .ok (.iload_n 1, 1) := by decide +kernel
theorem dX9_sign_5 : decode cX9_sign 5 = .ok (.invokestatic 133, 3) := by decide +kernel
theorem dX9_sign_8 : decode cX9_sign 8 = .ok (.ifCond .ne 9, 3) := by decide +kernel
theorem dX9_sign_11 : decode cX9_sign 11 = .ok (.aload_n 0, 1) := by decide +kernel
theorem dX9_sign_12 : decode cX9_sign 12 = .ok (.iconst 1, 1) := by decide +kernel
theorem dX9_sign_13 : decode cX9_sign 13 = .ok (.invokevirtual 96, 3) := by decide +kernel
theorem dX9_sign_16 : decode cX9_sign 16 = .ok (.ireturn, 1) := by decide +kernel
theorem dX9_sign_17 : decode cX9_sign 17 = .ok (.iload_n 2, 1) := by decide +kernel
theorem dX9_sign_18 : decode cX9_sign 18 = .ok (.iload_n 3, 1) := by decide +kernel
theorem dX9_sign_19 : decode cX9_sign 19 = .ok (.invokestatic 137, 3) := by decide +kernel
theorem dX9_sign_22 : decode cX9_sign 22 = .ok (.ifCond .ne 9, 3) := by decide +kernel
theorem dX9_sign_25 : decode cX9_sign 25 = .ok (.aload_n 0, 1) := by decide +kernel
theorem dX9_sign_26 : decode cX9_sign 26 = .ok (.iconst 2, 1) := by decide +kernel
theorem dX9_sign_27 : decode cX9_sign 27 = .ok (.invokevirtual 96, 3) := by decide +kernel
theorem dX9_sign_30 : decode cX9_sign 30 = .ok (.ireturn, 1) := by decide +kernel
theorem dX9_sign_31 : decode cX9_sign 31 = .ok (.aload_n 0, 1) := by decide +kernel
theorem dX9_sign_32 : decode cX9_sign 32 = .ok (.iload_n 2, 1) := by decide +kernel
theorem dX9_sign_33 : decode cX9_sign 33 = .ok (.iload_n 3, 1) := by decide +kernel
theorem dX9_sign_34 : decode cX9_sign 34 = .ok (.invokevirtual 140, 3) := by decide +kernel
theorem dX9_sign_37 : decode cX9_sign 37 = .ok (.ifCond .eq 11, 3) := by decide +kernel
theorem dX9_sign_40 : decode cX9_sign 40 = .ok (.aload_n 0, 1) := by decide +kernel
theorem dX9_sign_41 : decode cX9_sign 41 = .ok (.iconst 3, 1) := by decide +kernel
theorem dX9_sign_42 : decode cX9_sign 42 = .ok (.invokevirtual 143, 3) := by decide +kernel
theorem dX9_sign_45 : decode cX9_sign 45 = .ok (.goto 14, 3) := by decide +kernel
theorem dX9_sign_48 : decode cX9_sign 48 = .ok (.aload_n 0, 1) := by decide +kernel
theorem dX9_sign_49 : decode cX9_sign 49 = .ok (.aload_n 0, 1) := by decide +kernel
theorem dX9_sign_50 : decode cX9_sign 50 = .ok (.iload_n 1, 1) := by decide +kernel
theorem dX9_sign_51 : decode cX9_sign 51 = .ok (.iload_n 2, 1) := by decide +kernel
theorem dX9_sign_52 : decode cX9_sign 52 = .ok (.iload_n 3, 1) := by decide +kernel
theorem dX9_sign_53 : decode cX9_sign 53 = .ok (.invokevirtual 146, 3) := by decide +kernel
theorem dX9_sign_56 : decode cX9_sign 56 = .ok (.invokevirtual 150, 3) := by decide +kernel
theorem dX9_sign_59 : decode cX9_sign 59 = .ok (.ireturn, 1) := by decide +kernel
theorem dX9_hasNoSign_0 : decode cX9_hasNoSign 0 = .ok (.aload_n 0, 1) := by decide +kernel
theorem dX9_hasNoSign_1 : decode cX9_hasNoSign 1 = .ok (.iload_n 1, 1) := by decide +kernel
theorem dX9_hasNoSign_2 : decode cX9_hasNoSign 2 = .ok (.iconst 0, 1) := by decide +kernel
theorem dX9_hasNoSign_3 : decode cX9_hasNoSign 3 = .ok (.invokevirtual 108, 3) := by decide +kernel
theorem dX9_hasNoSign_6 : decode cX9_hasNoSign 6 = .ok (.ifCond .ne 19, 3) := by decide +kernel
theorem dX9_hasNoSign_9 : decode cX9_hasNoSign 9 = .ok (.aload_n 0, 1) := by decide +kernel
theorem dX9_hasNoSign_10 : decode cX9_hasNoSign 10 = .ok (.iconst 2, 1) := by decide +kernel
theorem dX9_hasNoSign_11 : decode cX9_hasNoSign 11 = .ok (.aload_n 0, 1) := by decide +kernel
theorem dX9_hasNoSign_12 : decode cX9_hasNoSign 12 = .ok (.invokevirtual 112, 3) := by decide +kernel
theorem dX9_hasNoSign_15 : decode cX9_hasNoSign 15 = .ok (.invokevirtual 123, 3) := by decide +kernel
theorem dX9_hasNoSign_18 : decode cX9_hasNoSign 18 = .ok (.ifCond .eq 7, 3) := by decide +kernel
theorem dX9_hasNoSign_21 : decode cX9_hasNoSign 21 = .ok (.iconst 1, 1) := by decide +kernel
theorem dX9_hasNoSign_22 : decode cX9_hasNoSign 22 = .ok (.goto 4, 3) := by decide +kernel
theorem dX9_hasNoSign_25 : decode cX9_hasNoSign 25 = .ok (.iconst 0, 1) := by decide +kernel
theorem dX9_hasNoSign_26 : decode cX9_hasNoSign 26 = .ok (.ireturn, 1) := by decide +kernel
theorem dX9_unsigns_0 : decode cX9_unsigns 0 = .ok (.aload_n 0, 1) := by decide +kernel
theorem dX9_unsigns_1 : decode cX9_unsigns 1 = .ok (.iload_n 1, 1) := by decide +kernel
theorem dX9_unsigns_2 : decode cX9_unsigns 2 = .ok (.iconst 0, 1) := by decide +kernel
theorem dX9_unsigns_3 : decode cX9_unsigns 3 = .ok (.iconst 0, 1) := by decide +kernel
theorem dX9_unsigns_4 : decode cX9_unsigns 4 = .ok (.invokevirtual 104, 3) := by decide +kernel
theorem dX9_unsigns_7 : decode cX9_unsigns 7 = .ok (.aload_n 0, 1) := by decide +kernel
theorem dX9_unsigns_8 : decode cX9_unsigns 8 = .ok (.iload_n 1, 1) := by decide +kernel
theorem dX9_unsigns_9 : decode cX9_unsigns 9 = .ok (.iconst 1, 1) := by decide +kernel
theorem dX9_unsigns_10 : decode cX9_unsigns 10 = .ok (.iconst 0, 1) := by decide +kernel
theorem dX9_unsigns_11 : decode cX9_unsigns 11 = .ok (.invokevirtual 104, 3) := by decide +kernel
theorem dX9_unsigns_14 : decode cX9_unsigns 14 = .ok (.aload_n 0, 1) := by decide +kernel
theorem dX9_unsigns_15 : decode cX9_unsigns 15 = .ok (.invokevirtual 112, 3) := by decide +kernel
theorem dX9_unsigns_18 : decode cX9_unsigns 18 = .ok (.ireturn, 1) := by decide +kernel
theorem dX9_unsign_0 : decode cX9_unsign 0 = .ok (.aload_n 0, 1) := by decide +kernel
theorem dX9_unsign_1 : decode cX9_unsign 1 = .ok (.invokevirtual 130, 3) := by decide +kernel
theorem dX9_unsign_4 : decode cX9_unsign 4 = .ok (.iload_n 1, 1) := by decide +kernel
theorem dX9_unsign_5 : decode cX9_unsign 5 = .ok (.invokestatic 133, 3) := by decide +kernel
theorem dX9_unsign_8 : decode cX9_unsign 8 = .ok (.ifCond .ne 9, 3) := by decide +kernel
theorem dX9_unsign_11 : decode cX9_unsign 11 = .ok (.aload_n 0, 1) := by decide +kernel
theorem dX9_unsign_12 : decode cX9_unsign 12 = .ok (.iconst 1, 1) := by decide +kernel
theorem dX9_unsign_13 : decode cX9_unsign 13 = .ok (.invokevirtual 96, 3) := by decide +kernel
theorem dX9_unsign_16 : decode cX9_unsign 16 = .ok (.ireturn, 1) := by decide +kernel
theorem dX9_unsign_17 : decode cX9_unsign 17 = .ok (.aload_n 0, 1) := by decide +kernel
theorem dX9_unsign_18 : decode cX9_unsign 18 = .ok (.iload_n 1, 1) := by decide +kernel
theorem dX9_unsign_19 : decode cX9_unsign 19 = .ok (.invokevirtual 153, 3) := by decide +kernel
theorem dX9_unsign_22 : decode cX9_unsign 22 = .ok (.ifCond .eq 11, 3) := by decide +kernel
theorem dX9_unsign_25 : decode cX9_unsign 25 = .ok (.aload_n 0, 1) := by decide +kernel
theorem dX9_unsign_26 : decode cX9_unsign 26 = .ok (.iconst 2, 1) := by decide +kernel
theorem dX9_unsign_27 : decode cX9_unsign 27 = .ok (.invokevirtual 143, 3) := by decide +kernel
theorem dX9_unsign_30 : decode cX9_unsign 30 = .ok (.goto 12, 3) := by decide +kernel
theorem dX9_unsign_33 : decode cX9_unsign 33 = .ok (.aload_n 0, 1) := by decide +kernel
theorem dX9_unsign_34 : decode cX9_unsign 34 = .ok (.aload_n 0, 1) := by decide +kernel
theorem dX9_unsign_35 : decode cX9_unsign 35 = .ok (.iload_n 1, 1) := by decide +kernel
theorem dX9_unsign_36 : decode cX9_unsign 36 = .ok (.invokevirtual 156, 3) := by decide +kernel
theorem dX9_unsign_39 : decode cX9_unsign 39 = .ok (.invokevirtual 150, 3) := by decide +kernel
theorem dX9_unsign_42 : decode cX9_unsign 42 = .ok (.ireturn, 1) := by decide +kernel
theorem dX9_isPriority_0 : decode cX9_isPriority 0 = .ok (.iload_n 0, 1) := by decide +kernel
theorem dX9_isPriority_1 : decode cX9_isPriority 1 = .ok (.iconst 0, 1) := by decide +kernel
theorem dX9_isPriority_2 : decode cX9_isPriority 2 = .ok (.bipush 9, 2) := by decide +kernel
theorem dX9_isPriority_4 : decode cX9_isPriority 4 = .ok (.invokestatic 116, 3) := by decide +kernel
theorem dX9_isPriority_7 : decode cX9_isPriority 7 = .ok (.ireturn, 1) := by decide +kernel
theorem dX9_isRefusedPriority_0 : decode cX9_isRefusedPriority 0 = .ok (.aload_n 0, 1) := by decide +kernel
theorem dX9_isRefusedPriority_1 : decode cX9_isRefusedPriority 1 = .ok (.iload_n 1, 1) := by decide +kernel
theorem dX9_isRefusedPriority_2 : decode cX9_isRefusedPriority 2 = .ok (.iconst 2, 1) := by decide +kernel
theorem dX9_isRefusedPriority_3 : decode cX9_isRefusedPriority 3 = .ok (.invokevirtual 108, 3) := by decide +kernel
theorem dX9_isRefusedPriority_6 : decode cX9_isRefusedPriority 6 = .ok (.iload_n 2, 1) := by decide +kernel
theorem dX9_isRefusedPriority_7 : decode cX9_isRefusedPriority 7 = .ok (.if_icmp .ne 16, 3) := by decide +kernel
theorem dX9_isRefusedPriority_10 : decode cX9_isRefusedPriority 10 = .ok (.aload_n 0, 1) := by decide +kernel
theorem dX9_isRefusedPriority_11 : decode cX9_isRefusedPriority 11 = .ok (.iconst 3, 1) := by decide +kernel
theorem dX9_isRefusedPriority_12 : decode cX9_isRefusedPriority 12 = .ok (.iload_n 2, 1) := by decide +kernel
theorem dX9_isRefusedPriority_13 : decode cX9_isRefusedPriority 13 = .ok (.invokevirtual 123, 3) := by decide +kernel
theorem dX9_isRefusedPriority_16 : decode cX9_isRefusedPriority 16 = .ok (.ifCond .eq 7, 3) := by decide +kernel
theorem dX9_isRefusedPriority_19 : decode cX9_isRefusedPriority 19 = .ok (.iconst 1, 1) := by decide +kernel
theorem dX9_isRefusedPriority_20 : decode cX9_isRefusedPriority 20 = .ok (.goto 4, 3) := by decide +kernel
theorem dX9_isRefusedPriority_23 : decode cX9_isRefusedPriority 23 = .ok (.iconst 0, 1) := by decide +kernel
theorem dX9_isRefusedPriority_24 : decode cX9_isRefusedPriority 24 = .ok (.ireturn, 1) := by decide +kernel
theorem dX9_orders_0 : decode cX9_orders 0 = .ok (.aload_n 0, 1) := by decide +kernel
theorem dX9_orders_1 : decode cX9_orders 1 = .ok (.iload_n 1, 1) := by decide +kernel
theorem dX9_orders_2 : decode cX9_orders 2 = .ok (.iconst 2, 1) := by decide +kernel
theorem dX9_orders_3 : decode cX9_orders 3 = .ok (.invokevirtual 108, 3) := by decide +kernel
theorem dX9_orders_6 : decode cX9_orders 6 = .ok (.istore_n 3, 1) := by decide +kernel
theorem dX9_orders_7 : decode cX9_orders 7 = .ok (.aload_n 0, 1) := by decide +kernel
theorem dX9_orders_8 : decode cX9_orders 8 = .ok (.iload_n 1, 1) := by decide +kernel
theorem dX9_orders_9 : decode cX9_orders 9 = .ok (.iconst 2, 1) := by decide +kernel
theorem dX9_orders_10 : decode cX9_orders 10 = .ok (.iload_n 2, 1) := by decide +kernel
theorem dX9_orders_11 : decode cX9_orders 11 = .ok (.invokevirtual 104, 3) := by decide +kernel
theorem dX9_orders_14 : decode cX9_orders 14 = .ok (.iload_n 3, 1) := by decide +kernel
theorem dX9_orders_15 : decode cX9_orders 15 = .ok (.ireturn, 1) := by decide +kernel
theorem dX9_priority_0 : decode cX9_priority 0 = .ok (.aload_n 0, 1) := by decide +kernel
theorem dX9_priority_1 : decode cX9_priority 1 = .ok (.invokevirtual 130, 3) := by decide +kernel
theorem dX9_priority_4 : decode cX9_priority 4 = .ok (.iload_n 1, 1) := by decide +kernel
theorem dX9_priority_5 : decode cX9_priority 5 = .ok (.invokestatic 133, 3) := by decide +kernel
theorem dX9_priority_8 : decode cX9_priority 8 = .ok (.ifCond .ne 9, 3) := by decide +kernel
theorem dX9_priority_11 : decode cX9_priority 11 = .ok (.aload_n 0, 1) := by decide +kernel
theorem dX9_priority_12 : decode cX9_priority 12 = .ok (.iconst 1, 1) := by decide +kernel
theorem dX9_priority_13 : decode cX9_priority 13 = .ok (.invokevirtual 96, 3) := by decide +kernel
theorem dX9_priority_16 : decode cX9_priority 16 = .ok (.ireturn, 1) := by decide +kernel
theorem dX9_priority_17 : decode cX9_priority 17 = .ok (.iload_n 2, 1) := by decide +kernel
theorem dX9_priority_18 : decode cX9_priority 18 = .ok (.invokestatic 159, 3) := by decide +kernel
theorem dX9_priority_21 : decode cX9_priority 21 = .ok (.ifCond .ne 9, 3) := by decide +kernel
theorem dX9_priority_24 : decode cX9_priority 24 = .ok (.aload_n 0, 1) := by decide +kernel
theorem dX9_priority_25 : decode cX9_priority 25 = .ok (.iconst 2, 1) := by decide +kernel
theorem dX9_priority_26 : decode cX9_priority 26 = .ok (.invokevirtual 96, 3) := by decide +kernel
theorem dX9_priority_29 : decode cX9_priority 29 = .ok (.ireturn, 1) := by decide +kernel
theorem dX9_priority_30 : decode cX9_priority 30 = .ok (.aload_n 0, 1) := by decide +kernel
theorem dX9_priority_31 : decode cX9_priority 31 = .ok (.iload_n 1, 1) := by decide +kernel
theorem dX9_priority_32 : decode cX9_priority 32 = .ok (.iload_n 2, 1) := by decide +kernel
theorem dX9_priority_33 : decode cX9_priority 33 = .ok (.invokevirtual 162, 3) := by decide +kernel
theorem dX9_priority_36 : decode cX9_priority 36 = .ok (.ifCond .eq 11, 3) := by decide +kernel
theorem dX9_priority_39 : decode cX9_priority 39 = .ok (.aload_n 0, 1) := by decide +kernel
theorem dX9_priority_40 : decode cX9_priority 40 = .ok (.iconst 3, 1) := by decide +kernel
theorem dX9_priority_41 : decode cX9_priority 41 = .ok (.invokevirtual 143, 3) := by decide +kernel
theorem dX9_priority_44 : decode cX9_priority 44 = .ok (.goto 13, 3) := by decide +kernel
theorem dX9_priority_47 : decode cX9_priority 47 = .ok (.aload_n 0, 1) := by decide +kernel
theorem dX9_priority_48 : decode cX9_priority 48 = .ok (.aload_n 0, 1) := by decide +kernel
theorem dX9_priority_49 : decode cX9_priority 49 = .ok (.iload_n 1, 1) := by decide +kernel
theorem dX9_priority_50 : decode cX9_priority 50 = .ok (.iload_n 2, 1) := by decide +kernel
theorem dX9_priority_51 : decode cX9_priority 51 = .ok (.invokevirtual 165, 3) := by decide +kernel
theorem dX9_priority_54 : decode cX9_priority 54 = .ok (.invokevirtual 150, 3) := by decide +kernel
theorem dX9_priority_57 : decode cX9_priority 57 = .ok (.ireturn, 1) := by decide +kernel
theorem dX9_isPlatform_0 : decode cX9_isPlatform 0 = .ok (.iload_n 0, 1) := by decide +kernel
theorem dX9_isPlatform_1 : decode cX9_isPlatform 1 = .ok (.iconst 0, 1) := by decide +kernel
theorem dX9_isPlatform_2 : decode cX9_isPlatform 2 = .ok (.iconst 3, 1) := by decide +kernel
theorem dX9_isPlatform_3 : decode cX9_isPlatform 3 = .ok (.invokestatic 116, 3) := by decide +kernel
theorem dX9_isPlatform_6 : decode cX9_isPlatform 6 = .ok (.ireturn, 1) := by decide +kernel
theorem dX9_lays_0 : decode cX9_lays 0 = .ok (.aload_n 0, 1) := by decide +kernel
theorem dX9_lays_1 : decode cX9_lays 1 = .ok (.getfield 7, 3) := by decide +kernel
theorem dX9_lays_4 : decode cX9_lays 4 = .ok (.bipush 92, 2) := by decide +kernel
theorem dX9_lays_6 : decode cX9_lays 6 = .ok (.iconst 3, 1) := by decide +kernel
theorem dX9_lays_7 : decode cX9_lays 7 = .ok (.iload_n 1, 1) := by decide +kernel
theorem dX9_lays_8 : decode cX9_lays 8 = .ok (.imul, 1) := by decide +kernel
theorem dX9_lays_9 : decode cX9_lays 9 = .ok (.iadd, 1) := by decide +kernel
theorem dX9_lays_10 : decode cX9_lays 10 = .ok (.iconst 0, 1) := by decide +kernel
theorem dX9_lays_11 : decode cX9_lays 11 = .ok (.iadd, 1) := by decide +kernel
theorem dX9_lays_12 : decode cX9_lays 12 = .ok (.iload_n 2, 1) := by decide +kernel
theorem dX9_lays_13 : decode cX9_lays 13 = .ok (.iastore, 1) := by decide +kernel
theorem dX9_lays_14 : decode cX9_lays 14 = .ok (.aload_n 0, 1) := by decide +kernel
theorem dX9_lays_15 : decode cX9_lays 15 = .ok (.getfield 7, 3) := by decide +kernel
theorem dX9_lays_18 : decode cX9_lays 18 = .ok (.bipush 92, 2) := by decide +kernel
theorem dX9_lays_20 : decode cX9_lays 20 = .ok (.iconst 3, 1) := by decide +kernel
theorem dX9_lays_21 : decode cX9_lays 21 = .ok (.iload_n 1, 1) := by decide +kernel
theorem dX9_lays_22 : decode cX9_lays 22 = .ok (.imul, 1) := by decide +kernel
theorem dX9_lays_23 : decode cX9_lays 23 = .ok (.iadd, 1) := by decide +kernel
theorem dX9_lays_24 : decode cX9_lays 24 = .ok (.iconst 1, 1) := by decide +kernel
theorem dX9_lays_25 : decode cX9_lays 25 = .ok (.iadd, 1) := by decide +kernel
theorem dX9_lays_26 : decode cX9_lays 26 = .ok (.iload_n 3, 1) := by decide +kernel
theorem dX9_lays_27 : decode cX9_lays 27 = .ok (.iastore, 1) := by decide +kernel
theorem dX9_lays_28 : decode cX9_lays 28 = .ok (.iconst 0, 1) := by decide +kernel
theorem dX9_lays_29 : decode cX9_lays 29 = .ok (.istore 4, 2) := by decide +kernel
theorem dX9_lays_31 : decode cX9_lays 31 = .ok (.iconst 0, 1) := by decide +kernel
theorem dX9_lays_32 : decode cX9_lays 32 = .ok (.istore 5, 2) := by decide +kernel
theorem dX9_lays_34 : decode cX9_lays 34 = .ok (.iload 5, 2) := by decide +kernel
theorem dX9_lays_36 : decode cX9_lays 36 = .ok (.iconst 4, 1) := by decide +kernel
theorem dX9_lays_37 : decode cX9_lays 37 = .ok (.if_icmp .ge 29, 3) := by decide +kernel
theorem dX9_lays_40 : decode cX9_lays 40 = .ok (.iload 4, 2) := by decide +kernel
theorem dX9_lays_42 : decode cX9_lays 42 = .ok (.aload_n 0, 1) := by decide +kernel
theorem dX9_lays_43 : decode cX9_lays 43 = .ok (.iload 5, 2) := by decide +kernel
theorem dX9_lays_45 : decode cX9_lays 45 = .ok (.iconst 0, 1) := by decide +kernel
theorem dX9_lays_46 : decode cX9_lays 46 = .ok (.invokevirtual 168, 3) := by decide +kernel
theorem dX9_lays_49 : decode cX9_lays 49 = .ok (.ifCond .le 7, 3) := by decide +kernel
theorem dX9_lays_52 : decode cX9_lays 52 = .ok (.iconst 1, 1) := by decide +kernel
theorem dX9_lays_53 : decode cX9_lays 53 = .ok (.goto 4, 3) := by decide +kernel
theorem dX9_lays_56 : decode cX9_lays 56 = .ok (.iconst 0, 1) := by decide +kernel
theorem dX9_lays_57 : decode cX9_lays 57 = .ok (.iadd, 1) := by decide +kernel
theorem dX9_lays_58 : decode cX9_lays 58 = .ok (.istore 4, 2) := by decide +kernel
theorem dX9_lays_60 : decode cX9_lays 60 = .ok (.iinc 5 1, 3) := by decide +kernel
theorem dX9_lays_63 : decode cX9_lays 63 = .ok (.goto (-29), 3) := by decide +kernel
theorem dX9_lays_66 : decode cX9_lays 66 = .ok (.iload 4, 2) := by decide +kernel
theorem dX9_lays_68 : decode cX9_lays 68 = .ok (.ireturn, 1) := by decide +kernel
theorem dX9_platform_0 : decode cX9_platform 0 = .ok (.aload_n 0, 1) := by decide +kernel
theorem dX9_platform_1 : decode cX9_platform 1 = .ok (.invokevirtual 130, 3) := by decide +kernel
theorem dX9_platform_4 : decode cX9_platform 4 = .ok (.iload_n 1, 1) := by decide +kernel
theorem dX9_platform_5 : decode cX9_platform 5 = .ok (.invokestatic 171, 3) := by decide +kernel
theorem dX9_platform_8 : decode cX9_platform 8 = .ok (.ifCond .ne 9, 3) := by decide +kernel
theorem dX9_platform_11 : decode cX9_platform 11 = .ok (.aload_n 0, 1) := by decide +kernel
theorem dX9_platform_12 : decode cX9_platform 12 = .ok (.iconst 1, 1) := by decide +kernel
theorem dX9_platform_13 : decode cX9_platform 13 = .ok (.invokevirtual 96, 3) := by decide +kernel
theorem dX9_platform_16 : decode cX9_platform 16 = .ok (.ireturn, 1) := by decide +kernel
theorem dX9_platform_17 : decode cX9_platform 17 = .ok (.iload_n 2, 1) := by decide +kernel
theorem dX9_platform_18 : decode cX9_platform 18 = .ok (.iconst 0, 1) := by decide +kernel
theorem dX9_platform_19 : decode cX9_platform 19 = .ok (.iconst 5, 1) := by decide +kernel
theorem dX9_platform_20 : decode cX9_platform 20 = .ok (.invokestatic 116, 3) := by decide +kernel
theorem dX9_platform_23 : decode cX9_platform 23 = .ok (.ifCond .eq 27, 3) := by decide +kernel
theorem dX9_platform_26 : decode cX9_platform 26 = .ok (.iload_n 3, 1) := by decide +kernel
theorem dX9_platform_27 : decode cX9_platform 27 = .ok (.iconst 0, 1) := by decide +kernel
theorem dX9_platform_28 : decode cX9_platform 28 = .ok (.bipush 127, 2) := by decide +kernel
theorem dX9_platform_30 : decode cX9_platform 30 = .ok (.invokestatic 116, 3) := by decide +kernel
theorem dX9_platform_33 : decode cX9_platform 33 = .ok (.ifCond .eq 17, 3) := by decide +kernel
theorem dX9_platform_36 : decode cX9_platform 36 = .ok (.aload_n 0, 1) := by decide +kernel
theorem dX9_platform_37 : decode cX9_platform 37 = .ok (.aload_n 0, 1) := by decide +kernel
theorem dX9_platform_38 : decode cX9_platform 38 = .ok (.iload_n 1, 1) := by decide +kernel
theorem dX9_platform_39 : decode cX9_platform 39 = .ok (.iload_n 2, 1) := by decide +kernel
theorem dX9_platform_40 : decode cX9_platform 40 = .ok (.iload_n 3, 1) := by decide +kernel
theorem dX9_platform_41 : decode cX9_platform 41 = .ok (.invokevirtual 174, 3) := by decide +kernel
theorem dX9_platform_44 : decode cX9_platform 44 = .ok (.invokevirtual 150, 3) := by decide +kernel
theorem dX9_platform_47 : decode cX9_platform 47 = .ok (.goto 8, 3) := by decide +kernel
theorem dX9_platform_50 : decode cX9_platform 50 = .ok (.aload_n 0, 1) := by decide +kernel
theorem dX9_platform_51 : decode cX9_platform 51 = .ok (.iconst 2, 1) := by decide +kernel
theorem dX9_platform_52 : decode cX9_platform 52 = .ok (.invokevirtual 96, 3) := by decide +kernel
theorem dX9_platform_55 : decode cX9_platform 55 = .ok (.ireturn, 1) := by decide +kernel
theorem dX9_sound_0 : decode cX9_sound 0 = .ok (.iload_n 0, 1) := by decide +kernel
theorem dX9_sound_1 : decode cX9_sound 1 = .ok (.bipush 8, 2) := by decide +kernel
theorem dX9_sound_3 : decode cX9_sound 3 = .ok (.imul, 1) := by decide +kernel
theorem dX9_sound_4 : decode cX9_sound 4 = .ok (.iload_n 1, 1) := by decide +kernel
theorem dX9_sound_5 : decode cX9_sound 5 = .ok (.iadd, 1) := by decide +kernel
theorem dX9_sound_6 : decode cX9_sound 6 = .ok (.bipush 8, 2) := by decide +kernel
theorem dX9_sound_8 : decode cX9_sound 8 = .ok (.imul, 1) := by decide +kernel
theorem dX9_sound_9 : decode cX9_sound 9 = .ok (.iload_n 2, 1) := by decide +kernel
theorem dX9_sound_10 : decode cX9_sound 10 = .ok (.iadd, 1) := by decide +kernel
theorem dX9_sound_11 : decode cX9_sound 11 = .ok (.iconst 1, 1) := by decide +kernel
theorem dX9_sound_12 : decode cX9_sound 12 = .ok (.iadd, 1) := by decide +kernel
theorem dX9_sound_13 : decode cX9_sound 13 = .ok (.bipush 8, 2) := by decide +kernel
theorem dX9_sound_15 : decode cX9_sound 15 = .ok (.imul, 1) := by decide +kernel
theorem dX9_sound_16 : decode cX9_sound 16 = .ok (.iload_n 3, 1) := by decide +kernel
theorem dX9_sound_17 : decode cX9_sound 17 = .ok (.iadd, 1) := by decide +kernel
theorem dX9_sound_18 : decode cX9_sound 18 = .ok (.bipush 64, 2) := by decide +kernel
theorem dX9_sound_20 : decode cX9_sound 20 = .ok (.imul, 1) := by decide +kernel
theorem dX9_sound_21 : decode cX9_sound 21 = .ok (.iload 4, 2) := by decide +kernel
theorem dX9_sound_23 : decode cX9_sound 23 = .ok (.iadd, 1) := by decide +kernel
theorem dX9_sound_24 : decode cX9_sound 24 = .ok (.ireturn, 1) := by decide +kernel
theorem dX9_bitsIn_0 : decode cX9_bitsIn 0 = .ok (.iload_n 0, 1) := by decide +kernel
theorem dX9_bitsIn_1 : decode cX9_bitsIn 1 = .ok (.bipush 64, 2) := by decide +kernel
theorem dX9_bitsIn_3 : decode cX9_bitsIn 3 = .ok (.irem, 1) := by decide +kernel
theorem dX9_bitsIn_4 : decode cX9_bitsIn 4 = .ok (.ireturn, 1) := by decide +kernel
theorem dX9_lengthIn_0 : decode cX9_lengthIn 0 = .ok (.iload_n 0, 1) := by decide +kernel
theorem dX9_lengthIn_1 : decode cX9_lengthIn 1 = .ok (.bipush 64, 2) := by decide +kernel
theorem dX9_lengthIn_3 : decode cX9_lengthIn 3 = .ok (.idiv, 1) := by decide +kernel
theorem dX9_lengthIn_4 : decode cX9_lengthIn 4 = .ok (.bipush 8, 2) := by decide +kernel
theorem dX9_lengthIn_6 : decode cX9_lengthIn 6 = .ok (.irem, 1) := by decide +kernel
theorem dX9_lengthIn_7 : decode cX9_lengthIn 7 = .ok (.ireturn, 1) := by decide +kernel
theorem dX9_platformIn_0 : decode cX9_platformIn 0 = .ok (.iload_n 0, 1) := by decide +kernel
theorem dX9_platformIn_1 : decode cX9_platformIn 1 = .ok (.sipush 512, 3) := by decide +kernel
theorem dX9_platformIn_4 : decode cX9_platformIn 4 = .ok (.idiv, 1) := by decide +kernel
theorem dX9_platformIn_5 : decode cX9_platformIn 5 = .ok (.bipush 8, 2) := by decide +kernel
theorem dX9_platformIn_7 : decode cX9_platformIn 7 = .ok (.irem, 1) := by decide +kernel
theorem dX9_platformIn_8 : decode cX9_platformIn 8 = .ok (.iconst 1, 1) := by decide +kernel
theorem dX9_platformIn_9 : decode cX9_platformIn 9 = .ok (.isub, 1) := by decide +kernel
theorem dX9_platformIn_10 : decode cX9_platformIn 10 = .ok (.ireturn, 1) := by decide +kernel
theorem dX9_byIn_0 : decode cX9_byIn 0 = .ok (.iload_n 0, 1) := by decide +kernel
theorem dX9_byIn_1 : decode cX9_byIn 1 = .ok (.sipush 4096, 3) := by decide +kernel
theorem dX9_byIn_4 : decode cX9_byIn 4 = .ok (.idiv, 1) := by decide +kernel
theorem dX9_byIn_5 : decode cX9_byIn 5 = .ok (.bipush 8, 2) := by decide +kernel
theorem dX9_byIn_7 : decode cX9_byIn 7 = .ok (.irem, 1) := by decide +kernel
theorem dX9_byIn_8 : decode cX9_byIn 8 = .ok (.ireturn, 1) := by decide +kernel
theorem dX9_toldIn_0 : decode cX9_toldIn 0 = .ok (.iload_n 0, 1) := by decide +kernel
theorem dX9_toldIn_1 : decode cX9_toldIn 1 = .ok (.ldc 177, 2) := by decide +kernel
theorem dX9_toldIn_3 : decode cX9_toldIn 3 = .ok (.idiv, 1) := by decide +kernel
theorem dX9_toldIn_4 : decode cX9_toldIn 4 = .ok (.bipush 8, 2) := by decide +kernel
theorem dX9_toldIn_6 : decode cX9_toldIn 6 = .ok (.irem, 1) := by decide +kernel
theorem dX9_toldIn_7 : decode cX9_toldIn 7 = .ok (.ireturn, 1) := by decide +kernel
theorem dX9_sounds_0 : decode cX9_sounds 0 = .ok (.aload_n 0, 1) := by decide +kernel
theorem dX9_sounds_1 : decode cX9_sounds 1 = .ok (.getfield 7, 3) := by decide +kernel
theorem dX9_sounds_4 : decode cX9_sounds 4 = .ok (.bipush 110, 2) := by decide +kernel
theorem dX9_sounds_6 : decode cX9_sounds 6 = .ok (.aload_n 0, 1) := by decide +kernel
theorem dX9_sounds_7 : decode cX9_sounds 7 = .ok (.getfield 7, 3) := by decide +kernel
theorem dX9_sounds_10 : decode cX9_sounds 10 = .ok (.iconst 1, 1) := by decide +kernel
theorem dX9_sounds_11 : decode cX9_sounds 11 = .ok (.iaload, 1) := by decide +kernel
theorem dX9_sounds_12 : decode cX9_sounds 12 = .ok (.iadd, 1) := by decide +kernel
theorem dX9_sounds_13 : decode cX9_sounds 13 = .ok (.iload_n 1, 1) := by decide +kernel
theorem dX9_sounds_14 : decode cX9_sounds 14 = .ok (.iastore, 1) := by decide +kernel
theorem dX9_sounds_15 : decode cX9_sounds 15 = .ok (.aload_n 0, 1) := by decide +kernel
theorem dX9_sounds_16 : decode cX9_sounds 16 = .ok (.getfield 7, 3) := by decide +kernel
theorem dX9_sounds_19 : decode cX9_sounds 19 = .ok (.iconst 1, 1) := by decide +kernel
theorem dX9_sounds_20 : decode cX9_sounds 20 = .ok (.dup2, 1) := by decide +kernel
theorem dX9_sounds_21 : decode cX9_sounds 21 = .ok (.iaload, 1) := by decide +kernel
theorem dX9_sounds_22 : decode cX9_sounds 22 = .ok (.iconst 1, 1) := by decide +kernel
theorem dX9_sounds_23 : decode cX9_sounds 23 = .ok (.iadd, 1) := by decide +kernel
theorem dX9_sounds_24 : decode cX9_sounds 24 = .ok (.iastore, 1) := by decide +kernel
theorem dX9_sounds_25 : decode cX9_sounds 25 = .ok (.aload_n 0, 1) := by decide +kernel
theorem dX9_sounds_26 : decode cX9_sounds 26 = .ok (.getfield 7, 3) := by decide +kernel
theorem dX9_sounds_29 : decode cX9_sounds 29 = .ok (.sipush 470, 3) := by decide +kernel
theorem dX9_sounds_32 : decode cX9_sounds 32 = .ok (.aload_n 0, 1) := by decide +kernel
theorem dX9_sounds_33 : decode cX9_sounds 33 = .ok (.getfield 7, 3) := by decide +kernel
theorem dX9_sounds_36 : decode cX9_sounds 36 = .ok (.iconst 3, 1) := by decide +kernel
theorem dX9_sounds_37 : decode cX9_sounds 37 = .ok (.iaload, 1) := by decide +kernel
theorem dX9_sounds_38 : decode cX9_sounds 38 = .ok (.iadd, 1) := by decide +kernel
theorem dX9_sounds_39 : decode cX9_sounds 39 = .ok (.bipush 64, 2) := by decide +kernel
theorem dX9_sounds_41 : decode cX9_sounds 41 = .ok (.iload_n 1, 1) := by decide +kernel
theorem dX9_sounds_42 : decode cX9_sounds 42 = .ok (.invokestatic 178, 3) := by decide +kernel
theorem dX9_sounds_45 : decode cX9_sounds 45 = .ok (.imul, 1) := by decide +kernel
theorem dX9_sounds_46 : decode cX9_sounds 46 = .ok (.iload_n 1, 1) := by decide +kernel
theorem dX9_sounds_47 : decode cX9_sounds 47 = .ok (.invokestatic 181, 3) := by decide +kernel
theorem dX9_sounds_50 : decode cX9_sounds 50 = .ok (.iadd, 1) := by decide +kernel
theorem dX9_sounds_51 : decode cX9_sounds 51 = .ok (.iastore, 1) := by decide +kernel
theorem dX9_sounds_52 : decode cX9_sounds 52 = .ok (.aload_n 0, 1) := by decide +kernel
theorem dX9_sounds_53 : decode cX9_sounds 53 = .ok (.getfield 7, 3) := by decide +kernel
theorem dX9_sounds_56 : decode cX9_sounds 56 = .ok (.iconst 3, 1) := by decide +kernel
theorem dX9_sounds_57 : decode cX9_sounds 57 = .ok (.dup2, 1) := by decide +kernel
theorem dX9_sounds_58 : decode cX9_sounds 58 = .ok (.iaload, 1) := by decide +kernel
theorem dX9_sounds_59 : decode cX9_sounds 59 = .ok (.iconst 1, 1) := by decide +kernel
theorem dX9_sounds_60 : decode cX9_sounds 60 = .ok (.iadd, 1) := by decide +kernel
theorem dX9_sounds_61 : decode cX9_sounds 61 = .ok (.iastore, 1) := by decide +kernel
theorem dX9_sounds_62 : decode cX9_sounds 62 = .ok (.return_, 1) := by decide +kernel
theorem dX9_sings_0 : decode cX9_sings 0 = .ok (.aload_n 0, 1) := by decide +kernel
theorem dX9_sings_1 : decode cX9_sings 1 = .ok (.iload_n 1, 1) := by decide +kernel
theorem dX9_sings_2 : decode cX9_sings 2 = .ok (.iconst 3, 1) := by decide +kernel
theorem dX9_sings_3 : decode cX9_sings 3 = .ok (.aload_n 0, 1) := by decide +kernel
theorem dX9_sings_4 : decode cX9_sings 4 = .ok (.iload_n 1, 1) := by decide +kernel
theorem dX9_sings_5 : decode cX9_sings 5 = .ok (.iconst 3, 1) := by decide +kernel
theorem dX9_sings_6 : decode cX9_sings 6 = .ok (.invokevirtual 108, 3) := by decide +kernel
theorem dX9_sings_9 : decode cX9_sings 9 = .ok (.iload_n 3, 1) := by decide +kernel
theorem dX9_sings_10 : decode cX9_sings 10 = .ok (.isub, 1) := by decide +kernel
theorem dX9_sings_11 : decode cX9_sings 11 = .ok (.invokevirtual 104, 3) := by decide +kernel
theorem dX9_sings_14 : decode cX9_sings 14 = .ok (.aload_n 0, 1) := by decide +kernel
theorem dX9_sings_15 : decode cX9_sings 15 = .ok (.getfield 7, 3) := by decide +kernel
theorem dX9_sings_18 : decode cX9_sings 18 = .ok (.iconst 4, 1) := by decide +kernel
theorem dX9_sings_19 : decode cX9_sings 19 = .ok (.dup2, 1) := by decide +kernel
theorem dX9_sings_20 : decode cX9_sings 20 = .ok (.iaload, 1) := by decide +kernel
theorem dX9_sings_21 : decode cX9_sings 21 = .ok (.iconst 1, 1) := by decide +kernel
theorem dX9_sings_22 : decode cX9_sings 22 = .ok (.iadd, 1) := by decide +kernel
theorem dX9_sings_23 : decode cX9_sings 23 = .ok (.iastore, 1) := by decide +kernel
theorem dX9_sings_24 : decode cX9_sings 24 = .ok (.aload_n 0, 1) := by decide +kernel
theorem dX9_sings_25 : decode cX9_sings 25 = .ok (.iload_n 2, 1) := by decide +kernel
theorem dX9_sings_26 : decode cX9_sings 26 = .ok (.iload_n 1, 1) := by decide +kernel
theorem dX9_sings_27 : decode cX9_sings 27 = .ok (.iconst (-1), 1) := by decide +kernel
theorem dX9_sings_28 : decode cX9_sings 28 = .ok (.aload_n 0, 1) := by decide +kernel
theorem dX9_sings_29 : decode cX9_sings 29 = .ok (.iload_n 2, 1) := by decide +kernel
theorem dX9_sings_30 : decode cX9_sings 30 = .ok (.iconst 0, 1) := by decide +kernel
theorem dX9_sings_31 : decode cX9_sings 31 = .ok (.invokevirtual 108, 3) := by decide +kernel
theorem dX9_sings_34 : decode cX9_sings 34 = .ok (.aload_n 0, 1) := by decide +kernel
theorem dX9_sings_35 : decode cX9_sings 35 = .ok (.iload_n 2, 1) := by decide +kernel
theorem dX9_sings_36 : decode cX9_sings 36 = .ok (.iconst 1, 1) := by decide +kernel
theorem dX9_sings_37 : decode cX9_sings 37 = .ok (.invokevirtual 108, 3) := by decide +kernel
theorem dX9_sings_40 : decode cX9_sings 40 = .ok (.invokestatic 184, 3) := by decide +kernel
theorem dX9_sings_43 : decode cX9_sings 43 = .ok (.invokevirtual 188, 3) := by decide +kernel
theorem dX9_sings_46 : decode cX9_sings 46 = .ok (.iconst 0, 1) := by decide +kernel
theorem dX9_sings_47 : decode cX9_sings 47 = .ok (.istore 4, 2) := by decide +kernel
theorem dX9_sings_49 : decode cX9_sings 49 = .ok (.iload 4, 2) := by decide +kernel
theorem dX9_sings_51 : decode cX9_sings 51 = .ok (.iconst 4, 1) := by decide +kernel
theorem dX9_sings_52 : decode cX9_sings 52 = .ok (.if_icmp .ge 91, 3) := by decide +kernel
theorem dX9_sings_55 : decode cX9_sings 55 = .ok (.aload_n 0, 1) := by decide +kernel
theorem dX9_sings_56 : decode cX9_sings 56 = .ok (.iload 4, 2) := by decide +kernel
theorem dX9_sings_58 : decode cX9_sings 58 = .ok (.iconst 0, 1) := by decide +kernel
theorem dX9_sings_59 : decode cX9_sings 59 = .ok (.invokevirtual 168, 3) := by decide +kernel
theorem dX9_sings_62 : decode cX9_sings 62 = .ok (.ifCond .eq 75, 3) := by decide +kernel
theorem dX9_sings_65 : decode cX9_sings 65 = .ok (.aload_n 0, 1) := by decide +kernel
theorem dX9_sings_66 : decode cX9_sings 66 = .ok (.iload 4, 2) := by decide +kernel
theorem dX9_sings_68 : decode cX9_sings 68 = .ok (.iconst 1, 1) := by decide +kernel
theorem dX9_sings_69 : decode cX9_sings 69 = .ok (.invokevirtual 168, 3) := by decide +kernel
theorem dX9_sings_72 : decode cX9_sings 72 = .ok (.iload_n 1, 1) := by decide +kernel
theorem dX9_sings_73 : decode cX9_sings 73 = .ok (.ishr, 1) := by decide +kernel
theorem dX9_sings_74 : decode cX9_sings 74 = .ok (.iconst 1, 1) := by decide +kernel
theorem dX9_sings_75 : decode cX9_sings 75 = .ok (.iand, 1) := by decide +kernel
theorem dX9_sings_76 : decode cX9_sings 76 = .ok (.ifCond .ne 6, 3) := by decide +kernel
theorem dX9_sings_79 : decode cX9_sings 79 = .ok (.goto 58, 3) := by decide +kernel
theorem dX9_sings_82 : decode cX9_sings 82 = .ok (.aload_n 0, 1) := by decide +kernel
theorem dX9_sings_83 : decode cX9_sings 83 = .ok (.getfield 7, 3) := by decide +kernel
theorem dX9_sings_86 : decode cX9_sings 86 = .ok (.sipush 280, 3) := by decide +kernel
theorem dX9_sings_89 : decode cX9_sings 89 = .ok (.aload_n 0, 1) := by decide +kernel
theorem dX9_sings_90 : decode cX9_sings 90 = .ok (.getfield 7, 3) := by decide +kernel
theorem dX9_sings_93 : decode cX9_sings 93 = .ok (.iconst 2, 1) := by decide +kernel
theorem dX9_sings_94 : decode cX9_sings 94 = .ok (.iaload, 1) := by decide +kernel
theorem dX9_sings_95 : decode cX9_sings 95 = .ok (.iadd, 1) := by decide +kernel
theorem dX9_sings_96 : decode cX9_sings 96 = .ok (.ldc 192, 2) := by decide +kernel
theorem dX9_sings_98 : decode cX9_sings 98 = .ok (.aload_n 0, 1) := by decide +kernel
theorem dX9_sings_99 : decode cX9_sings 99 = .ok (.iload 4, 2) := by decide +kernel
theorem dX9_sings_101 : decode cX9_sings 101 = .ok (.iconst 0, 1) := by decide +kernel
theorem dX9_sings_102 : decode cX9_sings 102 = .ok (.invokevirtual 168, 3) := by decide +kernel
theorem dX9_sings_105 : decode cX9_sings 105 = .ok (.imul, 1) := by decide +kernel
theorem dX9_sings_106 : decode cX9_sings 106 = .ok (.iload_n 2, 1) := by decide +kernel
theorem dX9_sings_107 : decode cX9_sings 107 = .ok (.iload_n 1, 1) := by decide +kernel
theorem dX9_sings_108 : decode cX9_sings 108 = .ok (.iload 4, 2) := by decide +kernel
theorem dX9_sings_110 : decode cX9_sings 110 = .ok (.aload_n 0, 1) := by decide +kernel
theorem dX9_sings_111 : decode cX9_sings 111 = .ok (.iload_n 2, 1) := by decide +kernel
theorem dX9_sings_112 : decode cX9_sings 112 = .ok (.iconst 0, 1) := by decide +kernel
theorem dX9_sings_113 : decode cX9_sings 113 = .ok (.invokevirtual 108, 3) := by decide +kernel
theorem dX9_sings_116 : decode cX9_sings 116 = .ok (.aload_n 0, 1) := by decide +kernel
theorem dX9_sings_117 : decode cX9_sings 117 = .ok (.iload_n 2, 1) := by decide +kernel
theorem dX9_sings_118 : decode cX9_sings 118 = .ok (.iconst 1, 1) := by decide +kernel
theorem dX9_sings_119 : decode cX9_sings 119 = .ok (.invokevirtual 108, 3) := by decide +kernel
theorem dX9_sings_122 : decode cX9_sings 122 = .ok (.invokestatic 184, 3) := by decide +kernel
theorem dX9_sings_125 : decode cX9_sings 125 = .ok (.iadd, 1) := by decide +kernel
theorem dX9_sings_126 : decode cX9_sings 126 = .ok (.iastore, 1) := by decide +kernel
theorem dX9_sings_127 : decode cX9_sings 127 = .ok (.aload_n 0, 1) := by decide +kernel
theorem dX9_sings_128 : decode cX9_sings 128 = .ok (.getfield 7, 3) := by decide +kernel
theorem dX9_sings_131 : decode cX9_sings 131 = .ok (.iconst 2, 1) := by decide +kernel
theorem dX9_sings_132 : decode cX9_sings 132 = .ok (.dup2, 1) := by decide +kernel
theorem dX9_sings_133 : decode cX9_sings 133 = .ok (.iaload, 1) := by decide +kernel
theorem dX9_sings_134 : decode cX9_sings 134 = .ok (.iconst 1, 1) := by decide +kernel
theorem dX9_sings_135 : decode cX9_sings 135 = .ok (.iadd, 1) := by decide +kernel
theorem dX9_sings_136 : decode cX9_sings 136 = .ok (.iastore, 1) := by decide +kernel
theorem dX9_sings_137 : decode cX9_sings 137 = .ok (.iinc 4 1, 3) := by decide +kernel
theorem dX9_sings_140 : decode cX9_sings 140 = .ok (.goto (-91), 3) := by decide +kernel
theorem dX9_sings_143 : decode cX9_sings 143 = .ok (.aload_n 0, 1) := by decide +kernel
theorem dX9_sings_144 : decode cX9_sings 144 = .ok (.iload_n 1, 1) := by decide +kernel
theorem dX9_sings_145 : decode cX9_sings 145 = .ok (.iconst 3, 1) := by decide +kernel
theorem dX9_sings_146 : decode cX9_sings 146 = .ok (.invokevirtual 108, 3) := by decide +kernel
theorem dX9_sings_149 : decode cX9_sings 149 = .ok (.ireturn, 1) := by decide +kernel
theorem dX9_isHushed_0 : decode cX9_isHushed 0 = .ok (.aload_n 0, 1) := by decide +kernel
theorem dX9_isHushed_1 : decode cX9_isHushed 1 = .ok (.iload_n 2, 1) := by decide +kernel
theorem dX9_isHushed_2 : decode cX9_isHushed 2 = .ok (.invokevirtual 153, 3) := by decide +kernel
theorem dX9_isHushed_5 : decode cX9_isHushed 5 = .ok (.ifCond .eq 5, 3) := by decide +kernel
theorem dX9_isHushed_8 : decode cX9_isHushed 8 = .ok (.iconst 1, 1) := by decide +kernel
theorem dX9_isHushed_9 : decode cX9_isHushed 9 = .ok (.ireturn, 1) := by decide +kernel
theorem dX9_isHushed_10 : decode cX9_isHushed 10 = .ok (.aload_n 0, 1) := by decide +kernel
theorem dX9_isHushed_11 : decode cX9_isHushed 11 = .ok (.iload_n 1, 1) := by decide +kernel
theorem dX9_isHushed_12 : decode cX9_isHushed 12 = .ok (.iconst 5, 1) := by decide +kernel
theorem dX9_isHushed_13 : decode cX9_isHushed 13 = .ok (.invokevirtual 108, 3) := by decide +kernel
theorem dX9_isHushed_16 : decode cX9_isHushed 16 = .ok (.ifCond .le 15, 3) := by decide +kernel
theorem dX9_isHushed_19 : decode cX9_isHushed 19 = .ok (.aload_n 0, 1) := by decide +kernel
theorem dX9_isHushed_20 : decode cX9_isHushed 20 = .ok (.iconst 4, 1) := by decide +kernel
theorem dX9_isHushed_21 : decode cX9_isHushed 21 = .ok (.aload_n 0, 1) := by decide +kernel
theorem dX9_isHushed_22 : decode cX9_isHushed 22 = .ok (.iload_n 1, 1) := by decide +kernel
theorem dX9_isHushed_23 : decode cX9_isHushed 23 = .ok (.iconst 5, 1) := by decide +kernel
theorem dX9_isHushed_24 : decode cX9_isHushed 24 = .ok (.invokevirtual 108, 3) := by decide +kernel
theorem dX9_isHushed_27 : decode cX9_isHushed 27 = .ok (.invokevirtual 123, 3) := by decide +kernel
theorem dX9_isHushed_30 : decode cX9_isHushed 30 = .ok (.ireturn, 1) := by decide +kernel
theorem dX9_isHushed_31 : decode cX9_isHushed 31 = .ok (.aload_n 0, 1) := by decide +kernel
theorem dX9_isHushed_32 : decode cX9_isHushed 32 = .ok (.iload_n 1, 1) := by decide +kernel
theorem dX9_isHushed_33 : decode cX9_isHushed 33 = .ok (.bipush 9, 2) := by decide +kernel
theorem dX9_isHushed_35 : decode cX9_isHushed 35 = .ok (.invokevirtual 108, 3) := by decide +kernel
theorem dX9_isHushed_38 : decode cX9_isHushed 38 = .ok (.ifCond .le 15, 3) := by decide +kernel
theorem dX9_isHushed_41 : decode cX9_isHushed 41 = .ok (.aload_n 0, 1) := by decide +kernel
theorem dX9_isHushed_42 : decode cX9_isHushed 42 = .ok (.iconst 5, 1) := by decide +kernel
theorem dX9_isHushed_43 : decode cX9_isHushed 43 = .ok (.aload_n 0, 1) := by decide +kernel
theorem dX9_isHushed_44 : decode cX9_isHushed 44 = .ok (.getfield 7, 3) := by decide +kernel
theorem dX9_isHushed_47 : decode cX9_isHushed 47 = .ok (.iconst 0, 1) := by decide +kernel
theorem dX9_isHushed_48 : decode cX9_isHushed 48 = .ok (.iaload, 1) := by decide +kernel
theorem dX9_isHushed_49 : decode cX9_isHushed 49 = .ok (.invokevirtual 123, 3) := by decide +kernel
theorem dX9_isHushed_52 : decode cX9_isHushed 52 = .ok (.ireturn, 1) := by decide +kernel
theorem dX9_isHushed_53 : decode cX9_isHushed 53 = .ok (.aload_n 0, 1) := by decide +kernel
theorem dX9_isHushed_54 : decode cX9_isHushed 54 = .ok (.iload_n 1, 1) := by decide +kernel
theorem dX9_isHushed_55 : decode cX9_isHushed 55 = .ok (.iconst 3, 1) := by decide +kernel
theorem dX9_isHushed_56 : decode cX9_isHushed 56 = .ok (.invokevirtual 108, 3) := by decide +kernel
theorem dX9_isHushed_59 : decode cX9_isHushed 59 = .ok (.iload_n 3, 1) := by decide +kernel
theorem dX9_isHushed_60 : decode cX9_isHushed 60 = .ok (.aload_n 0, 1) := by decide +kernel
theorem dX9_isHushed_61 : decode cX9_isHushed 61 = .ok (.iload_n 2, 1) := by decide +kernel
theorem dX9_isHushed_62 : decode cX9_isHushed 62 = .ok (.invokevirtual 127, 3) := by decide +kernel
theorem dX9_isHushed_65 : decode cX9_isHushed 65 = .ok (.imul, 1) := by decide +kernel
theorem dX9_isHushed_66 : decode cX9_isHushed 66 = .ok (.if_icmp .ge 30, 3) := by decide +kernel
theorem dX9_isHushed_69 : decode cX9_isHushed 69 = .ok (.aload_n 0, 1) := by decide +kernel
theorem dX9_isHushed_70 : decode cX9_isHushed 70 = .ok (.bipush 6, 2) := by decide +kernel
theorem dX9_isHushed_72 : decode cX9_isHushed 72 = .ok (.iload_n 3, 1) := by decide +kernel
theorem dX9_isHushed_73 : decode cX9_isHushed 73 = .ok (.aload_n 0, 1) := by decide +kernel
theorem dX9_isHushed_74 : decode cX9_isHushed 74 = .ok (.iload_n 2, 1) := by decide +kernel
theorem dX9_isHushed_75 : decode cX9_isHushed 75 = .ok (.invokevirtual 127, 3) := by decide +kernel
theorem dX9_isHushed_78 : decode cX9_isHushed 78 = .ok (.imul, 1) := by decide +kernel
theorem dX9_isHushed_79 : decode cX9_isHushed 79 = .ok (.aload_n 0, 1) := by decide +kernel
theorem dX9_isHushed_80 : decode cX9_isHushed 80 = .ok (.iload_n 1, 1) := by decide +kernel
theorem dX9_isHushed_81 : decode cX9_isHushed 81 = .ok (.iconst 3, 1) := by decide +kernel
theorem dX9_isHushed_82 : decode cX9_isHushed 82 = .ok (.invokevirtual 108, 3) := by decide +kernel
theorem dX9_isHushed_85 : decode cX9_isHushed 85 = .ok (.isub, 1) := by decide +kernel
theorem dX9_isHushed_86 : decode cX9_isHushed 86 = .ok (.invokevirtual 123, 3) := by decide +kernel
theorem dX9_isHushed_89 : decode cX9_isHushed 89 = .ok (.ifCond .eq 7, 3) := by decide +kernel
theorem dX9_isHushed_92 : decode cX9_isHushed 92 = .ok (.iconst 1, 1) := by decide +kernel
theorem dX9_isHushed_93 : decode cX9_isHushed 93 = .ok (.goto 4, 3) := by decide +kernel
theorem dX9_isHushed_96 : decode cX9_isHushed 96 = .ok (.iconst 0, 1) := by decide +kernel
theorem dX9_isHushed_97 : decode cX9_isHushed 97 = .ok (.ireturn, 1) := by decide +kernel
theorem dX9_whistles_0 : decode cX9_whistles 0 = .ok (.aload_n 0, 1) := by decide +kernel
theorem dX9_whistles_1 : decode cX9_whistles 1 = .ok (.iload_n 1, 1) := by decide +kernel
theorem dX9_whistles_2 : decode cX9_whistles 2 = .ok (.bipush 9, 2) := by decide +kernel
theorem dX9_whistles_4 : decode cX9_whistles 4 = .ok (.iconst 1, 1) := by decide +kernel
theorem dX9_whistles_5 : decode cX9_whistles 5 = .ok (.invokevirtual 104, 3) := by decide +kernel
theorem dX9_whistles_8 : decode cX9_whistles 8 = .ok (.aload_n 0, 1) := by decide +kernel
theorem dX9_whistles_9 : decode cX9_whistles 9 = .ok (.iload_n 1, 1) := by decide +kernel
theorem dX9_whistles_10 : decode cX9_whistles 10 = .ok (.iload_n 1, 1) := by decide +kernel
theorem dX9_whistles_11 : decode cX9_whistles 11 = .ok (.aload_n 0, 1) := by decide +kernel
theorem dX9_whistles_12 : decode cX9_whistles 12 = .ok (.iload_n 1, 1) := by decide +kernel
theorem dX9_whistles_13 : decode cX9_whistles 13 = .ok (.invokevirtual 127, 3) := by decide +kernel
theorem dX9_whistles_16 : decode cX9_whistles 16 = .ok (.invokevirtual 193, 3) := by decide +kernel
theorem dX9_whistles_19 : decode cX9_whistles 19 = .ok (.ireturn, 1) := by decide +kernel
theorem dX9_whistle_0 : decode cX9_whistle 0 = .ok (.aload_n 0, 1) := by decide +kernel
theorem dX9_whistle_1 : decode cX9_whistle 1 = .ok (.invokevirtual 130, 3) := by decide +kernel
theorem dX9_whistle_4 : decode cX9_whistle 4 = .ok (.iload_n 1, 1) := by decide +kernel
theorem dX9_whistle_5 : decode cX9_whistle 5 = .ok (.invokestatic 133, 3) := by decide +kernel
theorem dX9_whistle_8 : decode cX9_whistle 8 = .ok (.ifCond .ne 9, 3) := by decide +kernel
theorem dX9_whistle_11 : decode cX9_whistle 11 = .ok (.aload_n 0, 1) := by decide +kernel
theorem dX9_whistle_12 : decode cX9_whistle 12 = .ok (.iconst 1, 1) := by decide +kernel
theorem dX9_whistle_13 : decode cX9_whistle 13 = .ok (.invokevirtual 96, 3) := by decide +kernel
theorem dX9_whistle_16 : decode cX9_whistle 16 = .ok (.ireturn, 1) := by decide +kernel
theorem dX9_whistle_17 : decode cX9_whistle 17 = .ok (.aload_n 0, 1) := by decide +kernel
theorem dX9_whistle_18 : decode cX9_whistle 18 = .ok (.iload_n 1, 1) := by decide +kernel
theorem dX9_whistle_19 : decode cX9_whistle 19 = .ok (.iload_n 1, 1) := by decide +kernel
theorem dX9_whistle_20 : decode cX9_whistle 20 = .ok (.iconst 1, 1) := by decide +kernel
theorem dX9_whistle_21 : decode cX9_whistle 21 = .ok (.invokevirtual 196, 3) := by decide +kernel
theorem dX9_whistle_24 : decode cX9_whistle 24 = .ok (.ifCond .eq 11, 3) := by decide +kernel
theorem dX9_whistle_27 : decode cX9_whistle 27 = .ok (.aload_n 0, 1) := by decide +kernel
theorem dX9_whistle_28 : decode cX9_whistle 28 = .ok (.iconst 2, 1) := by decide +kernel
theorem dX9_whistle_29 : decode cX9_whistle 29 = .ok (.invokevirtual 143, 3) := by decide +kernel
theorem dX9_whistle_32 : decode cX9_whistle 32 = .ok (.goto 12, 3) := by decide +kernel
theorem dX9_whistle_35 : decode cX9_whistle 35 = .ok (.aload_n 0, 1) := by decide +kernel
theorem dX9_whistle_36 : decode cX9_whistle 36 = .ok (.aload_n 0, 1) := by decide +kernel
theorem dX9_whistle_37 : decode cX9_whistle 37 = .ok (.iload_n 1, 1) := by decide +kernel
theorem dX9_whistle_38 : decode cX9_whistle 38 = .ok (.invokevirtual 199, 3) := by decide +kernel
theorem dX9_whistle_41 : decode cX9_whistle 41 = .ok (.invokevirtual 150, 3) := by decide +kernel
theorem dX9_whistle_44 : decode cX9_whistle 44 = .ok (.ireturn, 1) := by decide +kernel
theorem dX9_lies_0 : decode cX9_lies 0 = .ok (.aload_n 0, 1) := by decide +kernel
theorem dX9_lies_1 : decode cX9_lies 1 = .ok (.iload_n 1, 1) := by decide +kernel
theorem dX9_lies_2 : decode cX9_lies 2 = .ok (.bipush 9, 2) := by decide +kernel
theorem dX9_lies_4 : decode cX9_lies 4 = .ok (.iconst 2, 1) := by decide +kernel
theorem dX9_lies_5 : decode cX9_lies 5 = .ok (.invokevirtual 104, 3) := by decide +kernel
theorem dX9_lies_8 : decode cX9_lies 8 = .ok (.aload_n 0, 1) := by decide +kernel
theorem dX9_lies_9 : decode cX9_lies 9 = .ok (.iload_n 1, 1) := by decide +kernel
theorem dX9_lies_10 : decode cX9_lies 10 = .ok (.bipush 7, 2) := by decide +kernel
theorem dX9_lies_12 : decode cX9_lies 12 = .ok (.aload_n 0, 1) := by decide +kernel
theorem dX9_lies_13 : decode cX9_lies 13 = .ok (.iload_n 1, 1) := by decide +kernel
theorem dX9_lies_14 : decode cX9_lies 14 = .ok (.bipush 7, 2) := by decide +kernel
theorem dX9_lies_16 : decode cX9_lies 16 = .ok (.invokevirtual 108, 3) := by decide +kernel
theorem dX9_lies_19 : decode cX9_lies 19 = .ok (.iconst 1, 1) := by decide +kernel
theorem dX9_lies_20 : decode cX9_lies 20 = .ok (.iadd, 1) := by decide +kernel
theorem dX9_lies_21 : decode cX9_lies 21 = .ok (.invokevirtual 104, 3) := by decide +kernel
theorem dX9_lies_24 : decode cX9_lies 24 = .ok (.aload_n 0, 1) := by decide +kernel
theorem dX9_lies_25 : decode cX9_lies 25 = .ok (.getfield 7, 3) := by decide +kernel
theorem dX9_lies_28 : decode cX9_lies 28 = .ok (.iconst 5, 1) := by decide +kernel
theorem dX9_lies_29 : decode cX9_lies 29 = .ok (.dup2, 1) := by decide +kernel
theorem dX9_lies_30 : decode cX9_lies 30 = .ok (.iaload, 1) := by decide +kernel
theorem dX9_lies_31 : decode cX9_lies 31 = .ok (.iconst 1, 1) := by decide +kernel
theorem dX9_lies_32 : decode cX9_lies 32 = .ok (.iadd, 1) := by decide +kernel
theorem dX9_lies_33 : decode cX9_lies 33 = .ok (.iastore, 1) := by decide +kernel
theorem dX9_lies_34 : decode cX9_lies 34 = .ok (.aload_n 0, 1) := by decide +kernel
theorem dX9_lies_35 : decode cX9_lies 35 = .ok (.iload_n 1, 1) := by decide +kernel
theorem dX9_lies_36 : decode cX9_lies 36 = .ok (.iload_n 2, 1) := by decide +kernel
theorem dX9_lies_37 : decode cX9_lies 37 = .ok (.iconst 2, 1) := by decide +kernel
theorem dX9_lies_38 : decode cX9_lies 38 = .ok (.aload_n 0, 1) := by decide +kernel
theorem dX9_lies_39 : decode cX9_lies 39 = .ok (.iload_n 2, 1) := by decide +kernel
theorem dX9_lies_40 : decode cX9_lies 40 = .ok (.invokevirtual 127, 3) := by decide +kernel
theorem dX9_lies_43 : decode cX9_lies 43 = .ok (.imul, 1) := by decide +kernel
theorem dX9_lies_44 : decode cX9_lies 44 = .ok (.invokevirtual 193, 3) := by decide +kernel
theorem dX9_lies_47 : decode cX9_lies 47 = .ok (.ireturn, 1) := by decide +kernel
theorem dX9_lie_0 : decode cX9_lie 0 = .ok (.aload_n 0, 1) := by decide +kernel
theorem dX9_lie_1 : decode cX9_lie 1 = .ok (.invokevirtual 130, 3) := by decide +kernel
theorem dX9_lie_4 : decode cX9_lie 4 = .ok (.iload_n 1, 1) := by decide +kernel
theorem dX9_lie_5 : decode cX9_lie 5 = .ok (.invokestatic 133, 3) := by decide +kernel
theorem dX9_lie_8 : decode cX9_lie 8 = .ok (.ifCond .eq 10, 3) := by decide +kernel
theorem dX9_lie_11 : decode cX9_lie 11 = .ok (.iload_n 2, 1) := by decide +kernel
theorem dX9_lie_12 : decode cX9_lie 12 = .ok (.invokestatic 133, 3) := by decide +kernel
theorem dX9_lie_15 : decode cX9_lie 15 = .ok (.ifCond .ne 9, 3) := by decide +kernel
theorem dX9_lie_18 : decode cX9_lie 18 = .ok (.aload_n 0, 1) := by decide +kernel
theorem dX9_lie_19 : decode cX9_lie 19 = .ok (.iconst 1, 1) := by decide +kernel
theorem dX9_lie_20 : decode cX9_lie 20 = .ok (.invokevirtual 96, 3) := by decide +kernel
theorem dX9_lie_23 : decode cX9_lie 23 = .ok (.ireturn, 1) := by decide +kernel
theorem dX9_lie_24 : decode cX9_lie 24 = .ok (.iload_n 1, 1) := by decide +kernel
theorem dX9_lie_25 : decode cX9_lie 25 = .ok (.iload_n 2, 1) := by decide +kernel
theorem dX9_lie_26 : decode cX9_lie 26 = .ok (.if_icmp .ne 9, 3) := by decide +kernel
theorem dX9_lie_29 : decode cX9_lie 29 = .ok (.aload_n 0, 1) := by decide +kernel
theorem dX9_lie_30 : decode cX9_lie 30 = .ok (.iconst 2, 1) := by decide +kernel
theorem dX9_lie_31 : decode cX9_lie 31 = .ok (.invokevirtual 96, 3) := by decide +kernel
theorem dX9_lie_34 : decode cX9_lie 34 = .ok (.ireturn, 1) := by decide +kernel
theorem dX9_lie_35 : decode cX9_lie 35 = .ok (.aload_n 0, 1) := by decide +kernel
theorem dX9_lie_36 : decode cX9_lie 36 = .ok (.iload_n 1, 1) := by decide +kernel
theorem dX9_lie_37 : decode cX9_lie 37 = .ok (.iload_n 2, 1) := by decide +kernel
theorem dX9_lie_38 : decode cX9_lie 38 = .ok (.iconst 2, 1) := by decide +kernel
theorem dX9_lie_39 : decode cX9_lie 39 = .ok (.invokevirtual 196, 3) := by decide +kernel
theorem dX9_lie_42 : decode cX9_lie 42 = .ok (.ifCond .eq 11, 3) := by decide +kernel
theorem dX9_lie_45 : decode cX9_lie 45 = .ok (.aload_n 0, 1) := by decide +kernel
theorem dX9_lie_46 : decode cX9_lie 46 = .ok (.iconst 3, 1) := by decide +kernel
theorem dX9_lie_47 : decode cX9_lie 47 = .ok (.invokevirtual 143, 3) := by decide +kernel
theorem dX9_lie_50 : decode cX9_lie 50 = .ok (.goto 13, 3) := by decide +kernel
theorem dX9_lie_53 : decode cX9_lie 53 = .ok (.aload_n 0, 1) := by decide +kernel
theorem dX9_lie_54 : decode cX9_lie 54 = .ok (.aload_n 0, 1) := by decide +kernel
theorem dX9_lie_55 : decode cX9_lie 55 = .ok (.iload_n 1, 1) := by decide +kernel
theorem dX9_lie_56 : decode cX9_lie 56 = .ok (.iload_n 2, 1) := by decide +kernel
theorem dX9_lie_57 : decode cX9_lie 57 = .ok (.invokevirtual 202, 3) := by decide +kernel
theorem dX9_lie_60 : decode cX9_lie 60 = .ok (.invokevirtual 150, 3) := by decide +kernel
theorem dX9_lie_63 : decode cX9_lie 63 = .ok (.ireturn, 1) := by decide +kernel
theorem dX9_isRefusedExpose_0 : decode cX9_isRefusedExpose 0 = .ok (.aload_n 0, 1) := by decide +kernel
theorem dX9_isRefusedExpose_1 : decode cX9_isRefusedExpose 1 = .ok (.iload_n 1, 1) := by decide +kernel
theorem dX9_isRefusedExpose_2 : decode cX9_isRefusedExpose 2 = .ok (.bipush 9, 2) := by decide +kernel
theorem dX9_isRefusedExpose_4 : decode cX9_isRefusedExpose 4 = .ok (.invokevirtual 108, 3) := by decide +kernel
theorem dX9_isRefusedExpose_7 : decode cX9_isRefusedExpose 7 = .ok (.iconst 2, 1) := by decide +kernel
theorem dX9_isRefusedExpose_8 : decode cX9_isRefusedExpose 8 = .ok (.if_icmp .eq 22, 3) := by decide +kernel
theorem dX9_isRefusedExpose_11 : decode cX9_isRefusedExpose 11 = .ok (.aload_n 0, 1) := by decide +kernel
theorem dX9_isRefusedExpose_12 : decode cX9_isRefusedExpose 12 = .ok (.bipush 7, 2) := by decide +kernel
theorem dX9_isRefusedExpose_14 : decode cX9_isRefusedExpose 14 = .ok (.aload_n 0, 1) := by decide +kernel
theorem dX9_isRefusedExpose_15 : decode cX9_isRefusedExpose 15 = .ok (.getfield 7, 3) := by decide +kernel
theorem dX9_isRefusedExpose_18 : decode cX9_isRefusedExpose 18 = .ok (.iconst 1, 1) := by decide +kernel
theorem dX9_isRefusedExpose_19 : decode cX9_isRefusedExpose 19 = .ok (.iaload, 1) := by decide +kernel
theorem dX9_isRefusedExpose_20 : decode cX9_isRefusedExpose 20 = .ok (.invokevirtual 123, 3) := by decide +kernel
theorem dX9_isRefusedExpose_23 : decode cX9_isRefusedExpose 23 = .ok (.ifCond .eq 7, 3) := by decide +kernel
theorem dX9_isRefusedExpose_26 : decode cX9_isRefusedExpose 26 = .ok (.iconst 1, 1) := by decide +kernel
theorem dX9_isRefusedExpose_27 : decode cX9_isRefusedExpose 27 = .ok (.goto 4, 3) := by decide +kernel
theorem dX9_isRefusedExpose_30 : decode cX9_isRefusedExpose 30 = .ok (.iconst 0, 1) := by decide +kernel
theorem dX9_isRefusedExpose_31 : decode cX9_isRefusedExpose 31 = .ok (.ireturn, 1) := by decide +kernel
theorem dX9_exposes_0 : decode cX9_exposes 0 = .ok (.iconst 0, 1) := by decide +kernel
theorem dX9_exposes_1 : decode cX9_exposes 1 = .ok (.istore_n 2, 1) := by decide +kernel
theorem dX9_exposes_2 : decode cX9_exposes 2 = .ok (.aload_n 0, 1) := by decide +kernel
theorem dX9_exposes_3 : decode cX9_exposes 3 = .ok (.getfield 7, 3) := by decide +kernel
theorem dX9_exposes_6 : decode cX9_exposes 6 = .ok (.bipush 110, 2) := by decide +kernel
theorem dX9_exposes_8 : decode cX9_exposes 8 = .ok (.iload_n 2, 1) := by decide +kernel
theorem dX9_exposes_9 : decode cX9_exposes 9 = .ok (.iadd, 1) := by decide +kernel
theorem dX9_exposes_10 : decode cX9_exposes 10 = .ok (.iaload, 1) := by decide +kernel
theorem dX9_exposes_11 : decode cX9_exposes 11 = .ok (.invokestatic 205, 3) := by decide +kernel
theorem dX9_exposes_14 : decode cX9_exposes 14 = .ok (.iload_n 1, 1) := by decide +kernel
theorem dX9_exposes_15 : decode cX9_exposes 15 = .ok (.if_icmp .ne 18, 3) := by decide +kernel
theorem dX9_exposes_18 : decode cX9_exposes 18 = .ok (.aload_n 0, 1) := by decide +kernel
theorem dX9_exposes_19 : decode cX9_exposes 19 = .ok (.getfield 7, 3) := by decide +kernel
theorem dX9_exposes_22 : decode cX9_exposes 22 = .ok (.bipush 110, 2) := by decide +kernel
theorem dX9_exposes_24 : decode cX9_exposes 24 = .ok (.iload_n 2, 1) := by decide +kernel
theorem dX9_exposes_25 : decode cX9_exposes 25 = .ok (.iadd, 1) := by decide +kernel
theorem dX9_exposes_26 : decode cX9_exposes 26 = .ok (.iaload, 1) := by decide +kernel
theorem dX9_exposes_27 : decode cX9_exposes 27 = .ok (.invokestatic 208, 3) := by decide +kernel
theorem dX9_exposes_30 : decode cX9_exposes 30 = .ok (.ifCond .lt 9, 3) := by decide +kernel
theorem dX9_exposes_33 : decode cX9_exposes 33 = .ok (.iinc 2 1, 3) := by decide +kernel
theorem dX9_exposes_36 : decode cX9_exposes 36 = .ok (.goto (-34), 3) := by decide +kernel
theorem dX9_exposes_39 : decode cX9_exposes 39 = .ok (.aload_n 0, 1) := by decide +kernel
theorem dX9_exposes_40 : decode cX9_exposes 40 = .ok (.getfield 7, 3) := by decide +kernel
theorem dX9_exposes_43 : decode cX9_exposes 43 = .ok (.iconst 1, 1) := by decide +kernel
theorem dX9_exposes_44 : decode cX9_exposes 44 = .ok (.dup2, 1) := by decide +kernel
theorem dX9_exposes_45 : decode cX9_exposes 45 = .ok (.iaload, 1) := by decide +kernel
theorem dX9_exposes_46 : decode cX9_exposes 46 = .ok (.iconst 1, 1) := by decide +kernel
theorem dX9_exposes_47 : decode cX9_exposes 47 = .ok (.isub, 1) := by decide +kernel
theorem dX9_exposes_48 : decode cX9_exposes 48 = .ok (.iastore, 1) := by decide +kernel
theorem dX9_exposes_49 : decode cX9_exposes 49 = .ok (.iload_n 2, 1) := by decide +kernel
theorem dX9_exposes_50 : decode cX9_exposes 50 = .ok (.istore_n 3, 1) := by decide +kernel
theorem dX9_exposes_51 : decode cX9_exposes 51 = .ok (.iload_n 3, 1) := by decide +kernel
theorem dX9_exposes_52 : decode cX9_exposes 52 = .ok (.aload_n 0, 1) := by decide +kernel
theorem dX9_exposes_53 : decode cX9_exposes 53 = .ok (.getfield 7, 3) := by decide +kernel
theorem dX9_exposes_56 : decode cX9_exposes 56 = .ok (.iconst 1, 1) := by decide +kernel
theorem dX9_exposes_57 : decode cX9_exposes 57 = .ok (.iaload, 1) := by decide +kernel
theorem dX9_exposes_58 : decode cX9_exposes 58 = .ok (.if_icmp .ge 29, 3) := by decide +kernel
theorem dX9_exposes_61 : decode cX9_exposes 61 = .ok (.aload_n 0, 1) := by decide +kernel
theorem dX9_exposes_62 : decode cX9_exposes 62 = .ok (.getfield 7, 3) := by decide +kernel
theorem dX9_exposes_65 : decode cX9_exposes 65 = .ok (.bipush 110, 2) := by decide +kernel
theorem dX9_exposes_67 : decode cX9_exposes 67 = .ok (.iload_n 3, 1) := by decide +kernel
theorem dX9_exposes_68 : decode cX9_exposes 68 = .ok (.iadd, 1) := by decide +kernel
theorem dX9_exposes_69 : decode cX9_exposes 69 = .ok (.aload_n 0, 1) := by decide +kernel
theorem dX9_exposes_70 : decode cX9_exposes 70 = .ok (.getfield 7, 3) := by decide +kernel
theorem dX9_exposes_73 : decode cX9_exposes 73 = .ok (.bipush 110, 2) := by decide +kernel
theorem dX9_exposes_75 : decode cX9_exposes 75 = .ok (.iload_n 3, 1) := by decide +kernel
theorem dX9_exposes_76 : decode cX9_exposes 76 = .ok (.iadd, 1) := by decide +kernel
theorem dX9_exposes_77 : decode cX9_exposes 77 = .ok (.iconst 1, 1) := by decide +kernel
theorem dX9_exposes_78 : decode cX9_exposes 78 = .ok (.iadd, 1) := by decide +kernel
theorem dX9_exposes_79 : decode cX9_exposes 79 = .ok (.iaload, 1) := by decide +kernel
theorem dX9_exposes_80 : decode cX9_exposes 80 = .ok (.iastore, 1) := by decide +kernel
theorem dX9_exposes_81 : decode cX9_exposes 81 = .ok (.iinc 3 1, 3) := by decide +kernel
theorem dX9_exposes_84 : decode cX9_exposes 84 = .ok (.goto (-33), 3) := by decide +kernel
theorem dX9_exposes_87 : decode cX9_exposes 87 = .ok (.aload_n 0, 1) := by decide +kernel
theorem dX9_exposes_88 : decode cX9_exposes 88 = .ok (.getfield 7, 3) := by decide +kernel
theorem dX9_exposes_91 : decode cX9_exposes 91 = .ok (.bipush 110, 2) := by decide +kernel
theorem dX9_exposes_93 : decode cX9_exposes 93 = .ok (.aload_n 0, 1) := by decide +kernel
theorem dX9_exposes_94 : decode cX9_exposes 94 = .ok (.getfield 7, 3) := by decide +kernel
theorem dX9_exposes_97 : decode cX9_exposes 97 = .ok (.iconst 1, 1) := by decide +kernel
theorem dX9_exposes_98 : decode cX9_exposes 98 = .ok (.iaload, 1) := by decide +kernel
theorem dX9_exposes_99 : decode cX9_exposes 99 = .ok (.iadd, 1) := by decide +kernel
theorem dX9_exposes_100 : decode cX9_exposes 100 = .ok (.iconst 0, 1) := by decide +kernel
theorem dX9_exposes_101 : decode cX9_exposes 101 = .ok (.iastore, 1) := by decide +kernel
theorem dX9_exposes_102 : decode cX9_exposes 102 = .ok (.aload_n 0, 1) := by decide +kernel
theorem dX9_exposes_103 : decode cX9_exposes 103 = .ok (.iload_n 1, 1) := by decide +kernel
theorem dX9_exposes_104 : decode cX9_exposes 104 = .ok (.bipush 9, 2) := by decide +kernel
theorem dX9_exposes_106 : decode cX9_exposes 106 = .ok (.iconst 3, 1) := by decide +kernel
theorem dX9_exposes_107 : decode cX9_exposes 107 = .ok (.invokevirtual 104, 3) := by decide +kernel
theorem dX9_exposes_110 : decode cX9_exposes 110 = .ok (.aload_n 0, 1) := by decide +kernel
theorem dX9_exposes_111 : decode cX9_exposes 111 = .ok (.iload_n 1, 1) := by decide +kernel
theorem dX9_exposes_112 : decode cX9_exposes 112 = .ok (.bipush 8, 2) := by decide +kernel
theorem dX9_exposes_114 : decode cX9_exposes 114 = .ok (.aload_n 0, 1) := by decide +kernel
theorem dX9_exposes_115 : decode cX9_exposes 115 = .ok (.iload_n 1, 1) := by decide +kernel
theorem dX9_exposes_116 : decode cX9_exposes 116 = .ok (.bipush 8, 2) := by decide +kernel
theorem dX9_exposes_118 : decode cX9_exposes 118 = .ok (.invokevirtual 108, 3) := by decide +kernel
theorem dX9_exposes_121 : decode cX9_exposes 121 = .ok (.iconst 1, 1) := by decide +kernel
theorem dX9_exposes_122 : decode cX9_exposes 122 = .ok (.iadd, 1) := by decide +kernel
theorem dX9_exposes_123 : decode cX9_exposes 123 = .ok (.invokevirtual 104, 3) := by decide +kernel
theorem dX9_exposes_126 : decode cX9_exposes 126 = .ok (.aload_n 0, 1) := by decide +kernel
theorem dX9_exposes_127 : decode cX9_exposes 127 = .ok (.iload_n 1, 1) := by decide +kernel
theorem dX9_exposes_128 : decode cX9_exposes 128 = .ok (.iconst 5, 1) := by decide +kernel
theorem dX9_exposes_129 : decode cX9_exposes 129 = .ok (.aload_n 0, 1) := by decide +kernel
theorem dX9_exposes_130 : decode cX9_exposes 130 = .ok (.iload_n 1, 1) := by decide +kernel
theorem dX9_exposes_131 : decode cX9_exposes 131 = .ok (.iconst 5, 1) := by decide +kernel
theorem dX9_exposes_132 : decode cX9_exposes 132 = .ok (.invokevirtual 108, 3) := by decide +kernel
theorem dX9_exposes_135 : decode cX9_exposes 135 = .ok (.iconst 3, 1) := by decide +kernel
theorem dX9_exposes_136 : decode cX9_exposes 136 = .ok (.iadd, 1) := by decide +kernel
theorem dX9_exposes_137 : decode cX9_exposes 137 = .ok (.invokevirtual 104, 3) := by decide +kernel
theorem dX9_exposes_140 : decode cX9_exposes 140 = .ok (.aload_n 0, 1) := by decide +kernel
theorem dX9_exposes_141 : decode cX9_exposes 141 = .ok (.getfield 7, 3) := by decide +kernel
theorem dX9_exposes_144 : decode cX9_exposes 144 = .ok (.bipush 6, 2) := by decide +kernel
theorem dX9_exposes_146 : decode cX9_exposes 146 = .ok (.dup2, 1) := by decide +kernel
theorem dX9_exposes_147 : decode cX9_exposes 147 = .ok (.iaload, 1) := by decide +kernel
theorem dX9_exposes_148 : decode cX9_exposes 148 = .ok (.iconst 1, 1) := by decide +kernel
theorem dX9_exposes_149 : decode cX9_exposes 149 = .ok (.iadd, 1) := by decide +kernel
theorem dX9_exposes_150 : decode cX9_exposes 150 = .ok (.iastore, 1) := by decide +kernel
theorem dX9_exposes_151 : decode cX9_exposes 151 = .ok (.aload_n 0, 1) := by decide +kernel
theorem dX9_exposes_152 : decode cX9_exposes 152 = .ok (.iload_n 1, 1) := by decide +kernel
theorem dX9_exposes_153 : decode cX9_exposes 153 = .ok (.iconst 5, 1) := by decide +kernel
theorem dX9_exposes_154 : decode cX9_exposes 154 = .ok (.invokevirtual 108, 3) := by decide +kernel
theorem dX9_exposes_157 : decode cX9_exposes 157 = .ok (.ireturn, 1) := by decide +kernel
theorem dX9_expose_0 : decode cX9_expose 0 = .ok (.aload_n 0, 1) := by decide +kernel
theorem dX9_expose_1 : decode cX9_expose 1 = .ok (.invokevirtual 130, 3) := by decide +kernel
theorem dX9_expose_4 : decode cX9_expose 4 = .ok (.iload_n 1, 1) := by decide +kernel
theorem dX9_expose_5 : decode cX9_expose 5 = .ok (.invokestatic 133, 3) := by decide +kernel
theorem dX9_expose_8 : decode cX9_expose 8 = .ok (.ifCond .ne 9, 3) := by decide +kernel
theorem dX9_expose_11 : decode cX9_expose 11 = .ok (.aload_n 0, 1) := by decide +kernel
theorem dX9_expose_12 : decode cX9_expose 12 = .ok (.iconst 1, 1) := by decide +kernel
theorem dX9_expose_13 : decode cX9_expose 13 = .ok (.invokevirtual 96, 3) := by decide +kernel
theorem dX9_expose_16 : decode cX9_expose 16 = .ok (.ireturn, 1) := by decide +kernel
theorem dX9_expose_17 : decode cX9_expose 17 = .ok (.aload_n 0, 1) := by decide +kernel
theorem dX9_expose_18 : decode cX9_expose 18 = .ok (.iload_n 1, 1) := by decide +kernel
theorem dX9_expose_19 : decode cX9_expose 19 = .ok (.invokevirtual 211, 3) := by decide +kernel
theorem dX9_expose_22 : decode cX9_expose 22 = .ok (.ifCond .eq 11, 3) := by decide +kernel
theorem dX9_expose_25 : decode cX9_expose 25 = .ok (.aload_n 0, 1) := by decide +kernel
theorem dX9_expose_26 : decode cX9_expose 26 = .ok (.iconst 2, 1) := by decide +kernel
theorem dX9_expose_27 : decode cX9_expose 27 = .ok (.invokevirtual 143, 3) := by decide +kernel
theorem dX9_expose_30 : decode cX9_expose 30 = .ok (.goto 12, 3) := by decide +kernel
theorem dX9_expose_33 : decode cX9_expose 33 = .ok (.aload_n 0, 1) := by decide +kernel
theorem dX9_expose_34 : decode cX9_expose 34 = .ok (.aload_n 0, 1) := by decide +kernel
theorem dX9_expose_35 : decode cX9_expose 35 = .ok (.iload_n 1, 1) := by decide +kernel
theorem dX9_expose_36 : decode cX9_expose 36 = .ok (.invokevirtual 214, 3) := by decide +kernel
theorem dX9_expose_39 : decode cX9_expose 39 = .ok (.invokevirtual 150, 3) := by decide +kernel
theorem dX9_expose_42 : decode cX9_expose 42 = .ok (.ireturn, 1) := by decide +kernel
theorem dX9_mutedMany_0 : decode cX9_mutedMany 0 = .ok (.iconst 0, 1) := by decide +kernel
theorem dX9_mutedMany_1 : decode cX9_mutedMany 1 = .ok (.istore_n 1, 1) := by decide +kernel
theorem dX9_mutedMany_2 : decode cX9_mutedMany 2 = .ok (.iconst 0, 1) := by decide +kernel
theorem dX9_mutedMany_3 : decode cX9_mutedMany 3 = .ok (.istore_n 2, 1) := by decide +kernel
theorem dX9_mutedMany_4 : decode cX9_mutedMany 4 = .ok (.iload_n 2, 1) := by decide +kernel
theorem dX9_mutedMany_5 : decode cX9_mutedMany 5 = .ok (.bipush 7, 2) := by decide +kernel
theorem dX9_mutedMany_7 : decode cX9_mutedMany 7 = .ok (.if_icmp .ge 26, 3) := by decide +kernel
theorem dX9_mutedMany_10 : decode cX9_mutedMany 10 = .ok (.iload_n 1, 1) := by decide +kernel
theorem dX9_mutedMany_11 : decode cX9_mutedMany 11 = .ok (.aload_n 0, 1) := by decide +kernel
theorem dX9_mutedMany_12 : decode cX9_mutedMany 12 = .ok (.iload_n 2, 1) := by decide +kernel
theorem dX9_mutedMany_13 : decode cX9_mutedMany 13 = .ok (.iconst 5, 1) := by decide +kernel
theorem dX9_mutedMany_14 : decode cX9_mutedMany 14 = .ok (.invokevirtual 108, 3) := by decide +kernel
theorem dX9_mutedMany_17 : decode cX9_mutedMany 17 = .ok (.ifCond .le 7, 3) := by decide +kernel
theorem dX9_mutedMany_20 : decode cX9_mutedMany 20 = .ok (.iconst 1, 1) := by decide +kernel
theorem dX9_mutedMany_21 : decode cX9_mutedMany 21 = .ok (.goto 4, 3) := by decide +kernel
theorem dX9_mutedMany_24 : decode cX9_mutedMany 24 = .ok (.iconst 0, 1) := by decide +kernel
theorem dX9_mutedMany_25 : decode cX9_mutedMany 25 = .ok (.iadd, 1) := by decide +kernel
theorem dX9_mutedMany_26 : decode cX9_mutedMany 26 = .ok (.istore_n 1, 1) := by decide +kernel
theorem dX9_mutedMany_27 : decode cX9_mutedMany 27 = .ok (.iinc 2 1, 3) := by decide +kernel
theorem dX9_mutedMany_30 : decode cX9_mutedMany 30 = .ok (.goto (-26), 3) := by decide +kernel
theorem dX9_mutedMany_33 : decode cX9_mutedMany 33 = .ok (.iload_n 1, 1) := by decide +kernel
theorem dX9_mutedMany_34 : decode cX9_mutedMany 34 = .ok (.ireturn, 1) := by decide +kernel
theorem dX9_areHours_0 : decode cX9_areHours 0 = .ok (.iload_n 0, 1) := by decide +kernel
theorem dX9_areHours_1 : decode cX9_areHours 1 = .ok (.iconst 1, 1) := by decide +kernel
theorem dX9_areHours_2 : decode cX9_areHours 2 = .ok (.bipush 9, 2) := by decide +kernel
theorem dX9_areHours_4 : decode cX9_areHours 4 = .ok (.invokestatic 116, 3) := by decide +kernel
theorem dX9_areHours_7 : decode cX9_areHours 7 = .ok (.ireturn, 1) := by decide +kernel
theorem dX9_isRefusedMute_0 : decode cX9_isRefusedMute 0 = .ok (.aload_n 0, 1) := by decide +kernel
theorem dX9_isRefusedMute_1 : decode cX9_isRefusedMute 1 = .ok (.iload_n 1, 1) := by decide +kernel
theorem dX9_isRefusedMute_2 : decode cX9_isRefusedMute 2 = .ok (.iconst 5, 1) := by decide +kernel
theorem dX9_isRefusedMute_3 : decode cX9_isRefusedMute 3 = .ok (.invokevirtual 108, 3) := by decide +kernel
theorem dX9_isRefusedMute_6 : decode cX9_isRefusedMute 6 = .ok (.ifCond .le 21, 3) := by decide +kernel
theorem dX9_isRefusedMute_9 : decode cX9_isRefusedMute 9 = .ok (.aload_n 0, 1) := by decide +kernel
theorem dX9_isRefusedMute_10 : decode cX9_isRefusedMute 10 = .ok (.iconst 4, 1) := by decide +kernel
theorem dX9_isRefusedMute_11 : decode cX9_isRefusedMute 11 = .ok (.aload_n 0, 1) := by decide +kernel
theorem dX9_isRefusedMute_12 : decode cX9_isRefusedMute 12 = .ok (.iload_n 1, 1) := by decide +kernel
theorem dX9_isRefusedMute_13 : decode cX9_isRefusedMute 13 = .ok (.iconst 5, 1) := by decide +kernel
theorem dX9_isRefusedMute_14 : decode cX9_isRefusedMute 14 = .ok (.invokevirtual 108, 3) := by decide +kernel
theorem dX9_isRefusedMute_17 : decode cX9_isRefusedMute 17 = .ok (.invokevirtual 123, 3) := by decide +kernel
theorem dX9_isRefusedMute_20 : decode cX9_isRefusedMute 20 = .ok (.ifCond .eq 7, 3) := by decide +kernel
theorem dX9_isRefusedMute_23 : decode cX9_isRefusedMute 23 = .ok (.iconst 1, 1) := by decide +kernel
theorem dX9_isRefusedMute_24 : decode cX9_isRefusedMute 24 = .ok (.goto 4, 3) := by decide +kernel
theorem dX9_isRefusedMute_27 : decode cX9_isRefusedMute 27 = .ok (.iconst 0, 1) := by decide +kernel
theorem dX9_isRefusedMute_28 : decode cX9_isRefusedMute 28 = .ok (.ireturn, 1) := by decide +kernel
theorem dX9_mutes_0 : decode cX9_mutes 0 = .ok (.aload_n 0, 1) := by decide +kernel
theorem dX9_mutes_1 : decode cX9_mutes 1 = .ok (.iload_n 1, 1) := by decide +kernel
theorem dX9_mutes_2 : decode cX9_mutes 2 = .ok (.iconst 5, 1) := by decide +kernel
theorem dX9_mutes_3 : decode cX9_mutes 3 = .ok (.iload_n 2, 1) := by decide +kernel
theorem dX9_mutes_4 : decode cX9_mutes 4 = .ok (.invokevirtual 104, 3) := by decide +kernel
theorem dX9_mutes_7 : decode cX9_mutes 7 = .ok (.aload_n 0, 1) := by decide +kernel
theorem dX9_mutes_8 : decode cX9_mutes 8 = .ok (.invokevirtual 217, 3) := by decide +kernel
theorem dX9_mutes_11 : decode cX9_mutes 11 = .ok (.ireturn, 1) := by decide +kernel
theorem dX9_mute_0 : decode cX9_mute 0 = .ok (.aload_n 0, 1) := by decide +kernel
theorem dX9_mute_1 : decode cX9_mute 1 = .ok (.invokevirtual 130, 3) := by decide +kernel
theorem dX9_mute_4 : decode cX9_mute 4 = .ok (.iload_n 1, 1) := by decide +kernel
theorem dX9_mute_5 : decode cX9_mute 5 = .ok (.invokestatic 133, 3) := by decide +kernel
theorem dX9_mute_8 : decode cX9_mute 8 = .ok (.ifCond .ne 9, 3) := by decide +kernel
theorem dX9_mute_11 : decode cX9_mute 11 = .ok (.aload_n 0, 1) := by decide +kernel
theorem dX9_mute_12 : decode cX9_mute 12 = .ok (.iconst 1, 1) := by decide +kernel
theorem dX9_mute_13 : decode cX9_mute 13 = .ok (.invokevirtual 96, 3) := by decide +kernel
theorem dX9_mute_16 : decode cX9_mute 16 = .ok (.ireturn, 1) := by decide +kernel
theorem dX9_mute_17 : decode cX9_mute 17 = .ok (.iload_n 2, 1) := by decide +kernel
theorem dX9_mute_18 : decode cX9_mute 18 = .ok (.invokestatic 220, 3) := by decide +kernel
theorem dX9_mute_21 : decode cX9_mute 21 = .ok (.ifCond .ne 9, 3) := by decide +kernel
theorem dX9_mute_24 : decode cX9_mute 24 = .ok (.aload_n 0, 1) := by decide +kernel
theorem dX9_mute_25 : decode cX9_mute 25 = .ok (.iconst 2, 1) := by decide +kernel
theorem dX9_mute_26 : decode cX9_mute 26 = .ok (.invokevirtual 96, 3) := by decide +kernel
theorem dX9_mute_29 : decode cX9_mute 29 = .ok (.ireturn, 1) := by decide +kernel
theorem dX9_mute_30 : decode cX9_mute 30 = .ok (.aload_n 0, 1) := by decide +kernel
theorem dX9_mute_31 : decode cX9_mute 31 = .ok (.iload_n 1, 1) := by decide +kernel
theorem dX9_mute_32 : decode cX9_mute 32 = .ok (.invokevirtual 223, 3) := by decide +kernel
theorem dX9_mute_35 : decode cX9_mute 35 = .ok (.ifCond .eq 11, 3) := by decide +kernel
theorem dX9_mute_38 : decode cX9_mute 38 = .ok (.aload_n 0, 1) := by decide +kernel
theorem dX9_mute_39 : decode cX9_mute 39 = .ok (.iconst 3, 1) := by decide +kernel
theorem dX9_mute_40 : decode cX9_mute 40 = .ok (.invokevirtual 143, 3) := by decide +kernel
theorem dX9_mute_43 : decode cX9_mute 43 = .ok (.goto 13, 3) := by decide +kernel
theorem dX9_mute_46 : decode cX9_mute 46 = .ok (.aload_n 0, 1) := by decide +kernel
theorem dX9_mute_47 : decode cX9_mute 47 = .ok (.aload_n 0, 1) := by decide +kernel
theorem dX9_mute_48 : decode cX9_mute 48 = .ok (.iload_n 1, 1) := by decide +kernel
theorem dX9_mute_49 : decode cX9_mute 49 = .ok (.iload_n 2, 1) := by decide +kernel
theorem dX9_mute_50 : decode cX9_mute 50 = .ok (.invokevirtual 226, 3) := by decide +kernel
theorem dX9_mute_53 : decode cX9_mute 53 = .ok (.invokevirtual 150, 3) := by decide +kernel
theorem dX9_mute_56 : decode cX9_mute 56 = .ok (.ireturn, 1) := by decide +kernel
theorem dX9_isRefusedFine_0 : decode cX9_isRefusedFine 0 = .ok (.aload_n 0, 1) := by decide +kernel
theorem dX9_isRefusedFine_1 : decode cX9_isRefusedFine 1 = .ok (.iload_n 1, 1) := by decide +kernel
theorem dX9_isRefusedFine_2 : decode cX9_isRefusedFine 2 = .ok (.iconst 5, 1) := by decide +kernel
theorem dX9_isRefusedFine_3 : decode cX9_isRefusedFine 3 = .ok (.invokevirtual 108, 3) := by decide +kernel
theorem dX9_isRefusedFine_6 : decode cX9_isRefusedFine 6 = .ok (.ifCond .ne 16, 3) := by decide +kernel
theorem dX9_isRefusedFine_9 : decode cX9_isRefusedFine 9 = .ok (.aload_n 0, 1) := by decide +kernel
theorem dX9_isRefusedFine_10 : decode cX9_isRefusedFine 10 = .ok (.bipush 8, 2) := by decide +kernel
theorem dX9_isRefusedFine_12 : decode cX9_isRefusedFine 12 = .ok (.aload_n 0, 1) := by decide +kernel
theorem dX9_isRefusedFine_13 : decode cX9_isRefusedFine 13 = .ok (.iload_n 1, 1) := by decide +kernel
theorem dX9_isRefusedFine_14 : decode cX9_isRefusedFine 14 = .ok (.iconst 4, 1) := by decide +kernel
theorem dX9_isRefusedFine_15 : decode cX9_isRefusedFine 15 = .ok (.invokevirtual 108, 3) := by decide +kernel
theorem dX9_isRefusedFine_18 : decode cX9_isRefusedFine 18 = .ok (.invokevirtual 123, 3) := by decide +kernel
theorem dX9_isRefusedFine_21 : decode cX9_isRefusedFine 21 = .ok (.ireturn, 1) := by decide +kernel
theorem dX9_isRefusedFine_22 : decode cX9_isRefusedFine 22 = .ok (.aload_n 0, 1) := by decide +kernel
theorem dX9_isRefusedFine_23 : decode cX9_isRefusedFine 23 = .ok (.iload_n 1, 1) := by decide +kernel
theorem dX9_isRefusedFine_24 : decode cX9_isRefusedFine 24 = .ok (.iconst 4, 1) := by decide +kernel
theorem dX9_isRefusedFine_25 : decode cX9_isRefusedFine 25 = .ok (.invokevirtual 108, 3) := by decide +kernel
theorem dX9_isRefusedFine_28 : decode cX9_isRefusedFine 28 = .ok (.iconst 2, 1) := by decide +kernel
theorem dX9_isRefusedFine_29 : decode cX9_isRefusedFine 29 = .ok (.aload_n 0, 1) := by decide +kernel
theorem dX9_isRefusedFine_30 : decode cX9_isRefusedFine 30 = .ok (.iload_n 1, 1) := by decide +kernel
theorem dX9_isRefusedFine_31 : decode cX9_isRefusedFine 31 = .ok (.iconst 5, 1) := by decide +kernel
theorem dX9_isRefusedFine_32 : decode cX9_isRefusedFine 32 = .ok (.invokevirtual 108, 3) := by decide +kernel
theorem dX9_isRefusedFine_35 : decode cX9_isRefusedFine 35 = .ok (.imul, 1) := by decide +kernel
theorem dX9_isRefusedFine_36 : decode cX9_isRefusedFine 36 = .ok (.if_icmp .ge 31, 3) := by decide +kernel
theorem dX9_isRefusedFine_39 : decode cX9_isRefusedFine 39 = .ok (.aload_n 0, 1) := by decide +kernel
theorem dX9_isRefusedFine_40 : decode cX9_isRefusedFine 40 = .ok (.bipush 9, 2) := by decide +kernel
theorem dX9_isRefusedFine_42 : decode cX9_isRefusedFine 42 = .ok (.iconst 2, 1) := by decide +kernel
theorem dX9_isRefusedFine_43 : decode cX9_isRefusedFine 43 = .ok (.aload_n 0, 1) := by decide +kernel
theorem dX9_isRefusedFine_44 : decode cX9_isRefusedFine 44 = .ok (.iload_n 1, 1) := by decide +kernel
theorem dX9_isRefusedFine_45 : decode cX9_isRefusedFine 45 = .ok (.iconst 5, 1) := by decide +kernel
theorem dX9_isRefusedFine_46 : decode cX9_isRefusedFine 46 = .ok (.invokevirtual 108, 3) := by decide +kernel
theorem dX9_isRefusedFine_49 : decode cX9_isRefusedFine 49 = .ok (.imul, 1) := by decide +kernel
theorem dX9_isRefusedFine_50 : decode cX9_isRefusedFine 50 = .ok (.aload_n 0, 1) := by decide +kernel
theorem dX9_isRefusedFine_51 : decode cX9_isRefusedFine 51 = .ok (.iload_n 1, 1) := by decide +kernel
theorem dX9_isRefusedFine_52 : decode cX9_isRefusedFine 52 = .ok (.iconst 4, 1) := by decide +kernel
theorem dX9_isRefusedFine_53 : decode cX9_isRefusedFine 53 = .ok (.invokevirtual 108, 3) := by decide +kernel
theorem dX9_isRefusedFine_56 : decode cX9_isRefusedFine 56 = .ok (.isub, 1) := by decide +kernel
theorem dX9_isRefusedFine_57 : decode cX9_isRefusedFine 57 = .ok (.invokevirtual 123, 3) := by decide +kernel
theorem dX9_isRefusedFine_60 : decode cX9_isRefusedFine 60 = .ok (.ifCond .eq 7, 3) := by decide +kernel
theorem dX9_isRefusedFine_63 : decode cX9_isRefusedFine 63 = .ok (.iconst 1, 1) := by decide +kernel
theorem dX9_isRefusedFine_64 : decode cX9_isRefusedFine 64 = .ok (.goto 4, 3) := by decide +kernel
theorem dX9_isRefusedFine_67 : decode cX9_isRefusedFine 67 = .ok (.iconst 0, 1) := by decide +kernel
theorem dX9_isRefusedFine_68 : decode cX9_isRefusedFine 68 = .ok (.ireturn, 1) := by decide +kernel
theorem dX9_pays_0 : decode cX9_pays 0 = .ok (.iconst 2, 1) := by decide +kernel
theorem dX9_pays_1 : decode cX9_pays 1 = .ok (.aload_n 0, 1) := by decide +kernel
theorem dX9_pays_2 : decode cX9_pays 2 = .ok (.iload_n 1, 1) := by decide +kernel
theorem dX9_pays_3 : decode cX9_pays 3 = .ok (.iconst 5, 1) := by decide +kernel
theorem dX9_pays_4 : decode cX9_pays 4 = .ok (.invokevirtual 108, 3) := by decide +kernel
theorem dX9_pays_7 : decode cX9_pays 7 = .ok (.imul, 1) := by decide +kernel
theorem dX9_pays_8 : decode cX9_pays 8 = .ok (.istore_n 2, 1) := by decide +kernel
theorem dX9_pays_9 : decode cX9_pays 9 = .ok (.aload_n 0, 1) := by decide +kernel
theorem dX9_pays_10 : decode cX9_pays 10 = .ok (.iload_n 1, 1) := by decide +kernel
theorem dX9_pays_11 : decode cX9_pays 11 = .ok (.iconst 4, 1) := by decide +kernel
theorem dX9_pays_12 : decode cX9_pays 12 = .ok (.aload_n 0, 1) := by decide +kernel
theorem dX9_pays_13 : decode cX9_pays 13 = .ok (.iload_n 1, 1) := by decide +kernel
theorem dX9_pays_14 : decode cX9_pays 14 = .ok (.iconst 4, 1) := by decide +kernel
theorem dX9_pays_15 : decode cX9_pays 15 = .ok (.invokevirtual 108, 3) := by decide +kernel
theorem dX9_pays_18 : decode cX9_pays 18 = .ok (.iload_n 2, 1) := by decide +kernel
theorem dX9_pays_19 : decode cX9_pays 19 = .ok (.isub, 1) := by decide +kernel
theorem dX9_pays_20 : decode cX9_pays 20 = .ok (.invokevirtual 104, 3) := by decide +kernel
theorem dX9_pays_23 : decode cX9_pays 23 = .ok (.aload_n 0, 1) := by decide +kernel
theorem dX9_pays_24 : decode cX9_pays 24 = .ok (.iload_n 1, 1) := by decide +kernel
theorem dX9_pays_25 : decode cX9_pays 25 = .ok (.iconst 5, 1) := by decide +kernel
theorem dX9_pays_26 : decode cX9_pays 26 = .ok (.iconst 0, 1) := by decide +kernel
theorem dX9_pays_27 : decode cX9_pays 27 = .ok (.invokevirtual 104, 3) := by decide +kernel
theorem dX9_pays_30 : decode cX9_pays 30 = .ok (.aload_n 0, 1) := by decide +kernel
theorem dX9_pays_31 : decode cX9_pays 31 = .ok (.getfield 7, 3) := by decide +kernel
theorem dX9_pays_34 : decode cX9_pays 34 = .ok (.bipush 9, 2) := by decide +kernel
theorem dX9_pays_36 : decode cX9_pays 36 = .ok (.dup2, 1) := by decide +kernel
theorem dX9_pays_37 : decode cX9_pays 37 = .ok (.iaload, 1) := by decide +kernel
theorem dX9_pays_38 : decode cX9_pays 38 = .ok (.iload_n 2, 1) := by decide +kernel
theorem dX9_pays_39 : decode cX9_pays 39 = .ok (.iadd, 1) := by decide +kernel
theorem dX9_pays_40 : decode cX9_pays 40 = .ok (.iastore, 1) := by decide +kernel
theorem dX9_pays_41 : decode cX9_pays 41 = .ok (.aload_n 0, 1) := by decide +kernel
theorem dX9_pays_42 : decode cX9_pays 42 = .ok (.iload_n 1, 1) := by decide +kernel
theorem dX9_pays_43 : decode cX9_pays 43 = .ok (.iconst 4, 1) := by decide +kernel
theorem dX9_pays_44 : decode cX9_pays 44 = .ok (.invokevirtual 108, 3) := by decide +kernel
theorem dX9_pays_47 : decode cX9_pays 47 = .ok (.ireturn, 1) := by decide +kernel
theorem dX9_fine_0 : decode cX9_fine 0 = .ok (.aload_n 0, 1) := by decide +kernel
theorem dX9_fine_1 : decode cX9_fine 1 = .ok (.invokevirtual 130, 3) := by decide +kernel
theorem dX9_fine_4 : decode cX9_fine 4 = .ok (.iload_n 1, 1) := by decide +kernel
theorem dX9_fine_5 : decode cX9_fine 5 = .ok (.invokestatic 133, 3) := by decide +kernel
theorem dX9_fine_8 : decode cX9_fine 8 = .ok (.ifCond .ne 9, 3) := by decide +kernel
theorem dX9_fine_11 : decode cX9_fine 11 = .ok (.aload_n 0, 1) := by decide +kernel
theorem dX9_fine_12 : decode cX9_fine 12 = .ok (.iconst 1, 1) := by decide +kernel
theorem dX9_fine_13 : decode cX9_fine 13 = .ok (.invokevirtual 96, 3) := by decide +kernel
theorem dX9_fine_16 : decode cX9_fine 16 = .ok (.ireturn, 1) := by decide +kernel
theorem dX9_fine_17 : decode cX9_fine 17 = .ok (.aload_n 0, 1) := by decide +kernel
theorem dX9_fine_18 : decode cX9_fine 18 = .ok (.iload_n 1, 1) := by decide +kernel
theorem dX9_fine_19 : decode cX9_fine 19 = .ok (.invokevirtual 229, 3) := by decide +kernel
theorem dX9_fine_22 : decode cX9_fine 22 = .ok (.ifCond .eq 11, 3) := by decide +kernel
theorem dX9_fine_25 : decode cX9_fine 25 = .ok (.aload_n 0, 1) := by decide +kernel
theorem dX9_fine_26 : decode cX9_fine 26 = .ok (.iconst 2, 1) := by decide +kernel
theorem dX9_fine_27 : decode cX9_fine 27 = .ok (.invokevirtual 143, 3) := by decide +kernel
theorem dX9_fine_30 : decode cX9_fine 30 = .ok (.goto 12, 3) := by decide +kernel
theorem dX9_fine_33 : decode cX9_fine 33 = .ok (.aload_n 0, 1) := by decide +kernel
theorem dX9_fine_34 : decode cX9_fine 34 = .ok (.aload_n 0, 1) := by decide +kernel
theorem dX9_fine_35 : decode cX9_fine 35 = .ok (.iload_n 1, 1) := by decide +kernel
theorem dX9_fine_36 : decode cX9_fine 36 = .ok (.invokevirtual 232, 3) := by decide +kernel
theorem dX9_fine_39 : decode cX9_fine 39 = .ok (.invokevirtual 150, 3) := by decide +kernel
theorem dX9_fine_42 : decode cX9_fine 42 = .ok (.ireturn, 1) := by decide +kernel
theorem dX9_wayAt_0 : decode cX9_wayAt 0 = .ok (.iconst (-1), 1) := by decide +kernel
theorem dX9_wayAt_1 : decode cX9_wayAt 1 = .ok (.istore_n 1, 1) := by decide +kernel
theorem dX9_wayAt_2 : decode cX9_wayAt 2 = .ok (.iconst 0, 1) := by decide +kernel
theorem dX9_wayAt_3 : decode cX9_wayAt 3 = .ok (.istore_n 2, 1) := by decide +kernel
theorem dX9_wayAt_4 : decode cX9_wayAt 4 = .ok (.iload_n 2, 1) := by decide +kernel
theorem dX9_wayAt_5 : decode cX9_wayAt 5 = .ok (.aload_n 0, 1) := by decide +kernel
theorem dX9_wayAt_6 : decode cX9_wayAt 6 = .ok (.getfield 7, 3) := by decide +kernel
theorem dX9_wayAt_9 : decode cX9_wayAt 9 = .ok (.iconst 1, 1) := by decide +kernel
theorem dX9_wayAt_10 : decode cX9_wayAt 10 = .ok (.iaload, 1) := by decide +kernel
theorem dX9_wayAt_11 : decode cX9_wayAt 11 = .ok (.if_icmp .ge 52, 3) := by decide +kernel
theorem dX9_wayAt_14 : decode cX9_wayAt 14 = .ok (.iload_n 1, 1) := by decide +kernel
theorem dX9_wayAt_15 : decode cX9_wayAt 15 = .ok (.ifCond .lt 40, 3) := by decide +kernel
theorem dX9_wayAt_18 : decode cX9_wayAt 18 = .ok (.aload_n 0, 1) := by decide +kernel
theorem dX9_wayAt_19 : decode cX9_wayAt 19 = .ok (.aload_n 0, 1) := by decide +kernel
theorem dX9_wayAt_20 : decode cX9_wayAt 20 = .ok (.getfield 7, 3) := by decide +kernel
theorem dX9_wayAt_23 : decode cX9_wayAt 23 = .ok (.bipush 110, 2) := by decide +kernel
theorem dX9_wayAt_25 : decode cX9_wayAt 25 = .ok (.iload_n 2, 1) := by decide +kernel
theorem dX9_wayAt_26 : decode cX9_wayAt 26 = .ok (.iadd, 1) := by decide +kernel
theorem dX9_wayAt_27 : decode cX9_wayAt 27 = .ok (.iaload, 1) := by decide +kernel
theorem dX9_wayAt_28 : decode cX9_wayAt 28 = .ok (.invokestatic 235, 3) := by decide +kernel
theorem dX9_wayAt_31 : decode cX9_wayAt 31 = .ok (.iconst 2, 1) := by decide +kernel
theorem dX9_wayAt_32 : decode cX9_wayAt 32 = .ok (.invokevirtual 108, 3) := by decide +kernel
theorem dX9_wayAt_35 : decode cX9_wayAt 35 = .ok (.aload_n 0, 1) := by decide +kernel
theorem dX9_wayAt_36 : decode cX9_wayAt 36 = .ok (.aload_n 0, 1) := by decide +kernel
theorem dX9_wayAt_37 : decode cX9_wayAt 37 = .ok (.getfield 7, 3) := by decide +kernel
theorem dX9_wayAt_40 : decode cX9_wayAt 40 = .ok (.bipush 110, 2) := by decide +kernel
theorem dX9_wayAt_42 : decode cX9_wayAt 42 = .ok (.iload_n 1, 1) := by decide +kernel
theorem dX9_wayAt_43 : decode cX9_wayAt 43 = .ok (.iadd, 1) := by decide +kernel
theorem dX9_wayAt_44 : decode cX9_wayAt 44 = .ok (.iaload, 1) := by decide +kernel
theorem dX9_wayAt_45 : decode cX9_wayAt 45 = .ok (.invokestatic 235, 3) := by decide +kernel
theorem dX9_wayAt_48 : decode cX9_wayAt 48 = .ok (.iconst 2, 1) := by decide +kernel
theorem dX9_wayAt_49 : decode cX9_wayAt 49 = .ok (.invokevirtual 108, 3) := by decide +kernel
theorem dX9_wayAt_52 : decode cX9_wayAt 52 = .ok (.if_icmp .le 5, 3) := by decide +kernel
theorem dX9_wayAt_55 : decode cX9_wayAt 55 = .ok (.iload_n 2, 1) := by decide +kernel
theorem dX9_wayAt_56 : decode cX9_wayAt 56 = .ok (.istore_n 1, 1) := by decide +kernel
theorem dX9_wayAt_57 : decode cX9_wayAt 57 = .ok (.iinc 2 1, 3) := by decide +kernel
theorem dX9_wayAt_60 : decode cX9_wayAt 60 = .ok (.goto (-56), 3) := by decide +kernel
theorem dX9_wayAt_63 : decode cX9_wayAt 63 = .ok (.iload_n 1, 1) := by decide +kernel
theorem dX9_wayAt_64 : decode cX9_wayAt 64 = .ok (.ireturn, 1) := by decide +kernel
theorem dX9_wayOf_0 : decode cX9_wayOf 0 = .ok (.iload_n 1, 1) := by decide +kernel
theorem dX9_wayOf_1 : decode cX9_wayOf 1 = .ok (.ifCond .ge 7, 3) := by decide +kernel
theorem dX9_wayOf_4 : decode cX9_wayOf 4 = .ok (.iconst (-1), 1) := by decide +kernel
theorem dX9_wayOf_5 : decode cX9_wayOf 5 = .ok (.goto 35, 3) := by decide +kernel
theorem dX9_wayOf_8 : decode cX9_wayOf 8 = .ok (.aload_n 0, 1) := by decide +kernel
theorem dX9_wayOf_9 : decode cX9_wayOf 9 = .ok (.getfield 7, 3) := by decide +kernel
theorem dX9_wayOf_12 : decode cX9_wayOf 12 = .ok (.bipush 110, 2) := by decide +kernel
theorem dX9_wayOf_14 : decode cX9_wayOf 14 = .ok (.iload_n 1, 1) := by decide +kernel
theorem dX9_wayOf_15 : decode cX9_wayOf 15 = .ok (.iadd, 1) := by decide +kernel
theorem dX9_wayOf_16 : decode cX9_wayOf 16 = .ok (.iaload, 1) := by decide +kernel
theorem dX9_wayOf_17 : decode cX9_wayOf 17 = .ok (.invokestatic 208, 3) := by decide +kernel
theorem dX9_wayOf_20 : decode cX9_wayOf 20 = .ok (.ifCond .lt 8, 3) := by decide +kernel
theorem dX9_wayOf_23 : decode cX9_wayOf 23 = .ok (.bipush (-2), 2) := by decide +kernel
theorem dX9_wayOf_25 : decode cX9_wayOf 25 = .ok (.goto 15, 3) := by decide +kernel
theorem dX9_wayOf_28 : decode cX9_wayOf 28 = .ok (.aload_n 0, 1) := by decide +kernel
theorem dX9_wayOf_29 : decode cX9_wayOf 29 = .ok (.getfield 7, 3) := by decide +kernel
theorem dX9_wayOf_32 : decode cX9_wayOf 32 = .ok (.bipush 110, 2) := by decide +kernel
theorem dX9_wayOf_34 : decode cX9_wayOf 34 = .ok (.iload_n 1, 1) := by decide +kernel
theorem dX9_wayOf_35 : decode cX9_wayOf 35 = .ok (.iadd, 1) := by decide +kernel
theorem dX9_wayOf_36 : decode cX9_wayOf 36 = .ok (.iaload, 1) := by decide +kernel
theorem dX9_wayOf_37 : decode cX9_wayOf 37 = .ok (.invokestatic 205, 3) := by decide +kernel
theorem dX9_wayOf_40 : decode cX9_wayOf 40 = .ok (.ireturn, 1) := by decide +kernel
theorem dX9_hears_0 : decode cX9_hears 0 = .ok (.aload_n 0, 1) := by decide +kernel
theorem dX9_hears_1 : decode cX9_hears 1 = .ok (.getfield 7, 3) := by decide +kernel
theorem dX9_hears_4 : decode cX9_hears 4 = .ok (.iconst 2, 1) := by decide +kernel
theorem dX9_hears_5 : decode cX9_hears 5 = .ok (.iaload, 1) := by decide +kernel
theorem dX9_hears_6 : decode cX9_hears 6 = .ok (.istore_n 1, 1) := by decide +kernel
theorem dX9_hears_7 : decode cX9_hears 7 = .ok (.aload_n 0, 1) := by decide +kernel
theorem dX9_hears_8 : decode cX9_hears 8 = .ok (.getfield 7, 3) := by decide +kernel
theorem dX9_hears_11 : decode cX9_hears 11 = .ok (.iconst 2, 1) := by decide +kernel
theorem dX9_hears_12 : decode cX9_hears 12 = .ok (.iconst 0, 1) := by decide +kernel
theorem dX9_hears_13 : decode cX9_hears 13 = .ok (.iastore, 1) := by decide +kernel
theorem dX9_hears_14 : decode cX9_hears 14 = .ok (.iconst 0, 1) := by decide +kernel
theorem dX9_hears_15 : decode cX9_hears 15 = .ok (.istore_n 2, 1) := by decide +kernel
theorem dX9_hears_16 : decode cX9_hears 16 = .ok (.iload_n 2, 1) := by decide +kernel
theorem dX9_hears_17 : decode cX9_hears 17 = .ok (.iload_n 1, 1) := by decide +kernel
theorem dX9_hears_18 : decode cX9_hears 18 = .ok (.if_icmp .ge 117, 3) := by decide +kernel
theorem dX9_hears_21 : decode cX9_hears 21 = .ok (.aload_n 0, 1) := by decide +kernel
theorem dX9_hears_22 : decode cX9_hears 22 = .ok (.getfield 7, 3) := by decide +kernel
theorem dX9_hears_25 : decode cX9_hears 25 = .ok (.sipush 280, 3) := by decide +kernel
theorem dX9_hears_28 : decode cX9_hears 28 = .ok (.iload_n 2, 1) := by decide +kernel
theorem dX9_hears_29 : decode cX9_hears 29 = .ok (.iadd, 1) := by decide +kernel
theorem dX9_hears_30 : decode cX9_hears 30 = .ok (.iaload, 1) := by decide +kernel
theorem dX9_hears_31 : decode cX9_hears 31 = .ok (.ldc 192, 2) := by decide +kernel
theorem dX9_hears_33 : decode cX9_hears 33 = .ok (.idiv, 1) := by decide +kernel
theorem dX9_hears_34 : decode cX9_hears 34 = .ok (.iconst 1, 1) := by decide +kernel
theorem dX9_hears_35 : decode cX9_hears 35 = .ok (.isub, 1) := by decide +kernel
theorem dX9_hears_36 : decode cX9_hears 36 = .ok (.istore_n 3, 1) := by decide +kernel
theorem dX9_hears_37 : decode cX9_hears 37 = .ok (.aload_n 0, 1) := by decide +kernel
theorem dX9_hears_38 : decode cX9_hears 38 = .ok (.getfield 7, 3) := by decide +kernel
theorem dX9_hears_41 : decode cX9_hears 41 = .ok (.sipush 280, 3) := by decide +kernel
theorem dX9_hears_44 : decode cX9_hears 44 = .ok (.iload_n 2, 1) := by decide +kernel
theorem dX9_hears_45 : decode cX9_hears 45 = .ok (.iadd, 1) := by decide +kernel
theorem dX9_hears_46 : decode cX9_hears 46 = .ok (.iaload, 1) := by decide +kernel
theorem dX9_hears_47 : decode cX9_hears 47 = .ok (.ldc 192, 2) := by decide +kernel
theorem dX9_hears_49 : decode cX9_hears 49 = .ok (.irem, 1) := by decide +kernel
theorem dX9_hears_50 : decode cX9_hears 50 = .ok (.istore 4, 2) := by decide +kernel
theorem dX9_hears_52 : decode cX9_hears 52 = .ok (.aload_n 0, 1) := by decide +kernel
theorem dX9_hears_53 : decode cX9_hears 53 = .ok (.getfield 7, 3) := by decide +kernel
theorem dX9_hears_56 : decode cX9_hears 56 = .ok (.sipush 280, 3) := by decide +kernel
theorem dX9_hears_59 : decode cX9_hears 59 = .ok (.iload_n 2, 1) := by decide +kernel
theorem dX9_hears_60 : decode cX9_hears 60 = .ok (.iadd, 1) := by decide +kernel
theorem dX9_hears_61 : decode cX9_hears 61 = .ok (.iconst 0, 1) := by decide +kernel
theorem dX9_hears_62 : decode cX9_hears 62 = .ok (.iastore, 1) := by decide +kernel
theorem dX9_hears_63 : decode cX9_hears 63 = .ok (.iload_n 3, 1) := by decide +kernel
theorem dX9_hears_64 : decode cX9_hears 64 = .ok (.ifCond .le 38, 3) := by decide +kernel
theorem dX9_hears_67 : decode cX9_hears 67 = .ok (.aload_n 0, 1) := by decide +kernel
theorem dX9_hears_68 : decode cX9_hears 68 = .ok (.getfield 7, 3) := by decide +kernel
theorem dX9_hears_71 : decode cX9_hears 71 = .ok (.sipush 280, 3) := by decide +kernel
theorem dX9_hears_74 : decode cX9_hears 74 = .ok (.aload_n 0, 1) := by decide +kernel
theorem dX9_hears_75 : decode cX9_hears 75 = .ok (.getfield 7, 3) := by decide +kernel
theorem dX9_hears_78 : decode cX9_hears 78 = .ok (.iconst 2, 1) := by decide +kernel
theorem dX9_hears_79 : decode cX9_hears 79 = .ok (.iaload, 1) := by decide +kernel
theorem dX9_hears_80 : decode cX9_hears 80 = .ok (.iadd, 1) := by decide +kernel
theorem dX9_hears_81 : decode cX9_hears 81 = .ok (.ldc 192, 2) := by decide +kernel
theorem dX9_hears_83 : decode cX9_hears 83 = .ok (.iload_n 3, 1) := by decide +kernel
theorem dX9_hears_84 : decode cX9_hears 84 = .ok (.imul, 1) := by decide +kernel
theorem dX9_hears_85 : decode cX9_hears 85 = .ok (.iload 4, 2) := by decide +kernel
theorem dX9_hears_87 : decode cX9_hears 87 = .ok (.iadd, 1) := by decide +kernel
theorem dX9_hears_88 : decode cX9_hears 88 = .ok (.iastore, 1) := by decide +kernel
theorem dX9_hears_89 : decode cX9_hears 89 = .ok (.aload_n 0, 1) := by decide +kernel
theorem dX9_hears_90 : decode cX9_hears 90 = .ok (.getfield 7, 3) := by decide +kernel
theorem dX9_hears_93 : decode cX9_hears 93 = .ok (.iconst 2, 1) := by decide +kernel
theorem dX9_hears_94 : decode cX9_hears 94 = .ok (.dup2, 1) := by decide +kernel
theorem dX9_hears_95 : decode cX9_hears 95 = .ok (.iaload, 1) := by decide +kernel
theorem dX9_hears_96 : decode cX9_hears 96 = .ok (.iconst 1, 1) := by decide +kernel
theorem dX9_hears_97 : decode cX9_hears 97 = .ok (.iadd, 1) := by decide +kernel
theorem dX9_hears_98 : decode cX9_hears 98 = .ok (.iastore, 1) := by decide +kernel
theorem dX9_hears_99 : decode cX9_hears 99 = .ok (.goto 30, 3) := by decide +kernel
theorem dX9_hears_102 : decode cX9_hears 102 = .ok (.aload_n 0, 1) := by decide +kernel
theorem dX9_hears_103 : decode cX9_hears 103 = .ok (.iload 4, 2) := by decide +kernel
theorem dX9_hears_105 : decode cX9_hears 105 = .ok (.invokevirtual 188, 3) := by decide +kernel
theorem dX9_hears_108 : decode cX9_hears 108 = .ok (.aload_n 0, 1) := by decide +kernel
theorem dX9_hears_109 : decode cX9_hears 109 = .ok (.getfield 7, 3) := by decide +kernel
theorem dX9_hears_112 : decode cX9_hears 112 = .ok (.bipush 92, 2) := by decide +kernel
theorem dX9_hears_114 : decode cX9_hears 114 = .ok (.iconst 3, 1) := by decide +kernel
theorem dX9_hears_115 : decode cX9_hears 115 = .ok (.iload 4, 2) := by decide +kernel
theorem dX9_hears_117 : decode cX9_hears 117 = .ok (.invokestatic 208, 3) := by decide +kernel
theorem dX9_hears_120 : decode cX9_hears 120 = .ok (.imul, 1) := by decide +kernel
theorem dX9_hears_121 : decode cX9_hears 121 = .ok (.iadd, 1) := by decide +kernel
theorem dX9_hears_122 : decode cX9_hears 122 = .ok (.iconst 2, 1) := by decide +kernel
theorem dX9_hears_123 : decode cX9_hears 123 = .ok (.iadd, 1) := by decide +kernel
theorem dX9_hears_124 : decode cX9_hears 124 = .ok (.dup2, 1) := by decide +kernel
theorem dX9_hears_125 : decode cX9_hears 125 = .ok (.iaload, 1) := by decide +kernel
theorem dX9_hears_126 : decode cX9_hears 126 = .ok (.iconst 1, 1) := by decide +kernel
theorem dX9_hears_127 : decode cX9_hears 127 = .ok (.iadd, 1) := by decide +kernel
theorem dX9_hears_128 : decode cX9_hears 128 = .ok (.iastore, 1) := by decide +kernel
theorem dX9_hears_129 : decode cX9_hears 129 = .ok (.iinc 2 1, 3) := by decide +kernel
theorem dX9_hears_132 : decode cX9_hears 132 = .ok (.goto (-116), 3) := by decide +kernel
theorem dX9_hears_135 : decode cX9_hears 135 = .ok (.return_, 1) := by decide +kernel
theorem dX9_goesBy_0 : decode cX9_goesBy 0 = .ok (.aload_n 0, 1) := by decide +kernel
theorem dX9_goesBy_1 : decode cX9_goesBy 1 = .ok (.invokevirtual 238, 3) := by decide +kernel
theorem dX9_goesBy_4 : decode cX9_goesBy 4 = .ok (.istore_n 1, 1) := by decide +kernel
theorem dX9_goesBy_5 : decode cX9_goesBy 5 = .ok (.aload_n 0, 1) := by decide +kernel
theorem dX9_goesBy_6 : decode cX9_goesBy 6 = .ok (.iload_n 1, 1) := by decide +kernel
theorem dX9_goesBy_7 : decode cX9_goesBy 7 = .ok (.invokevirtual 241, 3) := by decide +kernel
theorem dX9_goesBy_10 : decode cX9_goesBy 10 = .ok (.istore_n 2, 1) := by decide +kernel
theorem dX9_goesBy_11 : decode cX9_goesBy 11 = .ok (.aload_n 0, 1) := by decide +kernel
theorem dX9_goesBy_12 : decode cX9_goesBy 12 = .ok (.getfield 7, 3) := by decide +kernel
theorem dX9_goesBy_15 : decode cX9_goesBy 15 = .ok (.bipush 7, 2) := by decide +kernel
theorem dX9_goesBy_17 : decode cX9_goesBy 17 = .ok (.dup2, 1) := by decide +kernel
theorem dX9_goesBy_18 : decode cX9_goesBy 18 = .ok (.iaload, 1) := by decide +kernel
theorem dX9_goesBy_19 : decode cX9_goesBy 19 = .ok (.iload_n 2, 1) := by decide +kernel
theorem dX9_goesBy_20 : decode cX9_goesBy 20 = .ok (.ifCond .lt 7, 3) := by decide +kernel
theorem dX9_goesBy_23 : decode cX9_goesBy 23 = .ok (.iconst 1, 1) := by decide +kernel
theorem dX9_goesBy_24 : decode cX9_goesBy 24 = .ok (.goto 4, 3) := by decide +kernel
theorem dX9_goesBy_27 : decode cX9_goesBy 27 = .ok (.iconst 0, 1) := by decide +kernel
theorem dX9_goesBy_28 : decode cX9_goesBy 28 = .ok (.iadd, 1) := by decide +kernel
theorem dX9_goesBy_29 : decode cX9_goesBy 29 = .ok (.iastore, 1) := by decide +kernel
theorem dX9_goesBy_30 : decode cX9_goesBy 30 = .ok (.aload_n 0, 1) := by decide +kernel
theorem dX9_goesBy_31 : decode cX9_goesBy 31 = .ok (.getfield 7, 3) := by decide +kernel
theorem dX9_goesBy_34 : decode cX9_goesBy 34 = .ok (.bipush 8, 2) := by decide +kernel
theorem dX9_goesBy_36 : decode cX9_goesBy 36 = .ok (.dup2, 1) := by decide +kernel
theorem dX9_goesBy_37 : decode cX9_goesBy 37 = .ok (.iaload, 1) := by decide +kernel
theorem dX9_goesBy_38 : decode cX9_goesBy 38 = .ok (.iload_n 2, 1) := by decide +kernel
theorem dX9_goesBy_39 : decode cX9_goesBy 39 = .ok (.bipush (-2), 2) := by decide +kernel
theorem dX9_goesBy_41 : decode cX9_goesBy 41 = .ok (.if_icmp .ne 7, 3) := by decide +kernel
theorem dX9_goesBy_44 : decode cX9_goesBy 44 = .ok (.iconst 1, 1) := by decide +kernel
theorem dX9_goesBy_45 : decode cX9_goesBy 45 = .ok (.goto 4, 3) := by decide +kernel
theorem dX9_goesBy_48 : decode cX9_goesBy 48 = .ok (.iconst 0, 1) := by decide +kernel
theorem dX9_goesBy_49 : decode cX9_goesBy 49 = .ok (.iadd, 1) := by decide +kernel
theorem dX9_goesBy_50 : decode cX9_goesBy 50 = .ok (.iastore, 1) := by decide +kernel
theorem dX9_goesBy_51 : decode cX9_goesBy 51 = .ok (.iload_n 2, 1) := by decide +kernel
theorem dX9_goesBy_52 : decode cX9_goesBy 52 = .ok (.ifCond .lt 33, 3) := by decide +kernel
theorem dX9_goesBy_55 : decode cX9_goesBy 55 = .ok (.aload_n 0, 1) := by decide +kernel
theorem dX9_goesBy_56 : decode cX9_goesBy 56 = .ok (.iload_n 2, 1) := by decide +kernel
theorem dX9_goesBy_57 : decode cX9_goesBy 57 = .ok (.bipush 6, 2) := by decide +kernel
theorem dX9_goesBy_59 : decode cX9_goesBy 59 = .ok (.aload_n 0, 1) := by decide +kernel
theorem dX9_goesBy_60 : decode cX9_goesBy 60 = .ok (.iload_n 2, 1) := by decide +kernel
theorem dX9_goesBy_61 : decode cX9_goesBy 61 = .ok (.bipush 6, 2) := by decide +kernel
theorem dX9_goesBy_63 : decode cX9_goesBy 63 = .ok (.invokevirtual 108, 3) := by decide +kernel
theorem dX9_goesBy_66 : decode cX9_goesBy 66 = .ok (.iconst 1, 1) := by decide +kernel
theorem dX9_goesBy_67 : decode cX9_goesBy 67 = .ok (.iadd, 1) := by decide +kernel
theorem dX9_goesBy_68 : decode cX9_goesBy 68 = .ok (.invokevirtual 104, 3) := by decide +kernel
theorem dX9_goesBy_71 : decode cX9_goesBy 71 = .ok (.aload_n 0, 1) := by decide +kernel
theorem dX9_goesBy_72 : decode cX9_goesBy 72 = .ok (.iload_n 2, 1) := by decide +kernel
theorem dX9_goesBy_73 : decode cX9_goesBy 73 = .ok (.iconst 4, 1) := by decide +kernel
theorem dX9_goesBy_74 : decode cX9_goesBy 74 = .ok (.aload_n 0, 1) := by decide +kernel
theorem dX9_goesBy_75 : decode cX9_goesBy 75 = .ok (.iload_n 2, 1) := by decide +kernel
theorem dX9_goesBy_76 : decode cX9_goesBy 76 = .ok (.iconst 4, 1) := by decide +kernel
theorem dX9_goesBy_77 : decode cX9_goesBy 77 = .ok (.invokevirtual 108, 3) := by decide +kernel
theorem dX9_goesBy_80 : decode cX9_goesBy 80 = .ok (.iconst 3, 1) := by decide +kernel
theorem dX9_goesBy_81 : decode cX9_goesBy 81 = .ok (.iadd, 1) := by decide +kernel
theorem dX9_goesBy_82 : decode cX9_goesBy 82 = .ok (.invokevirtual 104, 3) := by decide +kernel
theorem dX9_goesBy_85 : decode cX9_goesBy 85 = .ok (.iconst 0, 1) := by decide +kernel
theorem dX9_goesBy_86 : decode cX9_goesBy 86 = .ok (.istore_n 3, 1) := by decide +kernel
theorem dX9_goesBy_87 : decode cX9_goesBy 87 = .ok (.iload_n 3, 1) := by decide +kernel
theorem dX9_goesBy_88 : decode cX9_goesBy 88 = .ok (.bipush 7, 2) := by decide +kernel
theorem dX9_goesBy_90 : decode cX9_goesBy 90 = .ok (.if_icmp .ge 75, 3) := by decide +kernel
theorem dX9_goesBy_93 : decode cX9_goesBy 93 = .ok (.aload_n 0, 1) := by decide +kernel
theorem dX9_goesBy_94 : decode cX9_goesBy 94 = .ok (.iload_n 3, 1) := by decide +kernel
theorem dX9_goesBy_95 : decode cX9_goesBy 95 = .ok (.iconst 5, 1) := by decide +kernel
theorem dX9_goesBy_96 : decode cX9_goesBy 96 = .ok (.invokevirtual 108, 3) := by decide +kernel
theorem dX9_goesBy_99 : decode cX9_goesBy 99 = .ok (.ifCond .le 20, 3) := by decide +kernel
theorem dX9_goesBy_102 : decode cX9_goesBy 102 = .ok (.aload_n 0, 1) := by decide +kernel
theorem dX9_goesBy_103 : decode cX9_goesBy 103 = .ok (.iload_n 3, 1) := by decide +kernel
theorem dX9_goesBy_104 : decode cX9_goesBy 104 = .ok (.iconst 5, 1) := by decide +kernel
theorem dX9_goesBy_105 : decode cX9_goesBy 105 = .ok (.aload_n 0, 1) := by decide +kernel
theorem dX9_goesBy_106 : decode cX9_goesBy 106 = .ok (.iload_n 3, 1) := by decide +kernel
theorem dX9_goesBy_107 : decode cX9_goesBy 107 = .ok (.iconst 5, 1) := by decide +kernel
theorem dX9_goesBy_108 : decode cX9_goesBy 108 = .ok (.invokevirtual 108, 3) := by decide +kernel
theorem dX9_goesBy_111 : decode cX9_goesBy 111 = .ok (.iconst 1, 1) := by decide +kernel
theorem dX9_goesBy_112 : decode cX9_goesBy 112 = .ok (.isub, 1) := by decide +kernel
theorem dX9_goesBy_113 : decode cX9_goesBy 113 = .ok (.invokevirtual 104, 3) := by decide +kernel
theorem dX9_goesBy_116 : decode cX9_goesBy 116 = .ok (.goto 35, 3) := by decide +kernel
theorem dX9_goesBy_119 : decode cX9_goesBy 119 = .ok (.aload_n 0, 1) := by decide +kernel
theorem dX9_goesBy_120 : decode cX9_goesBy 120 = .ok (.iload_n 3, 1) := by decide +kernel
theorem dX9_goesBy_121 : decode cX9_goesBy 121 = .ok (.iconst 3, 1) := by decide +kernel
theorem dX9_goesBy_122 : decode cX9_goesBy 122 = .ok (.aload_n 0, 1) := by decide +kernel
theorem dX9_goesBy_123 : decode cX9_goesBy 123 = .ok (.iload_n 3, 1) := by decide +kernel
theorem dX9_goesBy_124 : decode cX9_goesBy 124 = .ok (.iconst 3, 1) := by decide +kernel
theorem dX9_goesBy_125 : decode cX9_goesBy 125 = .ok (.invokevirtual 108, 3) := by decide +kernel
theorem dX9_goesBy_128 : decode cX9_goesBy 128 = .ok (.iconst 2, 1) := by decide +kernel
theorem dX9_goesBy_129 : decode cX9_goesBy 129 = .ok (.iadd, 1) := by decide +kernel
theorem dX9_goesBy_130 : decode cX9_goesBy 130 = .ok (.bipush 20, 2) := by decide +kernel
theorem dX9_goesBy_132 : decode cX9_goesBy 132 = .ok (.if_icmp .le 8, 3) := by decide +kernel
theorem dX9_goesBy_135 : decode cX9_goesBy 135 = .ok (.bipush 20, 2) := by decide +kernel
theorem dX9_goesBy_137 : decode cX9_goesBy 137 = .ok (.goto 11, 3) := by decide +kernel
theorem dX9_goesBy_140 : decode cX9_goesBy 140 = .ok (.aload_n 0, 1) := by decide +kernel
theorem dX9_goesBy_141 : decode cX9_goesBy 141 = .ok (.iload_n 3, 1) := by decide +kernel
theorem dX9_goesBy_142 : decode cX9_goesBy 142 = .ok (.iconst 3, 1) := by decide +kernel
theorem dX9_goesBy_143 : decode cX9_goesBy 143 = .ok (.invokevirtual 108, 3) := by decide +kernel
theorem dX9_goesBy_146 : decode cX9_goesBy 146 = .ok (.iconst 2, 1) := by decide +kernel
theorem dX9_goesBy_147 : decode cX9_goesBy 147 = .ok (.iadd, 1) := by decide +kernel
theorem dX9_goesBy_148 : decode cX9_goesBy 148 = .ok (.invokevirtual 104, 3) := by decide +kernel
theorem dX9_goesBy_151 : decode cX9_goesBy 151 = .ok (.aload_n 0, 1) := by decide +kernel
theorem dX9_goesBy_152 : decode cX9_goesBy 152 = .ok (.iload_n 3, 1) := by decide +kernel
theorem dX9_goesBy_153 : decode cX9_goesBy 153 = .ok (.bipush 9, 2) := by decide +kernel
theorem dX9_goesBy_155 : decode cX9_goesBy 155 = .ok (.iconst 0, 1) := by decide +kernel
theorem dX9_goesBy_156 : decode cX9_goesBy 156 = .ok (.invokevirtual 104, 3) := by decide +kernel
theorem dX9_goesBy_159 : decode cX9_goesBy 159 = .ok (.iinc 3 1, 3) := by decide +kernel
theorem dX9_goesBy_162 : decode cX9_goesBy 162 = .ok (.goto (-75), 3) := by decide +kernel
theorem dX9_goesBy_165 : decode cX9_goesBy 165 = .ok (.bipush 110, 2) := by decide +kernel
theorem dX9_goesBy_167 : decode cX9_goesBy 167 = .ok (.istore_n 3, 1) := by decide +kernel
theorem dX9_goesBy_168 : decode cX9_goesBy 168 = .ok (.iload_n 3, 1) := by decide +kernel
theorem dX9_goesBy_169 : decode cX9_goesBy 169 = .ok (.sipush 280, 3) := by decide +kernel
theorem dX9_goesBy_172 : decode cX9_goesBy 172 = .ok (.if_icmp .ge 16, 3) := by decide +kernel
theorem dX9_goesBy_175 : decode cX9_goesBy 175 = .ok (.aload_n 0, 1) := by decide +kernel
theorem dX9_goesBy_176 : decode cX9_goesBy 176 = .ok (.getfield 7, 3) := by decide +kernel
theorem dX9_goesBy_179 : decode cX9_goesBy 179 = .ok (.iload_n 3, 1) := by decide +kernel
theorem dX9_goesBy_180 : decode cX9_goesBy 180 = .ok (.iconst 0, 1) := by decide +kernel
theorem dX9_goesBy_181 : decode cX9_goesBy 181 = .ok (.iastore, 1) := by decide +kernel
theorem dX9_goesBy_182 : decode cX9_goesBy 182 = .ok (.iinc 3 1, 3) := by decide +kernel
theorem dX9_goesBy_185 : decode cX9_goesBy 185 = .ok (.goto (-17), 3) := by decide +kernel
theorem dX9_goesBy_188 : decode cX9_goesBy 188 = .ok (.sipush 470, 3) := by decide +kernel
theorem dX9_goesBy_191 : decode cX9_goesBy 191 = .ok (.istore_n 3, 1) := by decide +kernel
theorem dX9_goesBy_192 : decode cX9_goesBy 192 = .ok (.iload_n 3, 1) := by decide +kernel
theorem dX9_goesBy_193 : decode cX9_goesBy 193 = .ok (.sipush 640, 3) := by decide +kernel
theorem dX9_goesBy_196 : decode cX9_goesBy 196 = .ok (.if_icmp .ge 16, 3) := by decide +kernel
theorem dX9_goesBy_199 : decode cX9_goesBy 199 = .ok (.aload_n 0, 1) := by decide +kernel
theorem dX9_goesBy_200 : decode cX9_goesBy 200 = .ok (.getfield 7, 3) := by decide +kernel
theorem dX9_goesBy_203 : decode cX9_goesBy 203 = .ok (.iload_n 3, 1) := by decide +kernel
theorem dX9_goesBy_204 : decode cX9_goesBy 204 = .ok (.iconst 0, 1) := by decide +kernel
theorem dX9_goesBy_205 : decode cX9_goesBy 205 = .ok (.iastore, 1) := by decide +kernel
theorem dX9_goesBy_206 : decode cX9_goesBy 206 = .ok (.iinc 3 1, 3) := by decide +kernel
theorem dX9_goesBy_209 : decode cX9_goesBy 209 = .ok (.goto (-17), 3) := by decide +kernel
theorem dX9_goesBy_212 : decode cX9_goesBy 212 = .ok (.aload_n 0, 1) := by decide +kernel
theorem dX9_goesBy_213 : decode cX9_goesBy 213 = .ok (.getfield 7, 3) := by decide +kernel
theorem dX9_goesBy_216 : decode cX9_goesBy 216 = .ok (.iconst 1, 1) := by decide +kernel
theorem dX9_goesBy_217 : decode cX9_goesBy 217 = .ok (.iconst 0, 1) := by decide +kernel
theorem dX9_goesBy_218 : decode cX9_goesBy 218 = .ok (.iastore, 1) := by decide +kernel
theorem dX9_goesBy_219 : decode cX9_goesBy 219 = .ok (.aload_n 0, 1) := by decide +kernel
theorem dX9_goesBy_220 : decode cX9_goesBy 220 = .ok (.getfield 7, 3) := by decide +kernel
theorem dX9_goesBy_223 : decode cX9_goesBy 223 = .ok (.iconst 3, 1) := by decide +kernel
theorem dX9_goesBy_224 : decode cX9_goesBy 224 = .ok (.iconst 0, 1) := by decide +kernel
theorem dX9_goesBy_225 : decode cX9_goesBy 225 = .ok (.iastore, 1) := by decide +kernel
theorem dX9_goesBy_226 : decode cX9_goesBy 226 = .ok (.aload_n 0, 1) := by decide +kernel
theorem dX9_goesBy_227 : decode cX9_goesBy 227 = .ok (.getfield 7, 3) := by decide +kernel
theorem dX9_goesBy_230 : decode cX9_goesBy 230 = .ok (.iconst 0, 1) := by decide +kernel
theorem dX9_goesBy_231 : decode cX9_goesBy 231 = .ok (.dup2, 1) := by decide +kernel
theorem dX9_goesBy_232 : decode cX9_goesBy 232 = .ok (.iaload, 1) := by decide +kernel
theorem dX9_goesBy_233 : decode cX9_goesBy 233 = .ok (.iconst 1, 1) := by decide +kernel
theorem dX9_goesBy_234 : decode cX9_goesBy 234 = .ok (.iadd, 1) := by decide +kernel
theorem dX9_goesBy_235 : decode cX9_goesBy 235 = .ok (.iastore, 1) := by decide +kernel
theorem dX9_goesBy_236 : decode cX9_goesBy 236 = .ok (.aload_n 0, 1) := by decide +kernel
theorem dX9_goesBy_237 : decode cX9_goesBy 237 = .ok (.invokevirtual 244, 3) := by decide +kernel
theorem dX9_goesBy_240 : decode cX9_goesBy 240 = .ok (.iload_n 2, 1) := by decide +kernel
theorem dX9_goesBy_241 : decode cX9_goesBy 241 = .ok (.ireturn, 1) := by decide +kernel
theorem dX9_hour_0 : decode cX9_hour 0 = .ok (.aload_n 0, 1) := by decide +kernel
theorem dX9_hour_1 : decode cX9_hour 1 = .ok (.invokevirtual 130, 3) := by decide +kernel
theorem dX9_hour_4 : decode cX9_hour 4 = .ok (.aload_n 0, 1) := by decide +kernel
theorem dX9_hour_5 : decode cX9_hour 5 = .ok (.aload_n 0, 1) := by decide +kernel
theorem dX9_hour_6 : decode cX9_hour 6 = .ok (.invokevirtual 247, 3) := by decide +kernel
theorem dX9_hour_9 : decode cX9_hour 9 = .ok (.invokevirtual 150, 3) := by decide +kernel
theorem dX9_hour_12 : decode cX9_hour 12 = .ok (.ireturn, 1) := by decide +kernel
theorem dX9_way_0 : decode cX9_way 0 = .ok (.aload_n 0, 1) := by decide +kernel
theorem dX9_way_1 : decode cX9_way 1 = .ok (.iconst 0, 1) := by decide +kernel
theorem dX9_way_2 : decode cX9_way 2 = .ok (.putfield 22, 3) := by decide +kernel
theorem dX9_way_5 : decode cX9_way 5 = .ok (.aload_n 0, 1) := by decide +kernel
theorem dX9_way_6 : decode cX9_way 6 = .ok (.aload_n 0, 1) := by decide +kernel
theorem dX9_way_7 : decode cX9_way 7 = .ok (.invokevirtual 238, 3) := by decide +kernel
theorem dX9_way_10 : decode cX9_way 10 = .ok (.invokevirtual 241, 3) := by decide +kernel
theorem dX9_way_13 : decode cX9_way 13 = .ok (.ireturn, 1) := by decide +kernel
theorem dX9_heard_0 : decode cX9_heard 0 = .ok (.aload_n 0, 1) := by decide +kernel
theorem dX9_heard_1 : decode cX9_heard 1 = .ok (.iconst 0, 1) := by decide +kernel
theorem dX9_heard_2 : decode cX9_heard 2 = .ok (.putfield 22, 3) := by decide +kernel
theorem dX9_heard_5 : decode cX9_heard 5 = .ok (.iload_n 1, 1) := by decide +kernel
theorem dX9_heard_6 : decode cX9_heard 6 = .ok (.iconst 0, 1) := by decide +kernel
theorem dX9_heard_7 : decode cX9_heard 7 = .ok (.aload_n 0, 1) := by decide +kernel
theorem dX9_heard_8 : decode cX9_heard 8 = .ok (.getfield 7, 3) := by decide +kernel
theorem dX9_heard_11 : decode cX9_heard 11 = .ok (.iconst 1, 1) := by decide +kernel
theorem dX9_heard_12 : decode cX9_heard 12 = .ok (.iaload, 1) := by decide +kernel
theorem dX9_heard_13 : decode cX9_heard 13 = .ok (.iconst 1, 1) := by decide +kernel
theorem dX9_heard_14 : decode cX9_heard 14 = .ok (.isub, 1) := by decide +kernel
theorem dX9_heard_15 : decode cX9_heard 15 = .ok (.invokestatic 116, 3) := by decide +kernel
theorem dX9_heard_18 : decode cX9_heard 18 = .ok (.ifCond .ne 9, 3) := by decide +kernel
theorem dX9_heard_21 : decode cX9_heard 21 = .ok (.aload_n 0, 1) := by decide +kernel
theorem dX9_heard_22 : decode cX9_heard 22 = .ok (.iconst 1, 1) := by decide +kernel
theorem dX9_heard_23 : decode cX9_heard 23 = .ok (.invokevirtual 96, 3) := by decide +kernel
theorem dX9_heard_26 : decode cX9_heard 26 = .ok (.ireturn, 1) := by decide +kernel
theorem dX9_heard_27 : decode cX9_heard 27 = .ok (.aload_n 0, 1) := by decide +kernel
theorem dX9_heard_28 : decode cX9_heard 28 = .ok (.getfield 7, 3) := by decide +kernel
theorem dX9_heard_31 : decode cX9_heard 31 = .ok (.bipush 110, 2) := by decide +kernel
theorem dX9_heard_33 : decode cX9_heard 33 = .ok (.iload_n 1, 1) := by decide +kernel
theorem dX9_heard_34 : decode cX9_heard 34 = .ok (.iadd, 1) := by decide +kernel
theorem dX9_heard_35 : decode cX9_heard 35 = .ok (.iaload, 1) := by decide +kernel
theorem dX9_heard_36 : decode cX9_heard 36 = .ok (.istore_n 3, 1) := by decide +kernel
theorem dX9_heard_37 : decode cX9_heard 37 = .ok (.iload_n 2, 1) := by decide +kernel
theorem dX9_heard_38 : decode cX9_heard 38 = .ok (.tableswitch 59 0 4 #[34, 39, 44, 49, 54], 34) := by decide +kernel
theorem dX9_heard_72 : decode cX9_heard 72 = .ok (.iload_n 3, 1) := by decide +kernel
theorem dX9_heard_73 : decode cX9_heard 73 = .ok (.invokestatic 235, 3) := by decide +kernel
theorem dX9_heard_76 : decode cX9_heard 76 = .ok (.ireturn, 1) := by decide +kernel
theorem dX9_heard_77 : decode cX9_heard 77 = .ok (.iload_n 3, 1) := by decide +kernel
theorem dX9_heard_78 : decode cX9_heard 78 = .ok (.invokestatic 205, 3) := by decide +kernel
theorem dX9_heard_81 : decode cX9_heard 81 = .ok (.ireturn, 1) := by decide +kernel
theorem dX9_heard_82 : decode cX9_heard 82 = .ok (.iload_n 3, 1) := by decide +kernel
theorem dX9_heard_83 : decode cX9_heard 83 = .ok (.invokestatic 208, 3) := by decide +kernel
theorem dX9_heard_86 : decode cX9_heard 86 = .ok (.ireturn, 1) := by decide +kernel
theorem dX9_heard_87 : decode cX9_heard 87 = .ok (.iload_n 3, 1) := by decide +kernel
theorem dX9_heard_88 : decode cX9_heard 88 = .ok (.invokestatic 178, 3) := by decide +kernel
theorem dX9_heard_91 : decode cX9_heard 91 = .ok (.ireturn, 1) := by decide +kernel
theorem dX9_heard_92 : decode cX9_heard 92 = .ok (.iload_n 3, 1) := by decide +kernel
theorem dX9_heard_93 : decode cX9_heard 93 = .ok (.invokestatic 181, 3) := by decide +kernel
theorem dX9_heard_96 : decode cX9_heard 96 = .ok (.ireturn, 1) := by decide +kernel
theorem dX9_heard_97 : decode cX9_heard 97 = .ok (.aload_n 0, 1) := by decide +kernel
theorem dX9_heard_98 : decode cX9_heard 98 = .ok (.iconst 2, 1) := by decide +kernel
theorem dX9_heard_99 : decode cX9_heard 99 = .ok (.invokevirtual 96, 3) := by decide +kernel
theorem dX9_heard_102 : decode cX9_heard 102 = .ok (.ireturn, 1) := by decide +kernel
theorem dX9_lineOf_0 : decode cX9_lineOf 0 = .ok (.aload_n 0, 1) := by decide +kernel
theorem dX9_lineOf_1 : decode cX9_lineOf 1 = .ok (.iconst 0, 1) := by decide +kernel
theorem dX9_lineOf_2 : decode cX9_lineOf 2 = .ok (.putfield 22, 3) := by decide +kernel
theorem dX9_lineOf_5 : decode cX9_lineOf 5 = .ok (.iload_n 1, 1) := by decide +kernel
theorem dX9_lineOf_6 : decode cX9_lineOf 6 = .ok (.invokestatic 133, 3) := by decide +kernel
theorem dX9_lineOf_9 : decode cX9_lineOf 9 = .ok (.ifCond .ne 9, 3) := by decide +kernel
theorem dX9_lineOf_12 : decode cX9_lineOf 12 = .ok (.aload_n 0, 1) := by decide +kernel
theorem dX9_lineOf_13 : decode cX9_lineOf 13 = .ok (.iconst 1, 1) := by decide +kernel
theorem dX9_lineOf_14 : decode cX9_lineOf 14 = .ok (.invokevirtual 96, 3) := by decide +kernel
theorem dX9_lineOf_17 : decode cX9_lineOf 17 = .ok (.ireturn, 1) := by decide +kernel
theorem dX9_lineOf_18 : decode cX9_lineOf 18 = .ok (.iload_n 2, 1) := by decide +kernel
theorem dX9_lineOf_19 : decode cX9_lineOf 19 = .ok (.iconst 0, 1) := by decide +kernel
theorem dX9_lineOf_20 : decode cX9_lineOf 20 = .ok (.bipush 9, 2) := by decide +kernel
theorem dX9_lineOf_22 : decode cX9_lineOf 22 = .ok (.invokestatic 116, 3) := by decide +kernel
theorem dX9_lineOf_25 : decode cX9_lineOf 25 = .ok (.ifCond .ne 9, 3) := by decide +kernel
theorem dX9_lineOf_28 : decode cX9_lineOf 28 = .ok (.aload_n 0, 1) := by decide +kernel
theorem dX9_lineOf_29 : decode cX9_lineOf 29 = .ok (.iconst 2, 1) := by decide +kernel
theorem dX9_lineOf_30 : decode cX9_lineOf 30 = .ok (.invokevirtual 96, 3) := by decide +kernel
theorem dX9_lineOf_33 : decode cX9_lineOf 33 = .ok (.ireturn, 1) := by decide +kernel
theorem dX9_lineOf_34 : decode cX9_lineOf 34 = .ok (.iload_n 2, 1) := by decide +kernel
theorem dX9_lineOf_35 : decode cX9_lineOf 35 = .ok (.bipush 9, 2) := by decide +kernel
theorem dX9_lineOf_37 : decode cX9_lineOf 37 = .ok (.if_icmp .ge 12, 3) := by decide +kernel
theorem dX9_lineOf_40 : decode cX9_lineOf 40 = .ok (.aload_n 0, 1) := by decide +kernel
theorem dX9_lineOf_41 : decode cX9_lineOf 41 = .ok (.iload_n 1, 1) := by decide +kernel
theorem dX9_lineOf_42 : decode cX9_lineOf 42 = .ok (.iload_n 2, 1) := by decide +kernel
theorem dX9_lineOf_43 : decode cX9_lineOf 43 = .ok (.invokevirtual 108, 3) := by decide +kernel
theorem dX9_lineOf_46 : decode cX9_lineOf 46 = .ok (.goto 18, 3) := by decide +kernel
theorem dX9_lineOf_49 : decode cX9_lineOf 49 = .ok (.aload_n 0, 1) := by decide +kernel
theorem dX9_lineOf_50 : decode cX9_lineOf 50 = .ok (.iload_n 1, 1) := by decide +kernel
theorem dX9_lineOf_51 : decode cX9_lineOf 51 = .ok (.bipush 9, 2) := by decide +kernel
theorem dX9_lineOf_53 : decode cX9_lineOf 53 = .ok (.invokevirtual 108, 3) := by decide +kernel
theorem dX9_lineOf_56 : decode cX9_lineOf 56 = .ok (.ifCond .le 7, 3) := by decide +kernel
theorem dX9_lineOf_59 : decode cX9_lineOf 59 = .ok (.iconst 1, 1) := by decide +kernel
theorem dX9_lineOf_60 : decode cX9_lineOf 60 = .ok (.goto 4, 3) := by decide +kernel
theorem dX9_lineOf_63 : decode cX9_lineOf 63 = .ok (.iconst 0, 1) := by decide +kernel
theorem dX9_lineOf_64 : decode cX9_lineOf 64 = .ok (.ireturn, 1) := by decide +kernel
theorem dX9_comingTo_0 : decode cX9_comingTo 0 = .ok (.iconst 0, 1) := by decide +kernel
theorem dX9_comingTo_1 : decode cX9_comingTo 1 = .ok (.istore_n 2, 1) := by decide +kernel
theorem dX9_comingTo_2 : decode cX9_comingTo 2 = .ok (.iconst 0, 1) := by decide +kernel
theorem dX9_comingTo_3 : decode cX9_comingTo 3 = .ok (.istore_n 3, 1) := by decide +kernel
theorem dX9_comingTo_4 : decode cX9_comingTo 4 = .ok (.iload_n 3, 1) := by decide +kernel
theorem dX9_comingTo_5 : decode cX9_comingTo 5 = .ok (.aload_n 0, 1) := by decide +kernel
theorem dX9_comingTo_6 : decode cX9_comingTo 6 = .ok (.getfield 7, 3) := by decide +kernel
theorem dX9_comingTo_9 : decode cX9_comingTo 9 = .ok (.iconst 2, 1) := by decide +kernel
theorem dX9_comingTo_10 : decode cX9_comingTo 10 = .ok (.iaload, 1) := by decide +kernel
theorem dX9_comingTo_11 : decode cX9_comingTo 11 = .ok (.if_icmp .ge 37, 3) := by decide +kernel
theorem dX9_comingTo_14 : decode cX9_comingTo 14 = .ok (.iload_n 2, 1) := by decide +kernel
theorem dX9_comingTo_15 : decode cX9_comingTo 15 = .ok (.aload_n 0, 1) := by decide +kernel
theorem dX9_comingTo_16 : decode cX9_comingTo 16 = .ok (.getfield 7, 3) := by decide +kernel
theorem dX9_comingTo_19 : decode cX9_comingTo 19 = .ok (.sipush 280, 3) := by decide +kernel
theorem dX9_comingTo_22 : decode cX9_comingTo 22 = .ok (.iload_n 3, 1) := by decide +kernel
theorem dX9_comingTo_23 : decode cX9_comingTo 23 = .ok (.iadd, 1) := by decide +kernel
theorem dX9_comingTo_24 : decode cX9_comingTo 24 = .ok (.iaload, 1) := by decide +kernel
theorem dX9_comingTo_25 : decode cX9_comingTo 25 = .ok (.ldc 192, 2) := by decide +kernel
theorem dX9_comingTo_27 : decode cX9_comingTo 27 = .ok (.irem, 1) := by decide +kernel
theorem dX9_comingTo_28 : decode cX9_comingTo 28 = .ok (.invokestatic 208, 3) := by decide +kernel
theorem dX9_comingTo_31 : decode cX9_comingTo 31 = .ok (.iload_n 1, 1) := by decide +kernel
theorem dX9_comingTo_32 : decode cX9_comingTo 32 = .ok (.if_icmp .ne 7, 3) := by decide +kernel
theorem dX9_comingTo_35 : decode cX9_comingTo 35 = .ok (.iconst 1, 1) := by decide +kernel
theorem dX9_comingTo_36 : decode cX9_comingTo 36 = .ok (.goto 4, 3) := by decide +kernel
theorem dX9_comingTo_39 : decode cX9_comingTo 39 = .ok (.iconst 0, 1) := by decide +kernel
theorem dX9_comingTo_40 : decode cX9_comingTo 40 = .ok (.iadd, 1) := by decide +kernel
theorem dX9_comingTo_41 : decode cX9_comingTo 41 = .ok (.istore_n 2, 1) := by decide +kernel
theorem dX9_comingTo_42 : decode cX9_comingTo 42 = .ok (.iinc 3 1, 3) := by decide +kernel
theorem dX9_comingTo_45 : decode cX9_comingTo 45 = .ok (.goto (-41), 3) := by decide +kernel
theorem dX9_comingTo_48 : decode cX9_comingTo 48 = .ok (.iload_n 2, 1) := by decide +kernel
theorem dX9_comingTo_49 : decode cX9_comingTo 49 = .ok (.ireturn, 1) := by decide +kernel
theorem dX9_platformOf_0 : decode cX9_platformOf 0 = .ok (.aload_n 0, 1) := by decide +kernel
theorem dX9_platformOf_1 : decode cX9_platformOf 1 = .ok (.iconst 0, 1) := by decide +kernel
theorem dX9_platformOf_2 : decode cX9_platformOf 2 = .ok (.putfield 22, 3) := by decide +kernel
theorem dX9_platformOf_5 : decode cX9_platformOf 5 = .ok (.iload_n 1, 1) := by decide +kernel
theorem dX9_platformOf_6 : decode cX9_platformOf 6 = .ok (.invokestatic 171, 3) := by decide +kernel
theorem dX9_platformOf_9 : decode cX9_platformOf 9 = .ok (.ifCond .ne 9, 3) := by decide +kernel
theorem dX9_platformOf_12 : decode cX9_platformOf 12 = .ok (.aload_n 0, 1) := by decide +kernel
theorem dX9_platformOf_13 : decode cX9_platformOf 13 = .ok (.iconst 1, 1) := by decide +kernel
theorem dX9_platformOf_14 : decode cX9_platformOf 14 = .ok (.invokevirtual 96, 3) := by decide +kernel
theorem dX9_platformOf_17 : decode cX9_platformOf 17 = .ok (.ireturn, 1) := by decide +kernel
theorem dX9_platformOf_18 : decode cX9_platformOf 18 = .ok (.iload_n 2, 1) := by decide +kernel
theorem dX9_platformOf_19 : decode cX9_platformOf 19 = .ok (.iconst 0, 1) := by decide +kernel
theorem dX9_platformOf_20 : decode cX9_platformOf 20 = .ok (.iconst 3, 1) := by decide +kernel
theorem dX9_platformOf_21 : decode cX9_platformOf 21 = .ok (.invokestatic 116, 3) := by decide +kernel
theorem dX9_platformOf_24 : decode cX9_platformOf 24 = .ok (.ifCond .ne 9, 3) := by decide +kernel
theorem dX9_platformOf_27 : decode cX9_platformOf 27 = .ok (.aload_n 0, 1) := by decide +kernel
theorem dX9_platformOf_28 : decode cX9_platformOf 28 = .ok (.iconst 2, 1) := by decide +kernel
theorem dX9_platformOf_29 : decode cX9_platformOf 29 = .ok (.invokevirtual 96, 3) := by decide +kernel
theorem dX9_platformOf_32 : decode cX9_platformOf 32 = .ok (.ireturn, 1) := by decide +kernel
theorem dX9_platformOf_33 : decode cX9_platformOf 33 = .ok (.iload_n 2, 1) := by decide +kernel
theorem dX9_platformOf_34 : decode cX9_platformOf 34 = .ok (.iconst 3, 1) := by decide +kernel
theorem dX9_platformOf_35 : decode cX9_platformOf 35 = .ok (.if_icmp .ge 12, 3) := by decide +kernel
theorem dX9_platformOf_38 : decode cX9_platformOf 38 = .ok (.aload_n 0, 1) := by decide +kernel
theorem dX9_platformOf_39 : decode cX9_platformOf 39 = .ok (.iload_n 1, 1) := by decide +kernel
theorem dX9_platformOf_40 : decode cX9_platformOf 40 = .ok (.iload_n 2, 1) := by decide +kernel
theorem dX9_platformOf_41 : decode cX9_platformOf 41 = .ok (.invokevirtual 168, 3) := by decide +kernel
theorem dX9_platformOf_44 : decode cX9_platformOf 44 = .ok (.goto 8, 3) := by decide +kernel
theorem dX9_platformOf_47 : decode cX9_platformOf 47 = .ok (.aload_n 0, 1) := by decide +kernel
theorem dX9_platformOf_48 : decode cX9_platformOf 48 = .ok (.iload_n 1, 1) := by decide +kernel
theorem dX9_platformOf_49 : decode cX9_platformOf 49 = .ok (.invokevirtual 250, 3) := by decide +kernel
theorem dX9_platformOf_52 : decode cX9_platformOf 52 = .ok (.ireturn, 1) := by decide +kernel
theorem dX9_starts_0 : decode cX9_starts 0 = .ok (.iload_n 0, 1) := by decide +kernel
theorem dX9_starts_1 : decode cX9_starts 1 = .ok (.iload_n 2, 1) := by decide +kernel
theorem dX9_starts_2 : decode cX9_starts 2 = .ok (.if_icmp .gt 18, 3) := by decide +kernel
theorem dX9_starts_5 : decode cX9_starts 5 = .ok (.iload_n 1, 1) := by decide +kernel
theorem dX9_starts_6 : decode cX9_starts 6 = .ok (.iload_n 3, 1) := by decide +kernel
theorem dX9_starts_7 : decode cX9_starts 7 = .ok (.iconst 1, 1) := by decide +kernel
theorem dX9_starts_8 : decode cX9_starts 8 = .ok (.iload_n 0, 1) := by decide +kernel
theorem dX9_starts_9 : decode cX9_starts 9 = .ok (.ishl, 1) := by decide +kernel
theorem dX9_starts_10 : decode cX9_starts 10 = .ok (.iconst 1, 1) := by decide +kernel
theorem dX9_starts_11 : decode cX9_starts 11 = .ok (.isub, 1) := by decide +kernel
theorem dX9_starts_12 : decode cX9_starts 12 = .ok (.iand, 1) := by decide +kernel
theorem dX9_starts_13 : decode cX9_starts 13 = .ok (.if_icmp .ne 7, 3) := by decide +kernel
theorem dX9_starts_16 : decode cX9_starts 16 = .ok (.iconst 1, 1) := by decide +kernel
theorem dX9_starts_17 : decode cX9_starts 17 = .ok (.goto 4, 3) := by decide +kernel
theorem dX9_starts_20 : decode cX9_starts 20 = .ok (.iconst 0, 1) := by decide +kernel
theorem dX9_starts_21 : decode cX9_starts 21 = .ok (.ireturn, 1) := by decide +kernel
theorem dX9_startsThat_0 : decode cX9_startsThat 0 = .ok (.aload_n 0, 1) := by decide +kernel
theorem dX9_startsThat_1 : decode cX9_startsThat 1 = .ok (.iload_n 1, 1) := by decide +kernel
theorem dX9_startsThat_2 : decode cX9_startsThat 2 = .ok (.iconst 0, 1) := by decide +kernel
theorem dX9_startsThat_3 : decode cX9_startsThat 3 = .ok (.invokevirtual 108, 3) := by decide +kernel
theorem dX9_startsThat_6 : decode cX9_startsThat 6 = .ok (.ifCond .le 37, 3) := by decide +kernel
theorem dX9_startsThat_9 : decode cX9_startsThat 9 = .ok (.aload_n 0, 1) := by decide +kernel
theorem dX9_startsThat_10 : decode cX9_startsThat 10 = .ok (.iload_n 1, 1) := by decide +kernel
theorem dX9_startsThat_11 : decode cX9_startsThat 11 = .ok (.iconst 0, 1) := by decide +kernel
theorem dX9_startsThat_12 : decode cX9_startsThat 12 = .ok (.invokevirtual 108, 3) := by decide +kernel
theorem dX9_startsThat_15 : decode cX9_startsThat 15 = .ok (.aload_n 0, 1) := by decide +kernel
theorem dX9_startsThat_16 : decode cX9_startsThat 16 = .ok (.iload_n 1, 1) := by decide +kernel
theorem dX9_startsThat_17 : decode cX9_startsThat 17 = .ok (.iconst 1, 1) := by decide +kernel
theorem dX9_startsThat_18 : decode cX9_startsThat 18 = .ok (.invokevirtual 108, 3) := by decide +kernel
theorem dX9_startsThat_21 : decode cX9_startsThat 21 = .ok (.aload_n 0, 1) := by decide +kernel
theorem dX9_startsThat_22 : decode cX9_startsThat 22 = .ok (.iload_n 2, 1) := by decide +kernel
theorem dX9_startsThat_23 : decode cX9_startsThat 23 = .ok (.iconst 0, 1) := by decide +kernel
theorem dX9_startsThat_24 : decode cX9_startsThat 24 = .ok (.invokevirtual 108, 3) := by decide +kernel
theorem dX9_startsThat_27 : decode cX9_startsThat 27 = .ok (.aload_n 0, 1) := by decide +kernel
theorem dX9_startsThat_28 : decode cX9_startsThat 28 = .ok (.iload_n 2, 1) := by decide +kernel
theorem dX9_startsThat_29 : decode cX9_startsThat 29 = .ok (.iconst 1, 1) := by decide +kernel
theorem dX9_startsThat_30 : decode cX9_startsThat 30 = .ok (.invokevirtual 108, 3) := by decide +kernel
theorem dX9_startsThat_33 : decode cX9_startsThat 33 = .ok (.invokestatic 253, 3) := by decide +kernel
theorem dX9_startsThat_36 : decode cX9_startsThat 36 = .ok (.ifCond .eq 7, 3) := by decide +kernel
theorem dX9_startsThat_39 : decode cX9_startsThat 39 = .ok (.iconst 1, 1) := by decide +kernel
theorem dX9_startsThat_40 : decode cX9_startsThat 40 = .ok (.goto 4, 3) := by decide +kernel
theorem dX9_startsThat_43 : decode cX9_startsThat 43 = .ok (.iconst 0, 1) := by decide +kernel
theorem dX9_startsThat_44 : decode cX9_startsThat 44 = .ok (.ireturn, 1) := by decide +kernel
theorem dX9_clash_0 : decode cX9_clash 0 = .ok (.aload_n 0, 1) := by decide +kernel
theorem dX9_clash_1 : decode cX9_clash 1 = .ok (.iload_n 1, 1) := by decide +kernel
theorem dX9_clash_2 : decode cX9_clash 2 = .ok (.invokestatic 133, 3) := by decide +kernel
theorem dX9_clash_5 : decode cX9_clash 5 = .ok (.ifCond .eq 14, 3) := by decide +kernel
theorem dX9_clash_8 : decode cX9_clash 8 = .ok (.iload_n 2, 1) := by decide +kernel
theorem dX9_clash_9 : decode cX9_clash 9 = .ok (.invokestatic 133, 3) := by decide +kernel
theorem dX9_clash_12 : decode cX9_clash 12 = .ok (.ifCond .eq 7, 3) := by decide +kernel
theorem dX9_clash_15 : decode cX9_clash 15 = .ok (.iconst 0, 1) := by decide +kernel
theorem dX9_clash_16 : decode cX9_clash 16 = .ok (.goto 4, 3) := by decide +kernel
theorem dX9_clash_19 : decode cX9_clash 19 = .ok (.iconst 1, 1) := by decide +kernel
theorem dX9_clash_20 : decode cX9_clash 20 = .ok (.putfield 22, 3) := by decide +kernel
theorem dX9_clash_23 : decode cX9_clash 23 = .ok (.aload_n 0, 1) := by decide +kernel
theorem dX9_clash_24 : decode cX9_clash 24 = .ok (.getfield 22, 3) := by decide +kernel
theorem dX9_clash_27 : decode cX9_clash 27 = .ok (.ifCond .le 5, 3) := by decide +kernel
theorem dX9_clash_30 : decode cX9_clash 30 = .ok (.iconst 0, 1) := by decide +kernel
theorem dX9_clash_31 : decode cX9_clash 31 = .ok (.ireturn, 1) := by decide +kernel
theorem dX9_clash_32 : decode cX9_clash 32 = .ok (.iload_n 1, 1) := by decide +kernel
theorem dX9_clash_33 : decode cX9_clash 33 = .ok (.iload_n 2, 1) := by decide +kernel
theorem dX9_clash_34 : decode cX9_clash 34 = .ok (.if_icmp .ne 18, 3) := by decide +kernel
theorem dX9_clash_37 : decode cX9_clash 37 = .ok (.aload_n 0, 1) := by decide +kernel
theorem dX9_clash_38 : decode cX9_clash 38 = .ok (.iload_n 1, 1) := by decide +kernel
theorem dX9_clash_39 : decode cX9_clash 39 = .ok (.iconst 0, 1) := by decide +kernel
theorem dX9_clash_40 : decode cX9_clash 40 = .ok (.invokevirtual 108, 3) := by decide +kernel
theorem dX9_clash_43 : decode cX9_clash 43 = .ok (.ifCond .le 7, 3) := by decide +kernel
theorem dX9_clash_46 : decode cX9_clash 46 = .ok (.iconst 3, 1) := by decide +kernel
theorem dX9_clash_47 : decode cX9_clash 47 = .ok (.goto 4, 3) := by decide +kernel
theorem dX9_clash_50 : decode cX9_clash 50 = .ok (.iconst 0, 1) := by decide +kernel
theorem dX9_clash_51 : decode cX9_clash 51 = .ok (.ireturn, 1) := by decide +kernel
theorem dX9_clash_52 : decode cX9_clash 52 = .ok (.aload_n 0, 1) := by decide +kernel
theorem dX9_clash_53 : decode cX9_clash 53 = .ok (.iload_n 1, 1) := by decide +kernel
theorem dX9_clash_54 : decode cX9_clash 54 = .ok (.iload_n 2, 1) := by decide +kernel
theorem dX9_clash_55 : decode cX9_clash 55 = .ok (.invokevirtual 257, 3) := by decide +kernel
theorem dX9_clash_58 : decode cX9_clash 58 = .ok (.ifCond .eq 7, 3) := by decide +kernel
theorem dX9_clash_61 : decode cX9_clash 61 = .ok (.iconst 1, 1) := by decide +kernel
theorem dX9_clash_62 : decode cX9_clash 62 = .ok (.goto 17, 3) := by decide +kernel
theorem dX9_clash_65 : decode cX9_clash 65 = .ok (.aload_n 0, 1) := by decide +kernel
theorem dX9_clash_66 : decode cX9_clash 66 = .ok (.iload_n 2, 1) := by decide +kernel
theorem dX9_clash_67 : decode cX9_clash 67 = .ok (.iload_n 1, 1) := by decide +kernel
theorem dX9_clash_68 : decode cX9_clash 68 = .ok (.invokevirtual 257, 3) := by decide +kernel
theorem dX9_clash_71 : decode cX9_clash 71 = .ok (.ifCond .eq 7, 3) := by decide +kernel
theorem dX9_clash_74 : decode cX9_clash 74 = .ok (.iconst 2, 1) := by decide +kernel
theorem dX9_clash_75 : decode cX9_clash 75 = .ok (.goto 4, 3) := by decide +kernel
theorem dX9_clash_78 : decode cX9_clash 78 = .ok (.iconst 0, 1) := by decide +kernel
theorem dX9_clash_79 : decode cX9_clash 79 = .ok (.ireturn, 1) := by decide +kernel
theorem dX9_isClear_0 : decode cX9_isClear 0 = .ok (.aload_n 0, 1) := by decide +kernel
theorem dX9_isClear_1 : decode cX9_isClear 1 = .ok (.iconst 0, 1) := by decide +kernel
theorem dX9_isClear_2 : decode cX9_isClear 2 = .ok (.putfield 22, 3) := by decide +kernel
theorem dX9_isClear_5 : decode cX9_isClear 5 = .ok (.iconst 0, 1) := by decide +kernel
theorem dX9_isClear_6 : decode cX9_isClear 6 = .ok (.istore_n 1, 1) := by decide +kernel
theorem dX9_isClear_7 : decode cX9_isClear 7 = .ok (.iload_n 1, 1) := by decide +kernel
theorem dX9_isClear_8 : decode cX9_isClear 8 = .ok (.bipush 7, 2) := by decide +kernel
theorem dX9_isClear_10 : decode cX9_isClear 10 = .ok (.if_icmp .ge 39, 3) := by decide +kernel
theorem dX9_isClear_13 : decode cX9_isClear 13 = .ok (.iconst 0, 1) := by decide +kernel
theorem dX9_isClear_14 : decode cX9_isClear 14 = .ok (.istore_n 2, 1) := by decide +kernel
theorem dX9_isClear_15 : decode cX9_isClear 15 = .ok (.iload_n 2, 1) := by decide +kernel
theorem dX9_isClear_16 : decode cX9_isClear 16 = .ok (.bipush 7, 2) := by decide +kernel
theorem dX9_isClear_18 : decode cX9_isClear 18 = .ok (.if_icmp .ge 25, 3) := by decide +kernel
theorem dX9_isClear_21 : decode cX9_isClear 21 = .ok (.iload_n 1, 1) := by decide +kernel
theorem dX9_isClear_22 : decode cX9_isClear 22 = .ok (.iload_n 2, 1) := by decide +kernel
theorem dX9_isClear_23 : decode cX9_isClear 23 = .ok (.if_icmp .eq 14, 3) := by decide +kernel
theorem dX9_isClear_26 : decode cX9_isClear 26 = .ok (.aload_n 0, 1) := by decide +kernel
theorem dX9_isClear_27 : decode cX9_isClear 27 = .ok (.iload_n 1, 1) := by decide +kernel
theorem dX9_isClear_28 : decode cX9_isClear 28 = .ok (.iload_n 2, 1) := by decide +kernel
theorem dX9_isClear_29 : decode cX9_isClear 29 = .ok (.invokevirtual 257, 3) := by decide +kernel
theorem dX9_isClear_32 : decode cX9_isClear 32 = .ok (.ifCond .eq 5, 3) := by decide +kernel
theorem dX9_isClear_35 : decode cX9_isClear 35 = .ok (.iconst 0, 1) := by decide +kernel
theorem dX9_isClear_36 : decode cX9_isClear 36 = .ok (.ireturn, 1) := by decide +kernel
theorem dX9_isClear_37 : decode cX9_isClear 37 = .ok (.iinc 2 1, 3) := by decide +kernel
theorem dX9_isClear_40 : decode cX9_isClear 40 = .ok (.goto (-25), 3) := by decide +kernel
theorem dX9_isClear_43 : decode cX9_isClear 43 = .ok (.iinc 1 1, 3) := by decide +kernel
theorem dX9_isClear_46 : decode cX9_isClear 46 = .ok (.goto (-39), 3) := by decide +kernel
theorem dX9_isClear_49 : decode cX9_isClear 49 = .ok (.iconst 1, 1) := by decide +kernel
theorem dX9_isClear_50 : decode cX9_isClear 50 = .ok (.ireturn, 1) := by decide +kernel
theorem dX9_isFree_0 : decode cX9_isFree 0 = .ok (.iconst 0, 1) := by decide +kernel
theorem dX9_isFree_1 : decode cX9_isFree 1 = .ok (.istore_n 3, 1) := by decide +kernel
theorem dX9_isFree_2 : decode cX9_isFree 2 = .ok (.iload_n 3, 1) := by decide +kernel
theorem dX9_isFree_3 : decode cX9_isFree 3 = .ok (.bipush 7, 2) := by decide +kernel
theorem dX9_isFree_5 : decode cX9_isFree 5 = .ok (.if_icmp .ge 63, 3) := by decide +kernel
theorem dX9_isFree_8 : decode cX9_isFree 8 = .ok (.aload_n 0, 1) := by decide +kernel
theorem dX9_isFree_9 : decode cX9_isFree 9 = .ok (.iload_n 3, 1) := by decide +kernel
theorem dX9_isFree_10 : decode cX9_isFree 10 = .ok (.iconst 0, 1) := by decide +kernel
theorem dX9_isFree_11 : decode cX9_isFree 11 = .ok (.invokevirtual 108, 3) := by decide +kernel
theorem dX9_isFree_14 : decode cX9_isFree 14 = .ok (.ifCond .ne 6, 3) := by decide +kernel
theorem dX9_isFree_17 : decode cX9_isFree 17 = .ok (.goto 45, 3) := by decide +kernel
theorem dX9_isFree_20 : decode cX9_isFree 20 = .ok (.iload_n 1, 1) := by decide +kernel
theorem dX9_isFree_21 : decode cX9_isFree 21 = .ok (.iload_n 2, 1) := by decide +kernel
theorem dX9_isFree_22 : decode cX9_isFree 22 = .ok (.aload_n 0, 1) := by decide +kernel
theorem dX9_isFree_23 : decode cX9_isFree 23 = .ok (.iload_n 3, 1) := by decide +kernel
theorem dX9_isFree_24 : decode cX9_isFree 24 = .ok (.iconst 0, 1) := by decide +kernel
theorem dX9_isFree_25 : decode cX9_isFree 25 = .ok (.invokevirtual 108, 3) := by decide +kernel
theorem dX9_isFree_28 : decode cX9_isFree 28 = .ok (.aload_n 0, 1) := by decide +kernel
theorem dX9_isFree_29 : decode cX9_isFree 29 = .ok (.iload_n 3, 1) := by decide +kernel
theorem dX9_isFree_30 : decode cX9_isFree 30 = .ok (.iconst 1, 1) := by decide +kernel
theorem dX9_isFree_31 : decode cX9_isFree 31 = .ok (.invokevirtual 108, 3) := by decide +kernel
theorem dX9_isFree_34 : decode cX9_isFree 34 = .ok (.invokestatic 253, 3) := by decide +kernel
theorem dX9_isFree_37 : decode cX9_isFree 37 = .ok (.ifCond .ne 23, 3) := by decide +kernel
theorem dX9_isFree_40 : decode cX9_isFree 40 = .ok (.aload_n 0, 1) := by decide +kernel
theorem dX9_isFree_41 : decode cX9_isFree 41 = .ok (.iload_n 3, 1) := by decide +kernel
theorem dX9_isFree_42 : decode cX9_isFree 42 = .ok (.iconst 0, 1) := by decide +kernel
theorem dX9_isFree_43 : decode cX9_isFree 43 = .ok (.invokevirtual 108, 3) := by decide +kernel
theorem dX9_isFree_46 : decode cX9_isFree 46 = .ok (.aload_n 0, 1) := by decide +kernel
theorem dX9_isFree_47 : decode cX9_isFree 47 = .ok (.iload_n 3, 1) := by decide +kernel
theorem dX9_isFree_48 : decode cX9_isFree 48 = .ok (.iconst 1, 1) := by decide +kernel
theorem dX9_isFree_49 : decode cX9_isFree 49 = .ok (.invokevirtual 108, 3) := by decide +kernel
theorem dX9_isFree_52 : decode cX9_isFree 52 = .ok (.iload_n 1, 1) := by decide +kernel
theorem dX9_isFree_53 : decode cX9_isFree 53 = .ok (.iload_n 2, 1) := by decide +kernel
theorem dX9_isFree_54 : decode cX9_isFree 54 = .ok (.invokestatic 253, 3) := by decide +kernel
theorem dX9_isFree_57 : decode cX9_isFree 57 = .ok (.ifCond .eq 5, 3) := by decide +kernel
theorem dX9_isFree_60 : decode cX9_isFree 60 = .ok (.iconst 0, 1) := by decide +kernel
theorem dX9_isFree_61 : decode cX9_isFree 61 = .ok (.ireturn, 1) := by decide +kernel
theorem dX9_isFree_62 : decode cX9_isFree 62 = .ok (.iinc 3 1, 3) := by decide +kernel
theorem dX9_isFree_65 : decode cX9_isFree 65 = .ok (.goto (-63), 3) := by decide +kernel
theorem dX9_isFree_68 : decode cX9_isFree 68 = .ok (.iconst 1, 1) := by decide +kernel
theorem dX9_isFree_69 : decode cX9_isFree 69 = .ok (.ireturn, 1) := by decide +kernel
theorem dX9_free_0 : decode cX9_free 0 = .ok (.aload_n 0, 1) := by decide +kernel
theorem dX9_free_1 : decode cX9_free 1 = .ok (.iload_n 1, 1) := by decide +kernel
theorem dX9_free_2 : decode cX9_free 2 = .ok (.iconst 1, 1) := by decide +kernel
theorem dX9_free_3 : decode cX9_free 3 = .ok (.bipush 6, 2) := by decide +kernel
theorem dX9_free_5 : decode cX9_free 5 = .ok (.invokestatic 116, 3) := by decide +kernel
theorem dX9_free_8 : decode cX9_free 8 = .ok (.ifCond .eq 7, 3) := by decide +kernel
theorem dX9_free_11 : decode cX9_free 11 = .ok (.iconst 0, 1) := by decide +kernel
theorem dX9_free_12 : decode cX9_free 12 = .ok (.goto 4, 3) := by decide +kernel
theorem dX9_free_15 : decode cX9_free 15 = .ok (.iconst 1, 1) := by decide +kernel
theorem dX9_free_16 : decode cX9_free 16 = .ok (.putfield 22, 3) := by decide +kernel
theorem dX9_free_19 : decode cX9_free 19 = .ok (.iconst 0, 1) := by decide +kernel
theorem dX9_free_20 : decode cX9_free 20 = .ok (.istore_n 3, 1) := by decide +kernel
theorem dX9_free_21 : decode cX9_free 21 = .ok (.iconst 0, 1) := by decide +kernel
theorem dX9_free_22 : decode cX9_free 22 = .ok (.istore 4, 2) := by decide +kernel
theorem dX9_free_24 : decode cX9_free 24 = .ok (.aload_n 0, 1) := by decide +kernel
theorem dX9_free_25 : decode cX9_free 25 = .ok (.getfield 22, 3) := by decide +kernel
theorem dX9_free_28 : decode cX9_free 28 = .ok (.ifCond .ne 35, 3) := by decide +kernel
theorem dX9_free_31 : decode cX9_free 31 = .ok (.iload 4, 2) := by decide +kernel
theorem dX9_free_33 : decode cX9_free 33 = .ok (.iconst 1, 1) := by decide +kernel
theorem dX9_free_34 : decode cX9_free 34 = .ok (.iload_n 1, 1) := by decide +kernel
theorem dX9_free_35 : decode cX9_free 35 = .ok (.ishl, 1) := by decide +kernel
theorem dX9_free_36 : decode cX9_free 36 = .ok (.if_icmp .ge 27, 3) := by decide +kernel
theorem dX9_free_39 : decode cX9_free 39 = .ok (.iload_n 3, 1) := by decide +kernel
theorem dX9_free_40 : decode cX9_free 40 = .ok (.aload_n 0, 1) := by decide +kernel
theorem dX9_free_41 : decode cX9_free 41 = .ok (.iload_n 1, 1) := by decide +kernel
theorem dX9_free_42 : decode cX9_free 42 = .ok (.iload 4, 2) := by decide +kernel
theorem dX9_free_44 : decode cX9_free 44 = .ok (.invokevirtual 260, 3) := by decide +kernel
theorem dX9_free_47 : decode cX9_free 47 = .ok (.ifCond .eq 7, 3) := by decide +kernel
theorem dX9_free_50 : decode cX9_free 50 = .ok (.iconst 1, 1) := by decide +kernel
theorem dX9_free_51 : decode cX9_free 51 = .ok (.goto 4, 3) := by decide +kernel
theorem dX9_free_54 : decode cX9_free 54 = .ok (.iconst 0, 1) := by decide +kernel
theorem dX9_free_55 : decode cX9_free 55 = .ok (.iadd, 1) := by decide +kernel
theorem dX9_free_56 : decode cX9_free 56 = .ok (.istore_n 3, 1) := by decide +kernel
theorem dX9_free_57 : decode cX9_free 57 = .ok (.iinc 4 1, 3) := by decide +kernel
theorem dX9_free_60 : decode cX9_free 60 = .ok (.goto (-36), 3) := by decide +kernel
theorem dX9_free_63 : decode cX9_free 63 = .ok (.iload_n 3, 1) := by decide +kernel
theorem dX9_free_64 : decode cX9_free 64 = .ok (.ireturn, 1) := by decide +kernel
theorem dX9_laysLetters_0 : decode cX9_laysLetters 0 = .ok (.aload_n 0, 1) := by decide +kernel
theorem dX9_laysLetters_1 : decode cX9_laysLetters 1 = .ok (.iconst 0, 1) := by decide +kernel
theorem dX9_laysLetters_2 : decode cX9_laysLetters 2 = .ok (.putfield 57, 3) := by decide +kernel
theorem dX9_laysLetters_5 : decode cX9_laysLetters 5 = .ok (.iconst 0, 1) := by decide +kernel
theorem dX9_laysLetters_6 : decode cX9_laysLetters 6 = .ok (.istore_n 1, 1) := by decide +kernel
theorem dX9_laysLetters_7 : decode cX9_laysLetters 7 = .ok (.iload_n 1, 1) := by decide +kernel
theorem dX9_laysLetters_8 : decode cX9_laysLetters 8 = .ok (.aload_n 0, 1) := by decide +kernel
theorem dX9_laysLetters_9 : decode cX9_laysLetters 9 = .ok (.getfield 7, 3) := by decide +kernel
theorem dX9_laysLetters_12 : decode cX9_laysLetters 12 = .ok (.iconst 3, 1) := by decide +kernel
theorem dX9_laysLetters_13 : decode cX9_laysLetters 13 = .ok (.iaload, 1) := by decide +kernel
theorem dX9_laysLetters_14 : decode cX9_laysLetters 14 = .ok (.if_icmp .ge 63, 3) := by decide +kernel
theorem dX9_laysLetters_17 : decode cX9_laysLetters 17 = .ok (.aload_n 0, 1) := by decide +kernel
theorem dX9_laysLetters_18 : decode cX9_laysLetters 18 = .ok (.getfield 7, 3) := by decide +kernel
theorem dX9_laysLetters_21 : decode cX9_laysLetters 21 = .ok (.sipush 470, 3) := by decide +kernel
theorem dX9_laysLetters_24 : decode cX9_laysLetters 24 = .ok (.iload_n 1, 1) := by decide +kernel
theorem dX9_laysLetters_25 : decode cX9_laysLetters 25 = .ok (.iadd, 1) := by decide +kernel
theorem dX9_laysLetters_26 : decode cX9_laysLetters 26 = .ok (.iaload, 1) := by decide +kernel
theorem dX9_laysLetters_27 : decode cX9_laysLetters 27 = .ok (.istore_n 2, 1) := by decide +kernel
theorem dX9_laysLetters_28 : decode cX9_laysLetters 28 = .ok (.iconst 0, 1) := by decide +kernel
theorem dX9_laysLetters_29 : decode cX9_laysLetters 29 = .ok (.istore_n 3, 1) := by decide +kernel
theorem dX9_laysLetters_30 : decode cX9_laysLetters 30 = .ok (.iload_n 3, 1) := by decide +kernel
theorem dX9_laysLetters_31 : decode cX9_laysLetters 31 = .ok (.iload_n 2, 1) := by decide +kernel
theorem dX9_laysLetters_32 : decode cX9_laysLetters 32 = .ok (.bipush 64, 2) := by decide +kernel
theorem dX9_laysLetters_34 : decode cX9_laysLetters 34 = .ok (.idiv, 1) := by decide +kernel
theorem dX9_laysLetters_35 : decode cX9_laysLetters 35 = .ok (.if_icmp .ge 36, 3) := by decide +kernel
theorem dX9_laysLetters_38 : decode cX9_laysLetters 38 = .ok (.aload_n 0, 1) := by decide +kernel
theorem dX9_laysLetters_39 : decode cX9_laysLetters 39 = .ok (.getfield 51, 3) := by decide +kernel
theorem dX9_laysLetters_42 : decode cX9_laysLetters 42 = .ok (.aload_n 0, 1) := by decide +kernel
theorem dX9_laysLetters_43 : decode cX9_laysLetters 43 = .ok (.getfield 57, 3) := by decide +kernel
theorem dX9_laysLetters_46 : decode cX9_laysLetters 46 = .ok (.iload_n 2, 1) := by decide +kernel
theorem dX9_laysLetters_47 : decode cX9_laysLetters 47 = .ok (.bipush 64, 2) := by decide +kernel
theorem dX9_laysLetters_49 : decode cX9_laysLetters 49 = .ok (.irem, 1) := by decide +kernel
theorem dX9_laysLetters_50 : decode cX9_laysLetters 50 = .ok (.iload_n 3, 1) := by decide +kernel
theorem dX9_laysLetters_51 : decode cX9_laysLetters 51 = .ok (.ishr, 1) := by decide +kernel
theorem dX9_laysLetters_52 : decode cX9_laysLetters 52 = .ok (.iconst 1, 1) := by decide +kernel
theorem dX9_laysLetters_53 : decode cX9_laysLetters 53 = .ok (.iand, 1) := by decide +kernel
theorem dX9_laysLetters_54 : decode cX9_laysLetters 54 = .ok (.iastore, 1) := by decide +kernel
theorem dX9_laysLetters_55 : decode cX9_laysLetters 55 = .ok (.aload_n 0, 1) := by decide +kernel
theorem dX9_laysLetters_56 : decode cX9_laysLetters 56 = .ok (.dup, 1) := by decide +kernel
theorem dX9_laysLetters_57 : decode cX9_laysLetters 57 = .ok (.getfield 57, 3) := by decide +kernel
theorem dX9_laysLetters_60 : decode cX9_laysLetters 60 = .ok (.iconst 1, 1) := by decide +kernel
theorem dX9_laysLetters_61 : decode cX9_laysLetters 61 = .ok (.iadd, 1) := by decide +kernel
theorem dX9_laysLetters_62 : decode cX9_laysLetters 62 = .ok (.putfield 57, 3) := by decide +kernel
theorem dX9_laysLetters_65 : decode cX9_laysLetters 65 = .ok (.iinc 3 1, 3) := by decide +kernel
theorem dX9_laysLetters_68 : decode cX9_laysLetters 68 = .ok (.goto (-38), 3) := by decide +kernel
theorem dX9_laysLetters_71 : decode cX9_laysLetters 71 = .ok (.iinc 1 1, 3) := by decide +kernel
theorem dX9_laysLetters_74 : decode cX9_laysLetters 74 = .ok (.goto (-67), 3) := by decide +kernel
theorem dX9_laysLetters_77 : decode cX9_laysLetters 77 = .ok (.return_, 1) := by decide +kernel
theorem dX9_stands_0 : decode cX9_stands 0 = .ok (.aload_n 0, 1) := by decide +kernel
theorem dX9_stands_1 : decode cX9_stands 1 = .ok (.iload_n 1, 1) := by decide +kernel
theorem dX9_stands_2 : decode cX9_stands 2 = .ok (.iconst 0, 1) := by decide +kernel
theorem dX9_stands_3 : decode cX9_stands 3 = .ok (.invokevirtual 108, 3) := by decide +kernel
theorem dX9_stands_6 : decode cX9_stands 6 = .ok (.istore_n 3, 1) := by decide +kernel
theorem dX9_stands_7 : decode cX9_stands 7 = .ok (.iload_n 3, 1) := by decide +kernel
theorem dX9_stands_8 : decode cX9_stands 8 = .ok (.ifCond .eq 13, 3) := by decide +kernel
theorem dX9_stands_11 : decode cX9_stands 11 = .ok (.iload_n 2, 1) := by decide +kernel
theorem dX9_stands_12 : decode cX9_stands 12 = .ok (.iload_n 3, 1) := by decide +kernel
theorem dX9_stands_13 : decode cX9_stands 13 = .ok (.iadd, 1) := by decide +kernel
theorem dX9_stands_14 : decode cX9_stands 14 = .ok (.aload_n 0, 1) := by decide +kernel
theorem dX9_stands_15 : decode cX9_stands 15 = .ok (.getfield 57, 3) := by decide +kernel
theorem dX9_stands_18 : decode cX9_stands 18 = .ok (.if_icmp .le 5, 3) := by decide +kernel
theorem dX9_stands_21 : decode cX9_stands 21 = .ok (.iconst 0, 1) := by decide +kernel
theorem dX9_stands_22 : decode cX9_stands 22 = .ok (.ireturn, 1) := by decide +kernel
theorem dX9_stands_23 : decode cX9_stands 23 = .ok (.iconst 0, 1) := by decide +kernel
theorem dX9_stands_24 : decode cX9_stands 24 = .ok (.istore 4, 2) := by decide +kernel
theorem dX9_stands_26 : decode cX9_stands 26 = .ok (.iload 4, 2) := by decide +kernel
theorem dX9_stands_28 : decode cX9_stands 28 = .ok (.iload_n 3, 1) := by decide +kernel
theorem dX9_stands_29 : decode cX9_stands 29 = .ok (.if_icmp .ge 34, 3) := by decide +kernel
theorem dX9_stands_32 : decode cX9_stands 32 = .ok (.aload_n 0, 1) := by decide +kernel
theorem dX9_stands_33 : decode cX9_stands 33 = .ok (.getfield 51, 3) := by decide +kernel
theorem dX9_stands_36 : decode cX9_stands 36 = .ok (.iload_n 2, 1) := by decide +kernel
theorem dX9_stands_37 : decode cX9_stands 37 = .ok (.iload 4, 2) := by decide +kernel
theorem dX9_stands_39 : decode cX9_stands 39 = .ok (.iadd, 1) := by decide +kernel
theorem dX9_stands_40 : decode cX9_stands 40 = .ok (.iaload, 1) := by decide +kernel
theorem dX9_stands_41 : decode cX9_stands 41 = .ok (.aload_n 0, 1) := by decide +kernel
theorem dX9_stands_42 : decode cX9_stands 42 = .ok (.iload_n 1, 1) := by decide +kernel
theorem dX9_stands_43 : decode cX9_stands 43 = .ok (.iconst 1, 1) := by decide +kernel
theorem dX9_stands_44 : decode cX9_stands 44 = .ok (.invokevirtual 108, 3) := by decide +kernel
theorem dX9_stands_47 : decode cX9_stands 47 = .ok (.iload 4, 2) := by decide +kernel
theorem dX9_stands_49 : decode cX9_stands 49 = .ok (.ishr, 1) := by decide +kernel
theorem dX9_stands_50 : decode cX9_stands 50 = .ok (.iconst 1, 1) := by decide +kernel
theorem dX9_stands_51 : decode cX9_stands 51 = .ok (.iand, 1) := by decide +kernel
theorem dX9_stands_52 : decode cX9_stands 52 = .ok (.if_icmp .eq 5, 3) := by decide +kernel
theorem dX9_stands_55 : decode cX9_stands 55 = .ok (.iconst 0, 1) := by decide +kernel
theorem dX9_stands_56 : decode cX9_stands 56 = .ok (.ireturn, 1) := by decide +kernel
theorem dX9_stands_57 : decode cX9_stands 57 = .ok (.iinc 4 1, 3) := by decide +kernel
theorem dX9_stands_60 : decode cX9_stands 60 = .ok (.goto (-34), 3) := by decide +kernel
theorem dX9_stands_63 : decode cX9_stands 63 = .ok (.iconst 1, 1) := by decide +kernel
theorem dX9_stands_64 : decode cX9_stands 64 = .ok (.ireturn, 1) := by decide +kernel
theorem dX9_laysReadings_0 : decode cX9_laysReadings 0 = .ok (.aload_n 0, 1) := by decide +kernel
theorem dX9_laysReadings_1 : decode cX9_laysReadings 1 = .ok (.invokevirtual 263, 3) := by decide +kernel
theorem dX9_laysReadings_4 : decode cX9_laysReadings 4 = .ok (.aload_n 0, 1) := by decide +kernel
theorem dX9_laysReadings_5 : decode cX9_laysReadings 5 = .ok (.getfield 54, 3) := by decide +kernel
theorem dX9_laysReadings_8 : decode cX9_laysReadings 8 = .ok (.aload_n 0, 1) := by decide +kernel
theorem dX9_laysReadings_9 : decode cX9_laysReadings 9 = .ok (.getfield 57, 3) := by decide +kernel
theorem dX9_laysReadings_12 : decode cX9_laysReadings 12 = .ok (.iconst 1, 1) := by decide +kernel
theorem dX9_laysReadings_13 : decode cX9_laysReadings 13 = .ok (.iastore, 1) := by decide +kernel
theorem dX9_laysReadings_14 : decode cX9_laysReadings 14 = .ok (.aload_n 0, 1) := by decide +kernel
theorem dX9_laysReadings_15 : decode cX9_laysReadings 15 = .ok (.getfield 57, 3) := by decide +kernel
theorem dX9_laysReadings_18 : decode cX9_laysReadings 18 = .ok (.iconst 1, 1) := by decide +kernel
theorem dX9_laysReadings_19 : decode cX9_laysReadings 19 = .ok (.isub, 1) := by decide +kernel
theorem dX9_laysReadings_20 : decode cX9_laysReadings 20 = .ok (.istore_n 1, 1) := by decide +kernel
theorem dX9_laysReadings_21 : decode cX9_laysReadings 21 = .ok (.iload_n 1, 1) := by decide +kernel
theorem dX9_laysReadings_22 : decode cX9_laysReadings 22 = .ok (.ifCond .lt 74, 3) := by decide +kernel
theorem dX9_laysReadings_25 : decode cX9_laysReadings 25 = .ok (.iconst 0, 1) := by decide +kernel
theorem dX9_laysReadings_26 : decode cX9_laysReadings 26 = .ok (.istore_n 2, 1) := by decide +kernel
theorem dX9_laysReadings_27 : decode cX9_laysReadings 27 = .ok (.iconst 0, 1) := by decide +kernel
theorem dX9_laysReadings_28 : decode cX9_laysReadings 28 = .ok (.istore_n 3, 1) := by decide +kernel
theorem dX9_laysReadings_29 : decode cX9_laysReadings 29 = .ok (.iload_n 3, 1) := by decide +kernel
theorem dX9_laysReadings_30 : decode cX9_laysReadings 30 = .ok (.bipush 7, 2) := by decide +kernel
theorem dX9_laysReadings_32 : decode cX9_laysReadings 32 = .ok (.if_icmp .ge 38, 3) := by decide +kernel
theorem dX9_laysReadings_35 : decode cX9_laysReadings 35 = .ok (.iload_n 2, 1) := by decide +kernel
theorem dX9_laysReadings_36 : decode cX9_laysReadings 36 = .ok (.aload_n 0, 1) := by decide +kernel
theorem dX9_laysReadings_37 : decode cX9_laysReadings 37 = .ok (.iload_n 3, 1) := by decide +kernel
theorem dX9_laysReadings_38 : decode cX9_laysReadings 38 = .ok (.iload_n 1, 1) := by decide +kernel
theorem dX9_laysReadings_39 : decode cX9_laysReadings 39 = .ok (.invokevirtual 266, 3) := by decide +kernel
theorem dX9_laysReadings_42 : decode cX9_laysReadings 42 = .ok (.ifCond .eq 19, 3) := by decide +kernel
theorem dX9_laysReadings_45 : decode cX9_laysReadings 45 = .ok (.aload_n 0, 1) := by decide +kernel
theorem dX9_laysReadings_46 : decode cX9_laysReadings 46 = .ok (.getfield 54, 3) := by decide +kernel
theorem dX9_laysReadings_49 : decode cX9_laysReadings 49 = .ok (.iload_n 1, 1) := by decide +kernel
theorem dX9_laysReadings_50 : decode cX9_laysReadings 50 = .ok (.aload_n 0, 1) := by decide +kernel
theorem dX9_laysReadings_51 : decode cX9_laysReadings 51 = .ok (.iload_n 3, 1) := by decide +kernel
theorem dX9_laysReadings_52 : decode cX9_laysReadings 52 = .ok (.iconst 0, 1) := by decide +kernel
theorem dX9_laysReadings_53 : decode cX9_laysReadings 53 = .ok (.invokevirtual 108, 3) := by decide +kernel
theorem dX9_laysReadings_56 : decode cX9_laysReadings 56 = .ok (.iadd, 1) := by decide +kernel
theorem dX9_laysReadings_57 : decode cX9_laysReadings 57 = .ok (.iaload, 1) := by decide +kernel
theorem dX9_laysReadings_58 : decode cX9_laysReadings 58 = .ok (.goto 4, 3) := by decide +kernel
theorem dX9_laysReadings_61 : decode cX9_laysReadings 61 = .ok (.iconst 0, 1) := by decide +kernel
theorem dX9_laysReadings_62 : decode cX9_laysReadings 62 = .ok (.iadd, 1) := by decide +kernel
theorem dX9_laysReadings_63 : decode cX9_laysReadings 63 = .ok (.istore_n 2, 1) := by decide +kernel
theorem dX9_laysReadings_64 : decode cX9_laysReadings 64 = .ok (.iinc 3 1, 3) := by decide +kernel
theorem dX9_laysReadings_67 : decode cX9_laysReadings 67 = .ok (.goto (-38), 3) := by decide +kernel
theorem dX9_laysReadings_70 : decode cX9_laysReadings 70 = .ok (.aload_n 0, 1) := by decide +kernel
theorem dX9_laysReadings_71 : decode cX9_laysReadings 71 = .ok (.getfield 54, 3) := by decide +kernel
theorem dX9_laysReadings_74 : decode cX9_laysReadings 74 = .ok (.iload_n 1, 1) := by decide +kernel
theorem dX9_laysReadings_75 : decode cX9_laysReadings 75 = .ok (.iload_n 2, 1) := by decide +kernel
theorem dX9_laysReadings_76 : decode cX9_laysReadings 76 = .ok (.sipush 9999, 3) := by decide +kernel
theorem dX9_laysReadings_79 : decode cX9_laysReadings 79 = .ok (.if_icmp .le 9, 3) := by decide +kernel
theorem dX9_laysReadings_82 : decode cX9_laysReadings 82 = .ok (.sipush 9999, 3) := by decide +kernel
theorem dX9_laysReadings_85 : decode cX9_laysReadings 85 = .ok (.goto 4, 3) := by decide +kernel
theorem dX9_laysReadings_88 : decode cX9_laysReadings 88 = .ok (.iload_n 2, 1) := by decide +kernel
theorem dX9_laysReadings_89 : decode cX9_laysReadings 89 = .ok (.iastore, 1) := by decide +kernel
theorem dX9_laysReadings_90 : decode cX9_laysReadings 90 = .ok (.iinc 1 (-1), 3) := by decide +kernel
theorem dX9_laysReadings_93 : decode cX9_laysReadings 93 = .ok (.goto (-72), 3) := by decide +kernel
theorem dX9_laysReadings_96 : decode cX9_laysReadings 96 = .ok (.aload_n 0, 1) := by decide +kernel
theorem dX9_laysReadings_97 : decode cX9_laysReadings 97 = .ok (.getfield 54, 3) := by decide +kernel
theorem dX9_laysReadings_100 : decode cX9_laysReadings 100 = .ok (.iconst 0, 1) := by decide +kernel
theorem dX9_laysReadings_101 : decode cX9_laysReadings 101 = .ok (.iaload, 1) := by decide +kernel
theorem dX9_laysReadings_102 : decode cX9_laysReadings 102 = .ok (.ireturn, 1) := by decide +kernel
theorem dX9_ways_0 : decode cX9_ways 0 = .ok (.aload_n 0, 1) := by decide +kernel
theorem dX9_ways_1 : decode cX9_ways 1 = .ok (.iconst 0, 1) := by decide +kernel
theorem dX9_ways_2 : decode cX9_ways 2 = .ok (.putfield 22, 3) := by decide +kernel
theorem dX9_ways_5 : decode cX9_ways 5 = .ok (.aload_n 0, 1) := by decide +kernel
theorem dX9_ways_6 : decode cX9_ways 6 = .ok (.invokevirtual 269, 3) := by decide +kernel
theorem dX9_ways_9 : decode cX9_ways 9 = .ok (.ireturn, 1) := by decide +kernel
theorem dX9_readAt_0 : decode cX9_readAt 0 = .ok (.iconst 0, 1) := by decide +kernel
theorem dX9_readAt_1 : decode cX9_readAt 1 = .ok (.istore_n 2, 1) := by decide +kernel
theorem dX9_readAt_2 : decode cX9_readAt 2 = .ok (.iload_n 2, 1) := by decide +kernel
theorem dX9_readAt_3 : decode cX9_readAt 3 = .ok (.bipush 7, 2) := by decide +kernel
theorem dX9_readAt_5 : decode cX9_readAt 5 = .ok (.if_icmp .ge 36, 3) := by decide +kernel
theorem dX9_readAt_8 : decode cX9_readAt 8 = .ok (.aload_n 0, 1) := by decide +kernel
theorem dX9_readAt_9 : decode cX9_readAt 9 = .ok (.iload_n 2, 1) := by decide +kernel
theorem dX9_readAt_10 : decode cX9_readAt 10 = .ok (.iload_n 1, 1) := by decide +kernel
theorem dX9_readAt_11 : decode cX9_readAt 11 = .ok (.invokevirtual 266, 3) := by decide +kernel
theorem dX9_readAt_14 : decode cX9_readAt 14 = .ok (.ifCond .eq 21, 3) := by decide +kernel
theorem dX9_readAt_17 : decode cX9_readAt 17 = .ok (.aload_n 0, 1) := by decide +kernel
theorem dX9_readAt_18 : decode cX9_readAt 18 = .ok (.getfield 54, 3) := by decide +kernel
theorem dX9_readAt_21 : decode cX9_readAt 21 = .ok (.iload_n 1, 1) := by decide +kernel
theorem dX9_readAt_22 : decode cX9_readAt 22 = .ok (.aload_n 0, 1) := by decide +kernel
theorem dX9_readAt_23 : decode cX9_readAt 23 = .ok (.iload_n 2, 1) := by decide +kernel
theorem dX9_readAt_24 : decode cX9_readAt 24 = .ok (.iconst 0, 1) := by decide +kernel
theorem dX9_readAt_25 : decode cX9_readAt 25 = .ok (.invokevirtual 108, 3) := by decide +kernel
theorem dX9_readAt_28 : decode cX9_readAt 28 = .ok (.iadd, 1) := by decide +kernel
theorem dX9_readAt_29 : decode cX9_readAt 29 = .ok (.iaload, 1) := by decide +kernel
theorem dX9_readAt_30 : decode cX9_readAt 30 = .ok (.ifCond .le 5, 3) := by decide +kernel
theorem dX9_readAt_33 : decode cX9_readAt 33 = .ok (.iload_n 2, 1) := by decide +kernel
theorem dX9_readAt_34 : decode cX9_readAt 34 = .ok (.ireturn, 1) := by decide +kernel
theorem dX9_readAt_35 : decode cX9_readAt 35 = .ok (.iinc 2 1, 3) := by decide +kernel
theorem dX9_readAt_38 : decode cX9_readAt 38 = .ok (.goto (-36), 3) := by decide +kernel
theorem dX9_readAt_41 : decode cX9_readAt 41 = .ok (.iconst (-1), 1) := by decide +kernel
theorem dX9_readAt_42 : decode cX9_readAt 42 = .ok (.ireturn, 1) := by decide +kernel
theorem dX9_reading_0 : decode cX9_reading 0 = .ok (.aload_n 0, 1) := by decide +kernel
theorem dX9_reading_1 : decode cX9_reading 1 = .ok (.iconst 0, 1) := by decide +kernel
theorem dX9_reading_2 : decode cX9_reading 2 = .ok (.putfield 22, 3) := by decide +kernel
theorem dX9_reading_5 : decode cX9_reading 5 = .ok (.aload_n 0, 1) := by decide +kernel
theorem dX9_reading_6 : decode cX9_reading 6 = .ok (.invokevirtual 269, 3) := by decide +kernel
theorem dX9_reading_9 : decode cX9_reading 9 = .ok (.ifCond .eq 7, 3) := by decide +kernel
theorem dX9_reading_12 : decode cX9_reading 12 = .ok (.iload_n 1, 1) := by decide +kernel
theorem dX9_reading_13 : decode cX9_reading 13 = .ok (.ifCond .ge 9, 3) := by decide +kernel
theorem dX9_reading_16 : decode cX9_reading 16 = .ok (.aload_n 0, 1) := by decide +kernel
theorem dX9_reading_17 : decode cX9_reading 17 = .ok (.iconst 1, 1) := by decide +kernel
theorem dX9_reading_18 : decode cX9_reading 18 = .ok (.invokevirtual 96, 3) := by decide +kernel
theorem dX9_reading_21 : decode cX9_reading 21 = .ok (.ireturn, 1) := by decide +kernel
theorem dX9_reading_22 : decode cX9_reading 22 = .ok (.iconst 0, 1) := by decide +kernel
theorem dX9_reading_23 : decode cX9_reading 23 = .ok (.istore_n 2, 1) := by decide +kernel
theorem dX9_reading_24 : decode cX9_reading 24 = .ok (.iconst 0, 1) := by decide +kernel
theorem dX9_reading_25 : decode cX9_reading 25 = .ok (.istore_n 3, 1) := by decide +kernel
theorem dX9_reading_26 : decode cX9_reading 26 = .ok (.iload_n 2, 1) := by decide +kernel
theorem dX9_reading_27 : decode cX9_reading 27 = .ok (.aload_n 0, 1) := by decide +kernel
theorem dX9_reading_28 : decode cX9_reading 28 = .ok (.getfield 57, 3) := by decide +kernel
theorem dX9_reading_31 : decode cX9_reading 31 = .ok (.if_icmp .ge 34, 3) := by decide +kernel
theorem dX9_reading_34 : decode cX9_reading 34 = .ok (.aload_n 0, 1) := by decide +kernel
theorem dX9_reading_35 : decode cX9_reading 35 = .ok (.iload_n 2, 1) := by decide +kernel
theorem dX9_reading_36 : decode cX9_reading 36 = .ok (.invokevirtual 272, 3) := by decide +kernel
theorem dX9_reading_39 : decode cX9_reading 39 = .ok (.istore 4, 2) := by decide +kernel
theorem dX9_reading_41 : decode cX9_reading 41 = .ok (.iload_n 3, 1) := by decide +kernel
theorem dX9_reading_42 : decode cX9_reading 42 = .ok (.iload_n 1, 1) := by decide +kernel
theorem dX9_reading_43 : decode cX9_reading 43 = .ok (.if_icmp .ne 6, 3) := by decide +kernel
theorem dX9_reading_46 : decode cX9_reading 46 = .ok (.iload 4, 2) := by decide +kernel
theorem dX9_reading_48 : decode cX9_reading 48 = .ok (.ireturn, 1) := by decide +kernel
theorem dX9_reading_49 : decode cX9_reading 49 = .ok (.iload_n 2, 1) := by decide +kernel
theorem dX9_reading_50 : decode cX9_reading 50 = .ok (.aload_n 0, 1) := by decide +kernel
theorem dX9_reading_51 : decode cX9_reading 51 = .ok (.iload 4, 2) := by decide +kernel
theorem dX9_reading_53 : decode cX9_reading 53 = .ok (.iconst 0, 1) := by decide +kernel
theorem dX9_reading_54 : decode cX9_reading 54 = .ok (.invokevirtual 108, 3) := by decide +kernel
theorem dX9_reading_57 : decode cX9_reading 57 = .ok (.iadd, 1) := by decide +kernel
theorem dX9_reading_58 : decode cX9_reading 58 = .ok (.istore_n 2, 1) := by decide +kernel
theorem dX9_reading_59 : decode cX9_reading 59 = .ok (.iinc 3 1, 3) := by decide +kernel
theorem dX9_reading_62 : decode cX9_reading 62 = .ok (.goto (-36), 3) := by decide +kernel
theorem dX9_reading_65 : decode cX9_reading 65 = .ok (.aload_n 0, 1) := by decide +kernel
theorem dX9_reading_66 : decode cX9_reading 66 = .ok (.iconst 1, 1) := by decide +kernel
theorem dX9_reading_67 : decode cX9_reading 67 = .ok (.invokevirtual 96, 3) := by decide +kernel
theorem dX9_reading_70 : decode cX9_reading 70 = .ok (.ireturn, 1) := by decide +kernel
theorem dX9_soonest_0 : decode cX9_soonest 0 = .ok (.aload_n 0, 1) := by decide +kernel
theorem dX9_soonest_1 : decode cX9_soonest 1 = .ok (.iload_n 1, 1) := by decide +kernel
theorem dX9_soonest_2 : decode cX9_soonest 2 = .ok (.invokestatic 133, 3) := by decide +kernel
theorem dX9_soonest_5 : decode cX9_soonest 5 = .ok (.ifCond .ne 7, 3) := by decide +kernel
theorem dX9_soonest_8 : decode cX9_soonest 8 = .ok (.iconst 1, 1) := by decide +kernel
theorem dX9_soonest_9 : decode cX9_soonest 9 = .ok (.goto 17, 3) := by decide +kernel
theorem dX9_soonest_12 : decode cX9_soonest 12 = .ok (.aload_n 0, 1) := by decide +kernel
theorem dX9_soonest_13 : decode cX9_soonest 13 = .ok (.iload_n 1, 1) := by decide +kernel
theorem dX9_soonest_14 : decode cX9_soonest 14 = .ok (.iconst 0, 1) := by decide +kernel
theorem dX9_soonest_15 : decode cX9_soonest 15 = .ok (.invokevirtual 108, 3) := by decide +kernel
theorem dX9_soonest_18 : decode cX9_soonest 18 = .ok (.ifCond .ne 7, 3) := by decide +kernel
theorem dX9_soonest_21 : decode cX9_soonest 21 = .ok (.iconst 2, 1) := by decide +kernel
theorem dX9_soonest_22 : decode cX9_soonest 22 = .ok (.goto 4, 3) := by decide +kernel
theorem dX9_soonest_25 : decode cX9_soonest 25 = .ok (.iconst 0, 1) := by decide +kernel
theorem dX9_soonest_26 : decode cX9_soonest 26 = .ok (.putfield 22, 3) := by decide +kernel
theorem dX9_soonest_29 : decode cX9_soonest 29 = .ok (.aload_n 0, 1) := by decide +kernel
theorem dX9_soonest_30 : decode cX9_soonest 30 = .ok (.getfield 22, 3) := by decide +kernel
theorem dX9_soonest_33 : decode cX9_soonest 33 = .ok (.ifCond .le 5, 3) := by decide +kernel
theorem dX9_soonest_36 : decode cX9_soonest 36 = .ok (.iconst 0, 1) := by decide +kernel
theorem dX9_soonest_37 : decode cX9_soonest 37 = .ok (.ireturn, 1) := by decide +kernel
theorem dX9_soonest_38 : decode cX9_soonest 38 = .ok (.aload_n 0, 1) := by decide +kernel
theorem dX9_soonest_39 : decode cX9_soonest 39 = .ok (.iload_n 1, 1) := by decide +kernel
theorem dX9_soonest_40 : decode cX9_soonest 40 = .ok (.iconst 5, 1) := by decide +kernel
theorem dX9_soonest_41 : decode cX9_soonest 41 = .ok (.invokevirtual 108, 3) := by decide +kernel
theorem dX9_soonest_44 : decode cX9_soonest 44 = .ok (.istore_n 2, 1) := by decide +kernel
theorem dX9_soonest_45 : decode cX9_soonest 45 = .ok (.aload_n 0, 1) := by decide +kernel
theorem dX9_soonest_46 : decode cX9_soonest 46 = .ok (.iload_n 1, 1) := by decide +kernel
theorem dX9_soonest_47 : decode cX9_soonest 47 = .ok (.iconst 3, 1) := by decide +kernel
theorem dX9_soonest_48 : decode cX9_soonest 48 = .ok (.invokevirtual 108, 3) := by decide +kernel
theorem dX9_soonest_51 : decode cX9_soonest 51 = .ok (.istore_n 3, 1) := by decide +kernel
theorem dX9_soonest_52 : decode cX9_soonest 52 = .ok (.iconst 0, 1) := by decide +kernel
theorem dX9_soonest_53 : decode cX9_soonest 53 = .ok (.istore 4, 2) := by decide +kernel
theorem dX9_soonest_55 : decode cX9_soonest 55 = .ok (.iload_n 2, 1) := by decide +kernel
theorem dX9_soonest_56 : decode cX9_soonest 56 = .ok (.ifCond .gt 27, 3) := by decide +kernel
theorem dX9_soonest_59 : decode cX9_soonest 59 = .ok (.iload_n 3, 1) := by decide +kernel
theorem dX9_soonest_60 : decode cX9_soonest 60 = .ok (.aload_n 0, 1) := by decide +kernel
theorem dX9_soonest_61 : decode cX9_soonest 61 = .ok (.iload_n 1, 1) := by decide +kernel
theorem dX9_soonest_62 : decode cX9_soonest 62 = .ok (.invokevirtual 127, 3) := by decide +kernel
theorem dX9_soonest_65 : decode cX9_soonest 65 = .ok (.if_icmp .lt 18, 3) := by decide +kernel
theorem dX9_soonest_68 : decode cX9_soonest 68 = .ok (.iload 4, 2) := by decide +kernel
theorem dX9_soonest_70 : decode cX9_soonest 70 = .ok (.ifCond .ne 56, 3) := by decide +kernel
theorem dX9_soonest_73 : decode cX9_soonest 73 = .ok (.aload_n 0, 1) := by decide +kernel
theorem dX9_soonest_74 : decode cX9_soonest 74 = .ok (.iload_n 1, 1) := by decide +kernel
theorem dX9_soonest_75 : decode cX9_soonest 75 = .ok (.bipush 9, 2) := by decide +kernel
theorem dX9_soonest_77 : decode cX9_soonest 77 = .ok (.invokevirtual 108, 3) := by decide +kernel
theorem dX9_soonest_80 : decode cX9_soonest 80 = .ok (.ifCond .le 46, 3) := by decide +kernel
theorem dX9_soonest_83 : decode cX9_soonest 83 = .ok (.iload_n 3, 1) := by decide +kernel
theorem dX9_soonest_84 : decode cX9_soonest 84 = .ok (.iload_n 2, 1) := by decide +kernel
theorem dX9_soonest_85 : decode cX9_soonest 85 = .ok (.ifCond .le 7, 3) := by decide +kernel
theorem dX9_soonest_88 : decode cX9_soonest 88 = .ok (.iconst 0, 1) := by decide +kernel
theorem dX9_soonest_89 : decode cX9_soonest 89 = .ok (.goto 4, 3) := by decide +kernel
theorem dX9_soonest_92 : decode cX9_soonest 92 = .ok (.iconst 2, 1) := by decide +kernel
theorem dX9_soonest_93 : decode cX9_soonest 93 = .ok (.iadd, 1) := by decide +kernel
theorem dX9_soonest_94 : decode cX9_soonest 94 = .ok (.istore_n 3, 1) := by decide +kernel
theorem dX9_soonest_95 : decode cX9_soonest 95 = .ok (.iload_n 3, 1) := by decide +kernel
theorem dX9_soonest_96 : decode cX9_soonest 96 = .ok (.bipush 20, 2) := by decide +kernel
theorem dX9_soonest_98 : decode cX9_soonest 98 = .ok (.if_icmp .le 8, 3) := by decide +kernel
theorem dX9_soonest_101 : decode cX9_soonest 101 = .ok (.bipush 20, 2) := by decide +kernel
theorem dX9_soonest_103 : decode cX9_soonest 103 = .ok (.goto 4, 3) := by decide +kernel
theorem dX9_soonest_106 : decode cX9_soonest 106 = .ok (.iload_n 3, 1) := by decide +kernel
theorem dX9_soonest_107 : decode cX9_soonest 107 = .ok (.istore_n 3, 1) := by decide +kernel
theorem dX9_soonest_108 : decode cX9_soonest 108 = .ok (.iload_n 2, 1) := by decide +kernel
theorem dX9_soonest_109 : decode cX9_soonest 109 = .ok (.iload_n 2, 1) := by decide +kernel
theorem dX9_soonest_110 : decode cX9_soonest 110 = .ok (.ifCond .le 7, 3) := by decide +kernel
theorem dX9_soonest_113 : decode cX9_soonest 113 = .ok (.iconst 1, 1) := by decide +kernel
theorem dX9_soonest_114 : decode cX9_soonest 114 = .ok (.goto 4, 3) := by decide +kernel
theorem dX9_soonest_117 : decode cX9_soonest 117 = .ok (.iconst 0, 1) := by decide +kernel
theorem dX9_soonest_118 : decode cX9_soonest 118 = .ok (.isub, 1) := by decide +kernel
theorem dX9_soonest_119 : decode cX9_soonest 119 = .ok (.istore_n 2, 1) := by decide +kernel
theorem dX9_soonest_120 : decode cX9_soonest 120 = .ok (.iinc 4 1, 3) := by decide +kernel
theorem dX9_soonest_123 : decode cX9_soonest 123 = .ok (.goto (-68), 3) := by decide +kernel
theorem dX9_soonest_126 : decode cX9_soonest 126 = .ok (.iload 4, 2) := by decide +kernel
theorem dX9_soonest_128 : decode cX9_soonest 128 = .ok (.ireturn, 1) := by decide +kernel
theorem dX9_measured_0 : decode cX9_measured 0 = .ok (.aload_n 0, 1) := by decide +kernel
theorem dX9_measured_1 : decode cX9_measured 1 = .ok (.iload_n 1, 1) := by decide +kernel
theorem dX9_measured_2 : decode cX9_measured 2 = .ok (.iload_n 2, 1) := by decide +kernel
theorem dX9_measured_3 : decode cX9_measured 3 = .ok (.ifCond .ne 7, 3) := by decide +kernel
theorem dX9_measured_6 : decode cX9_measured 6 = .ok (.iconst 2, 1) := by decide +kernel
theorem dX9_measured_7 : decode cX9_measured 7 = .ok (.goto 14, 3) := by decide +kernel
theorem dX9_measured_10 : decode cX9_measured 10 = .ok (.iload_n 2, 1) := by decide +kernel
theorem dX9_measured_11 : decode cX9_measured 11 = .ok (.iconst 1, 1) := by decide +kernel
theorem dX9_measured_12 : decode cX9_measured 12 = .ok (.if_icmp .ne 7, 3) := by decide +kernel
theorem dX9_measured_15 : decode cX9_measured 15 = .ok (.iconst 3, 1) := by decide +kernel
theorem dX9_measured_16 : decode cX9_measured 16 = .ok (.goto 5, 3) := by decide +kernel
theorem dX9_measured_19 : decode cX9_measured 19 = .ok (.bipush 6, 2) := by decide +kernel
theorem dX9_measured_21 : decode cX9_measured 21 = .ok (.invokevirtual 108, 3) := by decide +kernel
theorem dX9_measured_24 : decode cX9_measured 24 = .ok (.ireturn, 1) := by decide +kernel
theorem dX9_ranked_0 : decode cX9_ranked 0 = .ok (.aload_n 0, 1) := by decide +kernel
theorem dX9_ranked_1 : decode cX9_ranked 1 = .ok (.iconst 0, 1) := by decide +kernel
theorem dX9_ranked_2 : decode cX9_ranked 2 = .ok (.putfield 22, 3) := by decide +kernel
theorem dX9_ranked_5 : decode cX9_ranked 5 = .ok (.iload_n 1, 1) := by decide +kernel
theorem dX9_ranked_6 : decode cX9_ranked 6 = .ok (.iconst 0, 1) := by decide +kernel
theorem dX9_ranked_7 : decode cX9_ranked 7 = .ok (.iconst 2, 1) := by decide +kernel
theorem dX9_ranked_8 : decode cX9_ranked 8 = .ok (.invokestatic 116, 3) := by decide +kernel
theorem dX9_ranked_11 : decode cX9_ranked 11 = .ok (.ifCond .ne 9, 3) := by decide +kernel
theorem dX9_ranked_14 : decode cX9_ranked 14 = .ok (.aload_n 0, 1) := by decide +kernel
theorem dX9_ranked_15 : decode cX9_ranked 15 = .ok (.iconst 1, 1) := by decide +kernel
theorem dX9_ranked_16 : decode cX9_ranked 16 = .ok (.invokevirtual 96, 3) := by decide +kernel
theorem dX9_ranked_19 : decode cX9_ranked 19 = .ok (.ireturn, 1) := by decide +kernel
theorem dX9_ranked_20 : decode cX9_ranked 20 = .ok (.iconst 0, 1) := by decide +kernel
theorem dX9_ranked_21 : decode cX9_ranked 21 = .ok (.istore_n 3, 1) := by decide +kernel
theorem dX9_ranked_22 : decode cX9_ranked 22 = .ok (.iload_n 3, 1) := by decide +kernel
theorem dX9_ranked_23 : decode cX9_ranked 23 = .ok (.bipush 7, 2) := by decide +kernel
theorem dX9_ranked_25 : decode cX9_ranked 25 = .ok (.if_icmp .ge 84, 3) := by decide +kernel
theorem dX9_ranked_28 : decode cX9_ranked 28 = .ok (.iconst 0, 1) := by decide +kernel
theorem dX9_ranked_29 : decode cX9_ranked 29 = .ok (.istore 4, 2) := by decide +kernel
theorem dX9_ranked_31 : decode cX9_ranked 31 = .ok (.iconst 0, 1) := by decide +kernel
theorem dX9_ranked_32 : decode cX9_ranked 32 = .ok (.istore 5, 2) := by decide +kernel
theorem dX9_ranked_34 : decode cX9_ranked 34 = .ok (.iload 5, 2) := by decide +kernel
theorem dX9_ranked_36 : decode cX9_ranked 36 = .ok (.bipush 7, 2) := by decide +kernel
theorem dX9_ranked_38 : decode cX9_ranked 38 = .ok (.if_icmp .ge 57, 3) := by decide +kernel
theorem dX9_ranked_41 : decode cX9_ranked 41 = .ok (.iload 4, 2) := by decide +kernel
theorem dX9_ranked_43 : decode cX9_ranked 43 = .ok (.aload_n 0, 1) := by decide +kernel
theorem dX9_ranked_44 : decode cX9_ranked 44 = .ok (.iload 5, 2) := by decide +kernel
theorem dX9_ranked_46 : decode cX9_ranked 46 = .ok (.iload_n 1, 1) := by decide +kernel
theorem dX9_ranked_47 : decode cX9_ranked 47 = .ok (.invokevirtual 275, 3) := by decide +kernel
theorem dX9_ranked_50 : decode cX9_ranked 50 = .ok (.aload_n 0, 1) := by decide +kernel
theorem dX9_ranked_51 : decode cX9_ranked 51 = .ok (.iload_n 3, 1) := by decide +kernel
theorem dX9_ranked_52 : decode cX9_ranked 52 = .ok (.iload_n 1, 1) := by decide +kernel
theorem dX9_ranked_53 : decode cX9_ranked 53 = .ok (.invokevirtual 275, 3) := by decide +kernel
theorem dX9_ranked_56 : decode cX9_ranked 56 = .ok (.if_icmp .gt 25, 3) := by decide +kernel
theorem dX9_ranked_59 : decode cX9_ranked 59 = .ok (.aload_n 0, 1) := by decide +kernel
theorem dX9_ranked_60 : decode cX9_ranked 60 = .ok (.iload 5, 2) := by decide +kernel
theorem dX9_ranked_62 : decode cX9_ranked 62 = .ok (.iload_n 1, 1) := by decide +kernel
theorem dX9_ranked_63 : decode cX9_ranked 63 = .ok (.invokevirtual 275, 3) := by decide +kernel
theorem dX9_ranked_66 : decode cX9_ranked 66 = .ok (.aload_n 0, 1) := by decide +kernel
theorem dX9_ranked_67 : decode cX9_ranked 67 = .ok (.iload_n 3, 1) := by decide +kernel
theorem dX9_ranked_68 : decode cX9_ranked 68 = .ok (.iload_n 1, 1) := by decide +kernel
theorem dX9_ranked_69 : decode cX9_ranked 69 = .ok (.invokevirtual 275, 3) := by decide +kernel
theorem dX9_ranked_72 : decode cX9_ranked 72 = .ok (.if_icmp .ne 13, 3) := by decide +kernel
theorem dX9_ranked_75 : decode cX9_ranked 75 = .ok (.iload 5, 2) := by decide +kernel
theorem dX9_ranked_77 : decode cX9_ranked 77 = .ok (.iload_n 3, 1) := by decide +kernel
theorem dX9_ranked_78 : decode cX9_ranked 78 = .ok (.if_icmp .ge 7, 3) := by decide +kernel
theorem dX9_ranked_81 : decode cX9_ranked 81 = .ok (.iconst 1, 1) := by decide +kernel
theorem dX9_ranked_82 : decode cX9_ranked 82 = .ok (.goto 4, 3) := by decide +kernel
theorem dX9_ranked_85 : decode cX9_ranked 85 = .ok (.iconst 0, 1) := by decide +kernel
theorem dX9_ranked_86 : decode cX9_ranked 86 = .ok (.iadd, 1) := by decide +kernel
theorem dX9_ranked_87 : decode cX9_ranked 87 = .ok (.istore 4, 2) := by decide +kernel
theorem dX9_ranked_89 : decode cX9_ranked 89 = .ok (.iinc 5 1, 3) := by decide +kernel
theorem dX9_ranked_92 : decode cX9_ranked 92 = .ok (.goto (-58), 3) := by decide +kernel
theorem dX9_ranked_95 : decode cX9_ranked 95 = .ok (.iload 4, 2) := by decide +kernel
theorem dX9_ranked_97 : decode cX9_ranked 97 = .ok (.iload_n 2, 1) := by decide +kernel
theorem dX9_ranked_98 : decode cX9_ranked 98 = .ok (.if_icmp .ne 5, 3) := by decide +kernel
theorem dX9_ranked_101 : decode cX9_ranked 101 = .ok (.iload_n 3, 1) := by decide +kernel
theorem dX9_ranked_102 : decode cX9_ranked 102 = .ok (.ireturn, 1) := by decide +kernel
theorem dX9_ranked_103 : decode cX9_ranked 103 = .ok (.iinc 3 1, 3) := by decide +kernel
theorem dX9_ranked_106 : decode cX9_ranked 106 = .ok (.goto (-84), 3) := by decide +kernel
theorem dX9_ranked_109 : decode cX9_ranked 109 = .ok (.aload_n 0, 1) := by decide +kernel
theorem dX9_ranked_110 : decode cX9_ranked 110 = .ok (.iconst 2, 1) := by decide +kernel
theorem dX9_ranked_111 : decode cX9_ranked 111 = .ok (.invokevirtual 96, 3) := by decide +kernel
theorem dX9_ranked_114 : decode cX9_ranked 114 = .ok (.ireturn, 1) := by decide +kernel
theorem dX9_isRight_0 : decode cX9_isRight 0 = .ok (.aload_n 0, 1) := by decide +kernel
theorem dX9_isRight_1 : decode cX9_isRight 1 = .ok (.iconst 0, 1) := by decide +kernel
theorem dX9_isRight_2 : decode cX9_isRight 2 = .ok (.putfield 22, 3) := by decide +kernel
theorem dX9_isRight_5 : decode cX9_isRight 5 = .ok (.iconst 1, 1) := by decide +kernel
theorem dX9_isRight_6 : decode cX9_isRight 6 = .ok (.ireturn, 1) := by decide +kernel
theorem dX9_writes_0 : decode cX9_writes 0 = .ok (.aload_n 0, 1) := by decide +kernel
theorem dX9_writes_1 : decode cX9_writes 1 = .ok (.getfield 60, 3) := by decide +kernel
theorem dX9_writes_4 : decode cX9_writes 4 = .ok (.aload_n 0, 1) := by decide +kernel
theorem dX9_writes_5 : decode cX9_writes 5 = .ok (.getfield 63, 3) := by decide +kernel
theorem dX9_writes_8 : decode cX9_writes 8 = .ok (.iload_n 1, 1) := by decide +kernel
theorem dX9_writes_9 : decode cX9_writes 9 = .ok (.iastore, 1) := by decide +kernel
theorem dX9_writes_10 : decode cX9_writes 10 = .ok (.aload_n 0, 1) := by decide +kernel
theorem dX9_writes_11 : decode cX9_writes 11 = .ok (.dup, 1) := by decide +kernel
theorem dX9_writes_12 : decode cX9_writes 12 = .ok (.getfield 63, 3) := by decide +kernel
theorem dX9_writes_15 : decode cX9_writes 15 = .ok (.iconst 1, 1) := by decide +kernel
theorem dX9_writes_16 : decode cX9_writes 16 = .ok (.iadd, 1) := by decide +kernel
theorem dX9_writes_17 : decode cX9_writes 17 = .ok (.putfield 63, 3) := by decide +kernel
theorem dX9_writes_20 : decode cX9_writes 20 = .ok (.return_, 1) := by decide +kernel
theorem dX9_writesNumber_0 : decode cX9_writesNumber 0 = .ok (.iload_n 1, 1) := by decide +kernel
theorem dX9_writesNumber_1 : decode cX9_writesNumber 1 = .ok (.bipush 9, 2) := by decide +kernel
theorem dX9_writesNumber_3 : decode cX9_writesNumber 3 = .ok (.if_icmp .le 14, 3) := by decide +kernel
theorem dX9_writesNumber_6 : decode cX9_writesNumber 6 = .ok (.aload_n 0, 1) := by decide +kernel
theorem dX9_writesNumber_7 : decode cX9_writesNumber 7 = .ok (.bipush 48, 2) := by decide +kernel
theorem dX9_writesNumber_9 : decode cX9_writesNumber 9 = .ok (.iload_n 1, 1) := by decide +kernel
theorem dX9_writesNumber_10 : decode cX9_writesNumber 10 = .ok (.bipush 10, 2) := by decide +kernel
theorem dX9_writesNumber_12 : decode cX9_writesNumber 12 = .ok (.idiv, 1) := by decide +kernel
theorem dX9_writesNumber_13 : decode cX9_writesNumber 13 = .ok (.iadd, 1) := by decide +kernel
theorem dX9_writesNumber_14 : decode cX9_writesNumber 14 = .ok (.invokevirtual 278, 3) := by decide +kernel
theorem dX9_writesNumber_17 : decode cX9_writesNumber 17 = .ok (.aload_n 0, 1) := by decide +kernel
theorem dX9_writesNumber_18 : decode cX9_writesNumber 18 = .ok (.bipush 48, 2) := by decide +kernel
theorem dX9_writesNumber_20 : decode cX9_writesNumber 20 = .ok (.iload_n 1, 1) := by decide +kernel
theorem dX9_writesNumber_21 : decode cX9_writesNumber 21 = .ok (.bipush 10, 2) := by decide +kernel
theorem dX9_writesNumber_23 : decode cX9_writesNumber 23 = .ok (.irem, 1) := by decide +kernel
theorem dX9_writesNumber_24 : decode cX9_writesNumber 24 = .ok (.iadd, 1) := by decide +kernel
theorem dX9_writesNumber_25 : decode cX9_writesNumber 25 = .ok (.invokevirtual 278, 3) := by decide +kernel
theorem dX9_writesNumber_28 : decode cX9_writesNumber 28 = .ok (.return_, 1) := by decide +kernel
theorem dX9_text_0 : decode cX9_text 0 = .ok (.aload_n 0, 1) := by decide +kernel
theorem dX9_text_1 : decode cX9_text 1 = .ok (.iload_n 1, 1) := by decide +kernel
theorem dX9_text_2 : decode cX9_text 2 = .ok (.invokestatic 133, 3) := by decide +kernel
theorem dX9_text_5 : decode cX9_text 5 = .ok (.ifCond .eq 7, 3) := by decide +kernel
theorem dX9_text_8 : decode cX9_text 8 = .ok (.iconst 0, 1) := by decide +kernel
theorem dX9_text_9 : decode cX9_text 9 = .ok (.goto 4, 3) := by decide +kernel
theorem dX9_text_12 : decode cX9_text 12 = .ok (.iconst 1, 1) := by decide +kernel
theorem dX9_text_13 : decode cX9_text 13 = .ok (.putfield 22, 3) := by decide +kernel
theorem dX9_text_16 : decode cX9_text 16 = .ok (.aload_n 0, 1) := by decide +kernel
theorem dX9_text_17 : decode cX9_text 17 = .ok (.getfield 22, 3) := by decide +kernel
theorem dX9_text_20 : decode cX9_text 20 = .ok (.ifCond .le 5, 3) := by decide +kernel
theorem dX9_text_23 : decode cX9_text 23 = .ok (.iconst 0, 1) := by decide +kernel
theorem dX9_text_24 : decode cX9_text 24 = .ok (.ireturn, 1) := by decide +kernel
theorem dX9_text_25 : decode cX9_text 25 = .ok (.aload_n 0, 1) := by decide +kernel
theorem dX9_text_26 : decode cX9_text 26 = .ok (.iconst 0, 1) := by decide +kernel
theorem dX9_text_27 : decode cX9_text 27 = .ok (.putfield 63, 3) := by decide +kernel
theorem dX9_text_30 : decode cX9_text 30 = .ok (.aload_n 0, 1) := by decide +kernel
theorem dX9_text_31 : decode cX9_text 31 = .ok (.iload_n 1, 1) := by decide +kernel
theorem dX9_text_32 : decode cX9_text 32 = .ok (.invokevirtual 281, 3) := by decide +kernel
theorem dX9_text_35 : decode cX9_text 35 = .ok (.aload_n 0, 1) := by decide +kernel
theorem dX9_text_36 : decode cX9_text 36 = .ok (.iload_n 1, 1) := by decide +kernel
theorem dX9_text_37 : decode cX9_text 37 = .ok (.iconst 0, 1) := by decide +kernel
theorem dX9_text_38 : decode cX9_text 38 = .ok (.invokevirtual 108, 3) := by decide +kernel
theorem dX9_text_41 : decode cX9_text 41 = .ok (.ifCond .le 9, 3) := by decide +kernel
theorem dX9_text_44 : decode cX9_text 44 = .ok (.aload_n 0, 1) := by decide +kernel
theorem dX9_text_45 : decode cX9_text 45 = .ok (.bipush 58, 2) := by decide +kernel
theorem dX9_text_47 : decode cX9_text 47 = .ok (.invokevirtual 278, 3) := by decide +kernel
theorem dX9_text_50 : decode cX9_text 50 = .ok (.iconst 0, 1) := by decide +kernel
theorem dX9_text_51 : decode cX9_text 51 = .ok (.istore_n 2, 1) := by decide +kernel
theorem dX9_text_52 : decode cX9_text 52 = .ok (.iload_n 2, 1) := by decide +kernel
theorem dX9_text_53 : decode cX9_text 53 = .ok (.aload_n 0, 1) := by decide +kernel
theorem dX9_text_54 : decode cX9_text 54 = .ok (.iload_n 1, 1) := by decide +kernel
theorem dX9_text_55 : decode cX9_text 55 = .ok (.iconst 0, 1) := by decide +kernel
theorem dX9_text_56 : decode cX9_text 56 = .ok (.invokevirtual 108, 3) := by decide +kernel
theorem dX9_text_59 : decode cX9_text 59 = .ok (.if_icmp .ge 34, 3) := by decide +kernel
theorem dX9_text_62 : decode cX9_text 62 = .ok (.aload_n 0, 1) := by decide +kernel
theorem dX9_text_63 : decode cX9_text 63 = .ok (.aload_n 0, 1) := by decide +kernel
theorem dX9_text_64 : decode cX9_text 64 = .ok (.iload_n 1, 1) := by decide +kernel
theorem dX9_text_65 : decode cX9_text 65 = .ok (.iconst 1, 1) := by decide +kernel
theorem dX9_text_66 : decode cX9_text 66 = .ok (.invokevirtual 108, 3) := by decide +kernel
theorem dX9_text_69 : decode cX9_text 69 = .ok (.iload_n 2, 1) := by decide +kernel
theorem dX9_text_70 : decode cX9_text 70 = .ok (.ishr, 1) := by decide +kernel
theorem dX9_text_71 : decode cX9_text 71 = .ok (.iconst 1, 1) := by decide +kernel
theorem dX9_text_72 : decode cX9_text 72 = .ok (.iand, 1) := by decide +kernel
theorem dX9_text_73 : decode cX9_text 73 = .ok (.iconst 1, 1) := by decide +kernel
theorem dX9_text_74 : decode cX9_text 74 = .ok (.if_icmp .ne 8, 3) := by decide +kernel
theorem dX9_text_77 : decode cX9_text 77 = .ok (.bipush 108, 2) := by decide +kernel
theorem dX9_text_79 : decode cX9_text 79 = .ok (.goto 5, 3) := by decide +kernel
theorem dX9_text_82 : decode cX9_text 82 = .ok (.bipush 115, 2) := by decide +kernel
theorem dX9_text_84 : decode cX9_text 84 = .ok (.invokevirtual 278, 3) := by decide +kernel
theorem dX9_text_87 : decode cX9_text 87 = .ok (.iinc 2 1, 3) := by decide +kernel
theorem dX9_text_90 : decode cX9_text 90 = .ok (.goto (-38), 3) := by decide +kernel
theorem dX9_text_93 : decode cX9_text 93 = .ok (.aload_n 0, 1) := by decide +kernel
theorem dX9_text_94 : decode cX9_text 94 = .ok (.bipush 47, 2) := by decide +kernel
theorem dX9_text_96 : decode cX9_text 96 = .ok (.invokevirtual 278, 3) := by decide +kernel
theorem dX9_text_99 : decode cX9_text 99 = .ok (.aload_n 0, 1) := by decide +kernel
theorem dX9_text_100 : decode cX9_text 100 = .ok (.aload_n 0, 1) := by decide +kernel
theorem dX9_text_101 : decode cX9_text 101 = .ok (.iload_n 1, 1) := by decide +kernel
theorem dX9_text_102 : decode cX9_text 102 = .ok (.iconst 2, 1) := by decide +kernel
theorem dX9_text_103 : decode cX9_text 103 = .ok (.invokevirtual 108, 3) := by decide +kernel
theorem dX9_text_106 : decode cX9_text 106 = .ok (.invokevirtual 281, 3) := by decide +kernel
theorem dX9_text_109 : decode cX9_text 109 = .ok (.aload_n 0, 1) := by decide +kernel
theorem dX9_text_110 : decode cX9_text 110 = .ok (.bipush 42, 2) := by decide +kernel
theorem dX9_text_112 : decode cX9_text 112 = .ok (.invokevirtual 278, 3) := by decide +kernel
theorem dX9_text_115 : decode cX9_text 115 = .ok (.aload_n 0, 1) := by decide +kernel
theorem dX9_text_116 : decode cX9_text 116 = .ok (.aload_n 0, 1) := by decide +kernel
theorem dX9_text_117 : decode cX9_text 117 = .ok (.iload_n 1, 1) := by decide +kernel
theorem dX9_text_118 : decode cX9_text 118 = .ok (.iconst 3, 1) := by decide +kernel
theorem dX9_text_119 : decode cX9_text 119 = .ok (.invokevirtual 108, 3) := by decide +kernel
theorem dX9_text_122 : decode cX9_text 122 = .ok (.invokevirtual 281, 3) := by decide +kernel
theorem dX9_text_125 : decode cX9_text 125 = .ok (.aload_n 0, 1) := by decide +kernel
theorem dX9_text_126 : decode cX9_text 126 = .ok (.iload_n 1, 1) := by decide +kernel
theorem dX9_text_127 : decode cX9_text 127 = .ok (.iconst 5, 1) := by decide +kernel
theorem dX9_text_128 : decode cX9_text 128 = .ok (.invokevirtual 108, 3) := by decide +kernel
theorem dX9_text_131 : decode cX9_text 131 = .ok (.ifCond .ne 8, 3) := by decide +kernel
theorem dX9_text_134 : decode cX9_text 134 = .ok (.aload_n 0, 1) := by decide +kernel
theorem dX9_text_135 : decode cX9_text 135 = .ok (.getfield 63, 3) := by decide +kernel
theorem dX9_text_138 : decode cX9_text 138 = .ok (.ireturn, 1) := by decide +kernel
theorem dX9_text_139 : decode cX9_text 139 = .ok (.aload_n 0, 1) := by decide +kernel
theorem dX9_text_140 : decode cX9_text 140 = .ok (.bipush 33, 2) := by decide +kernel
theorem dX9_text_142 : decode cX9_text 142 = .ok (.invokevirtual 278, 3) := by decide +kernel
theorem dX9_text_145 : decode cX9_text 145 = .ok (.aload_n 0, 1) := by decide +kernel
theorem dX9_text_146 : decode cX9_text 146 = .ok (.aload_n 0, 1) := by decide +kernel
theorem dX9_text_147 : decode cX9_text 147 = .ok (.iload_n 1, 1) := by decide +kernel
theorem dX9_text_148 : decode cX9_text 148 = .ok (.iconst 5, 1) := by decide +kernel
theorem dX9_text_149 : decode cX9_text 149 = .ok (.invokevirtual 108, 3) := by decide +kernel
theorem dX9_text_152 : decode cX9_text 152 = .ok (.invokevirtual 281, 3) := by decide +kernel
theorem dX9_text_155 : decode cX9_text 155 = .ok (.aload_n 0, 1) := by decide +kernel
theorem dX9_text_156 : decode cX9_text 156 = .ok (.getfield 63, 3) := by decide +kernel
theorem dX9_text_159 : decode cX9_text 159 = .ok (.ireturn, 1) := by decide +kernel
theorem dX9_strip_0 : decode cX9_strip 0 = .ok (.aload_n 0, 1) := by decide +kernel
theorem dX9_strip_1 : decode cX9_strip 1 = .ok (.iconst 0, 1) := by decide +kernel
theorem dX9_strip_2 : decode cX9_strip 2 = .ok (.putfield 22, 3) := by decide +kernel
theorem dX9_strip_5 : decode cX9_strip 5 = .ok (.aload_n 0, 1) := by decide +kernel
theorem dX9_strip_6 : decode cX9_strip 6 = .ok (.invokevirtual 263, 3) := by decide +kernel
theorem dX9_strip_9 : decode cX9_strip 9 = .ok (.aload_n 0, 1) := by decide +kernel
theorem dX9_strip_10 : decode cX9_strip 10 = .ok (.iconst 0, 1) := by decide +kernel
theorem dX9_strip_11 : decode cX9_strip 11 = .ok (.putfield 63, 3) := by decide +kernel
theorem dX9_strip_14 : decode cX9_strip 14 = .ok (.iconst 0, 1) := by decide +kernel
theorem dX9_strip_15 : decode cX9_strip 15 = .ok (.istore_n 1, 1) := by decide +kernel
theorem dX9_strip_16 : decode cX9_strip 16 = .ok (.iload_n 1, 1) := by decide +kernel
theorem dX9_strip_17 : decode cX9_strip 17 = .ok (.aload_n 0, 1) := by decide +kernel
theorem dX9_strip_18 : decode cX9_strip 18 = .ok (.getfield 57, 3) := by decide +kernel
theorem dX9_strip_21 : decode cX9_strip 21 = .ok (.if_icmp .ge 30, 3) := by decide +kernel
theorem dX9_strip_24 : decode cX9_strip 24 = .ok (.aload_n 0, 1) := by decide +kernel
theorem dX9_strip_25 : decode cX9_strip 25 = .ok (.aload_n 0, 1) := by decide +kernel
theorem dX9_strip_26 : decode cX9_strip 26 = .ok (.getfield 51, 3) := by decide +kernel
theorem dX9_strip_29 : decode cX9_strip 29 = .ok (.iload_n 1, 1) := by decide +kernel
theorem dX9_strip_30 : decode cX9_strip 30 = .ok (.iaload, 1) := by decide +kernel
theorem dX9_strip_31 : decode cX9_strip 31 = .ok (.iconst 1, 1) := by decide +kernel
theorem dX9_strip_32 : decode cX9_strip 32 = .ok (.if_icmp .ne 8, 3) := by decide +kernel
theorem dX9_strip_35 : decode cX9_strip 35 = .ok (.bipush 108, 2) := by decide +kernel
theorem dX9_strip_37 : decode cX9_strip 37 = .ok (.goto 5, 3) := by decide +kernel
theorem dX9_strip_40 : decode cX9_strip 40 = .ok (.bipush 115, 2) := by decide +kernel
theorem dX9_strip_42 : decode cX9_strip 42 = .ok (.invokevirtual 278, 3) := by decide +kernel
theorem dX9_strip_45 : decode cX9_strip 45 = .ok (.iinc 1 1, 3) := by decide +kernel
theorem dX9_strip_48 : decode cX9_strip 48 = .ok (.goto (-32), 3) := by decide +kernel
theorem dX9_strip_51 : decode cX9_strip 51 = .ok (.aload_n 0, 1) := by decide +kernel
theorem dX9_strip_52 : decode cX9_strip 52 = .ok (.getfield 63, 3) := by decide +kernel
theorem dX9_strip_55 : decode cX9_strip 55 = .ok (.ireturn, 1) := by decide +kernel
theorem dX9_character_0 : decode cX9_character 0 = .ok (.aload_n 0, 1) := by decide +kernel
theorem dX9_character_1 : decode cX9_character 1 = .ok (.iload_n 1, 1) := by decide +kernel
theorem dX9_character_2 : decode cX9_character 2 = .ok (.iconst 0, 1) := by decide +kernel
theorem dX9_character_3 : decode cX9_character 3 = .ok (.aload_n 0, 1) := by decide +kernel
theorem dX9_character_4 : decode cX9_character 4 = .ok (.getfield 63, 3) := by decide +kernel
theorem dX9_character_7 : decode cX9_character 7 = .ok (.iconst 1, 1) := by decide +kernel
theorem dX9_character_8 : decode cX9_character 8 = .ok (.isub, 1) := by decide +kernel
theorem dX9_character_9 : decode cX9_character 9 = .ok (.invokestatic 116, 3) := by decide +kernel
theorem dX9_character_12 : decode cX9_character 12 = .ok (.ifCond .eq 7, 3) := by decide +kernel
theorem dX9_character_15 : decode cX9_character 15 = .ok (.iconst 0, 1) := by decide +kernel
theorem dX9_character_16 : decode cX9_character 16 = .ok (.goto 4, 3) := by decide +kernel
theorem dX9_character_19 : decode cX9_character 19 = .ok (.iconst 1, 1) := by decide +kernel
theorem dX9_character_20 : decode cX9_character 20 = .ok (.putfield 22, 3) := by decide +kernel
theorem dX9_character_23 : decode cX9_character 23 = .ok (.aload_n 0, 1) := by decide +kernel
theorem dX9_character_24 : decode cX9_character 24 = .ok (.getfield 22, 3) := by decide +kernel
theorem dX9_character_27 : decode cX9_character 27 = .ok (.ifCond .le 8, 3) := by decide +kernel
theorem dX9_character_30 : decode cX9_character 30 = .ok (.bipush 32, 2) := by decide +kernel
theorem dX9_character_32 : decode cX9_character 32 = .ok (.goto 10, 3) := by decide +kernel
theorem dX9_character_35 : decode cX9_character 35 = .ok (.aload_n 0, 1) := by decide +kernel
theorem dX9_character_36 : decode cX9_character 36 = .ok (.getfield 60, 3) := by decide +kernel
theorem dX9_character_39 : decode cX9_character 39 = .ok (.iload_n 1, 1) := by decide +kernel
theorem dX9_character_40 : decode cX9_character 40 = .ok (.iaload, 1) := by decide +kernel
theorem dX9_character_41 : decode cX9_character 41 = .ok (.i2c, 1) := by decide +kernel
theorem dX9_character_42 : decode cX9_character 42 = .ok (.ireturn, 1) := by decide +kernel
theorem dX9_refusal_0 : decode cX9_refusal 0 = .ok (.aload_n 0, 1) := by decide +kernel
theorem dX9_refusal_1 : decode cX9_refusal 1 = .ok (.iconst 0, 1) := by decide +kernel
theorem dX9_refusal_2 : decode cX9_refusal 2 = .ok (.putfield 22, 3) := by decide +kernel
theorem dX9_refusal_5 : decode cX9_refusal 5 = .ok (.aload_n 0, 1) := by decide +kernel
theorem dX9_refusal_6 : decode cX9_refusal 6 = .ok (.getfield 35, 3) := by decide +kernel
theorem dX9_refusal_9 : decode cX9_refusal 9 = .ok (.ifCond .ne 9, 3) := by decide +kernel
theorem dX9_refusal_12 : decode cX9_refusal 12 = .ok (.aload_n 0, 1) := by decide +kernel
theorem dX9_refusal_13 : decode cX9_refusal 13 = .ok (.iconst 1, 1) := by decide +kernel
theorem dX9_refusal_14 : decode cX9_refusal 14 = .ok (.invokevirtual 96, 3) := by decide +kernel
theorem dX9_refusal_17 : decode cX9_refusal 17 = .ok (.ireturn, 1) := by decide +kernel
theorem dX9_refusal_18 : decode cX9_refusal 18 = .ok (.iload_n 1, 1) := by decide +kernel
theorem dX9_refusal_19 : decode cX9_refusal 19 = .ok (.ifCond .eq 10, 3) := by decide +kernel
theorem dX9_refusal_22 : decode cX9_refusal 22 = .ok (.aload_n 0, 1) := by decide +kernel
theorem dX9_refusal_23 : decode cX9_refusal 23 = .ok (.getfield 38, 3) := by decide +kernel
theorem dX9_refusal_26 : decode cX9_refusal 26 = .ok (.goto 7, 3) := by decide +kernel
theorem dX9_refusal_29 : decode cX9_refusal 29 = .ok (.aload_n 0, 1) := by decide +kernel
theorem dX9_refusal_30 : decode cX9_refusal 30 = .ok (.getfield 35, 3) := by decide +kernel
theorem dX9_refusal_33 : decode cX9_refusal 33 = .ok (.ireturn, 1) := by decide +kernel
theorem dX9_sumOf_0 : decode cX9_sumOf 0 = .ok (.iconst 0, 1) := by decide +kernel
theorem dX9_sumOf_1 : decode cX9_sumOf 1 = .ok (.istore_n 2, 1) := by decide +kernel
theorem dX9_sumOf_2 : decode cX9_sumOf 2 = .ok (.iconst 0, 1) := by decide +kernel
theorem dX9_sumOf_3 : decode cX9_sumOf 3 = .ok (.istore_n 3, 1) := by decide +kernel
theorem dX9_sumOf_4 : decode cX9_sumOf 4 = .ok (.iload_n 3, 1) := by decide +kernel
theorem dX9_sumOf_5 : decode cX9_sumOf 5 = .ok (.bipush 7, 2) := by decide +kernel
theorem dX9_sumOf_7 : decode cX9_sumOf 7 = .ok (.if_icmp .ge 18, 3) := by decide +kernel
theorem dX9_sumOf_10 : decode cX9_sumOf 10 = .ok (.iload_n 2, 1) := by decide +kernel
theorem dX9_sumOf_11 : decode cX9_sumOf 11 = .ok (.aload_n 0, 1) := by decide +kernel
theorem dX9_sumOf_12 : decode cX9_sumOf 12 = .ok (.iload_n 3, 1) := by decide +kernel
theorem dX9_sumOf_13 : decode cX9_sumOf 13 = .ok (.iload_n 1, 1) := by decide +kernel
theorem dX9_sumOf_14 : decode cX9_sumOf 14 = .ok (.invokevirtual 108, 3) := by decide +kernel
theorem dX9_sumOf_17 : decode cX9_sumOf 17 = .ok (.iadd, 1) := by decide +kernel
theorem dX9_sumOf_18 : decode cX9_sumOf 18 = .ok (.istore_n 2, 1) := by decide +kernel
theorem dX9_sumOf_19 : decode cX9_sumOf 19 = .ok (.iinc 3 1, 3) := by decide +kernel
theorem dX9_sumOf_22 : decode cX9_sumOf 22 = .ok (.goto (-18), 3) := by decide +kernel
theorem dX9_sumOf_25 : decode cX9_sumOf 25 = .ok (.iload_n 2, 1) := by decide +kernel
theorem dX9_sumOf_26 : decode cX9_sumOf 26 = .ok (.ireturn, 1) := by decide +kernel
theorem dX9_lettersOnStrip_0 : decode cX9_lettersOnStrip 0 = .ok (.aload_n 0, 1) := by decide +kernel
theorem dX9_lettersOnStrip_1 : decode cX9_lettersOnStrip 1 = .ok (.invokevirtual 263, 3) := by decide +kernel
theorem dX9_lettersOnStrip_4 : decode cX9_lettersOnStrip 4 = .ok (.aload_n 0, 1) := by decide +kernel
theorem dX9_lettersOnStrip_5 : decode cX9_lettersOnStrip 5 = .ok (.getfield 57, 3) := by decide +kernel
theorem dX9_lettersOnStrip_8 : decode cX9_lettersOnStrip 8 = .ok (.ireturn, 1) := by decide +kernel
theorem dX9_account_0 : decode cX9_account 0 = .ok (.aload_n 0, 1) := by decide +kernel
theorem dX9_account_1 : decode cX9_account 1 = .ok (.iconst 0, 1) := by decide +kernel
theorem dX9_account_2 : decode cX9_account 2 = .ok (.putfield 22, 3) := by decide +kernel
theorem dX9_account_5 : decode cX9_account 5 = .ok (.iload_n 1, 1) := by decide +kernel
theorem dX9_account_6 : decode cX9_account 6 = .ok (.tableswitch 182 0 15 #[78, 85, 90, 95, 102, 107, 114, 121, 128, 136, 144, 152, 158, 164, 172, 177], 78) := by decide +kernel
theorem dX9_account_84 : decode cX9_account 84 = .ok (.aload_n 0, 1) := by decide +kernel
theorem dX9_account_85 : decode cX9_account 85 = .ok (.getfield 7, 3) := by decide +kernel
theorem dX9_account_88 : decode cX9_account 88 = .ok (.iconst 0, 1) := by decide +kernel
theorem dX9_account_89 : decode cX9_account 89 = .ok (.iaload, 1) := by decide +kernel
theorem dX9_account_90 : decode cX9_account 90 = .ok (.ireturn, 1) := by decide +kernel
theorem dX9_account_91 : decode cX9_account 91 = .ok (.aload_n 0, 1) := by decide +kernel
theorem dX9_account_92 : decode cX9_account 92 = .ok (.invokevirtual 112, 3) := by decide +kernel
theorem dX9_account_95 : decode cX9_account 95 = .ok (.ireturn, 1) := by decide +kernel
theorem dX9_account_96 : decode cX9_account 96 = .ok (.aload_n 0, 1) := by decide +kernel
theorem dX9_account_97 : decode cX9_account 97 = .ok (.invokevirtual 217, 3) := by decide +kernel
theorem dX9_account_100 : decode cX9_account 100 = .ok (.ireturn, 1) := by decide +kernel
theorem dX9_account_101 : decode cX9_account 101 = .ok (.aload_n 0, 1) := by decide +kernel
theorem dX9_account_102 : decode cX9_account 102 = .ok (.getfield 7, 3) := by decide +kernel
theorem dX9_account_105 : decode cX9_account 105 = .ok (.iconst 1, 1) := by decide +kernel
theorem dX9_account_106 : decode cX9_account 106 = .ok (.iaload, 1) := by decide +kernel
theorem dX9_account_107 : decode cX9_account 107 = .ok (.ireturn, 1) := by decide +kernel
theorem dX9_account_108 : decode cX9_account 108 = .ok (.aload_n 0, 1) := by decide +kernel
theorem dX9_account_109 : decode cX9_account 109 = .ok (.invokevirtual 284, 3) := by decide +kernel
theorem dX9_account_112 : decode cX9_account 112 = .ok (.ireturn, 1) := by decide +kernel
theorem dX9_account_113 : decode cX9_account 113 = .ok (.aload_n 0, 1) := by decide +kernel
theorem dX9_account_114 : decode cX9_account 114 = .ok (.getfield 7, 3) := by decide +kernel
theorem dX9_account_117 : decode cX9_account 117 = .ok (.iconst 2, 1) := by decide +kernel
theorem dX9_account_118 : decode cX9_account 118 = .ok (.iaload, 1) := by decide +kernel
theorem dX9_account_119 : decode cX9_account 119 = .ok (.ireturn, 1) := by decide +kernel
theorem dX9_account_120 : decode cX9_account 120 = .ok (.aload_n 0, 1) := by decide +kernel
theorem dX9_account_121 : decode cX9_account 121 = .ok (.getfield 7, 3) := by decide +kernel
theorem dX9_account_124 : decode cX9_account 124 = .ok (.iconst 4, 1) := by decide +kernel
theorem dX9_account_125 : decode cX9_account 125 = .ok (.iaload, 1) := by decide +kernel
theorem dX9_account_126 : decode cX9_account 126 = .ok (.ireturn, 1) := by decide +kernel
theorem dX9_account_127 : decode cX9_account 127 = .ok (.aload_n 0, 1) := by decide +kernel
theorem dX9_account_128 : decode cX9_account 128 = .ok (.getfield 7, 3) := by decide +kernel
theorem dX9_account_131 : decode cX9_account 131 = .ok (.iconst 5, 1) := by decide +kernel
theorem dX9_account_132 : decode cX9_account 132 = .ok (.iaload, 1) := by decide +kernel
theorem dX9_account_133 : decode cX9_account 133 = .ok (.ireturn, 1) := by decide +kernel
theorem dX9_account_134 : decode cX9_account 134 = .ok (.aload_n 0, 1) := by decide +kernel
theorem dX9_account_135 : decode cX9_account 135 = .ok (.getfield 7, 3) := by decide +kernel
theorem dX9_account_138 : decode cX9_account 138 = .ok (.bipush 6, 2) := by decide +kernel
theorem dX9_account_140 : decode cX9_account 140 = .ok (.iaload, 1) := by decide +kernel
theorem dX9_account_141 : decode cX9_account 141 = .ok (.ireturn, 1) := by decide +kernel
theorem dX9_account_142 : decode cX9_account 142 = .ok (.aload_n 0, 1) := by decide +kernel
theorem dX9_account_143 : decode cX9_account 143 = .ok (.getfield 7, 3) := by decide +kernel
theorem dX9_account_146 : decode cX9_account 146 = .ok (.bipush 7, 2) := by decide +kernel
theorem dX9_account_148 : decode cX9_account 148 = .ok (.iaload, 1) := by decide +kernel
theorem dX9_account_149 : decode cX9_account 149 = .ok (.ireturn, 1) := by decide +kernel
theorem dX9_account_150 : decode cX9_account 150 = .ok (.aload_n 0, 1) := by decide +kernel
theorem dX9_account_151 : decode cX9_account 151 = .ok (.getfield 7, 3) := by decide +kernel
theorem dX9_account_154 : decode cX9_account 154 = .ok (.bipush 8, 2) := by decide +kernel
theorem dX9_account_156 : decode cX9_account 156 = .ok (.iaload, 1) := by decide +kernel
theorem dX9_account_157 : decode cX9_account 157 = .ok (.ireturn, 1) := by decide +kernel
theorem dX9_account_158 : decode cX9_account 158 = .ok (.aload_n 0, 1) := by decide +kernel
theorem dX9_account_159 : decode cX9_account 159 = .ok (.iconst 3, 1) := by decide +kernel
theorem dX9_account_160 : decode cX9_account 160 = .ok (.invokevirtual 287, 3) := by decide +kernel
theorem dX9_account_163 : decode cX9_account 163 = .ok (.ireturn, 1) := by decide +kernel
theorem dX9_account_164 : decode cX9_account 164 = .ok (.aload_n 0, 1) := by decide +kernel
theorem dX9_account_165 : decode cX9_account 165 = .ok (.iconst 4, 1) := by decide +kernel
theorem dX9_account_166 : decode cX9_account 166 = .ok (.invokevirtual 287, 3) := by decide +kernel
theorem dX9_account_169 : decode cX9_account 169 = .ok (.ireturn, 1) := by decide +kernel
theorem dX9_account_170 : decode cX9_account 170 = .ok (.aload_n 0, 1) := by decide +kernel
theorem dX9_account_171 : decode cX9_account 171 = .ok (.getfield 7, 3) := by decide +kernel
theorem dX9_account_174 : decode cX9_account 174 = .ok (.bipush 9, 2) := by decide +kernel
theorem dX9_account_176 : decode cX9_account 176 = .ok (.iaload, 1) := by decide +kernel
theorem dX9_account_177 : decode cX9_account 177 = .ok (.ireturn, 1) := by decide +kernel
theorem dX9_account_178 : decode cX9_account 178 = .ok (.aload_n 0, 1) := by decide +kernel
theorem dX9_account_179 : decode cX9_account 179 = .ok (.getfield 75, 3) := by decide +kernel
theorem dX9_account_182 : decode cX9_account 182 = .ok (.ireturn, 1) := by decide +kernel
theorem dX9_account_183 : decode cX9_account 183 = .ok (.aload_n 0, 1) := by decide +kernel
theorem dX9_account_184 : decode cX9_account 184 = .ok (.getfield 26, 3) := by decide +kernel
theorem dX9_account_187 : decode cX9_account 187 = .ok (.ireturn, 1) := by decide +kernel
theorem dX9_account_188 : decode cX9_account 188 = .ok (.aload_n 0, 1) := by decide +kernel
theorem dX9_account_189 : decode cX9_account 189 = .ok (.iconst 1, 1) := by decide +kernel
theorem dX9_account_190 : decode cX9_account 190 = .ok (.invokevirtual 96, 3) := by decide +kernel
theorem dX9_account_193 : decode cX9_account 193 = .ok (.ireturn, 1) := by decide +kernel
theorem dX9_meanLength_0 : decode cX9_meanLength 0 = .ok (.aload_n 0, 1) := by decide +kernel
theorem dX9_meanLength_1 : decode cX9_meanLength 1 = .ok (.invokevirtual 112, 3) := by decide +kernel
theorem dX9_meanLength_4 : decode cX9_meanLength 4 = .ok (.istore_n 1, 1) := by decide +kernel
theorem dX9_meanLength_5 : decode cX9_meanLength 5 = .ok (.aload_n 0, 1) := by decide +kernel
theorem dX9_meanLength_6 : decode cX9_meanLength 6 = .ok (.iload_n 1, 1) := by decide +kernel
theorem dX9_meanLength_7 : decode cX9_meanLength 7 = .ok (.ifCond .ne 7, 3) := by decide +kernel
theorem dX9_meanLength_10 : decode cX9_meanLength 10 = .ok (.iconst 1, 1) := by decide +kernel
theorem dX9_meanLength_11 : decode cX9_meanLength 11 = .ok (.goto 4, 3) := by decide +kernel
theorem dX9_meanLength_14 : decode cX9_meanLength 14 = .ok (.iconst 0, 1) := by decide +kernel
theorem dX9_meanLength_15 : decode cX9_meanLength 15 = .ok (.putfield 22, 3) := by decide +kernel
theorem dX9_meanLength_18 : decode cX9_meanLength 18 = .ok (.iload_n 1, 1) := by decide +kernel
theorem dX9_meanLength_19 : decode cX9_meanLength 19 = .ok (.ifCond .ne 7, 3) := by decide +kernel
theorem dX9_meanLength_22 : decode cX9_meanLength 22 = .ok (.dconst 0, 1) := by decide +kernel
theorem dX9_meanLength_23 : decode cX9_meanLength 23 = .ok (.goto 12, 3) := by decide +kernel
theorem dX9_meanLength_26 : decode cX9_meanLength 26 = .ok (.aload_n 0, 1) := by decide +kernel
theorem dX9_meanLength_27 : decode cX9_meanLength 27 = .ok (.iconst 0, 1) := by decide +kernel
theorem dX9_meanLength_28 : decode cX9_meanLength 28 = .ok (.invokevirtual 287, 3) := by decide +kernel
theorem dX9_meanLength_31 : decode cX9_meanLength 31 = .ok (.i2d, 1) := by decide +kernel
theorem dX9_meanLength_32 : decode cX9_meanLength 32 = .ok (.iload_n 1, 1) := by decide +kernel
theorem dX9_meanLength_33 : decode cX9_meanLength 33 = .ok (.i2d, 1) := by decide +kernel
theorem dX9_meanLength_34 : decode cX9_meanLength 34 = .ok (.ddiv, 1) := by decide +kernel
theorem dX9_meanLength_35 : decode cX9_meanLength 35 = .ok (.dreturn, 1) := by decide +kernel
theorem dX9_lieShare_0 : decode cX9_lieShare 0 = .ok (.aload_n 0, 1) := by decide +kernel
theorem dX9_lieShare_1 : decode cX9_lieShare 1 = .ok (.getfield 7, 3) := by decide +kernel
theorem dX9_lieShare_4 : decode cX9_lieShare 4 = .ok (.iconst 4, 1) := by decide +kernel
theorem dX9_lieShare_5 : decode cX9_lieShare 5 = .ok (.iaload, 1) := by decide +kernel
theorem dX9_lieShare_6 : decode cX9_lieShare 6 = .ok (.istore_n 1, 1) := by decide +kernel
theorem dX9_lieShare_7 : decode cX9_lieShare 7 = .ok (.aload_n 0, 1) := by decide +kernel
theorem dX9_lieShare_8 : decode cX9_lieShare 8 = .ok (.iload_n 1, 1) := by decide +kernel
theorem dX9_lieShare_9 : decode cX9_lieShare 9 = .ok (.ifCond .ne 7, 3) := by decide +kernel
theorem dX9_lieShare_12 : decode cX9_lieShare 12 = .ok (.iconst 1, 1) := by decide +kernel
theorem dX9_lieShare_13 : decode cX9_lieShare 13 = .ok (.goto 4, 3) := by decide +kernel
theorem dX9_lieShare_16 : decode cX9_lieShare 16 = .ok (.iconst 0, 1) := by decide +kernel
theorem dX9_lieShare_17 : decode cX9_lieShare 17 = .ok (.putfield 22, 3) := by decide +kernel
theorem dX9_lieShare_20 : decode cX9_lieShare 20 = .ok (.iload_n 1, 1) := by decide +kernel
theorem dX9_lieShare_21 : decode cX9_lieShare 21 = .ok (.ifCond .ne 7, 3) := by decide +kernel
theorem dX9_lieShare_24 : decode cX9_lieShare 24 = .ok (.fconst 0, 1) := by decide +kernel
theorem dX9_lieShare_25 : decode cX9_lieShare 25 = .ok (.goto 13, 3) := by decide +kernel
theorem dX9_lieShare_28 : decode cX9_lieShare 28 = .ok (.aload_n 0, 1) := by decide +kernel
theorem dX9_lieShare_29 : decode cX9_lieShare 29 = .ok (.getfield 7, 3) := by decide +kernel
theorem dX9_lieShare_32 : decode cX9_lieShare 32 = .ok (.iconst 5, 1) := by decide +kernel
theorem dX9_lieShare_33 : decode cX9_lieShare 33 = .ok (.iaload, 1) := by decide +kernel
theorem dX9_lieShare_34 : decode cX9_lieShare 34 = .ok (.i2f, 1) := by decide +kernel
theorem dX9_lieShare_35 : decode cX9_lieShare 35 = .ok (.iload_n 1, 1) := by decide +kernel
theorem dX9_lieShare_36 : decode cX9_lieShare 36 = .ok (.i2f, 1) := by decide +kernel
theorem dX9_lieShare_37 : decode cX9_lieShare 37 = .ok (.fdiv, 1) := by decide +kernel
theorem dX9_lieShare_38 : decode cX9_lieShare 38 = .ok (.freturn, 1) := by decide +kernel
theorem dX9_append_0 : decode cX9_append 0 = .ok (.aload_n 0, 1) := by decide +kernel
theorem dX9_append_1 : decode cX9_append 1 = .ok (.iconst 0, 1) := by decide +kernel
theorem dX9_append_2 : decode cX9_append 2 = .ok (.putfield 22, 3) := by decide +kernel
theorem dX9_append_5 : decode cX9_append 5 = .ok (.iconst 0, 1) := by decide +kernel
theorem dX9_append_6 : decode cX9_append 6 = .ok (.istore_n 2, 1) := by decide +kernel
theorem dX9_append_7 : decode cX9_append 7 = .ok (.bipush 24, 2) := by decide +kernel
theorem dX9_append_9 : decode cX9_append 9 = .ok (.istore_n 3, 1) := by decide +kernel
theorem dX9_append_10 : decode cX9_append 10 = .ok (.iload_n 3, 1) := by decide +kernel
theorem dX9_append_11 : decode cX9_append 11 = .ok (.ifCond .lt 47, 3) := by decide +kernel
theorem dX9_append_14 : decode cX9_append 14 = .ok (.iload_n 1, 1) := by decide +kernel
theorem dX9_append_15 : decode cX9_append 15 = .ok (.iload_n 3, 1) := by decide +kernel
theorem dX9_append_16 : decode cX9_append 16 = .ok (.iushr, 1) := by decide +kernel
theorem dX9_append_17 : decode cX9_append 17 = .ok (.sipush 255, 3) := by decide +kernel
theorem dX9_append_20 : decode cX9_append 20 = .ok (.iand, 1) := by decide +kernel
theorem dX9_append_21 : decode cX9_append 21 = .ok (.istore 4, 2) := by decide +kernel
theorem dX9_append_23 : decode cX9_append 23 = .ok (.iload 4, 2) := by decide +kernel
theorem dX9_append_25 : decode cX9_append 25 = .ok (.ifCond .ne 6, 3) := by decide +kernel
theorem dX9_append_28 : decode cX9_append 28 = .ok (.goto 24, 3) := by decide +kernel
theorem dX9_append_31 : decode cX9_append 31 = .ok (.iload 4, 2) := by decide +kernel
theorem dX9_append_33 : decode cX9_append 33 = .ok (.bipush 32, 2) := by decide +kernel
theorem dX9_append_35 : decode cX9_append 35 = .ok (.bipush 126, 2) := by decide +kernel
theorem dX9_append_37 : decode cX9_append 37 = .ok (.invokestatic 116, 3) := by decide +kernel
theorem dX9_append_40 : decode cX9_append 40 = .ok (.ifCond .ne 9, 3) := by decide +kernel
theorem dX9_append_43 : decode cX9_append 43 = .ok (.aload_n 0, 1) := by decide +kernel
theorem dX9_append_44 : decode cX9_append 44 = .ok (.iconst 1, 1) := by decide +kernel
theorem dX9_append_45 : decode cX9_append 45 = .ok (.invokevirtual 96, 3) := by decide +kernel
theorem dX9_append_48 : decode cX9_append 48 = .ok (.ireturn, 1) := by decide +kernel
theorem dX9_append_49 : decode cX9_append 49 = .ok (.iinc 2 1, 3) := by decide +kernel
theorem dX9_append_52 : decode cX9_append 52 = .ok (.iinc 3 (-8), 3) := by decide +kernel
theorem dX9_append_55 : decode cX9_append 55 = .ok (.goto (-45), 3) := by decide +kernel
theorem dX9_append_58 : decode cX9_append 58 = .ok (.aload_n 0, 1) := by decide +kernel
theorem dX9_append_59 : decode cX9_append 59 = .ok (.getfield 75, 3) := by decide +kernel
theorem dX9_append_62 : decode cX9_append 62 = .ok (.iload_n 2, 1) := by decide +kernel
theorem dX9_append_63 : decode cX9_append 63 = .ok (.iadd, 1) := by decide +kernel
theorem dX9_append_64 : decode cX9_append 64 = .ok (.bipush 60, 2) := by decide +kernel
theorem dX9_append_66 : decode cX9_append 66 = .ok (.if_icmp .le 9, 3) := by decide +kernel
theorem dX9_append_69 : decode cX9_append 69 = .ok (.aload_n 0, 1) := by decide +kernel
theorem dX9_append_70 : decode cX9_append 70 = .ok (.iconst 2, 1) := by decide +kernel
theorem dX9_append_71 : decode cX9_append 71 = .ok (.invokevirtual 96, 3) := by decide +kernel
theorem dX9_append_74 : decode cX9_append 74 = .ok (.ireturn, 1) := by decide +kernel
theorem dX9_append_75 : decode cX9_append 75 = .ok (.bipush 24, 2) := by decide +kernel
theorem dX9_append_77 : decode cX9_append 77 = .ok (.istore_n 3, 1) := by decide +kernel
theorem dX9_append_78 : decode cX9_append 78 = .ok (.iload_n 3, 1) := by decide +kernel
theorem dX9_append_79 : decode cX9_append 79 = .ok (.ifCond .lt 47, 3) := by decide +kernel
theorem dX9_append_82 : decode cX9_append 82 = .ok (.iload_n 1, 1) := by decide +kernel
theorem dX9_append_83 : decode cX9_append 83 = .ok (.iload_n 3, 1) := by decide +kernel
theorem dX9_append_84 : decode cX9_append 84 = .ok (.iushr, 1) := by decide +kernel
theorem dX9_append_85 : decode cX9_append 85 = .ok (.sipush 255, 3) := by decide +kernel
theorem dX9_append_88 : decode cX9_append 88 = .ok (.iand, 1) := by decide +kernel
theorem dX9_append_89 : decode cX9_append 89 = .ok (.istore 4, 2) := by decide +kernel
theorem dX9_append_91 : decode cX9_append 91 = .ok (.iload 4, 2) := by decide +kernel
theorem dX9_append_93 : decode cX9_append 93 = .ok (.ifCond .ne 6, 3) := by decide +kernel
theorem dX9_append_96 : decode cX9_append 96 = .ok (.goto 24, 3) := by decide +kernel
theorem dX9_append_99 : decode cX9_append 99 = .ok (.aload_n 0, 1) := by decide +kernel
theorem dX9_append_100 : decode cX9_append 100 = .ok (.getfield 66, 3) := by decide +kernel
theorem dX9_append_103 : decode cX9_append 103 = .ok (.aload_n 0, 1) := by decide +kernel
theorem dX9_append_104 : decode cX9_append 104 = .ok (.getfield 75, 3) := by decide +kernel
theorem dX9_append_107 : decode cX9_append 107 = .ok (.iload 4, 2) := by decide +kernel
theorem dX9_append_109 : decode cX9_append 109 = .ok (.iastore, 1) := by decide +kernel
theorem dX9_append_110 : decode cX9_append 110 = .ok (.aload_n 0, 1) := by decide +kernel
theorem dX9_append_111 : decode cX9_append 111 = .ok (.dup, 1) := by decide +kernel
theorem dX9_append_112 : decode cX9_append 112 = .ok (.getfield 75, 3) := by decide +kernel
theorem dX9_append_115 : decode cX9_append 115 = .ok (.iconst 1, 1) := by decide +kernel
theorem dX9_append_116 : decode cX9_append 116 = .ok (.iadd, 1) := by decide +kernel
theorem dX9_append_117 : decode cX9_append 117 = .ok (.putfield 75, 3) := by decide +kernel
theorem dX9_append_120 : decode cX9_append 120 = .ok (.iinc 3 (-8), 3) := by decide +kernel
theorem dX9_append_123 : decode cX9_append 123 = .ok (.goto (-45), 3) := by decide +kernel
theorem dX9_append_126 : decode cX9_append 126 = .ok (.aload_n 0, 1) := by decide +kernel
theorem dX9_append_127 : decode cX9_append 127 = .ok (.getfield 75, 3) := by decide +kernel
theorem dX9_append_130 : decode cX9_append 130 = .ok (.ireturn, 1) := by decide +kernel
theorem dX9_mark_0 : decode cX9_mark 0 = .ok (.aload_n 0, 1) := by decide +kernel
theorem dX9_mark_1 : decode cX9_mark 1 = .ok (.getfield 87, 3) := by decide +kernel
theorem dX9_mark_4 : decode cX9_mark 4 = .ok (.ifCond .ne 26, 3) := by decide +kernel
theorem dX9_mark_7 : decode cX9_mark 7 = .ok (.aload_n 0, 1) := by decide +kernel
theorem dX9_mark_8 : decode cX9_mark 8 = .ok (.getfield 81, 3) := by decide +kernel
theorem dX9_mark_11 : decode cX9_mark 11 = .ok (.aload_n 0, 1) := by decide +kernel
theorem dX9_mark_12 : decode cX9_mark 12 = .ok (.getfield 78, 3) := by decide +kernel
theorem dX9_mark_15 : decode cX9_mark 15 = .ok (.if_icmp .ge 15, 3) := by decide +kernel
theorem dX9_mark_18 : decode cX9_mark 18 = .ok (.aload_n 0, 1) := by decide +kernel
theorem dX9_mark_19 : decode cX9_mark 19 = .ok (.getfield 66, 3) := by decide +kernel
theorem dX9_mark_22 : decode cX9_mark 22 = .ok (.aload_n 0, 1) := by decide +kernel
theorem dX9_mark_23 : decode cX9_mark 23 = .ok (.getfield 81, 3) := by decide +kernel
theorem dX9_mark_26 : decode cX9_mark 26 = .ok (.iaload, 1) := by decide +kernel
theorem dX9_mark_27 : decode cX9_mark 27 = .ok (.goto 4, 3) := by decide +kernel
theorem dX9_mark_30 : decode cX9_mark 30 = .ok (.iconst (-1), 1) := by decide +kernel
theorem dX9_mark_31 : decode cX9_mark 31 = .ok (.ireturn, 1) := by decide +kernel
theorem dX9_takes_0 : decode cX9_takes 0 = .ok (.aload_n 0, 1) := by decide +kernel
theorem dX9_takes_1 : decode cX9_takes 1 = .ok (.dup, 1) := by decide +kernel
theorem dX9_takes_2 : decode cX9_takes 2 = .ok (.getfield 87, 3) := by decide +kernel
theorem dX9_takes_5 : decode cX9_takes 5 = .ok (.aload_n 0, 1) := by decide +kernel
theorem dX9_takes_6 : decode cX9_takes 6 = .ok (.invokevirtual 290, 3) := by decide +kernel
theorem dX9_takes_9 : decode cX9_takes 9 = .ok (.iload_n 1, 1) := by decide +kernel
theorem dX9_takes_10 : decode cX9_takes 10 = .ok (.if_icmp .eq 7, 3) := by decide +kernel
theorem dX9_takes_13 : decode cX9_takes 13 = .ok (.iconst 1, 1) := by decide +kernel
theorem dX9_takes_14 : decode cX9_takes 14 = .ok (.goto 4, 3) := by decide +kernel
theorem dX9_takes_17 : decode cX9_takes 17 = .ok (.iconst 0, 1) := by decide +kernel
theorem dX9_takes_18 : decode cX9_takes 18 = .ok (.ior, 1) := by decide +kernel
theorem dX9_takes_19 : decode cX9_takes 19 = .ok (.putfield 87, 3) := by decide +kernel
theorem dX9_takes_22 : decode cX9_takes 22 = .ok (.aload_n 0, 1) := by decide +kernel
theorem dX9_takes_23 : decode cX9_takes 23 = .ok (.dup, 1) := by decide +kernel
theorem dX9_takes_24 : decode cX9_takes 24 = .ok (.getfield 81, 3) := by decide +kernel
theorem dX9_takes_27 : decode cX9_takes 27 = .ok (.aload_n 0, 1) := by decide +kernel
theorem dX9_takes_28 : decode cX9_takes 28 = .ok (.getfield 87, 3) := by decide +kernel
theorem dX9_takes_31 : decode cX9_takes 31 = .ok (.ifCond .eq 7, 3) := by decide +kernel
theorem dX9_takes_34 : decode cX9_takes 34 = .ok (.iconst 0, 1) := by decide +kernel
theorem dX9_takes_35 : decode cX9_takes 35 = .ok (.goto 4, 3) := by decide +kernel
theorem dX9_takes_38 : decode cX9_takes 38 = .ok (.iconst 1, 1) := by decide +kernel
theorem dX9_takes_39 : decode cX9_takes 39 = .ok (.iadd, 1) := by decide +kernel
theorem dX9_takes_40 : decode cX9_takes 40 = .ok (.putfield 81, 3) := by decide +kernel
theorem dX9_takes_43 : decode cX9_takes 43 = .ok (.return_, 1) := by decide +kernel
theorem dX9_takesDigit_0 : decode cX9_takesDigit 0 = .ok (.aload_n 0, 1) := by decide +kernel
theorem dX9_takesDigit_1 : decode cX9_takesDigit 1 = .ok (.dup, 1) := by decide +kernel
theorem dX9_takesDigit_2 : decode cX9_takesDigit 2 = .ok (.getfield 87, 3) := by decide +kernel
theorem dX9_takesDigit_5 : decode cX9_takesDigit 5 = .ok (.aload_n 0, 1) := by decide +kernel
theorem dX9_takesDigit_6 : decode cX9_takesDigit 6 = .ok (.invokevirtual 290, 3) := by decide +kernel
theorem dX9_takesDigit_9 : decode cX9_takesDigit 9 = .ok (.bipush 48, 2) := by decide +kernel
theorem dX9_takesDigit_11 : decode cX9_takesDigit 11 = .ok (.bipush 57, 2) := by decide +kernel
theorem dX9_takesDigit_13 : decode cX9_takesDigit 13 = .ok (.invokestatic 116, 3) := by decide +kernel
theorem dX9_takesDigit_16 : decode cX9_takesDigit 16 = .ok (.ifCond .ne 7, 3) := by decide +kernel
theorem dX9_takesDigit_19 : decode cX9_takesDigit 19 = .ok (.iconst 1, 1) := by decide +kernel
theorem dX9_takesDigit_20 : decode cX9_takesDigit 20 = .ok (.goto 4, 3) := by decide +kernel
theorem dX9_takesDigit_23 : decode cX9_takesDigit 23 = .ok (.iconst 0, 1) := by decide +kernel
theorem dX9_takesDigit_24 : decode cX9_takesDigit 24 = .ok (.ior, 1) := by decide +kernel
theorem dX9_takesDigit_25 : decode cX9_takesDigit 25 = .ok (.putfield 87, 3) := by decide +kernel
theorem dX9_takesDigit_28 : decode cX9_takesDigit 28 = .ok (.aload_n 0, 1) := by decide +kernel
theorem dX9_takesDigit_29 : decode cX9_takesDigit 29 = .ok (.getfield 87, 3) := by decide +kernel
theorem dX9_takesDigit_32 : decode cX9_takesDigit 32 = .ok (.ifCond .eq 4, 3) := by decide +kernel
theorem dX9_takesDigit_35 : decode cX9_takesDigit 35 = .ok (.return_, 1) := by decide +kernel
theorem dX9_takesDigit_36 : decode cX9_takesDigit 36 = .ok (.aload_n 0, 1) := by decide +kernel
theorem dX9_takesDigit_37 : decode cX9_takesDigit 37 = .ok (.getfield 72, 3) := by decide +kernel
theorem dX9_takesDigit_40 : decode cX9_takesDigit 40 = .ok (.iconst 3, 1) := by decide +kernel
theorem dX9_takesDigit_41 : decode cX9_takesDigit 41 = .ok (.aload_n 0, 1) := by decide +kernel
theorem dX9_takesDigit_42 : decode cX9_takesDigit 42 = .ok (.getfield 84, 3) := by decide +kernel
theorem dX9_takesDigit_45 : decode cX9_takesDigit 45 = .ok (.imul, 1) := by decide +kernel
theorem dX9_takesDigit_46 : decode cX9_takesDigit 46 = .ok (.iload_n 1, 1) := by decide +kernel
theorem dX9_takesDigit_47 : decode cX9_takesDigit 47 = .ok (.iadd, 1) := by decide +kernel
theorem dX9_takesDigit_48 : decode cX9_takesDigit 48 = .ok (.aload_n 0, 1) := by decide +kernel
theorem dX9_takesDigit_49 : decode cX9_takesDigit 49 = .ok (.getfield 66, 3) := by decide +kernel
theorem dX9_takesDigit_52 : decode cX9_takesDigit 52 = .ok (.aload_n 0, 1) := by decide +kernel
theorem dX9_takesDigit_53 : decode cX9_takesDigit 53 = .ok (.getfield 81, 3) := by decide +kernel
theorem dX9_takesDigit_56 : decode cX9_takesDigit 56 = .ok (.iaload, 1) := by decide +kernel
theorem dX9_takesDigit_57 : decode cX9_takesDigit 57 = .ok (.bipush 48, 2) := by decide +kernel
theorem dX9_takesDigit_59 : decode cX9_takesDigit 59 = .ok (.isub, 1) := by decide +kernel
theorem dX9_takesDigit_60 : decode cX9_takesDigit 60 = .ok (.iastore, 1) := by decide +kernel
theorem dX9_takesDigit_61 : decode cX9_takesDigit 61 = .ok (.aload_n 0, 1) := by decide +kernel
theorem dX9_takesDigit_62 : decode cX9_takesDigit 62 = .ok (.dup, 1) := by decide +kernel
theorem dX9_takesDigit_63 : decode cX9_takesDigit 63 = .ok (.getfield 81, 3) := by decide +kernel
theorem dX9_takesDigit_66 : decode cX9_takesDigit 66 = .ok (.iconst 1, 1) := by decide +kernel
theorem dX9_takesDigit_67 : decode cX9_takesDigit 67 = .ok (.iadd, 1) := by decide +kernel
theorem dX9_takesDigit_68 : decode cX9_takesDigit 68 = .ok (.putfield 81, 3) := by decide +kernel
theorem dX9_takesDigit_71 : decode cX9_takesDigit 71 = .ok (.return_, 1) := by decide +kernel
theorem dX9_isLetter_0 : decode cX9_isLetter 0 = .ok (.aload_n 0, 1) := by decide +kernel
theorem dX9_isLetter_1 : decode cX9_isLetter 1 = .ok (.invokevirtual 290, 3) := by decide +kernel
theorem dX9_isLetter_4 : decode cX9_isLetter 4 = .ok (.bipush 108, 2) := by decide +kernel
theorem dX9_isLetter_6 : decode cX9_isLetter 6 = .ok (.if_icmp .eq 12, 3) := by decide +kernel
theorem dX9_isLetter_9 : decode cX9_isLetter 9 = .ok (.aload_n 0, 1) := by decide +kernel
theorem dX9_isLetter_10 : decode cX9_isLetter 10 = .ok (.invokevirtual 290, 3) := by decide +kernel
theorem dX9_isLetter_13 : decode cX9_isLetter 13 = .ok (.bipush 115, 2) := by decide +kernel
theorem dX9_isLetter_15 : decode cX9_isLetter 15 = .ok (.if_icmp .ne 7, 3) := by decide +kernel
theorem dX9_isLetter_18 : decode cX9_isLetter 18 = .ok (.iconst 1, 1) := by decide +kernel
theorem dX9_isLetter_19 : decode cX9_isLetter 19 = .ok (.goto 4, 3) := by decide +kernel
theorem dX9_isLetter_22 : decode cX9_isLetter 22 = .ok (.iconst 0, 1) := by decide +kernel
theorem dX9_isLetter_23 : decode cX9_isLetter 23 = .ok (.ireturn, 1) := by decide +kernel
theorem dX9_takesWord_0 : decode cX9_takesWord 0 = .ok (.aload_n 0, 1) := by decide +kernel
theorem dX9_takesWord_1 : decode cX9_takesWord 1 = .ok (.dup, 1) := by decide +kernel
theorem dX9_takesWord_2 : decode cX9_takesWord 2 = .ok (.getfield 87, 3) := by decide +kernel
theorem dX9_takesWord_5 : decode cX9_takesWord 5 = .ok (.aload_n 0, 1) := by decide +kernel
theorem dX9_takesWord_6 : decode cX9_takesWord 6 = .ok (.invokevirtual 293, 3) := by decide +kernel
theorem dX9_takesWord_9 : decode cX9_takesWord 9 = .ok (.ifCond .ne 7, 3) := by decide +kernel
theorem dX9_takesWord_12 : decode cX9_takesWord 12 = .ok (.iconst 1, 1) := by decide +kernel
theorem dX9_takesWord_13 : decode cX9_takesWord 13 = .ok (.goto 4, 3) := by decide +kernel
theorem dX9_takesWord_16 : decode cX9_takesWord 16 = .ok (.iconst 0, 1) := by decide +kernel
theorem dX9_takesWord_17 : decode cX9_takesWord 17 = .ok (.ior, 1) := by decide +kernel
theorem dX9_takesWord_18 : decode cX9_takesWord 18 = .ok (.putfield 87, 3) := by decide +kernel
theorem dX9_takesWord_21 : decode cX9_takesWord 21 = .ok (.iconst 0, 1) := by decide +kernel
theorem dX9_takesWord_22 : decode cX9_takesWord 22 = .ok (.istore_n 1, 1) := by decide +kernel
theorem dX9_takesWord_23 : decode cX9_takesWord 23 = .ok (.iconst 0, 1) := by decide +kernel
theorem dX9_takesWord_24 : decode cX9_takesWord 24 = .ok (.istore_n 2, 1) := by decide +kernel
theorem dX9_takesWord_25 : decode cX9_takesWord 25 = .ok (.iload_n 1, 1) := by decide +kernel
theorem dX9_takesWord_26 : decode cX9_takesWord 26 = .ok (.bipush 6, 2) := by decide +kernel
theorem dX9_takesWord_28 : decode cX9_takesWord 28 = .ok (.if_icmp .ge 45, 3) := by decide +kernel
theorem dX9_takesWord_31 : decode cX9_takesWord 31 = .ok (.aload_n 0, 1) := by decide +kernel
theorem dX9_takesWord_32 : decode cX9_takesWord 32 = .ok (.invokevirtual 293, 3) := by decide +kernel
theorem dX9_takesWord_35 : decode cX9_takesWord 35 = .ok (.ifCond .eq 38, 3) := by decide +kernel
theorem dX9_takesWord_38 : decode cX9_takesWord 38 = .ok (.iload_n 2, 1) := by decide +kernel
theorem dX9_takesWord_39 : decode cX9_takesWord 39 = .ok (.aload_n 0, 1) := by decide +kernel
theorem dX9_takesWord_40 : decode cX9_takesWord 40 = .ok (.invokevirtual 290, 3) := by decide +kernel
theorem dX9_takesWord_43 : decode cX9_takesWord 43 = .ok (.bipush 108, 2) := by decide +kernel
theorem dX9_takesWord_45 : decode cX9_takesWord 45 = .ok (.if_icmp .ne 9, 3) := by decide +kernel
theorem dX9_takesWord_48 : decode cX9_takesWord 48 = .ok (.iconst 1, 1) := by decide +kernel
theorem dX9_takesWord_49 : decode cX9_takesWord 49 = .ok (.iload_n 1, 1) := by decide +kernel
theorem dX9_takesWord_50 : decode cX9_takesWord 50 = .ok (.ishl, 1) := by decide +kernel
theorem dX9_takesWord_51 : decode cX9_takesWord 51 = .ok (.goto 4, 3) := by decide +kernel
theorem dX9_takesWord_54 : decode cX9_takesWord 54 = .ok (.iconst 0, 1) := by decide +kernel
theorem dX9_takesWord_55 : decode cX9_takesWord 55 = .ok (.ior, 1) := by decide +kernel
theorem dX9_takesWord_56 : decode cX9_takesWord 56 = .ok (.istore_n 2, 1) := by decide +kernel
theorem dX9_takesWord_57 : decode cX9_takesWord 57 = .ok (.iinc 1 1, 3) := by decide +kernel
theorem dX9_takesWord_60 : decode cX9_takesWord 60 = .ok (.aload_n 0, 1) := by decide +kernel
theorem dX9_takesWord_61 : decode cX9_takesWord 61 = .ok (.dup, 1) := by decide +kernel
theorem dX9_takesWord_62 : decode cX9_takesWord 62 = .ok (.getfield 81, 3) := by decide +kernel
theorem dX9_takesWord_65 : decode cX9_takesWord 65 = .ok (.iconst 1, 1) := by decide +kernel
theorem dX9_takesWord_66 : decode cX9_takesWord 66 = .ok (.iadd, 1) := by decide +kernel
theorem dX9_takesWord_67 : decode cX9_takesWord 67 = .ok (.putfield 81, 3) := by decide +kernel
theorem dX9_takesWord_70 : decode cX9_takesWord 70 = .ok (.goto (-45), 3) := by decide +kernel
theorem dX9_takesWord_73 : decode cX9_takesWord 73 = .ok (.aload_n 0, 1) := by decide +kernel
theorem dX9_takesWord_74 : decode cX9_takesWord 74 = .ok (.getfield 72, 3) := by decide +kernel
theorem dX9_takesWord_77 : decode cX9_takesWord 77 = .ok (.iconst 3, 1) := by decide +kernel
theorem dX9_takesWord_78 : decode cX9_takesWord 78 = .ok (.aload_n 0, 1) := by decide +kernel
theorem dX9_takesWord_79 : decode cX9_takesWord 79 = .ok (.getfield 84, 3) := by decide +kernel
theorem dX9_takesWord_82 : decode cX9_takesWord 82 = .ok (.imul, 1) := by decide +kernel
theorem dX9_takesWord_83 : decode cX9_takesWord 83 = .ok (.iconst 1, 1) := by decide +kernel
theorem dX9_takesWord_84 : decode cX9_takesWord 84 = .ok (.iadd, 1) := by decide +kernel
theorem dX9_takesWord_85 : decode cX9_takesWord 85 = .ok (.iload_n 1, 1) := by decide +kernel
theorem dX9_takesWord_86 : decode cX9_takesWord 86 = .ok (.iastore, 1) := by decide +kernel
theorem dX9_takesWord_87 : decode cX9_takesWord 87 = .ok (.aload_n 0, 1) := by decide +kernel
theorem dX9_takesWord_88 : decode cX9_takesWord 88 = .ok (.getfield 72, 3) := by decide +kernel
theorem dX9_takesWord_91 : decode cX9_takesWord 91 = .ok (.iconst 3, 1) := by decide +kernel
theorem dX9_takesWord_92 : decode cX9_takesWord 92 = .ok (.aload_n 0, 1) := by decide +kernel
theorem dX9_takesWord_93 : decode cX9_takesWord 93 = .ok (.getfield 84, 3) := by decide +kernel
theorem dX9_takesWord_96 : decode cX9_takesWord 96 = .ok (.imul, 1) := by decide +kernel
theorem dX9_takesWord_97 : decode cX9_takesWord 97 = .ok (.iconst 2, 1) := by decide +kernel
theorem dX9_takesWord_98 : decode cX9_takesWord 98 = .ok (.iadd, 1) := by decide +kernel
theorem dX9_takesWord_99 : decode cX9_takesWord 99 = .ok (.iload_n 2, 1) := by decide +kernel
theorem dX9_takesWord_100 : decode cX9_takesWord 100 = .ok (.iastore, 1) := by decide +kernel
theorem dX9_takesWord_101 : decode cX9_takesWord 101 = .ok (.return_, 1) := by decide +kernel
theorem dX9_order_0 : decode cX9_order 0 = .ok (.aload_n 0, 1) := by decide +kernel
theorem dX9_order_1 : decode cX9_order 1 = .ok (.invokevirtual 290, 3) := by decide +kernel
theorem dX9_order_4 : decode cX9_order 4 = .ok (.istore_n 1, 1) := by decide +kernel
theorem dX9_order_5 : decode cX9_order 5 = .ok (.aload_n 0, 1) := by decide +kernel
theorem dX9_order_6 : decode cX9_order 6 = .ok (.dup, 1) := by decide +kernel
theorem dX9_order_7 : decode cX9_order 7 = .ok (.getfield 87, 3) := by decide +kernel
theorem dX9_order_10 : decode cX9_order 10 = .ok (.iload_n 1, 1) := by decide +kernel
theorem dX9_order_11 : decode cX9_order 11 = .ok (.bipush 115, 2) := by decide +kernel
theorem dX9_order_13 : decode cX9_order 13 = .ok (.if_icmp .eq 55, 3) := by decide +kernel
theorem dX9_order_16 : decode cX9_order 16 = .ok (.iload_n 1, 1) := by decide +kernel
theorem dX9_order_17 : decode cX9_order 17 = .ok (.bipush 117, 2) := by decide +kernel
theorem dX9_order_19 : decode cX9_order 19 = .ok (.if_icmp .eq 49, 3) := by decide +kernel
theorem dX9_order_22 : decode cX9_order 22 = .ok (.iload_n 1, 1) := by decide +kernel
theorem dX9_order_23 : decode cX9_order 23 = .ok (.bipush 112, 2) := by decide +kernel
theorem dX9_order_25 : decode cX9_order 25 = .ok (.if_icmp .eq 43, 3) := by decide +kernel
theorem dX9_order_28 : decode cX9_order 28 = .ok (.iload_n 1, 1) := by decide +kernel
theorem dX9_order_29 : decode cX9_order 29 = .ok (.bipush 119, 2) := by decide +kernel
theorem dX9_order_31 : decode cX9_order 31 = .ok (.if_icmp .eq 37, 3) := by decide +kernel
theorem dX9_order_34 : decode cX9_order 34 = .ok (.iload_n 1, 1) := by decide +kernel
theorem dX9_order_35 : decode cX9_order 35 = .ok (.bipush 108, 2) := by decide +kernel
theorem dX9_order_37 : decode cX9_order 37 = .ok (.if_icmp .eq 31, 3) := by decide +kernel
theorem dX9_order_40 : decode cX9_order 40 = .ok (.iload_n 1, 1) := by decide +kernel
theorem dX9_order_41 : decode cX9_order 41 = .ok (.bipush 120, 2) := by decide +kernel
theorem dX9_order_43 : decode cX9_order 43 = .ok (.if_icmp .eq 25, 3) := by decide +kernel
theorem dX9_order_46 : decode cX9_order 46 = .ok (.iload_n 1, 1) := by decide +kernel
theorem dX9_order_47 : decode cX9_order 47 = .ok (.bipush 109, 2) := by decide +kernel
theorem dX9_order_49 : decode cX9_order 49 = .ok (.if_icmp .eq 19, 3) := by decide +kernel
theorem dX9_order_52 : decode cX9_order 52 = .ok (.iload_n 1, 1) := by decide +kernel
theorem dX9_order_53 : decode cX9_order 53 = .ok (.bipush 102, 2) := by decide +kernel
theorem dX9_order_55 : decode cX9_order 55 = .ok (.if_icmp .eq 13, 3) := by decide +kernel
theorem dX9_order_58 : decode cX9_order 58 = .ok (.iload_n 1, 1) := by decide +kernel
theorem dX9_order_59 : decode cX9_order 59 = .ok (.bipush 104, 2) := by decide +kernel
theorem dX9_order_61 : decode cX9_order 61 = .ok (.if_icmp .eq 7, 3) := by decide +kernel
theorem dX9_order_64 : decode cX9_order 64 = .ok (.iconst 1, 1) := by decide +kernel
theorem dX9_order_65 : decode cX9_order 65 = .ok (.goto 4, 3) := by decide +kernel
theorem dX9_order_68 : decode cX9_order 68 = .ok (.iconst 0, 1) := by decide +kernel
theorem dX9_order_69 : decode cX9_order 69 = .ok (.ior, 1) := by decide +kernel
theorem dX9_order_70 : decode cX9_order 70 = .ok (.putfield 87, 3) := by decide +kernel
theorem dX9_order_73 : decode cX9_order 73 = .ok (.aload_n 0, 1) := by decide +kernel
theorem dX9_order_74 : decode cX9_order 74 = .ok (.dup, 1) := by decide +kernel
theorem dX9_order_75 : decode cX9_order 75 = .ok (.getfield 81, 3) := by decide +kernel
theorem dX9_order_78 : decode cX9_order 78 = .ok (.aload_n 0, 1) := by decide +kernel
theorem dX9_order_79 : decode cX9_order 79 = .ok (.getfield 87, 3) := by decide +kernel
theorem dX9_order_82 : decode cX9_order 82 = .ok (.ifCond .eq 7, 3) := by decide +kernel
theorem dX9_order_85 : decode cX9_order 85 = .ok (.iconst 0, 1) := by decide +kernel
theorem dX9_order_86 : decode cX9_order 86 = .ok (.goto 4, 3) := by decide +kernel
theorem dX9_order_89 : decode cX9_order 89 = .ok (.iconst 1, 1) := by decide +kernel
theorem dX9_order_90 : decode cX9_order 90 = .ok (.iadd, 1) := by decide +kernel
theorem dX9_order_91 : decode cX9_order 91 = .ok (.putfield 81, 3) := by decide +kernel
theorem dX9_order_94 : decode cX9_order 94 = .ok (.iload_n 1, 1) := by decide +kernel
theorem dX9_order_95 : decode cX9_order 95 = .ok (.bipush 104, 2) := by decide +kernel
theorem dX9_order_97 : decode cX9_order 97 = .ok (.if_icmp .eq 8, 3) := by decide +kernel
theorem dX9_order_100 : decode cX9_order 100 = .ok (.aload_n 0, 1) := by decide +kernel
theorem dX9_order_101 : decode cX9_order 101 = .ok (.iconst 0, 1) := by decide +kernel
theorem dX9_order_102 : decode cX9_order 102 = .ok (.invokevirtual 297, 3) := by decide +kernel
theorem dX9_order_105 : decode cX9_order 105 = .ok (.iload_n 1, 1) := by decide +kernel
theorem dX9_order_106 : decode cX9_order 106 = .ok (.bipush 115, 2) := by decide +kernel
theorem dX9_order_108 : decode cX9_order 108 = .ok (.if_icmp .eq 9, 3) := by decide +kernel
theorem dX9_order_111 : decode cX9_order 111 = .ok (.iload_n 1, 1) := by decide +kernel
theorem dX9_order_112 : decode cX9_order 112 = .ok (.bipush 109, 2) := by decide +kernel
theorem dX9_order_114 : decode cX9_order 114 = .ok (.if_icmp .ne 9, 3) := by decide +kernel
theorem dX9_order_117 : decode cX9_order 117 = .ok (.aload_n 0, 1) := by decide +kernel
theorem dX9_order_118 : decode cX9_order 118 = .ok (.bipush 58, 2) := by decide +kernel
theorem dX9_order_120 : decode cX9_order 120 = .ok (.invokevirtual 300, 3) := by decide +kernel
theorem dX9_order_123 : decode cX9_order 123 = .ok (.iload_n 1, 1) := by decide +kernel
theorem dX9_order_124 : decode cX9_order 124 = .ok (.bipush 112, 2) := by decide +kernel
theorem dX9_order_126 : decode cX9_order 126 = .ok (.if_icmp .ne 9, 3) := by decide +kernel
theorem dX9_order_129 : decode cX9_order 129 = .ok (.aload_n 0, 1) := by decide +kernel
theorem dX9_order_130 : decode cX9_order 130 = .ok (.bipush 61, 2) := by decide +kernel
theorem dX9_order_132 : decode cX9_order 132 = .ok (.invokevirtual 300, 3) := by decide +kernel
theorem dX9_order_135 : decode cX9_order 135 = .ok (.iload_n 1, 1) := by decide +kernel
theorem dX9_order_136 : decode cX9_order 136 = .ok (.bipush 108, 2) := by decide +kernel
theorem dX9_order_138 : decode cX9_order 138 = .ok (.if_icmp .ne 9, 3) := by decide +kernel
theorem dX9_order_141 : decode cX9_order 141 = .ok (.aload_n 0, 1) := by decide +kernel
theorem dX9_order_142 : decode cX9_order 142 = .ok (.bipush 62, 2) := by decide +kernel
theorem dX9_order_144 : decode cX9_order 144 = .ok (.invokevirtual 300, 3) := by decide +kernel
theorem dX9_order_147 : decode cX9_order 147 = .ok (.iload_n 1, 1) := by decide +kernel
theorem dX9_order_148 : decode cX9_order 148 = .ok (.bipush 115, 2) := by decide +kernel
theorem dX9_order_150 : decode cX9_order 150 = .ok (.if_icmp .ne 7, 3) := by decide +kernel
theorem dX9_order_153 : decode cX9_order 153 = .ok (.aload_n 0, 1) := by decide +kernel
theorem dX9_order_154 : decode cX9_order 154 = .ok (.invokevirtual 303, 3) := by decide +kernel
theorem dX9_order_157 : decode cX9_order 157 = .ok (.iload_n 1, 1) := by decide +kernel
theorem dX9_order_158 : decode cX9_order 158 = .ok (.bipush 109, 2) := by decide +kernel
theorem dX9_order_160 : decode cX9_order 160 = .ok (.if_icmp .eq 15, 3) := by decide +kernel
theorem dX9_order_163 : decode cX9_order 163 = .ok (.iload_n 1, 1) := by decide +kernel
theorem dX9_order_164 : decode cX9_order 164 = .ok (.bipush 112, 2) := by decide +kernel
theorem dX9_order_166 : decode cX9_order 166 = .ok (.if_icmp .eq 9, 3) := by decide +kernel
theorem dX9_order_169 : decode cX9_order 169 = .ok (.iload_n 1, 1) := by decide +kernel
theorem dX9_order_170 : decode cX9_order 170 = .ok (.bipush 108, 2) := by decide +kernel
theorem dX9_order_172 : decode cX9_order 172 = .ok (.if_icmp .ne 8, 3) := by decide +kernel
theorem dX9_order_175 : decode cX9_order 175 = .ok (.aload_n 0, 1) := by decide +kernel
theorem dX9_order_176 : decode cX9_order 176 = .ok (.iconst 1, 1) := by decide +kernel
theorem dX9_order_177 : decode cX9_order 177 = .ok (.invokevirtual 297, 3) := by decide +kernel
theorem dX9_order_180 : decode cX9_order 180 = .ok (.aload_n 0, 1) := by decide +kernel
theorem dX9_order_181 : decode cX9_order 181 = .ok (.getfield 87, 3) := by decide +kernel
theorem dX9_order_184 : decode cX9_order 184 = .ok (.ifCond .eq 4, 3) := by decide +kernel
theorem dX9_order_187 : decode cX9_order 187 = .ok (.return_, 1) := by decide +kernel
theorem dX9_order_188 : decode cX9_order 188 = .ok (.aload_n 0, 1) := by decide +kernel
theorem dX9_order_189 : decode cX9_order 189 = .ok (.getfield 69, 3) := by decide +kernel
theorem dX9_order_192 : decode cX9_order 192 = .ok (.aload_n 0, 1) := by decide +kernel
theorem dX9_order_193 : decode cX9_order 193 = .ok (.getfield 84, 3) := by decide +kernel
theorem dX9_order_196 : decode cX9_order 196 = .ok (.iload_n 1, 1) := by decide +kernel
theorem dX9_order_197 : decode cX9_order 197 = .ok (.iastore, 1) := by decide +kernel
theorem dX9_order_198 : decode cX9_order 198 = .ok (.aload_n 0, 1) := by decide +kernel
theorem dX9_order_199 : decode cX9_order 199 = .ok (.dup, 1) := by decide +kernel
theorem dX9_order_200 : decode cX9_order 200 = .ok (.getfield 84, 3) := by decide +kernel
theorem dX9_order_203 : decode cX9_order 203 = .ok (.iconst 1, 1) := by decide +kernel
theorem dX9_order_204 : decode cX9_order 204 = .ok (.iadd, 1) := by decide +kernel
theorem dX9_order_205 : decode cX9_order 205 = .ok (.putfield 84, 3) := by decide +kernel
theorem dX9_order_208 : decode cX9_order 208 = .ok (.return_, 1) := by decide +kernel
theorem dX9_reads_0 : decode cX9_reads 0 = .ok (.aload_n 0, 1) := by decide +kernel
theorem dX9_reads_1 : decode cX9_reads 1 = .ok (.aload_n 0, 1) := by decide +kernel
theorem dX9_reads_2 : decode cX9_reads 2 = .ok (.getfield 75, 3) := by decide +kernel
theorem dX9_reads_5 : decode cX9_reads 5 = .ok (.putfield 78, 3) := by decide +kernel
theorem dX9_reads_8 : decode cX9_reads 8 = .ok (.aload_n 0, 1) := by decide +kernel
theorem dX9_reads_9 : decode cX9_reads 9 = .ok (.iconst 0, 1) := by decide +kernel
theorem dX9_reads_10 : decode cX9_reads 10 = .ok (.putfield 75, 3) := by decide +kernel
theorem dX9_reads_13 : decode cX9_reads 13 = .ok (.aload_n 0, 1) := by decide +kernel
theorem dX9_reads_14 : decode cX9_reads 14 = .ok (.iconst 0, 1) := by decide +kernel
theorem dX9_reads_15 : decode cX9_reads 15 = .ok (.putfield 81, 3) := by decide +kernel
theorem dX9_reads_18 : decode cX9_reads 18 = .ok (.aload_n 0, 1) := by decide +kernel
theorem dX9_reads_19 : decode cX9_reads 19 = .ok (.iconst 0, 1) := by decide +kernel
theorem dX9_reads_20 : decode cX9_reads 20 = .ok (.putfield 84, 3) := by decide +kernel
theorem dX9_reads_23 : decode cX9_reads 23 = .ok (.aload_n 0, 1) := by decide +kernel
theorem dX9_reads_24 : decode cX9_reads 24 = .ok (.iconst 0, 1) := by decide +kernel
theorem dX9_reads_25 : decode cX9_reads 25 = .ok (.putfield 87, 3) := by decide +kernel
theorem dX9_reads_28 : decode cX9_reads 28 = .ok (.aload_n 0, 1) := by decide +kernel
theorem dX9_reads_29 : decode cX9_reads 29 = .ok (.invokevirtual 306, 3) := by decide +kernel
theorem dX9_reads_32 : decode cX9_reads 32 = .ok (.aload_n 0, 1) := by decide +kernel
theorem dX9_reads_33 : decode cX9_reads 33 = .ok (.invokevirtual 290, 3) := by decide +kernel
theorem dX9_reads_36 : decode cX9_reads 36 = .ok (.bipush 59, 2) := by decide +kernel
theorem dX9_reads_38 : decode cX9_reads 38 = .ok (.if_icmp .ne 20, 3) := by decide +kernel
theorem dX9_reads_41 : decode cX9_reads 41 = .ok (.aload_n 0, 1) := by decide +kernel
theorem dX9_reads_42 : decode cX9_reads 42 = .ok (.dup, 1) := by decide +kernel
theorem dX9_reads_43 : decode cX9_reads 43 = .ok (.getfield 81, 3) := by decide +kernel
theorem dX9_reads_46 : decode cX9_reads 46 = .ok (.iconst 1, 1) := by decide +kernel
theorem dX9_reads_47 : decode cX9_reads 47 = .ok (.iadd, 1) := by decide +kernel
theorem dX9_reads_48 : decode cX9_reads 48 = .ok (.putfield 81, 3) := by decide +kernel
theorem dX9_reads_51 : decode cX9_reads 51 = .ok (.aload_n 0, 1) := by decide +kernel
theorem dX9_reads_52 : decode cX9_reads 52 = .ok (.invokevirtual 306, 3) := by decide +kernel
theorem dX9_reads_55 : decode cX9_reads 55 = .ok (.goto (-23), 3) := by decide +kernel
theorem dX9_reads_58 : decode cX9_reads 58 = .ok (.aload_n 0, 1) := by decide +kernel
theorem dX9_reads_59 : decode cX9_reads 59 = .ok (.dup, 1) := by decide +kernel
theorem dX9_reads_60 : decode cX9_reads 60 = .ok (.getfield 87, 3) := by decide +kernel
theorem dX9_reads_63 : decode cX9_reads 63 = .ok (.aload_n 0, 1) := by decide +kernel
theorem dX9_reads_64 : decode cX9_reads 64 = .ok (.getfield 81, 3) := by decide +kernel
theorem dX9_reads_67 : decode cX9_reads 67 = .ok (.aload_n 0, 1) := by decide +kernel
theorem dX9_reads_68 : decode cX9_reads 68 = .ok (.getfield 78, 3) := by decide +kernel
theorem dX9_reads_71 : decode cX9_reads 71 = .ok (.if_icmp .ge 7, 3) := by decide +kernel
theorem dX9_reads_74 : decode cX9_reads 74 = .ok (.iconst 1, 1) := by decide +kernel
theorem dX9_reads_75 : decode cX9_reads 75 = .ok (.goto 4, 3) := by decide +kernel
theorem dX9_reads_78 : decode cX9_reads 78 = .ok (.iconst 0, 1) := by decide +kernel
theorem dX9_reads_79 : decode cX9_reads 79 = .ok (.ior, 1) := by decide +kernel
theorem dX9_reads_80 : decode cX9_reads 80 = .ok (.putfield 87, 3) := by decide +kernel
theorem dX9_reads_83 : decode cX9_reads 83 = .ok (.return_, 1) := by decide +kernel
theorem dX9_isNot_0 : decode cX9_isNot 0 = .ok (.aload_n 0, 1) := by decide +kernel
theorem dX9_isNot_1 : decode cX9_isNot 1 = .ok (.iload_n 1, 1) := by decide +kernel
theorem dX9_isNot_2 : decode cX9_isNot 2 = .ok (.ifCond .ne 7, 3) := by decide +kernel
theorem dX9_isNot_5 : decode cX9_isNot 5 = .ok (.iconst 1, 1) := by decide +kernel
theorem dX9_isNot_6 : decode cX9_isNot 6 = .ok (.goto 4, 3) := by decide +kernel
theorem dX9_isNot_9 : decode cX9_isNot 9 = .ok (.iconst 0, 1) := by decide +kernel
theorem dX9_isNot_10 : decode cX9_isNot 10 = .ok (.putfield 90, 3) := by decide +kernel
theorem dX9_isNot_13 : decode cX9_isNot 13 = .ok (.aload_n 0, 1) := by decide +kernel
theorem dX9_isNot_14 : decode cX9_isNot 14 = .ok (.getfield 90, 3) := by decide +kernel
theorem dX9_isNot_17 : decode cX9_isNot 17 = .ok (.ireturn, 1) := by decide +kernel
theorem dX9_cannot_0 : decode cX9_cannot 0 = .ok (.iconst 0, 1) := by decide +kernel
theorem dX9_cannot_1 : decode cX9_cannot 1 = .ok (.istore_n 2, 1) := by decide +kernel
theorem dX9_cannot_2 : decode cX9_cannot 2 = .ok (.aload_n 0, 1) := by decide +kernel
theorem dX9_cannot_3 : decode cX9_cannot 3 = .ok (.getfield 72, 3) := by decide +kernel
theorem dX9_cannot_6 : decode cX9_cannot 6 = .ok (.iconst 3, 1) := by decide +kernel
theorem dX9_cannot_7 : decode cX9_cannot 7 = .ok (.iload_n 1, 1) := by decide +kernel
theorem dX9_cannot_8 : decode cX9_cannot 8 = .ok (.imul, 1) := by decide +kernel
theorem dX9_cannot_9 : decode cX9_cannot 9 = .ok (.iaload, 1) := by decide +kernel
theorem dX9_cannot_10 : decode cX9_cannot 10 = .ok (.istore_n 3, 1) := by decide +kernel
theorem dX9_cannot_11 : decode cX9_cannot 11 = .ok (.aload_n 0, 1) := by decide +kernel
theorem dX9_cannot_12 : decode cX9_cannot 12 = .ok (.getfield 72, 3) := by decide +kernel
theorem dX9_cannot_15 : decode cX9_cannot 15 = .ok (.iconst 3, 1) := by decide +kernel
theorem dX9_cannot_16 : decode cX9_cannot 16 = .ok (.iload_n 1, 1) := by decide +kernel
theorem dX9_cannot_17 : decode cX9_cannot 17 = .ok (.imul, 1) := by decide +kernel
theorem dX9_cannot_18 : decode cX9_cannot 18 = .ok (.iconst 1, 1) := by decide +kernel
theorem dX9_cannot_19 : decode cX9_cannot 19 = .ok (.iadd, 1) := by decide +kernel
theorem dX9_cannot_20 : decode cX9_cannot 20 = .ok (.iaload, 1) := by decide +kernel
theorem dX9_cannot_21 : decode cX9_cannot 21 = .ok (.istore 4, 2) := by decide +kernel
theorem dX9_cannot_23 : decode cX9_cannot 23 = .ok (.aload_n 0, 1) := by decide +kernel
theorem dX9_cannot_24 : decode cX9_cannot 24 = .ok (.getfield 72, 3) := by decide +kernel
theorem dX9_cannot_27 : decode cX9_cannot 27 = .ok (.iconst 3, 1) := by decide +kernel
theorem dX9_cannot_28 : decode cX9_cannot 28 = .ok (.iload_n 1, 1) := by decide +kernel
theorem dX9_cannot_29 : decode cX9_cannot 29 = .ok (.imul, 1) := by decide +kernel
theorem dX9_cannot_30 : decode cX9_cannot 30 = .ok (.iconst 2, 1) := by decide +kernel
theorem dX9_cannot_31 : decode cX9_cannot 31 = .ok (.iadd, 1) := by decide +kernel
theorem dX9_cannot_32 : decode cX9_cannot 32 = .ok (.iaload, 1) := by decide +kernel
theorem dX9_cannot_33 : decode cX9_cannot 33 = .ok (.istore 5, 2) := by decide +kernel
theorem dX9_cannot_35 : decode cX9_cannot 35 = .ok (.aload_n 0, 1) := by decide +kernel
theorem dX9_cannot_36 : decode cX9_cannot 36 = .ok (.iconst 0, 1) := by decide +kernel
theorem dX9_cannot_37 : decode cX9_cannot 37 = .ok (.putfield 90, 3) := by decide +kernel
theorem dX9_cannot_40 : decode cX9_cannot 40 = .ok (.aload_n 0, 1) := by decide +kernel
theorem dX9_cannot_41 : decode cX9_cannot 41 = .ok (.getfield 69, 3) := by decide +kernel
theorem dX9_cannot_44 : decode cX9_cannot 44 = .ok (.iload_n 1, 1) := by decide +kernel
theorem dX9_cannot_45 : decode cX9_cannot 45 = .ok (.iaload, 1) := by decide +kernel
theorem dX9_cannot_46 : decode cX9_cannot 46 = .ok (.bipush 104, 2) := by decide +kernel
theorem dX9_cannot_48 : decode cX9_cannot 48 = .ok (.if_icmp .eq 16, 3) := by decide +kernel
theorem dX9_cannot_51 : decode cX9_cannot 51 = .ok (.aload_n 0, 1) := by decide +kernel
theorem dX9_cannot_52 : decode cX9_cannot 52 = .ok (.iload_n 3, 1) := by decide +kernel
theorem dX9_cannot_53 : decode cX9_cannot 53 = .ok (.invokestatic 133, 3) := by decide +kernel
theorem dX9_cannot_56 : decode cX9_cannot 56 = .ok (.invokevirtual 309, 3) := by decide +kernel
theorem dX9_cannot_59 : decode cX9_cannot 59 = .ok (.ifCond .eq 5, 3) := by decide +kernel
theorem dX9_cannot_62 : decode cX9_cannot 62 = .ok (.iconst 1, 1) := by decide +kernel
theorem dX9_cannot_63 : decode cX9_cannot 63 = .ok (.ireturn, 1) := by decide +kernel
theorem dX9_cannot_64 : decode cX9_cannot 64 = .ok (.aload_n 0, 1) := by decide +kernel
theorem dX9_cannot_65 : decode cX9_cannot 65 = .ok (.getfield 69, 3) := by decide +kernel
theorem dX9_cannot_68 : decode cX9_cannot 68 = .ok (.iload_n 1, 1) := by decide +kernel
theorem dX9_cannot_69 : decode cX9_cannot 69 = .ok (.iaload, 1) := by decide +kernel
theorem dX9_cannot_70 : decode cX9_cannot 70 = .ok (.tableswitch 292 102 120 #[274, 292, 292, 292, 292, 292, 175, 242, 292, 292, 133, 292, 292, 90, 292, 115, 292, 155, 224], 90) := by decide +kernel
theorem dX9_cannot_160 : decode cX9_cannot 160 = .ok (.aload_n 0, 1) := by decide +kernel
theorem dX9_cannot_161 : decode cX9_cannot 161 = .ok (.iload 4, 2) := by decide +kernel
theorem dX9_cannot_163 : decode cX9_cannot 163 = .ok (.iload 5, 2) := by decide +kernel
theorem dX9_cannot_165 : decode cX9_cannot 165 = .ok (.invokevirtual 140, 3) := by decide +kernel
theorem dX9_cannot_168 : decode cX9_cannot 168 = .ok (.ifCond .eq 5, 3) := by decide +kernel
theorem dX9_cannot_171 : decode cX9_cannot 171 = .ok (.iconst 1, 1) := by decide +kernel
theorem dX9_cannot_172 : decode cX9_cannot 172 = .ok (.ireturn, 1) := by decide +kernel
theorem dX9_cannot_173 : decode cX9_cannot 173 = .ok (.aload_n 0, 1) := by decide +kernel
theorem dX9_cannot_174 : decode cX9_cannot 174 = .ok (.iload_n 3, 1) := by decide +kernel
theorem dX9_cannot_175 : decode cX9_cannot 175 = .ok (.iload 4, 2) := by decide +kernel
theorem dX9_cannot_177 : decode cX9_cannot 177 = .ok (.iload 5, 2) := by decide +kernel
theorem dX9_cannot_179 : decode cX9_cannot 179 = .ok (.invokevirtual 146, 3) := by decide +kernel
theorem dX9_cannot_182 : decode cX9_cannot 182 = .ok (.istore_n 2, 1) := by decide +kernel
theorem dX9_cannot_183 : decode cX9_cannot 183 = .ok (.iconst 0, 1) := by decide +kernel
theorem dX9_cannot_184 : decode cX9_cannot 184 = .ok (.ireturn, 1) := by decide +kernel
theorem dX9_cannot_185 : decode cX9_cannot 185 = .ok (.aload_n 0, 1) := by decide +kernel
theorem dX9_cannot_186 : decode cX9_cannot 186 = .ok (.iload_n 3, 1) := by decide +kernel
theorem dX9_cannot_187 : decode cX9_cannot 187 = .ok (.invokevirtual 153, 3) := by decide +kernel
theorem dX9_cannot_190 : decode cX9_cannot 190 = .ok (.ifCond .eq 5, 3) := by decide +kernel
theorem dX9_cannot_193 : decode cX9_cannot 193 = .ok (.iconst 1, 1) := by decide +kernel
theorem dX9_cannot_194 : decode cX9_cannot 194 = .ok (.ireturn, 1) := by decide +kernel
theorem dX9_cannot_195 : decode cX9_cannot 195 = .ok (.aload_n 0, 1) := by decide +kernel
theorem dX9_cannot_196 : decode cX9_cannot 196 = .ok (.iload_n 3, 1) := by decide +kernel
theorem dX9_cannot_197 : decode cX9_cannot 197 = .ok (.invokevirtual 156, 3) := by decide +kernel
theorem dX9_cannot_200 : decode cX9_cannot 200 = .ok (.istore_n 2, 1) := by decide +kernel
theorem dX9_cannot_201 : decode cX9_cannot 201 = .ok (.iconst 0, 1) := by decide +kernel
theorem dX9_cannot_202 : decode cX9_cannot 202 = .ok (.ireturn, 1) := by decide +kernel
theorem dX9_cannot_203 : decode cX9_cannot 203 = .ok (.aload_n 0, 1) := by decide +kernel
theorem dX9_cannot_204 : decode cX9_cannot 204 = .ok (.iload_n 3, 1) := by decide +kernel
theorem dX9_cannot_205 : decode cX9_cannot 205 = .ok (.iload 4, 2) := by decide +kernel
theorem dX9_cannot_207 : decode cX9_cannot 207 = .ok (.invokevirtual 162, 3) := by decide +kernel
theorem dX9_cannot_210 : decode cX9_cannot 210 = .ok (.ifCond .eq 5, 3) := by decide +kernel
theorem dX9_cannot_213 : decode cX9_cannot 213 = .ok (.iconst 1, 1) := by decide +kernel
theorem dX9_cannot_214 : decode cX9_cannot 214 = .ok (.ireturn, 1) := by decide +kernel
theorem dX9_cannot_215 : decode cX9_cannot 215 = .ok (.aload_n 0, 1) := by decide +kernel
theorem dX9_cannot_216 : decode cX9_cannot 216 = .ok (.iload_n 3, 1) := by decide +kernel
theorem dX9_cannot_217 : decode cX9_cannot 217 = .ok (.iload 4, 2) := by decide +kernel
theorem dX9_cannot_219 : decode cX9_cannot 219 = .ok (.invokevirtual 165, 3) := by decide +kernel
theorem dX9_cannot_222 : decode cX9_cannot 222 = .ok (.istore_n 2, 1) := by decide +kernel
theorem dX9_cannot_223 : decode cX9_cannot 223 = .ok (.iconst 0, 1) := by decide +kernel
theorem dX9_cannot_224 : decode cX9_cannot 224 = .ok (.ireturn, 1) := by decide +kernel
theorem dX9_cannot_225 : decode cX9_cannot 225 = .ok (.aload_n 0, 1) := by decide +kernel
theorem dX9_cannot_226 : decode cX9_cannot 226 = .ok (.iload_n 3, 1) := by decide +kernel
theorem dX9_cannot_227 : decode cX9_cannot 227 = .ok (.iload_n 3, 1) := by decide +kernel
theorem dX9_cannot_228 : decode cX9_cannot 228 = .ok (.iconst 1, 1) := by decide +kernel
theorem dX9_cannot_229 : decode cX9_cannot 229 = .ok (.invokevirtual 196, 3) := by decide +kernel
theorem dX9_cannot_232 : decode cX9_cannot 232 = .ok (.ifCond .eq 5, 3) := by decide +kernel
theorem dX9_cannot_235 : decode cX9_cannot 235 = .ok (.iconst 1, 1) := by decide +kernel
theorem dX9_cannot_236 : decode cX9_cannot 236 = .ok (.ireturn, 1) := by decide +kernel
theorem dX9_cannot_237 : decode cX9_cannot 237 = .ok (.aload_n 0, 1) := by decide +kernel
theorem dX9_cannot_238 : decode cX9_cannot 238 = .ok (.iload_n 3, 1) := by decide +kernel
theorem dX9_cannot_239 : decode cX9_cannot 239 = .ok (.invokevirtual 199, 3) := by decide +kernel
theorem dX9_cannot_242 : decode cX9_cannot 242 = .ok (.istore_n 2, 1) := by decide +kernel
theorem dX9_cannot_243 : decode cX9_cannot 243 = .ok (.iconst 0, 1) := by decide +kernel
theorem dX9_cannot_244 : decode cX9_cannot 244 = .ok (.ireturn, 1) := by decide +kernel
theorem dX9_cannot_245 : decode cX9_cannot 245 = .ok (.aload_n 0, 1) := by decide +kernel
theorem dX9_cannot_246 : decode cX9_cannot 246 = .ok (.iload 4, 2) := by decide +kernel
theorem dX9_cannot_248 : decode cX9_cannot 248 = .ok (.invokestatic 133, 3) := by decide +kernel
theorem dX9_cannot_251 : decode cX9_cannot 251 = .ok (.ifCond .eq 13, 3) := by decide +kernel
theorem dX9_cannot_254 : decode cX9_cannot 254 = .ok (.iload_n 3, 1) := by decide +kernel
theorem dX9_cannot_255 : decode cX9_cannot 255 = .ok (.iload 4, 2) := by decide +kernel
theorem dX9_cannot_257 : decode cX9_cannot 257 = .ok (.if_icmp .eq 7, 3) := by decide +kernel
theorem dX9_cannot_260 : decode cX9_cannot 260 = .ok (.iconst 1, 1) := by decide +kernel
theorem dX9_cannot_261 : decode cX9_cannot 261 = .ok (.goto 4, 3) := by decide +kernel
theorem dX9_cannot_264 : decode cX9_cannot 264 = .ok (.iconst 0, 1) := by decide +kernel
theorem dX9_cannot_265 : decode cX9_cannot 265 = .ok (.invokevirtual 309, 3) := by decide +kernel
theorem dX9_cannot_268 : decode cX9_cannot 268 = .ok (.ifCond .ne 14, 3) := by decide +kernel
theorem dX9_cannot_271 : decode cX9_cannot 271 = .ok (.aload_n 0, 1) := by decide +kernel
theorem dX9_cannot_272 : decode cX9_cannot 272 = .ok (.iload_n 3, 1) := by decide +kernel
theorem dX9_cannot_273 : decode cX9_cannot 273 = .ok (.iload 4, 2) := by decide +kernel
theorem dX9_cannot_275 : decode cX9_cannot 275 = .ok (.iconst 2, 1) := by decide +kernel
theorem dX9_cannot_276 : decode cX9_cannot 276 = .ok (.invokevirtual 196, 3) := by decide +kernel
theorem dX9_cannot_279 : decode cX9_cannot 279 = .ok (.ifCond .eq 5, 3) := by decide +kernel
theorem dX9_cannot_282 : decode cX9_cannot 282 = .ok (.iconst 1, 1) := by decide +kernel
theorem dX9_cannot_283 : decode cX9_cannot 283 = .ok (.ireturn, 1) := by decide +kernel
theorem dX9_cannot_284 : decode cX9_cannot 284 = .ok (.aload_n 0, 1) := by decide +kernel
theorem dX9_cannot_285 : decode cX9_cannot 285 = .ok (.iload_n 3, 1) := by decide +kernel
theorem dX9_cannot_286 : decode cX9_cannot 286 = .ok (.iload 4, 2) := by decide +kernel
theorem dX9_cannot_288 : decode cX9_cannot 288 = .ok (.invokevirtual 202, 3) := by decide +kernel
theorem dX9_cannot_291 : decode cX9_cannot 291 = .ok (.istore_n 2, 1) := by decide +kernel
theorem dX9_cannot_292 : decode cX9_cannot 292 = .ok (.iconst 0, 1) := by decide +kernel
theorem dX9_cannot_293 : decode cX9_cannot 293 = .ok (.ireturn, 1) := by decide +kernel
theorem dX9_cannot_294 : decode cX9_cannot 294 = .ok (.aload_n 0, 1) := by decide +kernel
theorem dX9_cannot_295 : decode cX9_cannot 295 = .ok (.iload_n 3, 1) := by decide +kernel
theorem dX9_cannot_296 : decode cX9_cannot 296 = .ok (.invokevirtual 211, 3) := by decide +kernel
theorem dX9_cannot_299 : decode cX9_cannot 299 = .ok (.ifCond .eq 5, 3) := by decide +kernel
theorem dX9_cannot_302 : decode cX9_cannot 302 = .ok (.iconst 1, 1) := by decide +kernel
theorem dX9_cannot_303 : decode cX9_cannot 303 = .ok (.ireturn, 1) := by decide +kernel
theorem dX9_cannot_304 : decode cX9_cannot 304 = .ok (.aload_n 0, 1) := by decide +kernel
theorem dX9_cannot_305 : decode cX9_cannot 305 = .ok (.iload_n 3, 1) := by decide +kernel
theorem dX9_cannot_306 : decode cX9_cannot 306 = .ok (.invokevirtual 214, 3) := by decide +kernel
theorem dX9_cannot_309 : decode cX9_cannot 309 = .ok (.istore_n 2, 1) := by decide +kernel
theorem dX9_cannot_310 : decode cX9_cannot 310 = .ok (.iconst 0, 1) := by decide +kernel
theorem dX9_cannot_311 : decode cX9_cannot 311 = .ok (.ireturn, 1) := by decide +kernel
theorem dX9_cannot_312 : decode cX9_cannot 312 = .ok (.aload_n 0, 1) := by decide +kernel
theorem dX9_cannot_313 : decode cX9_cannot 313 = .ok (.iload 4, 2) := by decide +kernel
theorem dX9_cannot_315 : decode cX9_cannot 315 = .ok (.invokestatic 220, 3) := by decide +kernel
theorem dX9_cannot_318 : decode cX9_cannot 318 = .ok (.invokevirtual 309, 3) := by decide +kernel
theorem dX9_cannot_321 : decode cX9_cannot 321 = .ok (.ifCond .ne 11, 3) := by decide +kernel
theorem dX9_cannot_324 : decode cX9_cannot 324 = .ok (.aload_n 0, 1) := by decide +kernel
theorem dX9_cannot_325 : decode cX9_cannot 325 = .ok (.iload_n 3, 1) := by decide +kernel
theorem dX9_cannot_326 : decode cX9_cannot 326 = .ok (.invokevirtual 223, 3) := by decide +kernel
theorem dX9_cannot_329 : decode cX9_cannot 329 = .ok (.ifCond .eq 5, 3) := by decide +kernel
theorem dX9_cannot_332 : decode cX9_cannot 332 = .ok (.iconst 1, 1) := by decide +kernel
theorem dX9_cannot_333 : decode cX9_cannot 333 = .ok (.ireturn, 1) := by decide +kernel
theorem dX9_cannot_334 : decode cX9_cannot 334 = .ok (.aload_n 0, 1) := by decide +kernel
theorem dX9_cannot_335 : decode cX9_cannot 335 = .ok (.iload_n 3, 1) := by decide +kernel
theorem dX9_cannot_336 : decode cX9_cannot 336 = .ok (.iload 4, 2) := by decide +kernel
theorem dX9_cannot_338 : decode cX9_cannot 338 = .ok (.invokevirtual 226, 3) := by decide +kernel
theorem dX9_cannot_341 : decode cX9_cannot 341 = .ok (.istore_n 2, 1) := by decide +kernel
theorem dX9_cannot_342 : decode cX9_cannot 342 = .ok (.iconst 0, 1) := by decide +kernel
theorem dX9_cannot_343 : decode cX9_cannot 343 = .ok (.ireturn, 1) := by decide +kernel
theorem dX9_cannot_344 : decode cX9_cannot 344 = .ok (.aload_n 0, 1) := by decide +kernel
theorem dX9_cannot_345 : decode cX9_cannot 345 = .ok (.iload_n 3, 1) := by decide +kernel
theorem dX9_cannot_346 : decode cX9_cannot 346 = .ok (.invokevirtual 229, 3) := by decide +kernel
theorem dX9_cannot_349 : decode cX9_cannot 349 = .ok (.ifCond .eq 5, 3) := by decide +kernel
theorem dX9_cannot_352 : decode cX9_cannot 352 = .ok (.iconst 1, 1) := by decide +kernel
theorem dX9_cannot_353 : decode cX9_cannot 353 = .ok (.ireturn, 1) := by decide +kernel
theorem dX9_cannot_354 : decode cX9_cannot 354 = .ok (.aload_n 0, 1) := by decide +kernel
theorem dX9_cannot_355 : decode cX9_cannot 355 = .ok (.iload_n 3, 1) := by decide +kernel
theorem dX9_cannot_356 : decode cX9_cannot 356 = .ok (.invokevirtual 232, 3) := by decide +kernel
theorem dX9_cannot_359 : decode cX9_cannot 359 = .ok (.istore_n 2, 1) := by decide +kernel
theorem dX9_cannot_360 : decode cX9_cannot 360 = .ok (.iconst 0, 1) := by decide +kernel
theorem dX9_cannot_361 : decode cX9_cannot 361 = .ok (.ireturn, 1) := by decide +kernel
theorem dX9_cannot_362 : decode cX9_cannot 362 = .ok (.aload_n 0, 1) := by decide +kernel
theorem dX9_cannot_363 : decode cX9_cannot 363 = .ok (.invokevirtual 247, 3) := by decide +kernel
theorem dX9_cannot_366 : decode cX9_cannot 366 = .ok (.istore_n 2, 1) := by decide +kernel
theorem dX9_cannot_367 : decode cX9_cannot 367 = .ok (.iconst 0, 1) := by decide +kernel
theorem dX9_cannot_368 : decode cX9_cannot 368 = .ok (.ireturn, 1) := by decide +kernel
theorem dX9_read_0 : decode cX9_read 0 = .ok (.aload_n 0, 1) := by decide +kernel
theorem dX9_read_1 : decode cX9_read 1 = .ok (.invokevirtual 130, 3) := by decide +kernel
theorem dX9_read_4 : decode cX9_read 4 = .ok (.aload_n 0, 1) := by decide +kernel
theorem dX9_read_5 : decode cX9_read 5 = .ok (.invokevirtual 313, 3) := by decide +kernel
theorem dX9_read_8 : decode cX9_read 8 = .ok (.aload_n 0, 1) := by decide +kernel
theorem dX9_read_9 : decode cX9_read 9 = .ok (.getfield 87, 3) := by decide +kernel
theorem dX9_read_12 : decode cX9_read 12 = .ok (.ifCond .eq 17, 3) := by decide +kernel
theorem dX9_read_15 : decode cX9_read 15 = .ok (.aload_n 0, 1) := by decide +kernel
theorem dX9_read_16 : decode cX9_read 16 = .ok (.aload_n 0, 1) := by decide +kernel
theorem dX9_read_17 : decode cX9_read 17 = .ok (.getfield 81, 3) := by decide +kernel
theorem dX9_read_20 : decode cX9_read 20 = .ok (.putfield 41, 3) := by decide +kernel
theorem dX9_read_23 : decode cX9_read 23 = .ok (.aload_n 0, 1) := by decide +kernel
theorem dX9_read_24 : decode cX9_read 24 = .ok (.iconst 1, 1) := by decide +kernel
theorem dX9_read_25 : decode cX9_read 25 = .ok (.invokevirtual 96, 3) := by decide +kernel
theorem dX9_read_28 : decode cX9_read 28 = .ok (.ireturn, 1) := by decide +kernel
theorem dX9_read_29 : decode cX9_read 29 = .ok (.iconst 0, 1) := by decide +kernel
theorem dX9_read_30 : decode cX9_read 30 = .ok (.istore_n 1, 1) := by decide +kernel
theorem dX9_read_31 : decode cX9_read 31 = .ok (.iload_n 1, 1) := by decide +kernel
theorem dX9_read_32 : decode cX9_read 32 = .ok (.aload_n 0, 1) := by decide +kernel
theorem dX9_read_33 : decode cX9_read 33 = .ok (.getfield 84, 3) := by decide +kernel
theorem dX9_read_36 : decode cX9_read 36 = .ok (.if_icmp .ge 59, 3) := by decide +kernel
theorem dX9_read_39 : decode cX9_read 39 = .ok (.aload_n 0, 1) := by decide +kernel
theorem dX9_read_40 : decode cX9_read 40 = .ok (.iload_n 1, 1) := by decide +kernel
theorem dX9_read_41 : decode cX9_read 41 = .ok (.invokevirtual 316, 3) := by decide +kernel
theorem dX9_read_44 : decode cX9_read 44 = .ok (.ifCond .ne 6, 3) := by decide +kernel
theorem dX9_read_47 : decode cX9_read 47 = .ok (.goto 42, 3) := by decide +kernel
theorem dX9_read_50 : decode cX9_read 50 = .ok (.aload_n 0, 1) := by decide +kernel
theorem dX9_read_51 : decode cX9_read 51 = .ok (.getfield 13, 3) := by decide +kernel
theorem dX9_read_54 : decode cX9_read 54 = .ok (.iconst 0, 1) := by decide +kernel
theorem dX9_read_55 : decode cX9_read 55 = .ok (.aload_n 0, 1) := by decide +kernel
theorem dX9_read_56 : decode cX9_read 56 = .ok (.getfield 7, 3) := by decide +kernel
theorem dX9_read_59 : decode cX9_read 59 = .ok (.iconst 0, 1) := by decide +kernel
theorem dX9_read_60 : decode cX9_read 60 = .ok (.invokestatic 100, 3) := by decide +kernel
theorem dX9_read_63 : decode cX9_read 63 = .ok (.aload_n 0, 1) := by decide +kernel
theorem dX9_read_64 : decode cX9_read 64 = .ok (.iload_n 1, 1) := by decide +kernel
theorem dX9_read_65 : decode cX9_read 65 = .ok (.putfield 44, 3) := by decide +kernel
theorem dX9_read_68 : decode cX9_read 68 = .ok (.aload_n 0, 1) := by decide +kernel
theorem dX9_read_69 : decode cX9_read 69 = .ok (.getfield 90, 3) := by decide +kernel
theorem dX9_read_72 : decode cX9_read 72 = .ok (.ifCond .eq 11, 3) := by decide +kernel
theorem dX9_read_75 : decode cX9_read 75 = .ok (.aload_n 0, 1) := by decide +kernel
theorem dX9_read_76 : decode cX9_read 76 = .ok (.iconst 2, 1) := by decide +kernel
theorem dX9_read_77 : decode cX9_read 77 = .ok (.invokevirtual 96, 3) := by decide +kernel
theorem dX9_read_80 : decode cX9_read 80 = .ok (.goto 8, 3) := by decide +kernel
theorem dX9_read_83 : decode cX9_read 83 = .ok (.aload_n 0, 1) := by decide +kernel
theorem dX9_read_84 : decode cX9_read 84 = .ok (.iconst 2, 1) := by decide +kernel
theorem dX9_read_85 : decode cX9_read 85 = .ok (.invokevirtual 143, 3) := by decide +kernel
theorem dX9_read_88 : decode cX9_read 88 = .ok (.ireturn, 1) := by decide +kernel
theorem dX9_read_89 : decode cX9_read 89 = .ok (.iinc 1 1, 3) := by decide +kernel
theorem dX9_read_92 : decode cX9_read 92 = .ok (.goto (-61), 3) := by decide +kernel
theorem dX9_read_95 : decode cX9_read 95 = .ok (.aload_n 0, 1) := by decide +kernel
theorem dX9_read_96 : decode cX9_read 96 = .ok (.aload_n 0, 1) := by decide +kernel
theorem dX9_read_97 : decode cX9_read 97 = .ok (.getfield 84, 3) := by decide +kernel
theorem dX9_read_100 : decode cX9_read 100 = .ok (.invokevirtual 150, 3) := by decide +kernel
theorem dX9_read_103 : decode cX9_read 103 = .ok (.ireturn, 1) := by decide +kernel
theorem dX9_errorPosition_0 : decode cX9_errorPosition 0 = .ok (.aload_n 0, 1) := by decide +kernel
theorem dX9_errorPosition_1 : decode cX9_errorPosition 1 = .ok (.iconst 0, 1) := by decide +kernel
theorem dX9_errorPosition_2 : decode cX9_errorPosition 2 = .ok (.putfield 22, 3) := by decide +kernel
theorem dX9_errorPosition_5 : decode cX9_errorPosition 5 = .ok (.aload_n 0, 1) := by decide +kernel
theorem dX9_errorPosition_6 : decode cX9_errorPosition 6 = .ok (.getfield 41, 3) := by decide +kernel
theorem dX9_errorPosition_9 : decode cX9_errorPosition 9 = .ok (.ifCond .ge 11, 3) := by decide +kernel
theorem dX9_errorPosition_12 : decode cX9_errorPosition 12 = .ok (.aload_n 0, 1) := by decide +kernel
theorem dX9_errorPosition_13 : decode cX9_errorPosition 13 = .ok (.iconst 1, 1) := by decide +kernel
theorem dX9_errorPosition_14 : decode cX9_errorPosition 14 = .ok (.invokevirtual 96, 3) := by decide +kernel
theorem dX9_errorPosition_17 : decode cX9_errorPosition 17 = .ok (.goto 7, 3) := by decide +kernel
theorem dX9_errorPosition_20 : decode cX9_errorPosition 20 = .ok (.aload_n 0, 1) := by decide +kernel
theorem dX9_errorPosition_21 : decode cX9_errorPosition 21 = .ok (.getfield 41, 3) := by decide +kernel
theorem dX9_errorPosition_24 : decode cX9_errorPosition 24 = .ok (.ireturn, 1) := by decide +kernel
theorem dX9_refusedItem_0 : decode cX9_refusedItem 0 = .ok (.aload_n 0, 1) := by decide +kernel
theorem dX9_refusedItem_1 : decode cX9_refusedItem 1 = .ok (.iconst 0, 1) := by decide +kernel
theorem dX9_refusedItem_2 : decode cX9_refusedItem 2 = .ok (.putfield 22, 3) := by decide +kernel
theorem dX9_refusedItem_5 : decode cX9_refusedItem 5 = .ok (.aload_n 0, 1) := by decide +kernel
theorem dX9_refusedItem_6 : decode cX9_refusedItem 6 = .ok (.getfield 44, 3) := by decide +kernel
theorem dX9_refusedItem_9 : decode cX9_refusedItem 9 = .ok (.ifCond .ge 11, 3) := by decide +kernel
theorem dX9_refusedItem_12 : decode cX9_refusedItem 12 = .ok (.aload_n 0, 1) := by decide +kernel
theorem dX9_refusedItem_13 : decode cX9_refusedItem 13 = .ok (.iconst 1, 1) := by decide +kernel
theorem dX9_refusedItem_14 : decode cX9_refusedItem 14 = .ok (.invokevirtual 96, 3) := by decide +kernel
theorem dX9_refusedItem_17 : decode cX9_refusedItem 17 = .ok (.goto 7, 3) := by decide +kernel
theorem dX9_refusedItem_20 : decode cX9_refusedItem 20 = .ok (.aload_n 0, 1) := by decide +kernel
theorem dX9_refusedItem_21 : decode cX9_refusedItem 21 = .ok (.getfield 44, 3) := by decide +kernel
theorem dX9_refusedItem_24 : decode cX9_refusedItem 24 = .ok (.ireturn, 1) := by decide +kernel
theorem dX9_undo_0 : decode cX9_undo 0 = .ok (.aload_n 0, 1) := by decide +kernel
theorem dX9_undo_1 : decode cX9_undo 1 = .ok (.iconst 0, 1) := by decide +kernel
theorem dX9_undo_2 : decode cX9_undo 2 = .ok (.putfield 22, 3) := by decide +kernel
theorem dX9_undo_5 : decode cX9_undo 5 = .ok (.aload_n 0, 1) := by decide +kernel
theorem dX9_undo_6 : decode cX9_undo 6 = .ok (.getfield 26, 3) := by decide +kernel
theorem dX9_undo_9 : decode cX9_undo 9 = .ok (.ifCond .ne 9, 3) := by decide +kernel
theorem dX9_undo_12 : decode cX9_undo 12 = .ok (.aload_n 0, 1) := by decide +kernel
theorem dX9_undo_13 : decode cX9_undo 13 = .ok (.iconst 1, 1) := by decide +kernel
theorem dX9_undo_14 : decode cX9_undo 14 = .ok (.invokevirtual 96, 3) := by decide +kernel
theorem dX9_undo_17 : decode cX9_undo 17 = .ok (.ireturn, 1) := by decide +kernel
theorem dX9_undo_18 : decode cX9_undo 18 = .ok (.aload_n 0, 1) := by decide +kernel
theorem dX9_undo_19 : decode cX9_undo 19 = .ok (.dup, 1) := by decide +kernel
theorem dX9_undo_20 : decode cX9_undo 20 = .ok (.getfield 26, 3) := by decide +kernel
theorem dX9_undo_23 : decode cX9_undo 23 = .ok (.iconst 1, 1) := by decide +kernel
theorem dX9_undo_24 : decode cX9_undo 24 = .ok (.isub, 1) := by decide +kernel
theorem dX9_undo_25 : decode cX9_undo 25 = .ok (.putfield 26, 3) := by decide +kernel
theorem dX9_undo_28 : decode cX9_undo 28 = .ok (.aload_n 0, 1) := by decide +kernel
theorem dX9_undo_29 : decode cX9_undo 29 = .ok (.getfield 19, 3) := by decide +kernel
theorem dX9_undo_32 : decode cX9_undo 32 = .ok (.sipush 640, 3) := by decide +kernel
theorem dX9_undo_35 : decode cX9_undo 35 = .ok (.aload_n 0, 1) := by decide +kernel
theorem dX9_undo_36 : decode cX9_undo 36 = .ok (.getfield 26, 3) := by decide +kernel
theorem dX9_undo_39 : decode cX9_undo 39 = .ok (.imul, 1) := by decide +kernel
theorem dX9_undo_40 : decode cX9_undo 40 = .ok (.aload_n 0, 1) := by decide +kernel
theorem dX9_undo_41 : decode cX9_undo 41 = .ok (.getfield 7, 3) := by decide +kernel
theorem dX9_undo_44 : decode cX9_undo 44 = .ok (.iconst 0, 1) := by decide +kernel
theorem dX9_undo_45 : decode cX9_undo 45 = .ok (.invokestatic 100, 3) := by decide +kernel
theorem dX9_undo_48 : decode cX9_undo 48 = .ok (.aload_n 0, 1) := by decide +kernel
theorem dX9_undo_49 : decode cX9_undo 49 = .ok (.getfield 26, 3) := by decide +kernel
theorem dX9_undo_52 : decode cX9_undo 52 = .ok (.ireturn, 1) := by decide +kernel
theorem dX9_snapshot_0 : decode cX9_snapshot 0 = .ok (.aload_n 0, 1) := by decide +kernel
theorem dX9_snapshot_1 : decode cX9_snapshot 1 = .ok (.iconst 0, 1) := by decide +kernel
theorem dX9_snapshot_2 : decode cX9_snapshot 2 = .ok (.putfield 22, 3) := by decide +kernel
theorem dX9_snapshot_5 : decode cX9_snapshot 5 = .ok (.aload_n 0, 1) := by decide +kernel
theorem dX9_snapshot_6 : decode cX9_snapshot 6 = .ok (.getfield 7, 3) := by decide +kernel
theorem dX9_snapshot_9 : decode cX9_snapshot 9 = .ok (.iconst 0, 1) := by decide +kernel
theorem dX9_snapshot_10 : decode cX9_snapshot 10 = .ok (.aload_n 0, 1) := by decide +kernel
theorem dX9_snapshot_11 : decode cX9_snapshot 11 = .ok (.getfield 16, 3) := by decide +kernel
theorem dX9_snapshot_14 : decode cX9_snapshot 14 = .ok (.iconst 0, 1) := by decide +kernel
theorem dX9_snapshot_15 : decode cX9_snapshot 15 = .ok (.invokestatic 100, 3) := by decide +kernel
theorem dX9_snapshot_18 : decode cX9_snapshot 18 = .ok (.aload_n 0, 1) := by decide +kernel
theorem dX9_snapshot_19 : decode cX9_snapshot 19 = .ok (.iconst 1, 1) := by decide +kernel
theorem dX9_snapshot_20 : decode cX9_snapshot 20 = .ok (.putfield 47, 3) := by decide +kernel
theorem dX9_snapshot_23 : decode cX9_snapshot 23 = .ok (.aload_n 0, 1) := by decide +kernel
theorem dX9_snapshot_24 : decode cX9_snapshot 24 = .ok (.invokevirtual 112, 3) := by decide +kernel
theorem dX9_snapshot_27 : decode cX9_snapshot 27 = .ok (.ireturn, 1) := by decide +kernel
theorem dX9_restore_0 : decode cX9_restore 0 = .ok (.aload_n 0, 1) := by decide +kernel
theorem dX9_restore_1 : decode cX9_restore 1 = .ok (.iconst 0, 1) := by decide +kernel
theorem dX9_restore_2 : decode cX9_restore 2 = .ok (.putfield 22, 3) := by decide +kernel
theorem dX9_restore_5 : decode cX9_restore 5 = .ok (.aload_n 0, 1) := by decide +kernel
theorem dX9_restore_6 : decode cX9_restore 6 = .ok (.getfield 47, 3) := by decide +kernel
theorem dX9_restore_9 : decode cX9_restore 9 = .ok (.ifCond .ne 9, 3) := by decide +kernel
theorem dX9_restore_12 : decode cX9_restore 12 = .ok (.aload_n 0, 1) := by decide +kernel
theorem dX9_restore_13 : decode cX9_restore 13 = .ok (.iconst 1, 1) := by decide +kernel
theorem dX9_restore_14 : decode cX9_restore 14 = .ok (.invokevirtual 96, 3) := by decide +kernel
theorem dX9_restore_17 : decode cX9_restore 17 = .ok (.ireturn, 1) := by decide +kernel
theorem dX9_restore_18 : decode cX9_restore 18 = .ok (.aload_n 0, 1) := by decide +kernel
theorem dX9_restore_19 : decode cX9_restore 19 = .ok (.getfield 16, 3) := by decide +kernel
theorem dX9_restore_22 : decode cX9_restore 22 = .ok (.iconst 0, 1) := by decide +kernel
theorem dX9_restore_23 : decode cX9_restore 23 = .ok (.aload_n 0, 1) := by decide +kernel
theorem dX9_restore_24 : decode cX9_restore 24 = .ok (.getfield 7, 3) := by decide +kernel
theorem dX9_restore_27 : decode cX9_restore 27 = .ok (.iconst 0, 1) := by decide +kernel
theorem dX9_restore_28 : decode cX9_restore 28 = .ok (.invokestatic 100, 3) := by decide +kernel
theorem dX9_restore_31 : decode cX9_restore 31 = .ok (.aload_n 0, 1) := by decide +kernel
theorem dX9_restore_32 : decode cX9_restore 32 = .ok (.iconst 0, 1) := by decide +kernel
theorem dX9_restore_33 : decode cX9_restore 33 = .ok (.putfield 26, 3) := by decide +kernel
theorem dX9_restore_36 : decode cX9_restore 36 = .ok (.aload_n 0, 1) := by decide +kernel
theorem dX9_restore_37 : decode cX9_restore 37 = .ok (.invokevirtual 112, 3) := by decide +kernel
theorem dX9_restore_40 : decode cX9_restore 40 = .ok (.ireturn, 1) := by decide +kernel
