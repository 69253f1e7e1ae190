theorem dX6_init_47 : decode cX6_init 47 = .ok (.putfield 25, 3) := by decide +kernel
theorem dX6_init_50 : decode cX6_init 50 = .ok (.aload_n 0, 1) := by decide +kernel
theorem dX6_init_51 : decode cX6_init 51 = .ok (.bipush 60, 2) := by decide +kernel
theorem dX6_init_53 : decode cX6_init 53 = .ok (.newarray .int, 2) := by decide +kernel
theorem dX6_init_55 : decode cX6_init 55 = .ok (.putfield 28, 3) := by decide +kernel
theorem dX6_init_58 : decode cX6_init 58 = .ok (.aload_n 0, 1) := by decide +kernel
theorem dX6_init_59 : decode cX6_init 59 = .ok (.bipush 60, 2) := by decide +kernel
theorem dX6_init_61 : decode cX6_init 61 = .ok (.newarray .int, 2) := by decide +kernel
theorem dX6_init_63 : decode cX6_init 63 = .ok (.putfield 31, 3) := by decide +kernel
theorem dX6_init_66 : decode cX6_init 66 = .ok (.aload_n 0, 1) := by decide +kernel
theorem dX6_init_67 : decode cX6_init 67 = .ok (.bipush 60, 2) := by decide +kernel
theorem dX6_init_69 : decode cX6_init 69 = .ok (.newarray .int, 2) := by decide +kernel
theorem dX6_init_71 : decode cX6_init 71 = .ok (.putfield 34, 3) := by decide +kernel
theorem dX6_init_74 : decode cX6_init 74 = .ok (.aload_n 0, 1) := by decide +kernel
theorem dX6_init_75 : decode cX6_init 75 = .ok (.bipush 60, 2) := by decide +kernel
theorem dX6_init_77 : decode cX6_init 77 = .ok (.newarray .int, 2) := by decide +kernel
theorem dX6_init_79 : decode cX6_init 79 = .ok (.putfield 37, 3) := by decide +kernel
theorem dX6_init_82 : decode cX6_init 82 = .ok (.aload_n 0, 1) := by decide +kernel
theorem dX6_init_83 : decode cX6_init 83 = .ok (.bipush 60, 2) := by decide +kernel
theorem dX6_init_85 : decode cX6_init 85 = .ok (.newarray .int, 2) := by decide +kernel
theorem dX6_init_87 : decode cX6_init 87 = .ok (.putfield 40, 3) := by decide +kernel
theorem dX6_init_90 : decode cX6_init 90 = .ok (.aload_n 0, 1) := by decide +kernel
theorem dX6_init_91 : decode cX6_init 91 = .ok (.bipush 60, 2) := by decide +kernel
theorem dX6_init_93 : decode cX6_init 93 = .ok (.newarray .int, 2) := by decide +kernel
theorem dX6_init_95 : decode cX6_init 95 = .ok (.putfield 43, 3) := by decide +kernel
theorem dX6_init_98 : decode cX6_init 98 = .ok (.aload_n 0, 1) := by decide +kernel
theorem dX6_init_99 : decode cX6_init 99 = .ok (.iconst 2, 1) := by decide +kernel
theorem dX6_init_100 : decode cX6_init 100 = .ok (.putfield 46, 3) := by decide +kernel
theorem dX6_init_103 : decode cX6_init 103 = .ok (.aload_n 0, 1) := by decide +kernel
theorem dX6_init_104 : decode cX6_init 104 = .ok (.bipush 6, 2) := by decide +kernel
theorem dX6_init_106 : decode cX6_init 106 = .ok (.putfield 50, 3) := by decide +kernel
theorem dX6_init_109 : decode cX6_init 109 = .ok (.aload_n 0, 1) := by decide +kernel
theorem dX6_init_110 : decode cX6_init 110 = .ok (.bipush 60, 2) := by decide +kernel
theorem dX6_init_112 : decode cX6_init 112 = .ok (.newarray .int, 2) := by decide +kernel
theorem dX6_init_114 : decode cX6_init 114 = .ok (.putfield 53, 3) := by decide +kernel
theorem dX6_init_117 : decode cX6_init 117 = .ok (.aload_n 0, 1) := by decide +kernel
theorem dX6_init_118 : decode cX6_init 118 = .ok (.iconst 3, 1) := by decide +kernel
theorem dX6_init_119 : decode cX6_init 119 = .ok (.newarray .int, 2) := by decide +kernel
theorem dX6_init_121 : decode cX6_init 121 = .ok (.putfield 56, 3) := by decide +kernel
theorem dX6_init_124 : decode cX6_init 124 = .ok (.aload_n 0, 1) := by decide +kernel
theorem dX6_init_125 : decode cX6_init 125 = .ok (.bipush 60, 2) := by decide +kernel
theorem dX6_init_127 : decode cX6_init 127 = .ok (.newarray .int, 2) := by decide +kernel
theorem dX6_init_129 : decode cX6_init 129 = .ok (.putfield 59, 3) := by decide +kernel
theorem dX6_init_132 : decode cX6_init 132 = .ok (.aload_n 0, 1) := by decide +kernel
theorem dX6_init_133 : decode cX6_init 133 = .ok (.bipush 60, 2) := by decide +kernel
theorem dX6_init_135 : decode cX6_init 135 = .ok (.newarray .int, 2) := by decide +kernel
theorem dX6_init_137 : decode cX6_init 137 = .ok (.putfield 62, 3) := by decide +kernel
theorem dX6_init_140 : decode cX6_init 140 = .ok (.aload_n 0, 1) := by decide +kernel
theorem dX6_init_141 : decode cX6_init 141 = .ok (.iload_n 1, 1) := by decide +kernel
theorem dX6_init_142 : decode cX6_init 142 = .ok (.iconst 1, 1) := by decide +kernel
theorem dX6_init_143 : decode cX6_init 143 = .ok (.if_icmp .lt 13, 3) := by decide +kernel
theorem dX6_init_146 : decode cX6_init 146 = .ok (.iload_n 1, 1) := by decide +kernel
theorem dX6_init_147 : decode cX6_init 147 = .ok (.ldc 65, 2) := by decide +kernel
theorem dX6_init_149 : decode cX6_init 149 = .ok (.if_icmp .gt 7, 3) := by decide +kernel
theorem dX6_init_152 : decode cX6_init 152 = .ok (.iload_n 1, 1) := by decide +kernel
theorem dX6_init_153 : decode cX6_init 153 = .ok (.goto 5, 3) := by decide +kernel
theorem dX6_init_156 : decode cX6_init 156 = .ok (.bipush 10, 2) := by decide +kernel
theorem dX6_init_158 : decode cX6_init 158 = .ok (.putfield 66, 3) := by decide +kernel
theorem dX6_init_161 : decode cX6_init 161 = .ok (.iconst 0, 1) := by decide +kernel
theorem dX6_init_162 : decode cX6_init 162 = .ok (.istore_n 2, 1) := by decide +kernel
theorem dX6_init_163 : decode cX6_init 163 = .ok (.iload_n 2, 1) := by decide +kernel
theorem dX6_init_164 : decode cX6_init 164 = .ok (.iconst 4, 1) := by decide +kernel
theorem dX6_init_165 : decode cX6_init 165 = .ok (.if_icmp .ge 16, 3) := by decide +kernel
theorem dX6_init_168 : decode cX6_init 168 = .ok (.aload_n 0, 1) := by decide +kernel
theorem dX6_init_169 : decode cX6_init 169 = .ok (.getfield 13, 3) := by decide +kernel
theorem dX6_init_172 : decode cX6_init 172 = .ok (.iload_n 2, 1) := by decide +kernel
theorem dX6_init_173 : decode cX6_init 173 = .ok (.iconst 2, 1) := by decide +kernel
theorem dX6_init_174 : decode cX6_init 174 = .ok (.iastore, 1) := by decide +kernel
theorem dX6_init_175 : decode cX6_init 175 = .ok (.iinc 2 1, 3) := by decide +kernel
theorem dX6_init_178 : decode cX6_init 178 = .ok (.goto (-15), 3) := by decide +kernel
theorem dX6_init_181 : decode cX6_init 181 = .ok (.return_, 1) := by decide +kernel
theorem dX6_thrown_0 : decode cX6_thrown 0 = .ok (.aload_n 0, 1) := by decide +kernel
theorem dX6_thrown_1 : decode cX6_thrown 1 = .ok (.getfield 69, 3) := by decide +kernel
theorem dX6_thrown_4 : decode cX6_thrown 4 = .ok (.ireturn, 1) := by decide +kernel
theorem dX6_in_0 : decode cX6_in 0 = .ok (.iload_n 0, 1) := by decide +kernel
theorem dX6_in_1 : decode cX6_in 1 = .ok (.iload_n 1, 1) := by decide +kernel
theorem dX6_in_2 : decode cX6_in 2 = .ok (.if_icmp .lt 12, 3) := by decide +kernel
theorem dX6_in_5 : decode cX6_in 5 = .ok (.iload_n 0, 1) := by decide +kernel
theorem dX6_in_6 : decode cX6_in 6 = .ok (.iload_n 2, 1) := by decide +kernel
theorem dX6_in_7 : decode cX6_in 7 = .ok (.if_icmp .gt 7, 3) := by decide +kernel
theorem dX6_in_10 : decode cX6_in 10 = .ok (.iconst 1, 1) := by decide +kernel
theorem dX6_in_11 : decode cX6_in 11 = .ok (.goto 4, 3) := by decide +kernel
theorem dX6_in_14 : decode cX6_in 14 = .ok (.iconst 0, 1) := by decide +kernel
theorem dX6_in_15 : decode cX6_in 15 = .ok (.ireturn, 1) := by decide +kernel
set_option maxRecDepth 20000 in
theorem ggX6_isStaff_X6_in : GoodIn wsX6_isStaff wsX6_in := goodIn_r _ [4] rfl (by decide +kernel)
set_option maxRecDepth 20000 in
theorem gX6_isStaff_X6_in : GoodIn wsX6_isStaff (va_wsS RX6 72 yX6_in wsX6_in) := goodIn_app (goodIn_r _ [1, 2, 3] rfl (by decide +kernel)) ggX6_isStaff_X6_in
theorem dX6_isStaff_0 : decode cX6_isStaff 0 = .ok (.iload_n 0, 1) := by decide +kernel
theorem dX6_isStaff_1 : decode cX6_isStaff 1 = .ok (.iconst 0, 1) := by decide +kernel
theorem dX6_isStaff_2 : decode cX6_isStaff 2 = .ok (.iconst 3, 1) := by decide +kernel
theorem dX6_isStaff_3 : decode cX6_isStaff 3 = .ok (.invokestatic 72, 3) := by decide +kernel
theorem dX6_isStaff_6 : decode cX6_isStaff 6 = .ok (.ireturn, 1) := by decide +kernel
set_option maxRecDepth 20000 in
theorem ggX6_isNote_X6_in : GoodIn wsX6_isNote wsX6_in := goodIn_r _ [5] rfl (by decide +kernel)
set_option maxRecDepth 20000 in
theorem gX6_isNote_X6_in : GoodIn wsX6_isNote (va_wsS RX6 72 yX6_in wsX6_in) := goodIn_app (goodIn_r _ [2, 3, 4] rfl (by decide +kernel)) ggX6_isNote_X6_in
theorem dX6_isNote_0 : decode cX6_isNote 0 = .ok (.iload_n 1, 1) := by decide +kernel
theorem dX6_isNote_1 : decode cX6_isNote 1 = .ok (.iconst 0, 1) := by decide +kernel
theorem dX6_isNote_2 : decode cX6_isNote 2 = .ok (.aload_n 0, 1) := by decide +kernel
theorem dX6_isNote_3 : decode cX6_isNote 3 = .ok (.getfield 76, 3) := by decide +kernel
theorem dX6_isNote_6 : decode cX6_isNote 6 = .ok (.iconst 1, 1) := by decide +kernel
theorem dX6_isNote_7 : decode cX6_isNote 7 = .ok (.isub, 1) := by decide +kernel
theorem dX6_isNote_8 : decode cX6_isNote 8 = .ok (.invokestatic 72, 3) := by decide +kernel
theorem dX6_isNote_11 : decode cX6_isNote 11 = .ok (.ireturn, 1) := by decide +kernel
set_option maxRecDepth 20000 in
theorem ggX6_clef_X6_isStaff : GoodIn wsX6_clef wsX6_isStaff := goodIn_r _ [7, 8, 9, 6, 10] rfl (by decide +kernel)
set_option maxRecDepth 20000 in
theorem gX6_clef_X6_isStaff : GoodIn wsX6_clef (va_wsS RX6 79 yX6_isStaff wsX6_isStaff) := goodIn_app (goodIn_r _ [4, 5, 6] rfl (by decide +kernel)) ggX6_clef_X6_isStaff
set_option maxRecDepth 20000 in
theorem ggX6_clef_X6_in : GoodIn wsX6_clef wsX6_in := goodIn_r _ [10] rfl (by decide +kernel)
set_option maxRecDepth 20000 in
theorem gX6_clef_X6_in : GoodIn wsX6_clef (va_wsS RX6 72 yX6_in wsX6_in) := goodIn_app (goodIn_r _ [8, 9, 6] rfl (by decide +kernel)) ggX6_clef_X6_in
theorem dX6_clef_0 : decode cX6_clef 0 = .ok (.aload_n 0, 1) := by decide +kernel
theorem dX6_clef_1 : decode cX6_clef 1 = .ok (.iconst 0, 1) := by decide +kernel
theorem dX6_clef_2 : decode cX6_clef 2 = .ok (.putfield 69, 3) := by decide +kernel
theorem dX6_clef_5 : decode cX6_clef 5 = .ok (.iload_n 1, 1) := by decide +kernel
theorem dX6_clef_6 : decode cX6_clef 6 = .ok (.invokestatic 79, 3) := by decide +kernel
theorem dX6_clef_9 : decode cX6_clef 9 = .ok (.ifCond .ne 7, 3) := by decide +kernel
theorem dX6_clef_12 : decode cX6_clef 12 = .ok (.sipush (-1001), 3) := by decide +kernel
theorem dX6_clef_15 : decode cX6_clef 15 = .ok (.ireturn, 1) := by decide +kernel
theorem dX6_clef_16 : decode cX6_clef 16 = .ok (.iload_n 2, 1) := by decide +kernel
theorem dX6_clef_17 : decode cX6_clef 17 = .ok (.iconst 0, 1) := by decide +kernel
theorem dX6_clef_18 : decode cX6_clef 18 = .ok (.iconst 2, 1) := by decide +kernel
theorem dX6_clef_19 : decode cX6_clef 19 = .ok (.invokestatic 72, 3) := by decide +kernel
theorem dX6_clef_22 : decode cX6_clef 22 = .ok (.ifCond .eq 12, 3) := by decide +kernel
theorem dX6_clef_25 : decode cX6_clef 25 = .ok (.iload_n 3, 1) := by decide +kernel
theorem dX6_clef_26 : decode cX6_clef 26 = .ok (.iconst 1, 1) := by decide +kernel
theorem dX6_clef_27 : decode cX6_clef 27 = .ok (.iconst 5, 1) := by decide +kernel
theorem dX6_clef_28 : decode cX6_clef 28 = .ok (.invokestatic 72, 3) := by decide +kernel
theorem dX6_clef_31 : decode cX6_clef 31 = .ok (.ifCond .ne 7, 3) := by decide +kernel
theorem dX6_clef_34 : decode cX6_clef 34 = .ok (.sipush (-1002), 3) := by decide +kernel
theorem dX6_clef_37 : decode cX6_clef 37 = .ok (.ireturn, 1) := by decide +kernel
theorem dX6_clef_38 : decode cX6_clef 38 = .ok (.aload_n 0, 1) := by decide +kernel
theorem dX6_clef_39 : decode cX6_clef 39 = .ok (.getfield 7, 3) := by decide +kernel
theorem dX6_clef_42 : decode cX6_clef 42 = .ok (.iload_n 1, 1) := by decide +kernel
theorem dX6_clef_43 : decode cX6_clef 43 = .ok (.iload_n 2, 1) := by decide +kernel
theorem dX6_clef_44 : decode cX6_clef 44 = .ok (.iastore, 1) := by decide +kernel
theorem dX6_clef_45 : decode cX6_clef 45 = .ok (.aload_n 0, 1) := by decide +kernel
theorem dX6_clef_46 : decode cX6_clef 46 = .ok (.getfield 13, 3) := by decide +kernel
theorem dX6_clef_49 : decode cX6_clef 49 = .ok (.iload_n 1, 1) := by decide +kernel
theorem dX6_clef_50 : decode cX6_clef 50 = .ok (.iload_n 3, 1) := by decide +kernel
theorem dX6_clef_51 : decode cX6_clef 51 = .ok (.iastore, 1) := by decide +kernel
theorem dX6_clef_52 : decode cX6_clef 52 = .ok (.iconst 1, 1) := by decide +kernel
theorem dX6_clef_53 : decode cX6_clef 53 = .ok (.ireturn, 1) := by decide +kernel
set_option maxRecDepth 20000 in
theorem ggX6_shift_X6_isStaff : GoodIn wsX6_shift wsX6_isStaff := goodIn_r _ [10, 11, 12, 9, 13] rfl (by decide +kernel)
set_option maxRecDepth 20000 in
theorem gX6_shift_X6_isStaff : GoodIn wsX6_shift (va_wsS RX6 79 yX6_isStaff wsX6_isStaff) := goodIn_app (goodIn_r _ [7, 8, 9] rfl (by decide +kernel)) ggX6_shift_X6_isStaff
set_option maxRecDepth 20000 in
theorem ggX6_shift_X6_in : GoodIn wsX6_shift wsX6_in := goodIn_r _ [13] rfl (by decide +kernel)
set_option maxRecDepth 20000 in
theorem gX6_shift_X6_in : GoodIn wsX6_shift (va_wsS RX6 72 yX6_in wsX6_in) := goodIn_app (goodIn_r _ [11, 12, 9] rfl (by decide +kernel)) ggX6_shift_X6_in
theorem dX6_shift_0 : decode cX6_shift 0 = .ok (.aload_n 0, 1) := by decide +kernel
theorem dX6_shift_1 : decode cX6_shift 1 = .ok (.iconst 0, 1) := by decide +kernel
theorem dX6_shift_2 : decode cX6_shift 2 = .ok (.putfield 69, 3) := by decide +kernel
theorem dX6_shift_5 : decode cX6_shift 5 = .ok (.iload_n 1, 1) := by decide +kernel
theorem dX6_shift_6 : decode cX6_shift 6 = .ok (.invokestatic 79, 3) := by decide +kernel
theorem dX6_shift_9 : decode cX6_shift 9 = .ok (.ifCond .ne 7, 3) := by decide +kernel
theorem dX6_shift_12 : decode cX6_shift 12 = .ok (.sipush (-1001), 3) := by decide +kernel
theorem dX6_shift_15 : decode cX6_shift 15 = .ok (.ireturn, 1) := by decide +kernel
theorem dX6_shift_16 : decode cX6_shift 16 = .ok (.iload_n 2, 1) := by decide +kernel
theorem dX6_shift_17 : decode cX6_shift 17 = .ok (.iconst 0, 1) := by decide +kernel
theorem dX6_shift_18 : decode cX6_shift 18 = .ok (.bipush 99, 2) := by decide +kernel
theorem dX6_shift_20 : decode cX6_shift 20 = .ok (.invokestatic 72, 3) := by decide +kernel
theorem dX6_shift_23 : decode cX6_shift 23 = .ok (.ifCond .eq 24, 3) := by decide +kernel
theorem dX6_shift_26 : decode cX6_shift 26 = .ok (.iload_n 3, 1) := by decide +kernel
theorem dX6_shift_27 : decode cX6_shift 27 = .ok (.iload_n 2, 1) := by decide +kernel
theorem dX6_shift_28 : decode cX6_shift 28 = .ok (.bipush 99, 2) := by decide +kernel
theorem dX6_shift_30 : decode cX6_shift 30 = .ok (.invokestatic 72, 3) := by decide +kernel
theorem dX6_shift_33 : decode cX6_shift 33 = .ok (.ifCond .eq 14, 3) := by decide +kernel
theorem dX6_shift_36 : decode cX6_shift 36 = .ok (.iload 4, 2) := by decide +kernel
theorem dX6_shift_38 : decode cX6_shift 38 = .ok (.bipush (-2), 2) := by decide +kernel
theorem dX6_shift_40 : decode cX6_shift 40 = .ok (.iconst 2, 1) := by decide +kernel
theorem dX6_shift_41 : decode cX6_shift 41 = .ok (.invokestatic 72, 3) := by decide +kernel
theorem dX6_shift_44 : decode cX6_shift 44 = .ok (.ifCond .ne 7, 3) := by decide +kernel
theorem dX6_shift_47 : decode cX6_shift 47 = .ok (.sipush (-1002), 3) := by decide +kernel
theorem dX6_shift_50 : decode cX6_shift 50 = .ok (.ireturn, 1) := by decide +kernel
theorem dX6_shift_51 : decode cX6_shift 51 = .ok (.aload_n 0, 1) := by decide +kernel
theorem dX6_shift_52 : decode cX6_shift 52 = .ok (.getfield 83, 3) := by decide +kernel
theorem dX6_shift_55 : decode cX6_shift 55 = .ok (.bipush 12, 2) := by decide +kernel
theorem dX6_shift_57 : decode cX6_shift 57 = .ok (.if_icmp .ne 7, 3) := by decide +kernel
theorem dX6_shift_60 : decode cX6_shift 60 = .ok (.sipush (-1003), 3) := by decide +kernel
theorem dX6_shift_63 : decode cX6_shift 63 = .ok (.ireturn, 1) := by decide +kernel
theorem dX6_shift_64 : decode cX6_shift 64 = .ok (.aload_n 0, 1) := by decide +kernel
theorem dX6_shift_65 : decode cX6_shift 65 = .ok (.getfield 16, 3) := by decide +kernel
theorem dX6_shift_68 : decode cX6_shift 68 = .ok (.aload_n 0, 1) := by decide +kernel
theorem dX6_shift_69 : decode cX6_shift 69 = .ok (.getfield 83, 3) := by decide +kernel
theorem dX6_shift_72 : decode cX6_shift 72 = .ok (.iload_n 1, 1) := by decide +kernel
theorem dX6_shift_73 : decode cX6_shift 73 = .ok (.iastore, 1) := by decide +kernel
theorem dX6_shift_74 : decode cX6_shift 74 = .ok (.aload_n 0, 1) := by decide +kernel
theorem dX6_shift_75 : decode cX6_shift 75 = .ok (.getfield 19, 3) := by decide +kernel
theorem dX6_shift_78 : decode cX6_shift 78 = .ok (.aload_n 0, 1) := by decide +kernel
theorem dX6_shift_79 : decode cX6_shift 79 = .ok (.getfield 83, 3) := by decide +kernel
theorem dX6_shift_82 : decode cX6_shift 82 = .ok (.iload_n 2, 1) := by decide +kernel
theorem dX6_shift_83 : decode cX6_shift 83 = .ok (.iastore, 1) := by decide +kernel
theorem dX6_shift_84 : decode cX6_shift 84 = .ok (.aload_n 0, 1) := by decide +kernel
theorem dX6_shift_85 : decode cX6_shift 85 = .ok (.getfield 22, 3) := by decide +kernel
theorem dX6_shift_88 : decode cX6_shift 88 = .ok (.aload_n 0, 1) := by decide +kernel
theorem dX6_shift_89 : decode cX6_shift 89 = .ok (.getfield 83, 3) := by decide +kernel
theorem dX6_shift_92 : decode cX6_shift 92 = .ok (.iload_n 3, 1) := by decide +kernel
theorem dX6_shift_93 : decode cX6_shift 93 = .ok (.iastore, 1) := by decide +kernel
theorem dX6_shift_94 : decode cX6_shift 94 = .ok (.aload_n 0, 1) := by decide +kernel
theorem dX6_shift_95 : decode cX6_shift 95 = .ok (.getfield 25, 3) := by decide +kernel
theorem dX6_shift_98 : decode cX6_shift 98 = .ok (.aload_n 0, 1) := by decide +kernel
theorem dX6_shift_99 : decode cX6_shift 99 = .ok (.getfield 83, 3) := by decide +kernel
theorem dX6_shift_102 : decode cX6_shift 102 = .ok (.iload 4, 2) := by decide +kernel
theorem dX6_shift_104 : decode cX6_shift 104 = .ok (.iastore, 1) := by decide +kernel
theorem dX6_shift_105 : decode cX6_shift 105 = .ok (.aload_n 0, 1) := by decide +kernel
theorem dX6_shift_106 : decode cX6_shift 106 = .ok (.dup, 1) := by decide +kernel
theorem dX6_shift_107 : decode cX6_shift 107 = .ok (.getfield 83, 3) := by decide +kernel
theorem dX6_shift_110 : decode cX6_shift 110 = .ok (.iconst 1, 1) := by decide +kernel
theorem dX6_shift_111 : decode cX6_shift 111 = .ok (.iadd, 1) := by decide +kernel
theorem dX6_shift_112 : decode cX6_shift 112 = .ok (.putfield 83, 3) := by decide +kernel
theorem dX6_shift_115 : decode cX6_shift 115 = .ok (.aload_n 0, 1) := by decide +kernel
theorem dX6_shift_116 : decode cX6_shift 116 = .ok (.getfield 83, 3) := by decide +kernel
theorem dX6_shift_119 : decode cX6_shift 119 = .ok (.ireturn, 1) := by decide +kernel
theorem dX6_plain_0 : decode cX6_plain 0 = .ok (.aload_n 0, 1) := by decide +kernel
theorem dX6_plain_1 : decode cX6_plain 1 = .ok (.iconst 0, 1) := by decide +kernel
theorem dX6_plain_2 : decode cX6_plain 2 = .ok (.putfield 69, 3) := by decide +kernel
theorem dX6_plain_5 : decode cX6_plain 5 = .ok (.aload_n 0, 1) := by decide +kernel
theorem dX6_plain_6 : decode cX6_plain 6 = .ok (.getfield 83, 3) := by decide +kernel
theorem dX6_plain_9 : decode cX6_plain 9 = .ok (.istore_n 1, 1) := by decide +kernel
theorem dX6_plain_10 : decode cX6_plain 10 = .ok (.aload_n 0, 1) := by decide +kernel
theorem dX6_plain_11 : decode cX6_plain 11 = .ok (.iconst 0, 1) := by decide +kernel
theorem dX6_plain_12 : decode cX6_plain 12 = .ok (.putfield 83, 3) := by decide +kernel
theorem dX6_plain_15 : decode cX6_plain 15 = .ok (.iload_n 1, 1) := by decide +kernel
theorem dX6_plain_16 : decode cX6_plain 16 = .ok (.ireturn, 1) := by decide +kernel
set_option maxRecDepth 20000 in
theorem ggX6_note_X6_isStaff : GoodIn wsX6_note wsX6_isStaff := goodIn_r _ [12, 13, 14, 11, 15] rfl (by decide +kernel)
set_option maxRecDepth 20000 in
theorem gX6_note_X6_isStaff : GoodIn wsX6_note (va_wsS RX6 79 yX6_isStaff wsX6_isStaff) := goodIn_app (goodIn_r _ [9, 10, 11] rfl (by decide +kernel)) ggX6_note_X6_isStaff
set_option maxRecDepth 20000 in
theorem ggX6_note_X6_in : GoodIn wsX6_note wsX6_in := goodIn_r _ [15] rfl (by decide +kernel)
set_option maxRecDepth 20000 in
theorem gX6_note_X6_in : GoodIn wsX6_note (va_wsS RX6 72 yX6_in wsX6_in) := goodIn_app (goodIn_r _ [13, 14, 11] rfl (by decide +kernel)) ggX6_note_X6_in
theorem dX6_note_0 : decode cX6_note 0 = .ok (.aload_n 0, 1) := by decide +kernel
theorem dX6_note_1 : decode cX6_note 1 = .ok (.iconst 0, 1) := by decide +kernel
theorem dX6_note_2 : decode cX6_note 2 = .ok (.putfield 69, 3) := by decide +kernel
theorem dX6_note_5 : decode cX6_note 5 = .ok (.iload_n 1, 1) := by decide +kernel
theorem dX6_note_6 : decode cX6_note 6 = .ok (.invokestatic 79, 3) := by decide +kernel
theorem dX6_note_9 : decode cX6_note 9 = .ok (.ifCond .ne 7, 3) := by decide +kernel
theorem dX6_note_12 : decode cX6_note 12 = .ok (.sipush (-1001), 3) := by decide +kernel
theorem dX6_note_15 : decode cX6_note 15 = .ok (.ireturn, 1) := by decide +kernel
theorem dX6_note_16 : decode cX6_note 16 = .ok (.iload_n 2, 1) := by decide +kernel
theorem dX6_note_17 : decode cX6_note 17 = .ok (.iconst 0, 1) := by decide +kernel
theorem dX6_note_18 : decode cX6_note 18 = .ok (.iconst 2, 1) := by decide +kernel
theorem dX6_note_19 : decode cX6_note 19 = .ok (.invokestatic 72, 3) := by decide +kernel
theorem dX6_note_22 : decode cX6_note 22 = .ok (.ifCond .eq 56, 3) := by decide +kernel
theorem dX6_note_25 : decode cX6_note 25 = .ok (.iload_n 3, 1) := by decide +kernel
theorem dX6_note_26 : decode cX6_note 26 = .ok (.iconst 0, 1) := by decide +kernel
theorem dX6_note_27 : decode cX6_note 27 = .ok (.bipush 99, 2) := by decide +kernel
theorem dX6_note_29 : decode cX6_note 29 = .ok (.invokestatic 72, 3) := by decide +kernel
theorem dX6_note_32 : decode cX6_note 32 = .ok (.ifCond .eq 46, 3) := by decide +kernel
theorem dX6_note_35 : decode cX6_note 35 = .ok (.iload 4, 2) := by decide +kernel
theorem dX6_note_37 : decode cX6_note 37 = .ok (.iconst 0, 1) := by decide +kernel
theorem dX6_note_38 : decode cX6_note 38 = .ok (.bipush 6, 2) := by decide +kernel
theorem dX6_note_40 : decode cX6_note 40 = .ok (.invokestatic 72, 3) := by decide +kernel
theorem dX6_note_43 : decode cX6_note 43 = .ok (.ifCond .eq 35, 3) := by decide +kernel
theorem dX6_note_46 : decode cX6_note 46 = .ok (.iload 5, 2) := by decide +kernel
theorem dX6_note_48 : decode cX6_note 48 = .ok (.iconst 0, 1) := by decide +kernel
theorem dX6_note_49 : decode cX6_note 49 = .ok (.bipush 9, 2) := by decide +kernel
theorem dX6_note_51 : decode cX6_note 51 = .ok (.invokestatic 72, 3) := by decide +kernel
theorem dX6_note_54 : decode cX6_note 54 = .ok (.ifCond .eq 24, 3) := by decide +kernel
theorem dX6_note_57 : decode cX6_note 57 = .ok (.iload 6, 2) := by decide +kernel
theorem dX6_note_59 : decode cX6_note 59 = .ok (.bipush (-2), 2) := by decide +kernel
theorem dX6_note_61 : decode cX6_note 61 = .ok (.iconst 3, 1) := by decide +kernel
theorem dX6_note_62 : decode cX6_note 62 = .ok (.invokestatic 72, 3) := by decide +kernel
theorem dX6_note_65 : decode cX6_note 65 = .ok (.ifCond .eq 13, 3) := by decide +kernel
theorem dX6_note_68 : decode cX6_note 68 = .ok (.iload 7, 2) := by decide +kernel
theorem dX6_note_70 : decode cX6_note 70 = .ok (.iconst 0, 1) := by decide +kernel
theorem dX6_note_71 : decode cX6_note 71 = .ok (.iconst 2, 1) := by decide +kernel
theorem dX6_note_72 : decode cX6_note 72 = .ok (.invokestatic 72, 3) := by decide +kernel
theorem dX6_note_75 : decode cX6_note 75 = .ok (.ifCond .ne 7, 3) := by decide +kernel
theorem dX6_note_78 : decode cX6_note 78 = .ok (.sipush (-1002), 3) := by decide +kernel
theorem dX6_note_81 : decode cX6_note 81 = .ok (.ireturn, 1) := by decide +kernel
theorem dX6_note_82 : decode cX6_note 82 = .ok (.aload_n 0, 1) := by decide +kernel
theorem dX6_note_83 : decode cX6_note 83 = .ok (.getfield 76, 3) := by decide +kernel
theorem dX6_note_86 : decode cX6_note 86 = .ok (.bipush 60, 2) := by decide +kernel
theorem dX6_note_88 : decode cX6_note 88 = .ok (.if_icmp .ne 7, 3) := by decide +kernel
theorem dX6_note_91 : decode cX6_note 91 = .ok (.sipush (-1003), 3) := by decide +kernel
theorem dX6_note_94 : decode cX6_note 94 = .ok (.ireturn, 1) := by decide +kernel
theorem dX6_note_95 : decode cX6_note 95 = .ok (.aload_n 0, 1) := by decide +kernel
theorem dX6_note_96 : decode cX6_note 96 = .ok (.getfield 28, 3) := by decide +kernel
theorem dX6_note_99 : decode cX6_note 99 = .ok (.aload_n 0, 1) := by decide +kernel
theorem dX6_note_100 : decode cX6_note 100 = .ok (.getfield 76, 3) := by decide +kernel
theorem dX6_note_103 : decode cX6_note 103 = .ok (.iload_n 1, 1) := by decide +kernel
theorem dX6_note_104 : decode cX6_note 104 = .ok (.iastore, 1) := by decide +kernel
theorem dX6_note_105 : decode cX6_note 105 = .ok (.aload_n 0, 1) := by decide +kernel
theorem dX6_note_106 : decode cX6_note 106 = .ok (.getfield 31, 3) := by decide +kernel
theorem dX6_note_109 : decode cX6_note 109 = .ok (.aload_n 0, 1) := by decide +kernel
theorem dX6_note_110 : decode cX6_note 110 = .ok (.getfield 76, 3) := by decide +kernel
theorem dX6_note_113 : decode cX6_note 113 = .ok (.iload_n 2, 1) := by decide +kernel
theorem dX6_note_114 : decode cX6_note 114 = .ok (.iastore, 1) := by decide +kernel
theorem dX6_note_115 : decode cX6_note 115 = .ok (.aload_n 0, 1) := by decide +kernel
theorem dX6_note_116 : decode cX6_note 116 = .ok (.getfield 34, 3) := by decide +kernel
theorem dX6_note_119 : decode cX6_note 119 = .ok (.aload_n 0, 1) := by decide +kernel
theorem dX6_note_120 : decode cX6_note 120 = .ok (.getfield 76, 3) := by decide +kernel
theorem dX6_note_123 : decode cX6_note 123 = .ok (.iload_n 3, 1) := by decide +kernel
theorem dX6_note_124 : decode cX6_note 124 = .ok (.iastore, 1) := by decide +kernel
theorem dX6_note_125 : decode cX6_note 125 = .ok (.aload_n 0, 1) := by decide +kernel
theorem dX6_note_126 : decode cX6_note 126 = .ok (.getfield 37, 3) := by decide +kernel
theorem dX6_note_129 : decode cX6_note 129 = .ok (.aload_n 0, 1) := by decide +kernel
theorem dX6_note_130 : decode cX6_note 130 = .ok (.getfield 76, 3) := by decide +kernel
theorem dX6_note_133 : decode cX6_note 133 = .ok (.bipush 7, 2) := by decide +kernel
theorem dX6_note_135 : decode cX6_note 135 = .ok (.iload 5, 2) := by decide +kernel
theorem dX6_note_137 : decode cX6_note 137 = .ok (.imul, 1) := by decide +kernel
theorem dX6_note_138 : decode cX6_note 138 = .ok (.iload 4, 2) := by decide +kernel
theorem dX6_note_140 : decode cX6_note 140 = .ok (.iadd, 1) := by decide +kernel
theorem dX6_note_141 : decode cX6_note 141 = .ok (.iastore, 1) := by decide +kernel
theorem dX6_note_142 : decode cX6_note 142 = .ok (.aload_n 0, 1) := by decide +kernel
theorem dX6_note_143 : decode cX6_note 143 = .ok (.getfield 40, 3) := by decide +kernel
theorem dX6_note_146 : decode cX6_note 146 = .ok (.aload_n 0, 1) := by decide +kernel
theorem dX6_note_147 : decode cX6_note 147 = .ok (.getfield 76, 3) := by decide +kernel
theorem dX6_note_150 : decode cX6_note 150 = .ok (.iload 6, 2) := by decide +kernel
theorem dX6_note_152 : decode cX6_note 152 = .ok (.iastore, 1) := by decide +kernel
theorem dX6_note_153 : decode cX6_note 153 = .ok (.aload_n 0, 1) := by decide +kernel
theorem dX6_note_154 : decode cX6_note 154 = .ok (.getfield 43, 3) := by decide +kernel
theorem dX6_note_157 : decode cX6_note 157 = .ok (.aload_n 0, 1) := by decide +kernel
theorem dX6_note_158 : decode cX6_note 158 = .ok (.getfield 76, 3) := by decide +kernel
theorem dX6_note_161 : decode cX6_note 161 = .ok (.iload 7, 2) := by decide +kernel
theorem dX6_note_163 : decode cX6_note 163 = .ok (.iastore, 1) := by decide +kernel
theorem dX6_note_164 : decode cX6_note 164 = .ok (.aload_n 0, 1) := by decide +kernel
theorem dX6_note_165 : decode cX6_note 165 = .ok (.dup, 1) := by decide +kernel
theorem dX6_note_166 : decode cX6_note 166 = .ok (.getfield 76, 3) := by decide +kernel
theorem dX6_note_169 : decode cX6_note 169 = .ok (.iconst 1, 1) := by decide +kernel
theorem dX6_note_170 : decode cX6_note 170 = .ok (.iadd, 1) := by decide +kernel
theorem dX6_note_171 : decode cX6_note 171 = .ok (.putfield 76, 3) := by decide +kernel
theorem dX6_note_174 : decode cX6_note 174 = .ok (.aload_n 0, 1) := by decide +kernel
theorem dX6_note_175 : decode cX6_note 175 = .ok (.getfield 76, 3) := by decide +kernel
theorem dX6_note_178 : decode cX6_note 178 = .ok (.iconst 1, 1) := by decide +kernel
theorem dX6_note_179 : decode cX6_note 179 = .ok (.isub, 1) := by decide +kernel
theorem dX6_note_180 : decode cX6_note 180 = .ok (.ireturn, 1) := by decide +kernel
set_option maxRecDepth 20000 in
theorem ggX6_drop_X6_isNote : GoodIn wsX6_drop wsX6_isNote := goodIn_r _ [13, 2, 14, 15, 12, 16, 17, 18, 19, 20, 21, 22, 23, 24, 25, 26, 27, 28, 29, 30, 31, 32, 33, 34, 35, 36, 37, 38, 39] rfl (by decide +kernel)
set_option maxRecDepth 20000 in
theorem gX6_drop_X6_isNote : GoodIn wsX6_drop (wsV RX6 86 RX6 yX6_isNote wsX6_isNote) := goodIn_app (goodIn_r _ [9, 10, 11, 12] rfl (by decide +kernel)) ggX6_drop_X6_isNote
theorem dX6_drop_0 : decode cX6_drop 0 = .ok (.aload_n 0, 1) := by decide +kernel
theorem dX6_drop_1 : decode cX6_drop 1 = .ok (.iconst 0, 1) := by decide +kernel
theorem dX6_drop_2 : decode cX6_drop 2 = .ok (.putfield 69, 3) := by decide +kernel
theorem dX6_drop_5 : decode cX6_drop 5 = .ok (.aload_n 0, 1) := by decide +kernel
theorem dX6_drop_6 : decode cX6_drop 6 = .ok (.iload_n 1, 1) := by decide +kernel
theorem dX6_drop_7 : decode cX6_drop 7 = .ok (.invokevirtual 86, 3) := by decide +kernel
theorem dX6_drop_10 : decode cX6_drop 10 = .ok (.ifCond .ne 7, 3) := by decide +kernel
theorem dX6_drop_13 : decode cX6_drop 13 = .ok (.sipush (-1001), 3) := by decide +kernel
theorem dX6_drop_16 : decode cX6_drop 16 = .ok (.ireturn, 1) := by decide +kernel
theorem dX6_drop_17 : decode cX6_drop 17 = .ok (.aload_n 0, 1) := by decide +kernel
theorem dX6_drop_18 : decode cX6_drop 18 = .ok (.dup, 1) := by decide +kernel
theorem dX6_drop_19 : decode cX6_drop 19 = .ok (.getfield 76, 3) := by decide +kernel
theorem dX6_drop_22 : decode cX6_drop 22 = .ok (.iconst 1, 1) := by decide +kernel
theorem dX6_drop_23 : decode cX6_drop 23 = .ok (.isub, 1) := by decide +kernel
theorem dX6_drop_24 : decode cX6_drop 24 = .ok (.putfield 76, 3) := by decide +kernel
theorem dX6_drop_27 : decode cX6_drop 27 = .ok (.iload_n 1, 1) := by decide +kernel
theorem dX6_drop_28 : decode cX6_drop 28 = .ok (.istore_n 2, 1) := by decide +kernel
theorem dX6_drop_29 : decode cX6_drop 29 = .ok (.iload_n 2, 1) := by decide +kernel
theorem dX6_drop_30 : decode cX6_drop 30 = .ok (.aload_n 0, 1) := by decide +kernel
theorem dX6_drop_31 : decode cX6_drop 31 = .ok (.getfield 76, 3) := by decide +kernel
theorem dX6_drop_34 : decode cX6_drop 34 = .ok (.if_icmp .ge 93, 3) := by decide +kernel
theorem dX6_drop_37 : decode cX6_drop 37 = .ok (.aload_n 0, 1) := by decide +kernel
theorem dX6_drop_38 : decode cX6_drop 38 = .ok (.getfield 28, 3) := by decide +kernel
theorem dX6_drop_41 : decode cX6_drop 41 = .ok (.iload_n 2, 1) := by decide +kernel
theorem dX6_drop_42 : decode cX6_drop 42 = .ok (.aload_n 0, 1) := by decide +kernel
theorem dX6_drop_43 : decode cX6_drop 43 = .ok (.getfield 28, 3) := by decide +kernel
theorem dX6_drop_46 : decode cX6_drop 46 = .ok (.iload_n 2, 1) := by decide +kernel
theorem dX6_drop_47 : decode cX6_drop 47 = .ok (.iconst 1, 1) := by decide +kernel
theorem dX6_drop_48 : decode cX6_drop 48 = .ok (.iadd, 1) := by decide +kernel
theorem dX6_drop_49 : decode cX6_drop 49 = .ok (.iaload, 1) := by decide +kernel
theorem dX6_drop_50 : decode cX6_drop 50 = .ok (.iastore, 1) := by decide +kernel
theorem dX6_drop_51 : decode cX6_drop 51 = .ok (.aload_n 0, 1) := by decide +kernel
theorem dX6_drop_52 : decode cX6_drop 52 = .ok (.getfield 31, 3) := by decide +kernel
theorem dX6_drop_55 : decode cX6_drop 55 = .ok (.iload_n 2, 1) := by decide +kernel
theorem dX6_drop_56 : decode cX6_drop 56 = .ok (.aload_n 0, 1) := by decide +kernel
theorem dX6_drop_57 : decode cX6_drop 57 = .ok (.getfield 31, 3) := by decide +kernel
theorem dX6_drop_60 : decode cX6_drop 60 = .ok (.iload_n 2, 1) := by decide +kernel
theorem dX6_drop_61 : decode cX6_drop 61 = .ok (.iconst 1, 1) := by decide +kernel
theorem dX6_drop_62 : decode cX6_drop 62 = .ok (.iadd, 1) := by decide +kernel
theorem dX6_drop_63 : decode cX6_drop 63 = .ok (.iaload, 1) := by decide +kernel
theorem dX6_drop_64 : decode cX6_drop 64 = .ok (.iastore, 1) := by decide +kernel
theorem dX6_drop_65 : decode cX6_drop 65 = .ok (.aload_n 0, 1) := by decide +kernel
theorem dX6_drop_66 : decode cX6_drop 66 = .ok (.getfield 34, 3) := by decide +kernel
theorem dX6_drop_69 : decode cX6_drop 69 = .ok (.iload_n 2, 1) := by decide +kernel
theorem dX6_drop_70 : decode cX6_drop 70 = .ok (.aload_n 0, 1) := by decide +kernel
theorem dX6_drop_71 : decode cX6_drop 71 = .ok (.getfield 34, 3) := by decide +kernel
theorem dX6_drop_74 : decode cX6_drop 74 = .ok (.iload_n 2, 1) := by decide +kernel
theorem dX6_drop_75 : decode cX6_drop 75 = .ok (.iconst 1, 1) := by decide +kernel
theorem dX6_drop_76 : decode cX6_drop 76 = .ok (.iadd, 1) := by decide +kernel
theorem dX6_drop_77 : decode cX6_drop 77 = .ok (.iaload, 1) := by decide +kernel
theorem dX6_drop_78 : decode cX6_drop 78 = .ok (.iastore, 1) := by decide +kernel
theorem dX6_drop_79 : decode cX6_drop 79 = .ok (.aload_n 0, 1) := by decide +kernel
theorem dX6_drop_80 : decode cX6_drop 80 = .ok (.getfield 37, 3) := by decide +kernel
theorem dX6_drop_83 : decode cX6_drop 83 = .ok (.iload_n 2, 1) := by decide +kernel
theorem dX6_drop_84 : decode cX6_drop 84 = .ok (.aload_n 0, 1) := by decide +kernel
theorem dX6_drop_85 : decode cX6_drop 85 = .ok (.getfield 37, 3) := by decide +kernel
theorem dX6_drop_88 : decode cX6_drop 88 = .ok (.iload_n 2, 1) := by decide +kernel
theorem dX6_drop_89 : decode cX6_drop 89 = .ok (.iconst 1, 1) := by decide +kernel
theorem dX6_drop_90 : decode cX6_drop 90 = .ok (.iadd, 1) := by decide +kernel
theorem dX6_drop_91 : decode cX6_drop 91 = .ok (.iaload, 1) := by decide +kernel
theorem dX6_drop_92 : decode cX6_drop 92 = .ok (.iastore, 1) := by decide +kernel
theorem dX6_drop_93 : decode cX6_drop 93 = .ok (.aload_n 0, 1) := by decide +kernel
theorem dX6_drop_94 : decode cX6_drop 94 = .ok (.getfield 40, 3) := by decide +kernel
theorem dX6_drop_97 : decode cX6_drop 97 = .ok (.iload_n 2, 1) := by decide +kernel
theorem dX6_drop_98 : decode cX6_drop 98 = .ok (.aload_n 0, 1) := by decide +kernel
theorem dX6_drop_99 : decode cX6_drop 99 = .ok (.getfield 40, 3) := by decide +kernel
theorem dX6_drop_102 : decode cX6_drop 102 = .ok (.iload_n 2, 1) := by decide +kernel
theorem dX6_drop_103 : decode cX6_drop 103 = .ok (.iconst 1, 1) := by decide +kernel
theorem dX6_drop_104 : decode cX6_drop 104 = .ok (.iadd, 1) := by decide +kernel
theorem dX6_drop_105 : decode cX6_drop 105 = .ok (.iaload, 1) := by decide +kernel
theorem dX6_drop_106 : decode cX6_drop 106 = .ok (.iastore, 1) := by decide +kernel
theorem dX6_drop_107 : decode cX6_drop 107 = .ok (.aload_n 0, 1) := by decide +kernel
theorem dX6_drop_108 : decode cX6_drop 108 = .ok (.getfield 43, 3) := by decide +kernel
theorem dX6_drop_111 : decode cX6_drop 111 = .ok (.iload_n 2, 1) := by decide +kernel
theorem dX6_drop_112 : decode cX6_drop 112 = .ok (.aload_n 0, 1) := by decide +kernel
theorem dX6_drop_113 : decode cX6_drop 113 = .ok (.getfield 43, 3) := by decide +kernel
theorem dX6_drop_116 : decode cX6_drop 116 = .ok (.iload_n 2, 1) := by decide +kernel
theorem dX6_drop_117 : decode cX6_drop 117 = .ok (.iconst 1, 1) := by decide +kernel
theorem dX6_drop_118 : decode cX6_drop 118 = .ok (.iadd, 1) := by decide +kernel
theorem dX6_drop_119 : decode cX6_drop 119 = .ok (.iaload, 1) := by decide +kernel
theorem dX6_drop_120 : decode cX6_drop 120 = .ok (.iastore, 1) := by decide +kernel
theorem dX6_drop_121 : decode cX6_drop 121 = .ok (.iinc 2 1, 3) := by decide +kernel
theorem dX6_drop_124 : decode cX6_drop 124 = .ok (.goto (-95), 3) := by decide +kernel
theorem dX6_drop_127 : decode cX6_drop 127 = .ok (.aload_n 0, 1) := by decide +kernel
theorem dX6_drop_128 : decode cX6_drop 128 = .ok (.getfield 76, 3) := by decide +kernel
theorem dX6_drop_131 : decode cX6_drop 131 = .ok (.ireturn, 1) := by decide +kernel
set_option maxRecDepth 20000 in
theorem ggX6_reckon_X6_reckonStep : GoodIn wsX6_reckon wsX6_reckonStep := goodIn_r _ [7, 8, 9, 10, 11, 12, 13, 14, 15, 16, 17, 18, 19, 6, 20, 21, 22, 23, 24, 25, 26, 27, 28, 29, 30, 31, 32, 33, 34, 35, 36, 37, 38, 39, 40, 41, 42, 43] rfl (by decide +kernel)
set_option maxRecDepth 20000 in
theorem gX6_reckon_X6_reckonStep : GoodIn wsX6_reckon (wsV RX6 89 RX6 yX6_reckonStep wsX6_reckonStep) := goodIn_app (goodIn_r _ [3, 4, 5, 6] rfl (by decide +kernel)) ggX6_reckon_X6_reckonStep
theorem dX6_reckon_0 : decode cX6_reckon 0 = .ok (.iconst 0, 1) := by decide +kernel
theorem dX6_reckon_1 : decode cX6_reckon 1 = .ok (.istore_n 1, 1) := by decide +kernel
theorem dX6_reckon_2 : decode cX6_reckon 2 = .ok (.iload_n 1, 1) := by decide +kernel
theorem dX6_reckon_3 : decode cX6_reckon 3 = .ok (.aload_n 0, 1) := by decide +kernel
theorem dX6_reckon_4 : decode cX6_reckon 4 = .ok (.getfield 76, 3) := by decide +kernel
theorem dX6_reckon_7 : decode cX6_reckon 7 = .ok (.if_icmp .ge 20, 3) := by decide +kernel
theorem dX6_reckon_10 : decode cX6_reckon 10 = .ok (.aload_n 0, 1) := by decide +kernel
theorem dX6_reckon_11 : decode cX6_reckon 11 = .ok (.getfield 53, 3) := by decide +kernel
theorem dX6_reckon_14 : decode cX6_reckon 14 = .ok (.iload_n 1, 1) := by decide +kernel
theorem dX6_reckon_15 : decode cX6_reckon 15 = .ok (.aload_n 0, 1) := by decide +kernel
theorem dX6_reckon_16 : decode cX6_reckon 16 = .ok (.iload_n 1, 1) := by decide +kernel
theorem dX6_reckon_17 : decode cX6_reckon 17 = .ok (.invokevirtual 89, 3) := by decide +kernel
theorem dX6_reckon_20 : decode cX6_reckon 20 = .ok (.iastore, 1) := by decide +kernel
theorem dX6_reckon_21 : decode cX6_reckon 21 = .ok (.iinc 1 1, 3) := by decide +kernel
theorem dX6_reckon_24 : decode cX6_reckon 24 = .ok (.goto (-22), 3) := by decide +kernel
theorem dX6_reckon_27 : decode cX6_reckon 27 = .ok (.return_, 1) := by decide +kernel
theorem dX6_step_0 : decode cX6_step 0 = .ok (.aload_n 0, 1) := by decide +kernel
theorem dX6_step_1 : decode cX6_step 1 = .ok (.getfield 53, 3) := by decide +kernel
theorem dX6_step_4 : decode cX6_step 4 = .ok (.iload_n 1, 1) := by decide +kernel
theorem dX6_step_5 : decode cX6_step 5 = .ok (.iaload, 1) := by decide +kernel
theorem dX6_step_6 : decode cX6_step 6 = .ok (.ireturn, 1) := by decide +kernel
set_option maxRecDepth 20000 in
theorem ggX6_reckonStep_X6_in : GoodIn wsX6_reckonStep wsX6_in := goodIn_r _ [14] rfl (by decide +kernel)
set_option maxRecDepth 20000 in
theorem gX6_reckonStep_X6_in : GoodIn wsX6_reckonStep (va_wsS RX6 72 yX6_in wsX6_in) := goodIn_app (goodIn_r _ [11, 12, 13] rfl (by decide +kernel)) ggX6_reckonStep_X6_in
theorem dX6_reckonStep_0 : decode cX6_reckonStep 0 = .ok (.aload_n 0, 1) := by decide +kernel
theorem dX6_reckonStep_1 : decode cX6_reckonStep 1 = .ok (.getfield 28, 3) := by decide +kernel
theorem dX6_reckonStep_4 : decode cX6_reckonStep 4 = .ok (.iload_n 1, 1) := by decide +kernel
theorem dX6_reckonStep_5 : decode cX6_reckonStep 5 = .ok (.iaload, 1) := by decide +kernel
theorem dX6_reckonStep_6 : decode cX6_reckonStep 6 = .ok (.istore_n 2, 1) := by decide +kernel
theorem dX6_reckonStep_7 : decode cX6_reckonStep 7 = .ok (.aload_n 0, 1) := by decide +kernel
theorem dX6_reckonStep_8 : decode cX6_reckonStep 8 = .ok (.getfield 7, 3) := by decide +kernel
theorem dX6_reckonStep_11 : decode cX6_reckonStep 11 = .ok (.iload_n 2, 1) := by decide +kernel
theorem dX6_reckonStep_12 : decode cX6_reckonStep 12 = .ok (.iaload, 1) := by decide +kernel
theorem dX6_reckonStep_13 : decode cX6_reckonStep 13 = .ok (.ifCond .ne 8, 3) := by decide +kernel
theorem dX6_reckonStep_16 : decode cX6_reckonStep 16 = .ok (.bipush 32, 2) := by decide +kernel
theorem dX6_reckonStep_18 : decode cX6_reckonStep 18 = .ok (.goto 20, 3) := by decide +kernel
theorem dX6_reckonStep_21 : decode cX6_reckonStep 21 = .ok (.aload_n 0, 1) := by decide +kernel
theorem dX6_reckonStep_22 : decode cX6_reckonStep 22 = .ok (.getfield 7, 3) := by decide +kernel
theorem dX6_reckonStep_25 : decode cX6_reckonStep 25 = .ok (.iload_n 2, 1) := by decide +kernel
theorem dX6_reckonStep_26 : decode cX6_reckonStep 26 = .ok (.iaload, 1) := by decide +kernel
theorem dX6_reckonStep_27 : decode cX6_reckonStep 27 = .ok (.iconst 1, 1) := by decide +kernel
theorem dX6_reckonStep_28 : decode cX6_reckonStep 28 = .ok (.if_icmp .ne 8, 3) := by decide +kernel
theorem dX6_reckonStep_31 : decode cX6_reckonStep 31 = .ok (.bipush 28, 2) := by decide +kernel
theorem dX6_reckonStep_33 : decode cX6_reckonStep 33 = .ok (.goto 5, 3) := by decide +kernel
theorem dX6_reckonStep_36 : decode cX6_reckonStep 36 = .ok (.bipush 24, 2) := by decide +kernel
theorem dX6_reckonStep_38 : decode cX6_reckonStep 38 = .ok (.istore_n 3, 1) := by decide +kernel
theorem dX6_reckonStep_39 : decode cX6_reckonStep 39 = .ok (.iconst 0, 1) := by decide +kernel
theorem dX6_reckonStep_40 : decode cX6_reckonStep 40 = .ok (.istore 4, 2) := by decide +kernel
theorem dX6_reckonStep_42 : decode cX6_reckonStep 42 = .ok (.iconst 0, 1) := by decide +kernel
theorem dX6_reckonStep_43 : decode cX6_reckonStep 43 = .ok (.istore 5, 2) := by decide +kernel
theorem dX6_reckonStep_45 : decode cX6_reckonStep 45 = .ok (.iload 5, 2) := by decide +kernel
theorem dX6_reckonStep_47 : decode cX6_reckonStep 47 = .ok (.aload_n 0, 1) := by decide +kernel
theorem dX6_reckonStep_48 : decode cX6_reckonStep 48 = .ok (.getfield 83, 3) := by decide +kernel
theorem dX6_reckonStep_51 : decode cX6_reckonStep 51 = .ok (.if_icmp .ge 62, 3) := by decide +kernel
theorem dX6_reckonStep_54 : decode cX6_reckonStep 54 = .ok (.iload 4, 2) := by decide +kernel
theorem dX6_reckonStep_56 : decode cX6_reckonStep 56 = .ok (.aload_n 0, 1) := by decide +kernel
theorem dX6_reckonStep_57 : decode cX6_reckonStep 57 = .ok (.getfield 16, 3) := by decide +kernel
theorem dX6_reckonStep_60 : decode cX6_reckonStep 60 = .ok (.iload 5, 2) := by decide +kernel
theorem dX6_reckonStep_62 : decode cX6_reckonStep 62 = .ok (.iaload, 1) := by decide +kernel
theorem dX6_reckonStep_63 : decode cX6_reckonStep 63 = .ok (.iload_n 2, 1) := by decide +kernel
theorem dX6_reckonStep_64 : decode cX6_reckonStep 64 = .ok (.if_icmp .ne 39, 3) := by decide +kernel
theorem dX6_reckonStep_67 : decode cX6_reckonStep 67 = .ok (.aload_n 0, 1) := by decide +kernel
theorem dX6_reckonStep_68 : decode cX6_reckonStep 68 = .ok (.getfield 34, 3) := by decide +kernel
theorem dX6_reckonStep_71 : decode cX6_reckonStep 71 = .ok (.iload_n 1, 1) := by decide +kernel
theorem dX6_reckonStep_72 : decode cX6_reckonStep 72 = .ok (.iaload, 1) := by decide +kernel
theorem dX6_reckonStep_73 : decode cX6_reckonStep 73 = .ok (.aload_n 0, 1) := by decide +kernel
theorem dX6_reckonStep_74 : decode cX6_reckonStep 74 = .ok (.getfield 19, 3) := by decide +kernel
theorem dX6_reckonStep_77 : decode cX6_reckonStep 77 = .ok (.iload 5, 2) := by decide +kernel
theorem dX6_reckonStep_79 : decode cX6_reckonStep 79 = .ok (.iaload, 1) := by decide +kernel
theorem dX6_reckonStep_80 : decode cX6_reckonStep 80 = .ok (.aload_n 0, 1) := by decide +kernel
theorem dX6_reckonStep_81 : decode cX6_reckonStep 81 = .ok (.getfield 22, 3) := by decide +kernel
theorem dX6_reckonStep_84 : decode cX6_reckonStep 84 = .ok (.iload 5, 2) := by decide +kernel
theorem dX6_reckonStep_86 : decode cX6_reckonStep 86 = .ok (.iaload, 1) := by decide +kernel
theorem dX6_reckonStep_87 : decode cX6_reckonStep 87 = .ok (.invokestatic 72, 3) := by decide +kernel
theorem dX6_reckonStep_90 : decode cX6_reckonStep 90 = .ok (.ifCond .eq 13, 3) := by decide +kernel
theorem dX6_reckonStep_93 : decode cX6_reckonStep 93 = .ok (.aload_n 0, 1) := by decide +kernel
theorem dX6_reckonStep_94 : decode cX6_reckonStep 94 = .ok (.getfield 25, 3) := by decide +kernel
theorem dX6_reckonStep_97 : decode cX6_reckonStep 97 = .ok (.iload 5, 2) := by decide +kernel
theorem dX6_reckonStep_99 : decode cX6_reckonStep 99 = .ok (.iaload, 1) := by decide +kernel
theorem dX6_reckonStep_100 : decode cX6_reckonStep 100 = .ok (.goto 4, 3) := by decide +kernel
theorem dX6_reckonStep_103 : decode cX6_reckonStep 103 = .ok (.iconst 0, 1) := by decide +kernel
theorem dX6_reckonStep_104 : decode cX6_reckonStep 104 = .ok (.iadd, 1) := by decide +kernel
theorem dX6_reckonStep_105 : decode cX6_reckonStep 105 = .ok (.istore 4, 2) := by decide +kernel
theorem dX6_reckonStep_107 : decode cX6_reckonStep 107 = .ok (.iinc 5 1, 3) := by decide +kernel
theorem dX6_reckonStep_110 : decode cX6_reckonStep 110 = .ok (.goto (-65), 3) := by decide +kernel
theorem dX6_reckonStep_113 : decode cX6_reckonStep 113 = .ok (.aload_n 0, 1) := by decide +kernel
theorem dX6_reckonStep_114 : decode cX6_reckonStep 114 = .ok (.getfield 37, 3) := by decide +kernel
theorem dX6_reckonStep_117 : decode cX6_reckonStep 117 = .ok (.iload_n 1, 1) := by decide +kernel
theorem dX6_reckonStep_118 : decode cX6_reckonStep 118 = .ok (.iaload, 1) := by decide +kernel
theorem dX6_reckonStep_119 : decode cX6_reckonStep 119 = .ok (.iload_n 3, 1) := by decide +kernel
theorem dX6_reckonStep_120 : decode cX6_reckonStep 120 = .ok (.isub, 1) := by decide +kernel
theorem dX6_reckonStep_121 : decode cX6_reckonStep 121 = .ok (.iconst 2, 1) := by decide +kernel
theorem dX6_reckonStep_122 : decode cX6_reckonStep 122 = .ok (.aload_n 0, 1) := by decide +kernel
theorem dX6_reckonStep_123 : decode cX6_reckonStep 123 = .ok (.getfield 13, 3) := by decide +kernel
theorem dX6_reckonStep_126 : decode cX6_reckonStep 126 = .ok (.iload_n 2, 1) := by decide +kernel
theorem dX6_reckonStep_127 : decode cX6_reckonStep 127 = .ok (.iaload, 1) := by decide +kernel
theorem dX6_reckonStep_128 : decode cX6_reckonStep 128 = .ok (.imul, 1) := by decide +kernel
theorem dX6_reckonStep_129 : decode cX6_reckonStep 129 = .ok (.iadd, 1) := by decide +kernel
theorem dX6_reckonStep_130 : decode cX6_reckonStep 130 = .ok (.iconst 2, 1) := by decide +kernel
theorem dX6_reckonStep_131 : decode cX6_reckonStep 131 = .ok (.isub, 1) := by decide +kernel
theorem dX6_reckonStep_132 : decode cX6_reckonStep 132 = .ok (.bipush 7, 2) := by decide +kernel
theorem dX6_reckonStep_134 : decode cX6_reckonStep 134 = .ok (.iload 4, 2) := by decide +kernel
theorem dX6_reckonStep_136 : decode cX6_reckonStep 136 = .ok (.imul, 1) := by decide +kernel
theorem dX6_reckonStep_137 : decode cX6_reckonStep 137 = .ok (.isub, 1) := by decide +kernel
theorem dX6_reckonStep_138 : decode cX6_reckonStep 138 = .ok (.ireturn, 1) := by decide +kernel
theorem dX6_isAt_0 : decode cX6_isAt 0 = .ok (.aload_n 0, 1) := by decide +kernel
theorem dX6_isAt_1 : decode cX6_isAt 1 = .ok (.getfield 28, 3) := by decide +kernel
theorem dX6_isAt_4 : decode cX6_isAt 4 = .ok (.iload_n 1, 1) := by decide +kernel
theorem dX6_isAt_5 : decode cX6_isAt 5 = .ok (.iaload, 1) := by decide +kernel
theorem dX6_isAt_6 : decode cX6_isAt 6 = .ok (.iload_n 2, 1) := by decide +kernel
theorem dX6_isAt_7 : decode cX6_isAt 7 = .ok (.if_icmp .ne 17, 3) := by decide +kernel
theorem dX6_isAt_10 : decode cX6_isAt 10 = .ok (.aload_n 0, 1) := by decide +kernel
theorem dX6_isAt_11 : decode cX6_isAt 11 = .ok (.getfield 34, 3) := by decide +kernel
theorem dX6_isAt_14 : decode cX6_isAt 14 = .ok (.iload_n 1, 1) := by decide +kernel
theorem dX6_isAt_15 : decode cX6_isAt 15 = .ok (.iaload, 1) := by decide +kernel
theorem dX6_isAt_16 : decode cX6_isAt 16 = .ok (.iload_n 3, 1) := by decide +kernel
theorem dX6_isAt_17 : decode cX6_isAt 17 = .ok (.if_icmp .ne 7, 3) := by decide +kernel
theorem dX6_isAt_20 : decode cX6_isAt 20 = .ok (.iconst 1, 1) := by decide +kernel
theorem dX6_isAt_21 : decode cX6_isAt 21 = .ok (.goto 4, 3) := by decide +kernel
theorem dX6_isAt_24 : decode cX6_isAt 24 = .ok (.iconst 0, 1) := by decide +kernel
theorem dX6_isAt_25 : decode cX6_isAt 25 = .ok (.ireturn, 1) := by decide +kernel
set_option maxRecDepth 20000 in
theorem ggX6_isIn_X6_isAt : GoodIn wsX6_isIn wsX6_isAt := goodIn_r _ [6, 7, 8, 9, 10, 11, 12, 13, 14, 15, 16, 17, 18, 19, 20, 21, 22, 23, 24, 25, 26, 27, 28, 29, 30, 31] rfl (by decide +kernel)
set_option maxRecDepth 20000 in
theorem gX6_isIn_X6_isAt : GoodIn wsX6_isIn (wsV RX6 93 RX6 yX6_isAt wsX6_isAt) := goodIn_app (goodIn_r _ [2, 3, 4, 5] rfl (by decide +kernel)) ggX6_isIn_X6_isAt
theorem dX6_isIn_0 : decode cX6_isIn 0 = .ok (.aload_n 0, 1) := by decide +kernel
theorem dX6_isIn_1 : decode cX6_isIn 1 = .ok (.iload_n 1, 1) := by decide +kernel
theorem dX6_isIn_2 : decode cX6_isIn 2 = .ok (.iload_n 2, 1) := by decide +kernel
theorem dX6_isIn_3 : decode cX6_isIn 3 = .ok (.iload_n 3, 1) := by decide +kernel
theorem dX6_isIn_4 : decode cX6_isIn 4 = .ok (.invokevirtual 93, 3) := by decide +kernel
theorem dX6_isIn_7 : decode cX6_isIn 7 = .ok (.ifCond .eq 18, 3) := by decide +kernel
theorem dX6_isIn_10 : decode cX6_isIn 10 = .ok (.aload_n 0, 1) := by decide +kernel
theorem dX6_isIn_11 : decode cX6_isIn 11 = .ok (.getfield 31, 3) := by decide +kernel
theorem dX6_isIn_14 : decode cX6_isIn 14 = .ok (.iload_n 1, 1) := by decide +kernel
theorem dX6_isIn_15 : decode cX6_isIn 15 = .ok (.iaload, 1) := by decide +kernel
theorem dX6_isIn_16 : decode cX6_isIn 16 = .ok (.iload 4, 2) := by decide +kernel
theorem dX6_isIn_18 : decode cX6_isIn 18 = .ok (.if_icmp .ne 7, 3) := by decide +kernel
theorem dX6_isIn_21 : decode cX6_isIn 21 = .ok (.iconst 1, 1) := by decide +kernel
theorem dX6_isIn_22 : decode cX6_isIn 22 = .ok (.goto 4, 3) := by decide +kernel
theorem dX6_isIn_25 : decode cX6_isIn 25 = .ok (.iconst 0, 1) := by decide +kernel
theorem dX6_isIn_26 : decode cX6_isIn 26 = .ok (.ireturn, 1) := by decide +kernel
set_option maxRecDepth 20000 in
theorem ggX6_many_X6_isIn : GoodIn wsX6_many wsX6_isIn := goodIn_r _ [6, 7, 8, 9, 10, 5, 11, 12, 13, 14, 15, 16, 17, 18, 19, 20, 21, 22, 23, 24, 25, 26, 27, 28, 29, 30, 31, 32, 33, 34, 35, 36] rfl (by decide +kernel)
set_option maxRecDepth 20000 in
theorem gX6_many_X6_isIn : GoodIn wsX6_many (wsV RX6 96 RX6 yX6_isIn wsX6_isIn) := goodIn_app (goodIn_r _ [2, 3, 4, 5] rfl (by decide +kernel)) ggX6_many_X6_isIn
theorem dX6_many_0 : decode cX6_many 0 = .ok (.iconst 0, 1) := by decide +kernel
theorem dX6_many_1 : decode cX6_many 1 = .ok (.istore 4, 2) := by decide +kernel
theorem dX6_many_3 : decode cX6_many 3 = .ok (.iconst 0, 1) := by decide +kernel
theorem dX6_many_4 : decode cX6_many 4 = .ok (.istore 5, 2) := by decide +kernel
theorem dX6_many_6 : decode cX6_many 6 = .ok (.iload 5, 2) := by decide +kernel
theorem dX6_many_8 : decode cX6_many 8 = .ok (.aload_n 0, 1) := by decide +kernel
theorem dX6_many_9 : decode cX6_many 9 = .ok (.getfield 76, 3) := by decide +kernel
theorem dX6_many_12 : decode cX6_many 12 = .ok (.if_icmp .ge 31, 3) := by decide +kernel
theorem dX6_many_15 : decode cX6_many 15 = .ok (.iload 4, 2) := by decide +kernel
theorem dX6_many_17 : decode cX6_many 17 = .ok (.aload_n 0, 1) := by decide +kernel
theorem dX6_many_18 : decode cX6_many 18 = .ok (.iload 5, 2) := by decide +kernel
theorem dX6_many_20 : decode cX6_many 20 = .ok (.iload_n 1, 1) := by decide +kernel
theorem dX6_many_21 : decode cX6_many 21 = .ok (.iload_n 2, 1) := by decide +kernel
theorem dX6_many_22 : decode cX6_many 22 = .ok (.iload_n 3, 1) := by decide +kernel
theorem dX6_many_23 : decode cX6_many 23 = .ok (.invokevirtual 96, 3) := by decide +kernel
theorem dX6_many_26 : decode cX6_many 26 = .ok (.ifCond .eq 7, 3) := by decide +kernel
theorem dX6_many_29 : decode cX6_many 29 = .ok (.iconst 1, 1) := by decide +kernel
theorem dX6_many_30 : decode cX6_many 30 = .ok (.goto 4, 3) := by decide +kernel
theorem dX6_many_33 : decode cX6_many 33 = .ok (.iconst 0, 1) := by decide +kernel
theorem dX6_many_34 : decode cX6_many 34 = .ok (.iadd, 1) := by decide +kernel
theorem dX6_many_35 : decode cX6_many 35 = .ok (.istore 4, 2) := by decide +kernel
theorem dX6_many_37 : decode cX6_many 37 = .ok (.iinc 5 1, 3) := by decide +kernel
theorem dX6_many_40 : decode cX6_many 40 = .ok (.goto (-34), 3) := by decide +kernel
theorem dX6_many_43 : decode cX6_many 43 = .ok (.iload 4, 2) := by decide +kernel
theorem dX6_many_45 : decode cX6_many 45 = .ok (.ireturn, 1) := by decide +kernel
set_option maxRecDepth 20000 in
theorem ggX6_end_X6_isIn : GoodIn wsX6_end wsX6_isIn := goodIn_r _ [6, 7, 8, 9, 10, 5, 11, 12, 13, 19, 20, 21, 22, 23, 24, 25, 26, 27, 28, 29, 30, 31, 32, 33, 34, 35, 36, 37, 38, 39, 40, 41] rfl (by decide +kernel)
set_option maxRecDepth 20000 in
theorem gX6_end_X6_isIn : GoodIn wsX6_end (wsV RX6 96 RX6 yX6_isIn wsX6_isIn) := goodIn_app (goodIn_r _ [2, 3, 4, 5] rfl (by decide +kernel)) ggX6_end_X6_isIn
set_option maxRecDepth 20000 in
theorem ggX6_end_X6_step : GoodIn wsX6_end wsX6_step := goodIn_r _ [17, 18, 19, 20, 21, 22, 23, 24, 25, 26, 27, 28, 29, 30, 31, 32, 33, 34, 35, 36, 37, 38, 39, 40, 41] rfl (by decide +kernel)
set_option maxRecDepth 20000 in
theorem gX6_end_X6_step : GoodIn wsX6_end (wsV RX6 100 RX6 yX6_step wsX6_step) := goodIn_app (goodIn_r _ [14, 15, 16, 5] rfl (by decide +kernel)) ggX6_end_X6_step
theorem dX6_end_0 : decode cX6_end 0 = .ok (.iload 4, 2) := by decide +kernel
theorem dX6_end_2 : decode cX6_end 2 = .ok (.ifCond .eq 9, 3) := by decide +kernel
theorem dX6_end_5 : decode cX6_end 5 = .ok (.sipush (-1000), 3) := by decide +kernel
theorem dX6_end_8 : decode cX6_end 8 = .ok (.goto 6, 3) := by decide +kernel
theorem dX6_end_11 : decode cX6_end 11 = .ok (.sipush 1000, 3) := by decide +kernel
theorem dX6_end_14 : decode cX6_end 14 = .ok (.istore 5, 2) := by decide +kernel
theorem dX6_end_16 : decode cX6_end 16 = .ok (.iconst 0, 1) := by decide +kernel
theorem dX6_end_17 : decode cX6_end 17 = .ok (.istore 6, 2) := by decide +kernel
theorem dX6_end_19 : decode cX6_end 19 = .ok (.iload 6, 2) := by decide +kernel
theorem dX6_end_21 : decode cX6_end 21 = .ok (.aload_n 0, 1) := by decide +kernel
theorem dX6_end_22 : decode cX6_end 22 = .ok (.getfield 76, 3) := by decide +kernel
theorem dX6_end_25 : decode cX6_end 25 = .ok (.if_icmp .ge 55, 3) := by decide +kernel
theorem dX6_end_28 : decode cX6_end 28 = .ok (.aload_n 0, 1) := by decide +kernel
theorem dX6_end_29 : decode cX6_end 29 = .ok (.iload 6, 2) := by decide +kernel
theorem dX6_end_31 : decode cX6_end 31 = .ok (.iload_n 1, 1) := by decide +kernel
theorem dX6_end_32 : decode cX6_end 32 = .ok (.iload_n 2, 1) := by decide +kernel
theorem dX6_end_33 : decode cX6_end 33 = .ok (.iload_n 3, 1) := by decide +kernel
theorem dX6_end_34 : decode cX6_end 34 = .ok (.invokevirtual 96, 3) := by decide +kernel
theorem dX6_end_37 : decode cX6_end 37 = .ok (.ifCond .eq 37, 3) := by decide +kernel
theorem dX6_end_40 : decode cX6_end 40 = .ok (.aload_n 0, 1) := by decide +kernel
theorem dX6_end_41 : decode cX6_end 41 = .ok (.iload 6, 2) := by decide +kernel
theorem dX6_end_43 : decode cX6_end 43 = .ok (.invokevirtual 100, 3) := by decide +kernel
theorem dX6_end_46 : decode cX6_end 46 = .ok (.istore 7, 2) := by decide +kernel
theorem dX6_end_48 : decode cX6_end 48 = .ok (.iload 4, 2) := by decide +kernel
theorem dX6_end_50 : decode cX6_end 50 = .ok (.iload 7, 2) := by decide +kernel
theorem dX6_end_52 : decode cX6_end 52 = .ok (.iload 5, 2) := by decide +kernel
theorem dX6_end_54 : decode cX6_end 54 = .ok (.if_icmp .le 7, 3) := by decide +kernel
theorem dX6_end_57 : decode cX6_end 57 = .ok (.iconst 1, 1) := by decide +kernel
theorem dX6_end_58 : decode cX6_end 58 = .ok (.goto 4, 3) := by decide +kernel
theorem dX6_end_61 : decode cX6_end 61 = .ok (.iconst 0, 1) := by decide +kernel
theorem dX6_end_62 : decode cX6_end 62 = .ok (.if_icmp .ne 8, 3) := by decide +kernel
theorem dX6_end_65 : decode cX6_end 65 = .ok (.iload 7, 2) := by decide +kernel
theorem dX6_end_67 : decode cX6_end 67 = .ok (.goto 5, 3) := by decide +kernel
theorem dX6_end_70 : decode cX6_end 70 = .ok (.iload 5, 2) := by decide +kernel
theorem dX6_end_72 : decode cX6_end 72 = .ok (.istore 5, 2) := by decide +kernel
theorem dX6_end_74 : decode cX6_end 74 = .ok (.iinc 6 1, 3) := by decide +kernel
theorem dX6_end_77 : decode cX6_end 77 = .ok (.goto (-58), 3) := by decide +kernel
theorem dX6_end_80 : decode cX6_end 80 = .ok (.iload 5, 2) := by decide +kernel
theorem dX6_end_82 : decode cX6_end 82 = .ok (.ireturn, 1) := by decide +kernel
set_option maxRecDepth 20000 in
theorem ggX6_stem_X6_many : GoodIn wsX6_stem wsX6_many := goodIn_r _ [5, 6, 7, 8, 9, 4, 10, 11, 12, 13, 14, 15, 16, 17, 27, 28, 29, 30, 31, 32, 33, 34, 35, 36, 37, 38, 39, 40, 41, 42, 43, 44, 45, 46, 47, 48, 49] rfl (by decide +kernel)
set_option maxRecDepth 20000 in
theorem gX6_stem_X6_many : GoodIn wsX6_stem (wsV RX6 103 RX6 yX6_many wsX6_many) := goodIn_app (goodIn_r _ [1, 2, 3, 4] rfl (by decide +kernel)) ggX6_stem_X6_many
set_option maxRecDepth 20000 in
theorem ggX6_stem_X6_end : GoodIn wsX6_stem wsX6_end := goodIn_r _ [21, 6, 7, 8, 9, 4, 10, 11, 12, 13, 14, 15, 16, 17, 22, 23, 24, 25, 26, 27, 28, 29, 30, 31, 32, 33, 34, 35, 36, 37, 38, 39, 40, 41, 42, 43, 44, 45, 46, 47, 48, 49] rfl (by decide +kernel)
set_option maxRecDepth 20000 in
theorem gX6_stem_X6_end : GoodIn wsX6_stem (wsV RX6 107 RX6 yX6_end wsX6_end) := goodIn_app (goodIn_r _ [18, 19, 20, 4] rfl (by decide +kernel)) ggX6_stem_X6_end
theorem dX6_stem_0 : decode cX6_stem 0 = .ok (.iconst 0, 1) := by decide +kernel
theorem dX6_stem_1 : decode cX6_stem 1 = .ok (.istore 4, 2) := by decide +kernel
theorem dX6_stem_3 : decode cX6_stem 3 = .ok (.iconst 0, 1) := by decide +kernel
theorem dX6_stem_4 : decode cX6_stem 4 = .ok (.istore 5, 2) := by decide +kernel
theorem dX6_stem_6 : decode cX6_stem 6 = .ok (.iconst 0, 1) := by decide +kernel
theorem dX6_stem_7 : decode cX6_stem 7 = .ok (.istore 6, 2) := by decide +kernel
theorem dX6_stem_9 : decode cX6_stem 9 = .ok (.iload 6, 2) := by decide +kernel
theorem dX6_stem_11 : decode cX6_stem 11 = .ok (.iconst 3, 1) := by decide +kernel
theorem dX6_stem_12 : decode cX6_stem 12 = .ok (.if_icmp .ge 53, 3) := by decide +kernel
theorem dX6_stem_15 : decode cX6_stem 15 = .ok (.aload_n 0, 1) := by decide +kernel
theorem dX6_stem_16 : decode cX6_stem 16 = .ok (.iload_n 1, 1) := by decide +kernel
theorem dX6_stem_17 : decode cX6_stem 17 = .ok (.iload_n 2, 1) := by decide +kernel
theorem dX6_stem_18 : decode cX6_stem 18 = .ok (.iload 6, 2) := by decide +kernel
theorem dX6_stem_20 : decode cX6_stem 20 = .ok (.invokevirtual 103, 3) := by decide +kernel
theorem dX6_stem_23 : decode cX6_stem 23 = .ok (.istore 7, 2) := by decide +kernel
theorem dX6_stem_25 : decode cX6_stem 25 = .ok (.iload 4, 2) := by decide +kernel
theorem dX6_stem_27 : decode cX6_stem 27 = .ok (.iload 6, 2) := by decide +kernel
theorem dX6_stem_29 : decode cX6_stem 29 = .ok (.iload_n 3, 1) := by decide +kernel
theorem dX6_stem_30 : decode cX6_stem 30 = .ok (.if_icmp .ge 8, 3) := by decide +kernel
theorem dX6_stem_33 : decode cX6_stem 33 = .ok (.iload 7, 2) := by decide +kernel
theorem dX6_stem_35 : decode cX6_stem 35 = .ok (.goto 4, 3) := by decide +kernel
theorem dX6_stem_38 : decode cX6_stem 38 = .ok (.iconst 0, 1) := by decide +kernel
theorem dX6_stem_39 : decode cX6_stem 39 = .ok (.iadd, 1) := by decide +kernel
theorem dX6_stem_40 : decode cX6_stem 40 = .ok (.istore 4, 2) := by decide +kernel
theorem dX6_stem_42 : decode cX6_stem 42 = .ok (.iload 5, 2) := by decide +kernel
theorem dX6_stem_44 : decode cX6_stem 44 = .ok (.iload 6, 2) := by decide +kernel
theorem dX6_stem_46 : decode cX6_stem 46 = .ok (.iload_n 3, 1) := by decide +kernel
theorem dX6_stem_47 : decode cX6_stem 47 = .ok (.if_icmp .le 8, 3) := by decide +kernel
theorem dX6_stem_50 : decode cX6_stem 50 = .ok (.iload 7, 2) := by decide +kernel
theorem dX6_stem_52 : decode cX6_stem 52 = .ok (.goto 4, 3) := by decide +kernel
theorem dX6_stem_55 : decode cX6_stem 55 = .ok (.iconst 0, 1) := by decide +kernel
theorem dX6_stem_56 : decode cX6_stem 56 = .ok (.iadd, 1) := by decide +kernel
theorem dX6_stem_57 : decode cX6_stem 57 = .ok (.istore 5, 2) := by decide +kernel
theorem dX6_stem_59 : decode cX6_stem 59 = .ok (.iinc 6 1, 3) := by decide +kernel
theorem dX6_stem_62 : decode cX6_stem 62 = .ok (.goto (-53), 3) := by decide +kernel
theorem dX6_stem_65 : decode cX6_stem 65 = .ok (.iload 4, 2) := by decide +kernel
theorem dX6_stem_67 : decode cX6_stem 67 = .ok (.iload 5, 2) := by decide +kernel
theorem dX6_stem_69 : decode cX6_stem 69 = .ok (.iadd, 1) := by decide +kernel
theorem dX6_stem_70 : decode cX6_stem 70 = .ok (.ifCond .le 14, 3) := by decide +kernel
theorem dX6_stem_73 : decode cX6_stem 73 = .ok (.iload 4, 2) := by decide +kernel
theorem dX6_stem_75 : decode cX6_stem 75 = .ok (.ifCond .ne 7, 3) := by decide +kernel
theorem dX6_stem_78 : decode cX6_stem 78 = .ok (.iconst 1, 1) := by decide +kernel
theorem dX6_stem_79 : decode cX6_stem 79 = .ok (.goto 4, 3) := by decide +kernel
theorem dX6_stem_82 : decode cX6_stem 82 = .ok (.iconst 0, 1) := by decide +kernel
theorem dX6_stem_83 : decode cX6_stem 83 = .ok (.ireturn, 1) := by decide +kernel
theorem dX6_stem_84 : decode cX6_stem 84 = .ok (.aload_n 0, 1) := by decide +kernel
theorem dX6_stem_85 : decode cX6_stem 85 = .ok (.iload_n 1, 1) := by decide +kernel
theorem dX6_stem_86 : decode cX6_stem 86 = .ok (.iload_n 2, 1) := by decide +kernel
theorem dX6_stem_87 : decode cX6_stem 87 = .ok (.iload_n 3, 1) := by decide +kernel
theorem dX6_stem_88 : decode cX6_stem 88 = .ok (.iconst 1, 1) := by decide +kernel
theorem dX6_stem_89 : decode cX6_stem 89 = .ok (.invokevirtual 107, 3) := by decide +kernel
theorem dX6_stem_92 : decode cX6_stem 92 = .ok (.iconst 4, 1) := by decide +kernel
theorem dX6_stem_93 : decode cX6_stem 93 = .ok (.isub, 1) := by decide +kernel
theorem dX6_stem_94 : decode cX6_stem 94 = .ok (.iconst 4, 1) := by decide +kernel
theorem dX6_stem_95 : decode cX6_stem 95 = .ok (.aload_n 0, 1) := by decide +kernel
theorem dX6_stem_96 : decode cX6_stem 96 = .ok (.iload_n 1, 1) := by decide +kernel
theorem dX6_stem_97 : decode cX6_stem 97 = .ok (.iload_n 2, 1) := by decide +kernel
theorem dX6_stem_98 : decode cX6_stem 98 = .ok (.iload_n 3, 1) := by decide +kernel
theorem dX6_stem_99 : decode cX6_stem 99 = .ok (.iconst 0, 1) := by decide +kernel
theorem dX6_stem_100 : decode cX6_stem 100 = .ok (.invokevirtual 107, 3) := by decide +kernel
theorem dX6_stem_103 : decode cX6_stem 103 = .ok (.isub, 1) := by decide +kernel
theorem dX6_stem_104 : decode cX6_stem 104 = .ok (.if_icmp .ge 7, 3) := by decide +kernel
theorem dX6_stem_107 : decode cX6_stem 107 = .ok (.iconst 1, 1) := by decide +kernel
theorem dX6_stem_108 : decode cX6_stem 108 = .ok (.goto 4, 3) := by decide +kernel
theorem dX6_stem_111 : decode cX6_stem 111 = .ok (.iconst 0, 1) := by decide +kernel
theorem dX6_stem_112 : decode cX6_stem 112 = .ok (.ireturn, 1) := by decide +kernel
set_option maxRecDepth 20000 in
theorem ggX6_stemOf_X6_stem : GoodIn wsX6_stemOf wsX6_stem := goodIn_r _ [8, 9, 10, 11, 7, 12, 13, 14, 15, 16, 17, 3, 18, 19, 20, 21, 1, 2, 22, 23, 24, 25, 26, 27, 28, 29, 30, 31, 32, 33, 34, 35, 36, 37, 38, 39, 40, 41, 42, 43, 44, 45, 46, 47, 48, 49, 50, 51, 52, 53] rfl (by decide +kernel)
set_option maxRecDepth 20000 in
theorem gX6_stemOf_X6_stem : GoodIn wsX6_stemOf (wsV RX6 111 RX6 yX6_stem wsX6_stem) := goodIn_app (goodIn_r _ [4, 5, 6, 7] rfl (by decide +kernel)) ggX6_stemOf_X6_stem
theorem dX6_stemOf_0 : decode cX6_stemOf 0 = .ok (.aload_n 0, 1) := by decide +kernel
theorem dX6_stemOf_1 : decode cX6_stemOf 1 = .ok (.aload_n 0, 1) := by decide +kernel
theorem dX6_stemOf_2 : decode cX6_stemOf 2 = .ok (.getfield 28, 3) := by decide +kernel
theorem dX6_stemOf_5 : decode cX6_stemOf 5 = .ok (.iload_n 1, 1) := by decide +kernel
theorem dX6_stemOf_6 : decode cX6_stemOf 6 = .ok (.iaload, 1) := by decide +kernel
theorem dX6_stemOf_7 : decode cX6_stemOf 7 = .ok (.aload_n 0, 1) := by decide +kernel
theorem dX6_stemOf_8 : decode cX6_stemOf 8 = .ok (.getfield 34, 3) := by decide +kernel
theorem dX6_stemOf_11 : decode cX6_stemOf 11 = .ok (.iload_n 1, 1) := by decide +kernel
theorem dX6_stemOf_12 : decode cX6_stemOf 12 = .ok (.iaload, 1) := by decide +kernel
theorem dX6_stemOf_13 : decode cX6_stemOf 13 = .ok (.aload_n 0, 1) := by decide +kernel
theorem dX6_stemOf_14 : decode cX6_stemOf 14 = .ok (.getfield 31, 3) := by decide +kernel
theorem dX6_stemOf_17 : decode cX6_stemOf 17 = .ok (.iload_n 1, 1) := by decide +kernel
theorem dX6_stemOf_18 : decode cX6_stemOf 18 = .ok (.iaload, 1) := by decide +kernel
theorem dX6_stemOf_19 : decode cX6_stemOf 19 = .ok (.invokevirtual 111, 3) := by decide +kernel
theorem dX6_stemOf_22 : decode cX6_stemOf 22 = .ok (.ireturn, 1) := by decide +kernel
set_option maxRecDepth 20000 in
theorem ggX6_isAhead_X6_step : GoodIn wsX6_isAhead wsX6_step := goodIn_r _ [5, 6, 7, 8, 9, 10, 11, 12, 13, 14, 15, 16, 17, 18, 19, 20, 21, 22, 23, 24, 25, 26, 27, 28, 29] rfl (by decide +kernel)
set_option maxRecDepth 20000 in
theorem gX6_isAhead_X6_step : GoodIn wsX6_isAhead (wsV RX6 100 RX6 yX6_step wsX6_step) := goodIn_app (goodIn_r _ [1, 2, 3, 4] rfl (by decide +kernel)) ggX6_isAhead_X6_step
theorem dX6_isAhead_0 : decode cX6_isAhead 0 = .ok (.aload_n 0, 1) := by decide +kernel
theorem dX6_isAhead_1 : decode cX6_isAhead 1 = .ok (.iload_n 1, 1) := by decide +kernel
theorem dX6_isAhead_2 : decode cX6_isAhead 2 = .ok (.invokevirtual 100, 3) := by decide +kernel
theorem dX6_isAhead_5 : decode cX6_isAhead 5 = .ok (.aload_n 0, 1) := by decide +kernel
theorem dX6_isAhead_6 : decode cX6_isAhead 6 = .ok (.iload_n 2, 1) := by decide +kernel
theorem dX6_isAhead_7 : decode cX6_isAhead 7 = .ok (.invokevirtual 100, 3) := by decide +kernel
theorem dX6_isAhead_10 : decode cX6_isAhead 10 = .ok (.isub, 1) := by decide +kernel
theorem dX6_isAhead_11 : decode cX6_isAhead 11 = .ok (.istore 4, 2) := by decide +kernel
theorem dX6_isAhead_13 : decode cX6_isAhead 13 = .ok (.iload 4, 2) := by decide +kernel
theorem dX6_isAhead_15 : decode cX6_isAhead 15 = .ok (.ifCond .ne 16, 3) := by decide +kernel
theorem dX6_isAhead_18 : decode cX6_isAhead 18 = .ok (.iload_n 1, 1) := by decide +kernel
theorem dX6_isAhead_19 : decode cX6_isAhead 19 = .ok (.iload_n 2, 1) := by decide +kernel
theorem dX6_isAhead_20 : decode cX6_isAhead 20 = .ok (.if_icmp .ge 7, 3) := by decide +kernel
theorem dX6_isAhead_23 : decode cX6_isAhead 23 = .ok (.iconst 1, 1) := by decide +kernel
theorem dX6_isAhead_24 : decode cX6_isAhead 24 = .ok (.goto 26, 3) := by decide +kernel
theorem dX6_isAhead_27 : decode cX6_isAhead 27 = .ok (.iconst 0, 1) := by decide +kernel
theorem dX6_isAhead_28 : decode cX6_isAhead 28 = .ok (.goto 22, 3) := by decide +kernel
theorem dX6_isAhead_31 : decode cX6_isAhead 31 = .ok (.iload_n 3, 1) := by decide +kernel
theorem dX6_isAhead_32 : decode cX6_isAhead 32 = .ok (.iload 4, 2) := by decide +kernel
theorem dX6_isAhead_34 : decode cX6_isAhead 34 = .ok (.ifCond .ge 7, 3) := by decide +kernel
theorem dX6_isAhead_37 : decode cX6_isAhead 37 = .ok (.iconst 1, 1) := by decide +kernel
theorem dX6_isAhead_38 : decode cX6_isAhead 38 = .ok (.goto 4, 3) := by decide +kernel
theorem dX6_isAhead_41 : decode cX6_isAhead 41 = .ok (.iconst 0, 1) := by decide +kernel
theorem dX6_isAhead_42 : decode cX6_isAhead 42 = .ok (.if_icmp .ne 7, 3) := by decide +kernel
theorem dX6_isAhead_45 : decode cX6_isAhead 45 = .ok (.iconst 1, 1) := by decide +kernel
theorem dX6_isAhead_46 : decode cX6_isAhead 46 = .ok (.goto 4, 3) := by decide +kernel
theorem dX6_isAhead_49 : decode cX6_isAhead 49 = .ok (.iconst 0, 1) := by decide +kernel
theorem dX6_isAhead_50 : decode cX6_isAhead 50 = .ok (.ireturn, 1) := by decide +kernel
set_option maxRecDepth 20000 in
theorem ggX6_aside_X6_stemOf : GoodIn wsX6_aside wsX6_stemOf := goodIn_r _ [9, 2, 3, 4, 10, 11, 12, 8, 13, 14, 15, 16, 17, 1, 18, 19, 20, 21, 22, 23, 24, 25, 26, 27, 28, 29, 30, 31, 32, 33, 34, 39, 40, 41, 42, 43, 44, 45, 46, 47, 48, 49, 50, 51, 52, 53, 54, 55, 56, 57, 58, 59, 60, 61] rfl (by decide +kernel)
set_option maxRecDepth 20000 in
theorem gX6_aside_X6_stemOf : GoodIn wsX6_aside (wsV RX6 114 RX6 yX6_stemOf wsX6_stemOf) := goodIn_app (goodIn_r _ [5, 6, 7, 8] rfl (by decide +kernel)) ggX6_aside_X6_stemOf
set_option maxRecDepth 20000 in
theorem ggX6_aside_X6_isIn : GoodIn wsX6_aside wsX6_isIn := goodIn_r _ [21, 4, 22, 23, 24, 8, 25, 2, 3, 39, 40, 41, 42, 43, 44, 45, 46, 47, 48, 49, 50, 51, 52, 53, 54, 55, 56, 57, 58, 59, 60, 61] rfl (by decide +kernel)
set_option maxRecDepth 20000 in
theorem gX6_aside_X6_isIn : GoodIn wsX6_aside (wsV RX6 96 RX6 yX6_isIn wsX6_isIn) := goodIn_app (goodIn_r _ [18, 19, 20, 8] rfl (by decide +kernel)) ggX6_aside_X6_isIn
set_option maxRecDepth 20000 in
theorem ggX6_aside_X6_isAhead : GoodIn wsX6_aside wsX6_isAhead := goodIn_r _ [38, 30, 31, 32, 8, 33, 34, 39, 40, 41, 42, 43, 44, 45, 46, 47, 48, 49, 50, 51, 52, 53, 54, 55, 56, 57, 58, 59, 60, 61] rfl (by decide +kernel)
set_option maxRecDepth 20000 in
theorem gX6_aside_X6_isAhead : GoodIn wsX6_aside (wsV RX6 117 RX6 yX6_isAhead wsX6_isAhead) := goodIn_app (goodIn_r _ [35, 36, 37, 8] rfl (by decide +kernel)) ggX6_aside_X6_isAhead
set_option maxRecDepth 20000 in
theorem ggX6_aside_X6_step : GoodIn wsX6_aside wsX6_step := goodIn_r _ [33, 34, 39, 40, 41, 42, 43, 44, 45, 46, 47, 48, 49, 50, 51, 52, 53, 54, 55, 56, 57, 58, 59, 60, 61] rfl (by decide +kernel)
set_option maxRecDepth 20000 in
theorem gX6_aside_X6_step : GoodIn wsX6_aside (wsV RX6 100 RX6 yX6_step wsX6_step) := goodIn_app (goodIn_r _ [30, 31, 32, 8] rfl (by decide +kernel)) ggX6_aside_X6_step
theorem dX6_aside_0 : decode cX6_aside 0 = .ok (.aload_n 0, 1) := by decide +kernel
theorem dX6_aside_1 : decode cX6_aside 1 = .ok (.iload_n 1, 1) := by decide +kernel
theorem dX6_aside_2 : decode cX6_aside 2 = .ok (.invokevirtual 114, 3) := by decide +kernel
theorem dX6_aside_5 : decode cX6_aside 5 = .ok (.iconst 1, 1) := by decide +kernel
theorem dX6_aside_6 : decode cX6_aside 6 = .ok (.if_icmp .ne 7, 3) := by decide +kernel
theorem dX6_aside_9 : decode cX6_aside 9 = .ok (.iconst 1, 1) := by decide +kernel
theorem dX6_aside_10 : decode cX6_aside 10 = .ok (.goto 4, 3) := by decide +kernel
theorem dX6_aside_13 : decode cX6_aside 13 = .ok (.iconst 0, 1) := by decide +kernel
theorem dX6_aside_14 : decode cX6_aside 14 = .ok (.istore_n 2, 1) := by decide +kernel
theorem dX6_aside_15 : decode cX6_aside 15 = .ok (.sipush (-1000), 3) := by decide +kernel
theorem dX6_aside_18 : decode cX6_aside 18 = .ok (.istore_n 3, 1) := by decide +kernel
theorem dX6_aside_19 : decode cX6_aside 19 = .ok (.iconst 0, 1) := by decide +kernel
theorem dX6_aside_20 : decode cX6_aside 20 = .ok (.istore 4, 2) := by decide +kernel
theorem dX6_aside_22 : decode cX6_aside 22 = .ok (.iconst 1, 1) := by decide +kernel
theorem dX6_aside_23 : decode cX6_aside 23 = .ok (.istore 5, 2) := by decide +kernel
theorem dX6_aside_25 : decode cX6_aside 25 = .ok (.iload 5, 2) := by decide +kernel
theorem dX6_aside_27 : decode cX6_aside 27 = .ok (.ifCond .eq 180, 3) := by decide +kernel
theorem dX6_aside_30 : decode cX6_aside 30 = .ok (.sipush (-1000), 3) := by decide +kernel
theorem dX6_aside_33 : decode cX6_aside 33 = .ok (.istore 6, 2) := by decide +kernel
theorem dX6_aside_35 : decode cX6_aside 35 = .ok (.iconst 0, 1) := by decide +kernel
theorem dX6_aside_36 : decode cX6_aside 36 = .ok (.istore 7, 2) := by decide +kernel
theorem dX6_aside_38 : decode cX6_aside 38 = .ok (.iload 7, 2) := by decide +kernel
theorem dX6_aside_40 : decode cX6_aside 40 = .ok (.aload_n 0, 1) := by decide +kernel
theorem dX6_aside_41 : decode cX6_aside 41 = .ok (.getfield 76, 3) := by decide +kernel
theorem dX6_aside_44 : decode cX6_aside 44 = .ok (.if_icmp .ge 95, 3) := by decide +kernel
theorem dX6_aside_47 : decode cX6_aside 47 = .ok (.aload_n 0, 1) := by decide +kernel
theorem dX6_aside_48 : decode cX6_aside 48 = .ok (.iload 7, 2) := by decide +kernel
theorem dX6_aside_50 : decode cX6_aside 50 = .ok (.aload_n 0, 1) := by decide +kernel
theorem dX6_aside_51 : decode cX6_aside 51 = .ok (.getfield 28, 3) := by decide +kernel
theorem dX6_aside_54 : decode cX6_aside 54 = .ok (.iload_n 1, 1) := by decide +kernel
theorem dX6_aside_55 : decode cX6_aside 55 = .ok (.iaload, 1) := by decide +kernel
theorem dX6_aside_56 : decode cX6_aside 56 = .ok (.aload_n 0, 1) := by decide +kernel
theorem dX6_aside_57 : decode cX6_aside 57 = .ok (.getfield 34, 3) := by decide +kernel
theorem dX6_aside_60 : decode cX6_aside 60 = .ok (.iload_n 1, 1) := by decide +kernel
theorem dX6_aside_61 : decode cX6_aside 61 = .ok (.iaload, 1) := by decide +kernel
theorem dX6_aside_62 : decode cX6_aside 62 = .ok (.aload_n 0, 1) := by decide +kernel
theorem dX6_aside_63 : decode cX6_aside 63 = .ok (.getfield 31, 3) := by decide +kernel
theorem dX6_aside_66 : decode cX6_aside 66 = .ok (.iload_n 1, 1) := by decide +kernel
theorem dX6_aside_67 : decode cX6_aside 67 = .ok (.iaload, 1) := by decide +kernel
theorem dX6_aside_68 : decode cX6_aside 68 = .ok (.invokevirtual 96, 3) := by decide +kernel
theorem dX6_aside_71 : decode cX6_aside 71 = .ok (.ifCond .eq 25, 3) := by decide +kernel
theorem dX6_aside_74 : decode cX6_aside 74 = .ok (.iload_n 3, 1) := by decide +kernel
theorem dX6_aside_75 : decode cX6_aside 75 = .ok (.sipush (-1000), 3) := by decide +kernel
theorem dX6_aside_78 : decode cX6_aside 78 = .ok (.if_icmp .eq 14, 3) := by decide +kernel
theorem dX6_aside_81 : decode cX6_aside 81 = .ok (.aload_n 0, 1) := by decide +kernel
theorem dX6_aside_82 : decode cX6_aside 82 = .ok (.iload_n 3, 1) := by decide +kernel
theorem dX6_aside_83 : decode cX6_aside 83 = .ok (.iload 7, 2) := by decide +kernel
theorem dX6_aside_85 : decode cX6_aside 85 = .ok (.iload_n 2, 1) := by decide +kernel
theorem dX6_aside_86 : decode cX6_aside 86 = .ok (.invokevirtual 117, 3) := by decide +kernel
theorem dX6_aside_89 : decode cX6_aside 89 = .ok (.ifCond .eq 7, 3) := by decide +kernel
theorem dX6_aside_92 : decode cX6_aside 92 = .ok (.iconst 1, 1) := by decide +kernel
theorem dX6_aside_93 : decode cX6_aside 93 = .ok (.goto 4, 3) := by decide +kernel
theorem dX6_aside_96 : decode cX6_aside 96 = .ok (.iconst 0, 1) := by decide +kernel
theorem dX6_aside_97 : decode cX6_aside 97 = .ok (.istore 8, 2) := by decide +kernel
theorem dX6_aside_99 : decode cX6_aside 99 = .ok (.iload 8, 2) := by decide +kernel
theorem dX6_aside_101 : decode cX6_aside 101 = .ok (.ifCond .eq 28, 3) := by decide +kernel
theorem dX6_aside_104 : decode cX6_aside 104 = .ok (.iload 6, 2) := by decide +kernel
theorem dX6_aside_106 : decode cX6_aside 106 = .ok (.sipush (-1000), 3) := by decide +kernel
theorem dX6_aside_109 : decode cX6_aside 109 = .ok (.if_icmp .eq 15, 3) := by decide +kernel
theorem dX6_aside_112 : decode cX6_aside 112 = .ok (.aload_n 0, 1) := by decide +kernel
theorem dX6_aside_113 : decode cX6_aside 113 = .ok (.iload 7, 2) := by decide +kernel
theorem dX6_aside_115 : decode cX6_aside 115 = .ok (.iload 6, 2) := by decide +kernel
theorem dX6_aside_117 : decode cX6_aside 117 = .ok (.iload_n 2, 1) := by decide +kernel
theorem dX6_aside_118 : decode cX6_aside 118 = .ok (.invokevirtual 117, 3) := by decide +kernel
theorem dX6_aside_121 : decode cX6_aside 121 = .ok (.ifCond .eq 8, 3) := by decide +kernel
theorem dX6_aside_124 : decode cX6_aside 124 = .ok (.iload 7, 2) := by decide +kernel
theorem dX6_aside_126 : decode cX6_aside 126 = .ok (.goto 5, 3) := by decide +kernel
theorem dX6_aside_129 : decode cX6_aside 129 = .ok (.iload 6, 2) := by decide +kernel
theorem dX6_aside_131 : decode cX6_aside 131 = .ok (.istore 6, 2) := by decide +kernel
theorem dX6_aside_133 : decode cX6_aside 133 = .ok (.iinc 7 1, 3) := by decide +kernel
theorem dX6_aside_136 : decode cX6_aside 136 = .ok (.goto (-98), 3) := by decide +kernel
theorem dX6_aside_139 : decode cX6_aside 139 = .ok (.iload_n 3, 1) := by decide +kernel
theorem dX6_aside_140 : decode cX6_aside 140 = .ok (.sipush (-1000), 3) := by decide +kernel
theorem dX6_aside_143 : decode cX6_aside 143 = .ok (.if_icmp .ne 8, 3) := by decide +kernel
theorem dX6_aside_146 : decode cX6_aside 146 = .ok (.bipush 100, 2) := by decide +kernel
theorem dX6_aside_148 : decode cX6_aside 148 = .ok (.goto 15, 3) := by decide +kernel
theorem dX6_aside_151 : decode cX6_aside 151 = .ok (.aload_n 0, 1) := by decide +kernel
theorem dX6_aside_152 : decode cX6_aside 152 = .ok (.iload 6, 2) := by decide +kernel
theorem dX6_aside_154 : decode cX6_aside 154 = .ok (.invokevirtual 100, 3) := by decide +kernel
theorem dX6_aside_157 : decode cX6_aside 157 = .ok (.aload_n 0, 1) := by decide +kernel
theorem dX6_aside_158 : decode cX6_aside 158 = .ok (.iload_n 3, 1) := by decide +kernel
theorem dX6_aside_159 : decode cX6_aside 159 = .ok (.invokevirtual 100, 3) := by decide +kernel
theorem dX6_aside_162 : decode cX6_aside 162 = .ok (.isub, 1) := by decide +kernel
theorem dX6_aside_163 : decode cX6_aside 163 = .ok (.istore 7, 2) := by decide +kernel
theorem dX6_aside_165 : decode cX6_aside 165 = .ok (.iload 7, 2) := by decide +kernel
theorem dX6_aside_167 : decode cX6_aside 167 = .ok (.iconst (-1), 1) := by decide +kernel
theorem dX6_aside_168 : decode cX6_aside 168 = .ok (.if_icmp .lt 18, 3) := by decide +kernel
theorem dX6_aside_171 : decode cX6_aside 171 = .ok (.iload 7, 2) := by decide +kernel
theorem dX6_aside_173 : decode cX6_aside 173 = .ok (.iconst 1, 1) := by decide +kernel
theorem dX6_aside_174 : decode cX6_aside 174 = .ok (.if_icmp .gt 12, 3) := by decide +kernel
theorem dX6_aside_177 : decode cX6_aside 177 = .ok (.iload 4, 2) := by decide +kernel
theorem dX6_aside_179 : decode cX6_aside 179 = .ok (.ifCond .ne 7, 3) := by decide +kernel
theorem dX6_aside_182 : decode cX6_aside 182 = .ok (.iconst 1, 1) := by decide +kernel
theorem dX6_aside_183 : decode cX6_aside 183 = .ok (.goto 4, 3) := by decide +kernel
theorem dX6_aside_186 : decode cX6_aside 186 = .ok (.iconst 0, 1) := by decide +kernel
theorem dX6_aside_187 : decode cX6_aside 187 = .ok (.istore 4, 2) := by decide +kernel
theorem dX6_aside_189 : decode cX6_aside 189 = .ok (.iload 6, 2) := by decide +kernel
theorem dX6_aside_191 : decode cX6_aside 191 = .ok (.istore_n 3, 1) := by decide +kernel
theorem dX6_aside_192 : decode cX6_aside 192 = .ok (.iload_n 3, 1) := by decide +kernel
theorem dX6_aside_193 : decode cX6_aside 193 = .ok (.iload_n 1, 1) := by decide +kernel
theorem dX6_aside_194 : decode cX6_aside 194 = .ok (.if_icmp .eq 7, 3) := by decide +kernel
theorem dX6_aside_197 : decode cX6_aside 197 = .ok (.iconst 1, 1) := by decide +kernel
theorem dX6_aside_198 : decode cX6_aside 198 = .ok (.goto 4, 3) := by decide +kernel
theorem dX6_aside_201 : decode cX6_aside 201 = .ok (.iconst 0, 1) := by decide +kernel
theorem dX6_aside_202 : decode cX6_aside 202 = .ok (.istore 5, 2) := by decide +kernel
theorem dX6_aside_204 : decode cX6_aside 204 = .ok (.goto (-179), 3) := by decide +kernel
theorem dX6_aside_207 : decode cX6_aside 207 = .ok (.iload 4, 2) := by decide +kernel
theorem dX6_aside_209 : decode cX6_aside 209 = .ok (.ifCond .eq 15, 3) := by decide +kernel
theorem dX6_aside_212 : decode cX6_aside 212 = .ok (.iload_n 2, 1) := by decide +kernel
theorem dX6_aside_213 : decode cX6_aside 213 = .ok (.ifCond .eq 7, 3) := by decide +kernel
theorem dX6_aside_216 : decode cX6_aside 216 = .ok (.iconst 1, 1) := by decide +kernel
theorem dX6_aside_217 : decode cX6_aside 217 = .ok (.goto 8, 3) := by decide +kernel
theorem dX6_aside_220 : decode cX6_aside 220 = .ok (.iconst (-1), 1) := by decide +kernel
theorem dX6_aside_221 : decode cX6_aside 221 = .ok (.goto 4, 3) := by decide +kernel
theorem dX6_aside_224 : decode cX6_aside 224 = .ok (.iconst 0, 1) := by decide +kernel
theorem dX6_aside_225 : decode cX6_aside 225 = .ok (.ireturn, 1) := by decide +kernel
set_option maxRecDepth 20000 in
theorem ggX6_areShared_X6_isAt : GoodIn wsX6_areShared wsX6_isAt := goodIn_r _ [9, 1, 2, 37, 38, 39, 40, 41, 42, 43, 44, 45, 46, 47, 48, 49, 50, 51, 52, 53, 54, 55, 56, 57, 58, 59] rfl (by decide +kernel)
set_option maxRecDepth 20000 in
theorem gX6_areShared_X6_isAt : GoodIn wsX6_areShared (wsV RX6 93 RX6 yX6_isAt wsX6_isAt) := goodIn_app (goodIn_r _ [5, 6, 7, 8] rfl (by decide +kernel)) ggX6_areShared_X6_isAt
set_option maxRecDepth 20000 in
theorem ggX6_areShared_X6_step : GoodIn wsX6_areShared wsX6_step := goodIn_r _ [13, 14, 37, 38, 39, 40, 41, 42, 43, 44, 45, 46, 47, 48, 49, 50, 51, 52, 53, 54, 55, 56, 57, 58, 59] rfl (by decide +kernel)
set_option maxRecDepth 20000 in
theorem gX6_areShared_X6_step : GoodIn wsX6_areShared (wsV RX6 100 RX6 yX6_step wsX6_step) := goodIn_app (goodIn_r _ [10, 11, 12, 8] rfl (by decide +kernel)) ggX6_areShared_X6_step
set_option maxRecDepth 20000 in
theorem ggX6_areShared_X6_stemOf : GoodIn wsX6_areShared wsX6_stemOf := goodIn_r _ [18, 1, 2, 19, 20, 21, 22, 8, 23, 24, 25, 26, 27, 28, 29, 30, 31, 32, 5, 6, 7, 9, 33, 34, 35, 36, 10, 11, 12, 13, 14, 37, 38, 39, 40, 41, 42, 43, 44, 45, 46, 47, 48, 49, 50, 51, 52, 53, 54, 55, 56, 57, 58, 59] rfl (by decide +kernel)
set_option maxRecDepth 20000 in
theorem gX6_areShared_X6_stemOf : GoodIn wsX6_areShared (wsV RX6 114 RX6 yX6_stemOf wsX6_stemOf) := goodIn_app (goodIn_r _ [15, 16, 17, 8] rfl (by decide +kernel)) ggX6_areShared_X6_stemOf
theorem dX6_areShared_0 : decode cX6_areShared 0 = .ok (.aload_n 0, 1) := by decide +kernel
theorem dX6_areShared_1 : decode cX6_areShared 1 = .ok (.iload_n 2, 1) := by decide +kernel
theorem dX6_areShared_2 : decode cX6_areShared 2 = .ok (.aload_n 0, 1) := by decide +kernel
theorem dX6_areShared_3 : decode cX6_areShared 3 = .ok (.getfield 28, 3) := by decide +kernel
theorem dX6_areShared_6 : decode cX6_areShared 6 = .ok (.iload_n 1, 1) := by decide +kernel
theorem dX6_areShared_7 : decode cX6_areShared 7 = .ok (.iaload, 1) := by decide +kernel
theorem dX6_areShared_8 : decode cX6_areShared 8 = .ok (.aload_n 0, 1) := by decide +kernel
theorem dX6_areShared_9 : decode cX6_areShared 9 = .ok (.getfield 34, 3) := by decide +kernel
theorem dX6_areShared_12 : decode cX6_areShared 12 = .ok (.iload_n 1, 1) := by decide +kernel
theorem dX6_areShared_13 : decode cX6_areShared 13 = .ok (.iaload, 1) := by decide +kernel
theorem dX6_areShared_14 : decode cX6_areShared 14 = .ok (.invokevirtual 93, 3) := by decide +kernel
theorem dX6_areShared_17 : decode cX6_areShared 17 = .ok (.ifCond .eq 63, 3) := by decide +kernel
theorem dX6_areShared_20 : decode cX6_areShared 20 = .ok (.aload_n 0, 1) := by decide +kernel
theorem dX6_areShared_21 : decode cX6_areShared 21 = .ok (.iload_n 1, 1) := by decide +kernel
theorem dX6_areShared_22 : decode cX6_areShared 22 = .ok (.invokevirtual 100, 3) := by decide +kernel
theorem dX6_areShared_25 : decode cX6_areShared 25 = .ok (.aload_n 0, 1) := by decide +kernel
theorem dX6_areShared_26 : decode cX6_areShared 26 = .ok (.iload_n 2, 1) := by decide +kernel
theorem dX6_areShared_27 : decode cX6_areShared 27 = .ok (.invokevirtual 100, 3) := by decide +kernel
theorem dX6_areShared_30 : decode cX6_areShared 30 = .ok (.if_icmp .ne 50, 3) := by decide +kernel
theorem dX6_areShared_33 : decode cX6_areShared 33 = .ok (.aload_n 0, 1) := by decide +kernel
theorem dX6_areShared_34 : decode cX6_areShared 34 = .ok (.getfield 43, 3) := by decide +kernel
theorem dX6_areShared_37 : decode cX6_areShared 37 = .ok (.iload_n 1, 1) := by decide +kernel
theorem dX6_areShared_38 : decode cX6_areShared 38 = .ok (.iaload, 1) := by decide +kernel
theorem dX6_areShared_39 : decode cX6_areShared 39 = .ok (.aload_n 0, 1) := by decide +kernel
theorem dX6_areShared_40 : decode cX6_areShared 40 = .ok (.getfield 43, 3) := by decide +kernel
theorem dX6_areShared_43 : decode cX6_areShared 43 = .ok (.iload_n 2, 1) := by decide +kernel
theorem dX6_areShared_44 : decode cX6_areShared 44 = .ok (.iaload, 1) := by decide +kernel
theorem dX6_areShared_45 : decode cX6_areShared 45 = .ok (.if_icmp .ne 35, 3) := by decide +kernel
theorem dX6_areShared_48 : decode cX6_areShared 48 = .ok (.aload_n 0, 1) := by decide +kernel
theorem dX6_areShared_49 : decode cX6_areShared 49 = .ok (.getfield 40, 3) := by decide +kernel
theorem dX6_areShared_52 : decode cX6_areShared 52 = .ok (.iload_n 1, 1) := by decide +kernel
theorem dX6_areShared_53 : decode cX6_areShared 53 = .ok (.iaload, 1) := by decide +kernel
theorem dX6_areShared_54 : decode cX6_areShared 54 = .ok (.aload_n 0, 1) := by decide +kernel
theorem dX6_areShared_55 : decode cX6_areShared 55 = .ok (.getfield 40, 3) := by decide +kernel
theorem dX6_areShared_58 : decode cX6_areShared 58 = .ok (.iload_n 2, 1) := by decide +kernel
theorem dX6_areShared_59 : decode cX6_areShared 59 = .ok (.iaload, 1) := by decide +kernel
theorem dX6_areShared_60 : decode cX6_areShared 60 = .ok (.if_icmp .ne 20, 3) := by decide +kernel
theorem dX6_areShared_63 : decode cX6_areShared 63 = .ok (.aload_n 0, 1) := by decide +kernel
theorem dX6_areShared_64 : decode cX6_areShared 64 = .ok (.iload_n 1, 1) := by decide +kernel
theorem dX6_areShared_65 : decode cX6_areShared 65 = .ok (.invokevirtual 114, 3) := by decide +kernel
theorem dX6_areShared_68 : decode cX6_areShared 68 = .ok (.aload_n 0, 1) := by decide +kernel
theorem dX6_areShared_69 : decode cX6_areShared 69 = .ok (.iload_n 2, 1) := by decide +kernel
theorem dX6_areShared_70 : decode cX6_areShared 70 = .ok (.invokevirtual 114, 3) := by decide +kernel
theorem dX6_areShared_73 : decode cX6_areShared 73 = .ok (.if_icmp .eq 7, 3) := by decide +kernel
theorem dX6_areShared_76 : decode cX6_areShared 76 = .ok (.iconst 1, 1) := by decide +kernel
theorem dX6_areShared_77 : decode cX6_areShared 77 = .ok (.goto 4, 3) := by decide +kernel
theorem dX6_areShared_80 : decode cX6_areShared 80 = .ok (.iconst 0, 1) := by decide +kernel
theorem dX6_areShared_81 : decode cX6_areShared 81 = .ok (.ireturn, 1) := by decide +kernel
set_option maxRecDepth 20000 in
theorem ggX6_move_X6_isIn : GoodIn wsX6_move wsX6_isIn := goodIn_r _ [8, 9, 10, 11, 12, 7, 13, 14, 15, 55, 56, 57, 58, 59, 60, 61, 62, 63, 64, 65, 66, 67, 68, 69, 70, 71, 72, 73, 74, 75, 76, 77] rfl (by decide +kernel)
set_option maxRecDepth 20000 in
theorem gX6_move_X6_isIn : GoodIn wsX6_move (wsV RX6 96 RX6 yX6_isIn wsX6_isIn) := goodIn_app (goodIn_r _ [4, 5, 6, 7] rfl (by decide +kernel)) ggX6_move_X6_isIn
set_option maxRecDepth 20000 in
theorem ggX6_move_X6_aside : GoodIn wsX6_move wsX6_aside := goodIn_r _ [19, 2, 14, 15, 9, 20, 21, 22, 7, 23, 24, 25, 26, 27, 28, 29, 30, 31, 4, 5, 6, 8, 10, 11, 12, 13, 32, 33, 34, 35, 36, 37, 38, 39, 40, 41, 42, 43, 44, 55, 56, 57, 58, 59, 60, 61, 62, 63, 64, 65, 66, 67, 68, 69, 70, 71, 72, 73, 74, 75, 76, 77] rfl (by decide +kernel)
set_option maxRecDepth 20000 in
theorem gX6_move_X6_aside : GoodIn wsX6_move (wsV RX6 121 RX6 yX6_aside wsX6_aside) := goodIn_app (goodIn_r _ [16, 17, 18, 7] rfl (by decide +kernel)) ggX6_move_X6_aside
set_option maxRecDepth 20000 in
theorem ggX6_move_X6_liesOver : GoodIn wsX6_move wsX6_liesOver := goodIn_r _ [48, 2, 9, 3, 40, 4, 5, 6, 7, 8, 10, 11, 12, 13, 14, 15, 49, 50, 51, 52, 53, 54, 36, 37, 38, 39, 20, 21, 22, 23, 24, 25, 26, 27, 28, 29, 30, 31, 32, 33, 34, 35, 55, 56, 57, 58, 59, 60, 61, 62, 63, 64, 65, 66, 67, 68, 69, 70, 71, 72, 73, 74, 75, 76, 77] rfl (by decide +kernel)
set_option maxRecDepth 20000 in
theorem gX6_move_X6_liesOver : GoodIn wsX6_move (wsV RX6 124 RX6 yX6_liesOver wsX6_liesOver) := goodIn_app (goodIn_r _ [45, 46, 47, 7] rfl (by decide +kernel)) ggX6_move_X6_liesOver
theorem dX6_move_0 : decode cX6_move 0 = .ok (.iconst 0, 1) := by decide +kernel
theorem dX6_move_1 : decode cX6_move 1 = .ok (.istore_n 3, 1) := by decide +kernel
theorem dX6_move_2 : decode cX6_move 2 = .ok (.iload_n 3, 1) := by decide +kernel
theorem dX6_move_3 : decode cX6_move 3 = .ok (.iconst 3, 1) := by decide +kernel
theorem dX6_move_4 : decode cX6_move 4 = .ok (.if_icmp .ge 147, 3) := by decide +kernel
theorem dX6_move_7 : decode cX6_move 7 = .ok (.aload_n 0, 1) := by decide +kernel
theorem dX6_move_8 : decode cX6_move 8 = .ok (.getfield 56, 3) := by decide +kernel
theorem dX6_move_11 : decode cX6_move 11 = .ok (.iload_n 3, 1) := by decide +kernel
theorem dX6_move_12 : decode cX6_move 12 = .ok (.iconst 0, 1) := by decide +kernel
theorem dX6_move_13 : decode cX6_move 13 = .ok (.iastore, 1) := by decide +kernel
theorem dX6_move_14 : decode cX6_move 14 = .ok (.iconst 0, 1) := by decide +kernel
theorem dX6_move_15 : decode cX6_move 15 = .ok (.istore 4, 2) := by decide +kernel
theorem dX6_move_17 : decode cX6_move 17 = .ok (.iconst 0, 1) := by decide +kernel
theorem dX6_move_18 : decode cX6_move 18 = .ok (.istore 5, 2) := by decide +kernel
theorem dX6_move_20 : decode cX6_move 20 = .ok (.iload 5, 2) := by decide +kernel
theorem dX6_move_22 : decode cX6_move 22 = .ok (.aload_n 0, 1) := by decide +kernel
theorem dX6_move_23 : decode cX6_move 23 = .ok (.getfield 76, 3) := by decide +kernel
theorem dX6_move_26 : decode cX6_move 26 = .ok (.if_icmp .ge 34, 3) := by decide +kernel
theorem dX6_move_29 : decode cX6_move 29 = .ok (.aload_n 0, 1) := by decide +kernel
theorem dX6_move_30 : decode cX6_move 30 = .ok (.iload 5, 2) := by decide +kernel
theorem dX6_move_32 : decode cX6_move 32 = .ok (.iload_n 1, 1) := by decide +kernel
theorem dX6_move_33 : decode cX6_move 33 = .ok (.iload_n 2, 1) := by decide +kernel
theorem dX6_move_34 : decode cX6_move 34 = .ok (.iload_n 3, 1) := by decide +kernel
theorem dX6_move_35 : decode cX6_move 35 = .ok (.invokevirtual 96, 3) := by decide +kernel
theorem dX6_move_38 : decode cX6_move 38 = .ok (.ifCond .eq 16, 3) := by decide +kernel
theorem dX6_move_41 : decode cX6_move 41 = .ok (.aload_n 0, 1) := by decide +kernel
theorem dX6_move_42 : decode cX6_move 42 = .ok (.getfield 59, 3) := by decide +kernel
theorem dX6_move_45 : decode cX6_move 45 = .ok (.iload 5, 2) := by decide +kernel
theorem dX6_move_47 : decode cX6_move 47 = .ok (.aload_n 0, 1) := by decide +kernel
theorem dX6_move_48 : decode cX6_move 48 = .ok (.iload 5, 2) := by decide +kernel
theorem dX6_move_50 : decode cX6_move 50 = .ok (.invokevirtual 121, 3) := by decide +kernel
theorem dX6_move_53 : decode cX6_move 53 = .ok (.iastore, 1) := by decide +kernel
theorem dX6_move_54 : decode cX6_move 54 = .ok (.iinc 5 1, 3) := by decide +kernel
theorem dX6_move_57 : decode cX6_move 57 = .ok (.goto (-37), 3) := by decide +kernel
theorem dX6_move_60 : decode cX6_move 60 = .ok (.iload 4, 2) := by decide +kernel
theorem dX6_move_62 : decode cX6_move 62 = .ok (.ifCond .ne 83, 3) := by decide +kernel
theorem dX6_move_65 : decode cX6_move 65 = .ok (.aload_n 0, 1) := by decide +kernel
theorem dX6_move_66 : decode cX6_move 66 = .ok (.iload_n 1, 1) := by decide +kernel
theorem dX6_move_67 : decode cX6_move 67 = .ok (.iload_n 2, 1) := by decide +kernel
theorem dX6_move_68 : decode cX6_move 68 = .ok (.iload_n 3, 1) := by decide +kernel
theorem dX6_move_69 : decode cX6_move 69 = .ok (.invokevirtual 124, 3) := by decide +kernel
theorem dX6_move_72 : decode cX6_move 72 = .ok (.ifCond .ne 7, 3) := by decide +kernel
theorem dX6_move_75 : decode cX6_move 75 = .ok (.iconst 1, 1) := by decide +kernel
theorem dX6_move_76 : decode cX6_move 76 = .ok (.goto 4, 3) := by decide +kernel
theorem dX6_move_79 : decode cX6_move 79 = .ok (.iconst 0, 1) := by decide +kernel
theorem dX6_move_80 : decode cX6_move 80 = .ok (.istore 4, 2) := by decide +kernel
theorem dX6_move_82 : decode cX6_move 82 = .ok (.iload 4, 2) := by decide +kernel
theorem dX6_move_84 : decode cX6_move 84 = .ok (.ifCond .ne (-24), 3) := by decide +kernel
theorem dX6_move_87 : decode cX6_move 87 = .ok (.aload_n 0, 1) := by decide +kernel
theorem dX6_move_88 : decode cX6_move 88 = .ok (.getfield 56, 3) := by decide +kernel
theorem dX6_move_91 : decode cX6_move 91 = .ok (.iload_n 3, 1) := by decide +kernel
theorem dX6_move_92 : decode cX6_move 92 = .ok (.dup2, 1) := by decide +kernel
theorem dX6_move_93 : decode cX6_move 93 = .ok (.iaload, 1) := by decide +kernel
theorem dX6_move_94 : decode cX6_move 94 = .ok (.iconst 1, 1) := by decide +kernel
theorem dX6_move_95 : decode cX6_move 95 = .ok (.iadd, 1) := by decide +kernel
theorem dX6_move_96 : decode cX6_move 96 = .ok (.iastore, 1) := by decide +kernel
theorem dX6_move_97 : decode cX6_move 97 = .ok (.iconst 0, 1) := by decide +kernel
theorem dX6_move_98 : decode cX6_move 98 = .ok (.istore 5, 2) := by decide +kernel
theorem dX6_move_100 : decode cX6_move 100 = .ok (.iload 5, 2) := by decide +kernel
theorem dX6_move_102 : decode cX6_move 102 = .ok (.aload_n 0, 1) := by decide +kernel
theorem dX6_move_103 : decode cX6_move 103 = .ok (.getfield 76, 3) := by decide +kernel
theorem dX6_move_106 : decode cX6_move 106 = .ok (.if_icmp .ge 36, 3) := by decide +kernel
theorem dX6_move_109 : decode cX6_move 109 = .ok (.aload_n 0, 1) := by decide +kernel
theorem dX6_move_110 : decode cX6_move 110 = .ok (.getfield 59, 3) := by decide +kernel
theorem dX6_move_113 : decode cX6_move 113 = .ok (.iload 5, 2) := by decide +kernel
theorem dX6_move_115 : decode cX6_move 115 = .ok (.dup2, 1) := by decide +kernel
theorem dX6_move_116 : decode cX6_move 116 = .ok (.iaload, 1) := by decide +kernel
theorem dX6_move_117 : decode cX6_move 117 = .ok (.aload_n 0, 1) := by decide +kernel
theorem dX6_move_118 : decode cX6_move 118 = .ok (.iload 5, 2) := by decide +kernel
theorem dX6_move_120 : decode cX6_move 120 = .ok (.iload_n 1, 1) := by decide +kernel
theorem dX6_move_121 : decode cX6_move 121 = .ok (.iload_n 2, 1) := by decide +kernel
theorem dX6_move_122 : decode cX6_move 122 = .ok (.iload_n 3, 1) := by decide +kernel
theorem dX6_move_123 : decode cX6_move 123 = .ok (.invokevirtual 96, 3) := by decide +kernel
theorem dX6_move_126 : decode cX6_move 126 = .ok (.ifCond .eq 7, 3) := by decide +kernel
theorem dX6_move_129 : decode cX6_move 129 = .ok (.iconst 1, 1) := by decide +kernel
theorem dX6_move_130 : decode cX6_move 130 = .ok (.goto 4, 3) := by decide +kernel
theorem dX6_move_133 : decode cX6_move 133 = .ok (.iconst 0, 1) := by decide +kernel
theorem dX6_move_134 : decode cX6_move 134 = .ok (.iadd, 1) := by decide +kernel
theorem dX6_move_135 : decode cX6_move 135 = .ok (.iastore, 1) := by decide +kernel
theorem dX6_move_136 : decode cX6_move 136 = .ok (.iinc 5 1, 3) := by decide +kernel
theorem dX6_move_139 : decode cX6_move 139 = .ok (.goto (-39), 3) := by decide +kernel
theorem dX6_move_142 : decode cX6_move 142 = .ok (.goto (-82), 3) := by decide +kernel
theorem dX6_move_145 : decode cX6_move 145 = .ok (.iinc 3 1, 3) := by decide +kernel
theorem dX6_move_148 : decode cX6_move 148 = .ok (.goto (-146), 3) := by decide +kernel
theorem dX6_move_151 : decode cX6_move 151 = .ok (.return_, 1) := by decide +kernel
set_option maxRecDepth 20000 in
theorem ggX6_liesOver_X6_isIn : GoodIn wsX6_liesOver wsX6_isIn := goodIn_r _ [9, 2, 10, 11, 12, 8, 13, 14, 15, 42, 43, 44, 45, 46, 47, 48, 49, 50, 51, 52, 53, 54, 55, 56, 57, 58, 59, 60, 61, 62, 63, 64] rfl (by decide +kernel)
set_option maxRecDepth 20000 in
theorem gX6_liesOver_X6_isIn : GoodIn wsX6_liesOver (wsV RX6 96 RX6 yX6_isIn wsX6_isIn) := goodIn_app (goodIn_r _ [5, 6, 7, 8] rfl (by decide +kernel)) ggX6_liesOver_X6_isIn
set_option maxRecDepth 20000 in
theorem ggX6_liesOver_X6_isAt : GoodIn wsX6_liesOver wsX6_isAt := goodIn_r _ [13, 14, 15, 42, 43, 44, 45, 46, 47, 48, 49, 50, 51, 52, 53, 54, 55, 56, 57, 58, 59, 60, 61, 62, 63, 64] rfl (by decide +kernel)
set_option maxRecDepth 20000 in
theorem gX6_liesOver_X6_isAt : GoodIn wsX6_liesOver (wsV RX6 93 RX6 yX6_isAt wsX6_isAt) := goodIn_app (goodIn_r _ [10, 11, 12, 8] rfl (by decide +kernel)) ggX6_liesOver_X6_isAt
set_option maxRecDepth 20000 in
theorem ggX6_liesOver_X6_areShared : GoodIn wsX6_liesOver wsX6_areShared := goodIn_r _ [19, 14, 15, 20, 21, 10, 11, 12, 8, 13, 22, 23, 24, 25, 4, 26, 27, 28, 29, 2, 30, 31, 32, 33, 34, 35, 36, 37, 1, 5, 6, 7, 9, 38, 39, 40, 41, 42, 43, 44, 45, 46, 47, 48, 49, 50, 51, 52, 53, 54, 55, 56, 57, 58, 59, 60, 61, 62, 63, 64] rfl (by decide +kernel)
set_option maxRecDepth 20000 in
theorem gX6_liesOver_X6_areShared : GoodIn wsX6_liesOver (wsV RX6 127 RX6 yX6_areShared wsX6_areShared) := goodIn_app (goodIn_r _ [16, 17, 18, 8] rfl (by decide +kernel)) ggX6_liesOver_X6_areShared
theorem dX6_liesOver_0 : decode cX6_liesOver 0 = .ok (.iconst 0, 1) := by decide +kernel
theorem dX6_liesOver_1 : decode cX6_liesOver 1 = .ok (.istore 4, 2) := by decide +kernel
theorem dX6_liesOver_3 : decode cX6_liesOver 3 = .ok (.iload 4, 2) := by decide +kernel
theorem dX6_liesOver_5 : decode cX6_liesOver 5 = .ok (.aload_n 0, 1) := by decide +kernel
theorem dX6_liesOver_6 : decode cX6_liesOver 6 = .ok (.getfield 76, 3) := by decide +kernel
theorem dX6_liesOver_9 : decode cX6_liesOver 9 = .ok (.if_icmp .ge 120, 3) := by decide +kernel
theorem dX6_liesOver_12 : decode cX6_liesOver 12 = .ok (.iconst 0, 1) := by decide +kernel
theorem dX6_liesOver_13 : decode cX6_liesOver 13 = .ok (.istore 5, 2) := by decide +kernel
theorem dX6_liesOver_15 : decode cX6_liesOver 15 = .ok (.iload 5, 2) := by decide +kernel
theorem dX6_liesOver_17 : decode cX6_liesOver 17 = .ok (.aload_n 0, 1) := by decide +kernel
theorem dX6_liesOver_18 : decode cX6_liesOver 18 = .ok (.getfield 76, 3) := by decide +kernel
theorem dX6_liesOver_21 : decode cX6_liesOver 21 = .ok (.if_icmp .ge 102, 3) := by decide +kernel
theorem dX6_liesOver_24 : decode cX6_liesOver 24 = .ok (.aload_n 0, 1) := by decide +kernel
theorem dX6_liesOver_25 : decode cX6_liesOver 25 = .ok (.iload 4, 2) := by decide +kernel
theorem dX6_liesOver_27 : decode cX6_liesOver 27 = .ok (.iload_n 1, 1) := by decide +kernel
theorem dX6_liesOver_28 : decode cX6_liesOver 28 = .ok (.iload_n 2, 1) := by decide +kernel
theorem dX6_liesOver_29 : decode cX6_liesOver 29 = .ok (.iload_n 3, 1) := by decide +kernel
theorem dX6_liesOver_30 : decode cX6_liesOver 30 = .ok (.invokevirtual 96, 3) := by decide +kernel
theorem dX6_liesOver_33 : decode cX6_liesOver 33 = .ok (.ifCond .eq 84, 3) := by decide +kernel
theorem dX6_liesOver_36 : decode cX6_liesOver 36 = .ok (.aload_n 0, 1) := by decide +kernel
theorem dX6_liesOver_37 : decode cX6_liesOver 37 = .ok (.iload 5, 2) := by decide +kernel
theorem dX6_liesOver_39 : decode cX6_liesOver 39 = .ok (.iload_n 1, 1) := by decide +kernel
theorem dX6_liesOver_40 : decode cX6_liesOver 40 = .ok (.iload_n 2, 1) := by decide +kernel
theorem dX6_liesOver_41 : decode cX6_liesOver 41 = .ok (.invokevirtual 93, 3) := by decide +kernel
theorem dX6_liesOver_44 : decode cX6_liesOver 44 = .ok (.ifCond .eq 73, 3) := by decide +kernel
theorem dX6_liesOver_47 : decode cX6_liesOver 47 = .ok (.aload_n 0, 1) := by decide +kernel
theorem dX6_liesOver_48 : decode cX6_liesOver 48 = .ok (.getfield 31, 3) := by decide +kernel
theorem dX6_liesOver_51 : decode cX6_liesOver 51 = .ok (.iload 5, 2) := by decide +kernel
theorem dX6_liesOver_53 : decode cX6_liesOver 53 = .ok (.iaload, 1) := by decide +kernel
theorem dX6_liesOver_54 : decode cX6_liesOver 54 = .ok (.iload_n 3, 1) := by decide +kernel
theorem dX6_liesOver_55 : decode cX6_liesOver 55 = .ok (.if_icmp .ge 62, 3) := by decide +kernel
theorem dX6_liesOver_58 : decode cX6_liesOver 58 = .ok (.aload_n 0, 1) := by decide +kernel
theorem dX6_liesOver_59 : decode cX6_liesOver 59 = .ok (.getfield 59, 3) := by decide +kernel
theorem dX6_liesOver_62 : decode cX6_liesOver 62 = .ok (.iload 4, 2) := by decide +kernel
theorem dX6_liesOver_64 : decode cX6_liesOver 64 = .ok (.iaload, 1) := by decide +kernel
theorem dX6_liesOver_65 : decode cX6_liesOver 65 = .ok (.aload_n 0, 1) := by decide +kernel
theorem dX6_liesOver_66 : decode cX6_liesOver 66 = .ok (.getfield 59, 3) := by decide +kernel
theorem dX6_liesOver_69 : decode cX6_liesOver 69 = .ok (.iload 5, 2) := by decide +kernel
theorem dX6_liesOver_71 : decode cX6_liesOver 71 = .ok (.iaload, 1) := by decide +kernel
theorem dX6_liesOver_72 : decode cX6_liesOver 72 = .ok (.if_icmp .ne 45, 3) := by decide +kernel
theorem dX6_liesOver_75 : decode cX6_liesOver 75 = .ok (.aload_n 0, 1) := by decide +kernel
theorem dX6_liesOver_76 : decode cX6_liesOver 76 = .ok (.getfield 53, 3) := by decide +kernel
theorem dX6_liesOver_79 : decode cX6_liesOver 79 = .ok (.iload 4, 2) := by decide +kernel
theorem dX6_liesOver_81 : decode cX6_liesOver 81 = .ok (.iaload, 1) := by decide +kernel
theorem dX6_liesOver_82 : decode cX6_liesOver 82 = .ok (.aload_n 0, 1) := by decide +kernel
theorem dX6_liesOver_83 : decode cX6_liesOver 83 = .ok (.getfield 53, 3) := by decide +kernel
theorem dX6_liesOver_86 : decode cX6_liesOver 86 = .ok (.iload 5, 2) := by decide +kernel
theorem dX6_liesOver_88 : decode cX6_liesOver 88 = .ok (.iaload, 1) := by decide +kernel
theorem dX6_liesOver_89 : decode cX6_liesOver 89 = .ok (.isub, 1) := by decide +kernel
theorem dX6_liesOver_90 : decode cX6_liesOver 90 = .ok (.istore 6, 2) := by decide +kernel
theorem dX6_liesOver_92 : decode cX6_liesOver 92 = .ok (.iload 6, 2) := by decide +kernel
theorem dX6_liesOver_94 : decode cX6_liesOver 94 = .ok (.iconst (-1), 1) := by decide +kernel
theorem dX6_liesOver_95 : decode cX6_liesOver 95 = .ok (.if_icmp .lt 22, 3) := by decide +kernel
theorem dX6_liesOver_98 : decode cX6_liesOver 98 = .ok (.iload 6, 2) := by decide +kernel
theorem dX6_liesOver_100 : decode cX6_liesOver 100 = .ok (.iconst 1, 1) := by decide +kernel
theorem dX6_liesOver_101 : decode cX6_liesOver 101 = .ok (.if_icmp .gt 16, 3) := by decide +kernel
theorem dX6_liesOver_104 : decode cX6_liesOver 104 = .ok (.aload_n 0, 1) := by decide +kernel
theorem dX6_liesOver_105 : decode cX6_liesOver 105 = .ok (.iload 4, 2) := by decide +kernel
theorem dX6_liesOver_107 : decode cX6_liesOver 107 = .ok (.iload 5, 2) := by decide +kernel
theorem dX6_liesOver_109 : decode cX6_liesOver 109 = .ok (.invokevirtual 127, 3) := by decide +kernel
theorem dX6_liesOver_112 : decode cX6_liesOver 112 = .ok (.ifCond .ne 5, 3) := by decide +kernel
theorem dX6_liesOver_115 : decode cX6_liesOver 115 = .ok (.iconst 1, 1) := by decide +kernel
theorem dX6_liesOver_116 : decode cX6_liesOver 116 = .ok (.ireturn, 1) := by decide +kernel
theorem dX6_liesOver_117 : decode cX6_liesOver 117 = .ok (.iinc 5 1, 3) := by decide +kernel
theorem dX6_liesOver_120 : decode cX6_liesOver 120 = .ok (.goto (-105), 3) := by decide +kernel
theorem dX6_liesOver_123 : decode cX6_liesOver 123 = .ok (.iinc 4 1, 3) := by decide +kernel
theorem dX6_liesOver_126 : decode cX6_liesOver 126 = .ok (.goto (-123), 3) := by decide +kernel
theorem dX6_liesOver_129 : decode cX6_liesOver 129 = .ok (.iconst 0, 1) := by decide +kernel
theorem dX6_liesOver_130 : decode cX6_liesOver 130 = .ok (.ireturn, 1) := by decide +kernel
set_option maxRecDepth 20000 in
theorem ggX6_placeSigns_X6_isAt : GoodIn wsX6_placeSigns wsX6_isAt := goodIn_r _ [8, 9, 10, 20, 21, 22, 23, 24, 25, 26, 27, 28, 29, 30, 31, 32, 33, 34, 35, 36, 37, 38, 39, 40, 41, 42] rfl (by decide +kernel)
set_option maxRecDepth 20000 in
theorem gX6_placeSigns_X6_isAt : GoodIn wsX6_placeSigns (wsV RX6 93 RX6 yX6_isAt wsX6_isAt) := goodIn_app (goodIn_r _ [4, 5, 6, 7] rfl (by decide +kernel)) ggX6_placeSigns_X6_isAt
set_option maxRecDepth 20000 in
theorem ggX6_placeSigns_X6_step : GoodIn wsX6_placeSigns wsX6_step := goodIn_r _ [14, 15, 20, 21, 22, 23, 24, 25, 26, 27, 28, 29, 30, 31, 32, 33, 34, 35, 36, 37, 38, 39, 40, 41, 42] rfl (by decide +kernel)
set_option maxRecDepth 20000 in
theorem gX6_placeSigns_X6_step : GoodIn wsX6_placeSigns (wsV RX6 100 RX6 yX6_step wsX6_step) := goodIn_app (goodIn_r _ [11, 12, 13, 7] rfl (by decide +kernel)) ggX6_placeSigns_X6_step
set_option maxRecDepth 20000 in
theorem ggX6_placeSigns_X6_columnFor : GoodIn wsX6_placeSigns wsX6_columnFor := goodIn_r _ [19, 1, 2, 3, 4, 5, 6, 7, 8, 9, 10, 11, 12, 13, 14, 15, 20, 21, 22, 23, 24, 25, 26, 27, 28, 29, 30, 31, 32, 33, 34, 35, 36, 37, 38, 39, 40, 41, 42] rfl (by decide +kernel)
set_option maxRecDepth 20000 in
theorem gX6_placeSigns_X6_columnFor : GoodIn wsX6_placeSigns (wsV RX6 131 RX6 yX6_columnFor wsX6_columnFor) := goodIn_app (goodIn_r _ [16, 17, 18, 7] rfl (by decide +kernel)) ggX6_placeSigns_X6_columnFor
theorem dX6_placeSigns_0 : decode cX6_placeSigns 0 = .ok (.iconst 0, 1) := by decide +kernel
theorem dX6_placeSigns_1 : decode cX6_placeSigns 1 = .ok (.istore_n 3, 1) := by decide +kernel
theorem dX6_placeSigns_2 : decode cX6_placeSigns 2 = .ok (.iconst 0, 1) := by decide +kernel
theorem dX6_placeSigns_3 : decode cX6_placeSigns 3 = .ok (.istore 4, 2) := by decide +kernel
theorem dX6_placeSigns_5 : decode cX6_placeSigns 5 = .ok (.iload 4, 2) := by decide +kernel
theorem dX6_placeSigns_7 : decode cX6_placeSigns 7 = .ok (.aload_n 0, 1) := by decide +kernel
theorem dX6_placeSigns_8 : decode cX6_placeSigns 8 = .ok (.getfield 76, 3) := by decide +kernel
theorem dX6_placeSigns_11 : decode cX6_placeSigns 11 = .ok (.if_icmp .ge 47, 3) := by decide +kernel
theorem dX6_placeSigns_14 : decode cX6_placeSigns 14 = .ok (.aload_n 0, 1) := by decide +kernel
theorem dX6_placeSigns_15 : decode cX6_placeSigns 15 = .ok (.getfield 62, 3) := by decide +kernel
theorem dX6_placeSigns_18 : decode cX6_placeSigns 18 = .ok (.iload 4, 2) := by decide +kernel
theorem dX6_placeSigns_20 : decode cX6_placeSigns 20 = .ok (.iconst 0, 1) := by decide +kernel
theorem dX6_placeSigns_21 : decode cX6_placeSigns 21 = .ok (.iastore, 1) := by decide +kernel
theorem dX6_placeSigns_22 : decode cX6_placeSigns 22 = .ok (.iload_n 3, 1) := by decide +kernel
theorem dX6_placeSigns_23 : decode cX6_placeSigns 23 = .ok (.aload_n 0, 1) := by decide +kernel
theorem dX6_placeSigns_24 : decode cX6_placeSigns 24 = .ok (.iload 4, 2) := by decide +kernel
theorem dX6_placeSigns_26 : decode cX6_placeSigns 26 = .ok (.iload_n 1, 1) := by decide +kernel
theorem dX6_placeSigns_27 : decode cX6_placeSigns 27 = .ok (.iload_n 2, 1) := by decide +kernel
theorem dX6_placeSigns_28 : decode cX6_placeSigns 28 = .ok (.invokevirtual 93, 3) := by decide +kernel
theorem dX6_placeSigns_31 : decode cX6_placeSigns 31 = .ok (.ifCond .eq 18, 3) := by decide +kernel
theorem dX6_placeSigns_34 : decode cX6_placeSigns 34 = .ok (.aload_n 0, 1) := by decide +kernel
theorem dX6_placeSigns_35 : decode cX6_placeSigns 35 = .ok (.getfield 40, 3) := by decide +kernel
theorem dX6_placeSigns_38 : decode cX6_placeSigns 38 = .ok (.iload 4, 2) := by decide +kernel
theorem dX6_placeSigns_40 : decode cX6_placeSigns 40 = .ok (.iaload, 1) := by decide +kernel
theorem dX6_placeSigns_41 : decode cX6_placeSigns 41 = .ok (.iconst 3, 1) := by decide +kernel
theorem dX6_placeSigns_42 : decode cX6_placeSigns 42 = .ok (.if_icmp .eq 7, 3) := by decide +kernel
theorem dX6_placeSigns_45 : decode cX6_placeSigns 45 = .ok (.iconst 1, 1) := by decide +kernel
theorem dX6_placeSigns_46 : decode cX6_placeSigns 46 = .ok (.goto 4, 3) := by decide +kernel
theorem dX6_placeSigns_49 : decode cX6_placeSigns 49 = .ok (.iconst 0, 1) := by decide +kernel
theorem dX6_placeSigns_50 : decode cX6_placeSigns 50 = .ok (.iadd, 1) := by decide +kernel
theorem dX6_placeSigns_51 : decode cX6_placeSigns 51 = .ok (.istore_n 3, 1) := by decide +kernel
theorem dX6_placeSigns_52 : decode cX6_placeSigns 52 = .ok (.iinc 4 1, 3) := by decide +kernel
theorem dX6_placeSigns_55 : decode cX6_placeSigns 55 = .ok (.goto (-50), 3) := by decide +kernel
theorem dX6_placeSigns_58 : decode cX6_placeSigns 58 = .ok (.iconst 0, 1) := by decide +kernel
theorem dX6_placeSigns_59 : decode cX6_placeSigns 59 = .ok (.istore 4, 2) := by decide +kernel
theorem dX6_placeSigns_61 : decode cX6_placeSigns 61 = .ok (.iload 4, 2) := by decide +kernel
theorem dX6_placeSigns_63 : decode cX6_placeSigns 63 = .ok (.iload_n 3, 1) := by decide +kernel
theorem dX6_placeSigns_64 : decode cX6_placeSigns 64 = .ok (.if_icmp .ge 148, 3) := by decide +kernel
theorem dX6_placeSigns_67 : decode cX6_placeSigns 67 = .ok (.sipush (-1000), 3) := by decide +kernel
theorem dX6_placeSigns_70 : decode cX6_placeSigns 70 = .ok (.istore 5, 2) := by decide +kernel
theorem dX6_placeSigns_72 : decode cX6_placeSigns 72 = .ok (.iconst 0, 1) := by decide +kernel
theorem dX6_placeSigns_73 : decode cX6_placeSigns 73 = .ok (.istore 6, 2) := by decide +kernel
theorem dX6_placeSigns_75 : decode cX6_placeSigns 75 = .ok (.iload 6, 2) := by decide +kernel
theorem dX6_placeSigns_77 : decode cX6_placeSigns 77 = .ok (.aload_n 0, 1) := by decide +kernel
theorem dX6_placeSigns_78 : decode cX6_placeSigns 78 = .ok (.getfield 76, 3) := by decide +kernel
theorem dX6_placeSigns_81 : decode cX6_placeSigns 81 = .ok (.if_icmp .ge 110, 3) := by decide +kernel
theorem dX6_placeSigns_84 : decode cX6_placeSigns 84 = .ok (.aload_n 0, 1) := by decide +kernel
theorem dX6_placeSigns_85 : decode cX6_placeSigns 85 = .ok (.iload 6, 2) := by decide +kernel
theorem dX6_placeSigns_87 : decode cX6_placeSigns 87 = .ok (.iload_n 1, 1) := by decide +kernel
theorem dX6_placeSigns_88 : decode cX6_placeSigns 88 = .ok (.iload_n 2, 1) := by decide +kernel
theorem dX6_placeSigns_89 : decode cX6_placeSigns 89 = .ok (.invokevirtual 93, 3) := by decide +kernel
theorem dX6_placeSigns_92 : decode cX6_placeSigns 92 = .ok (.ifCond .eq 93, 3) := by decide +kernel
theorem dX6_placeSigns_95 : decode cX6_placeSigns 95 = .ok (.aload_n 0, 1) := by decide +kernel
theorem dX6_placeSigns_96 : decode cX6_placeSigns 96 = .ok (.getfield 40, 3) := by decide +kernel
theorem dX6_placeSigns_99 : decode cX6_placeSigns 99 = .ok (.iload 6, 2) := by decide +kernel
theorem dX6_placeSigns_101 : decode cX6_placeSigns 101 = .ok (.iaload, 1) := by decide +kernel
theorem dX6_placeSigns_102 : decode cX6_placeSigns 102 = .ok (.iconst 3, 1) := by decide +kernel
theorem dX6_placeSigns_103 : decode cX6_placeSigns 103 = .ok (.if_icmp .eq 82, 3) := by decide +kernel
theorem dX6_placeSigns_106 : decode cX6_placeSigns 106 = .ok (.aload_n 0, 1) := by decide +kernel
theorem dX6_placeSigns_107 : decode cX6_placeSigns 107 = .ok (.getfield 62, 3) := by decide +kernel
theorem dX6_placeSigns_110 : decode cX6_placeSigns 110 = .ok (.iload 6, 2) := by decide +kernel
theorem dX6_placeSigns_112 : decode cX6_placeSigns 112 = .ok (.iaload, 1) := by decide +kernel
theorem dX6_placeSigns_113 : decode cX6_placeSigns 113 = .ok (.ifCond .ne 72, 3) := by decide +kernel
theorem dX6_placeSigns_116 : decode cX6_placeSigns 116 = .ok (.iload 5, 2) := by decide +kernel
theorem dX6_placeSigns_118 : decode cX6_placeSigns 118 = .ok (.sipush (-1000), 3) := by decide +kernel
theorem dX6_placeSigns_121 : decode cX6_placeSigns 121 = .ok (.if_icmp .eq 43, 3) := by decide +kernel
theorem dX6_placeSigns_124 : decode cX6_placeSigns 124 = .ok (.iload 4, 2) := by decide +kernel
theorem dX6_placeSigns_126 : decode cX6_placeSigns 126 = .ok (.iconst 2, 1) := by decide +kernel
theorem dX6_placeSigns_127 : decode cX6_placeSigns 127 = .ok (.irem, 1) := by decide +kernel
theorem dX6_placeSigns_128 : decode cX6_placeSigns 128 = .ok (.ifCond .ne 21, 3) := by decide +kernel
theorem dX6_placeSigns_131 : decode cX6_placeSigns 131 = .ok (.aload_n 0, 1) := by decide +kernel
theorem dX6_placeSigns_132 : decode cX6_placeSigns 132 = .ok (.iload 6, 2) := by decide +kernel
theorem dX6_placeSigns_134 : decode cX6_placeSigns 134 = .ok (.invokevirtual 100, 3) := by decide +kernel
theorem dX6_placeSigns_137 : decode cX6_placeSigns 137 = .ok (.aload_n 0, 1) := by decide +kernel
theorem dX6_placeSigns_138 : decode cX6_placeSigns 138 = .ok (.iload 5, 2) := by decide +kernel
theorem dX6_placeSigns_140 : decode cX6_placeSigns 140 = .ok (.invokevirtual 100, 3) := by decide +kernel
theorem dX6_placeSigns_143 : decode cX6_placeSigns 143 = .ok (.if_icmp .le 25, 3) := by decide +kernel
theorem dX6_placeSigns_146 : decode cX6_placeSigns 146 = .ok (.goto 18, 3) := by decide +kernel
theorem dX6_placeSigns_149 : decode cX6_placeSigns 149 = .ok (.aload_n 0, 1) := by decide +kernel
theorem dX6_placeSigns_150 : decode cX6_placeSigns 150 = .ok (.iload 6, 2) := by decide +kernel
theorem dX6_placeSigns_152 : decode cX6_placeSigns 152 = .ok (.invokevirtual 100, 3) := by decide +kernel
theorem dX6_placeSigns_155 : decode cX6_placeSigns 155 = .ok (.aload_n 0, 1) := by decide +kernel
theorem dX6_placeSigns_156 : decode cX6_placeSigns 156 = .ok (.iload 5, 2) := by decide +kernel
theorem dX6_placeSigns_158 : decode cX6_placeSigns 158 = .ok (.invokevirtual 100, 3) := by decide +kernel
theorem dX6_placeSigns_161 : decode cX6_placeSigns 161 = .ok (.if_icmp .ge 7, 3) := by decide +kernel
theorem dX6_placeSigns_164 : decode cX6_placeSigns 164 = .ok (.iconst 1, 1) := by decide +kernel
theorem dX6_placeSigns_165 : decode cX6_placeSigns 165 = .ok (.goto 4, 3) := by decide +kernel
theorem dX6_placeSigns_168 : decode cX6_placeSigns 168 = .ok (.iconst 0, 1) := by decide +kernel
theorem dX6_placeSigns_169 : decode cX6_placeSigns 169 = .ok (.istore 7, 2) := by decide +kernel
theorem dX6_placeSigns_171 : decode cX6_placeSigns 171 = .ok (.iload 7, 2) := by decide +kernel
theorem dX6_placeSigns_173 : decode cX6_placeSigns 173 = .ok (.ifCond .eq 8, 3) := by decide +kernel
theorem dX6_placeSigns_176 : decode cX6_placeSigns 176 = .ok (.iload 6, 2) := by decide +kernel
theorem dX6_placeSigns_178 : decode cX6_placeSigns 178 = .ok (.goto 5, 3) := by decide +kernel
theorem dX6_placeSigns_181 : decode cX6_placeSigns 181 = .ok (.iload 5, 2) := by decide +kernel
theorem dX6_placeSigns_183 : decode cX6_placeSigns 183 = .ok (.istore 5, 2) := by decide +kernel
theorem dX6_placeSigns_185 : decode cX6_placeSigns 185 = .ok (.iinc 6 1, 3) := by decide +kernel
theorem dX6_placeSigns_188 : decode cX6_placeSigns 188 = .ok (.goto (-113), 3) := by decide +kernel
theorem dX6_placeSigns_191 : decode cX6_placeSigns 191 = .ok (.aload_n 0, 1) := by decide +kernel
theorem dX6_placeSigns_192 : decode cX6_placeSigns 192 = .ok (.getfield 62, 3) := by decide +kernel
theorem dX6_placeSigns_195 : decode cX6_placeSigns 195 = .ok (.iload 5, 2) := by decide +kernel
theorem dX6_placeSigns_197 : decode cX6_placeSigns 197 = .ok (.aload_n 0, 1) := by decide +kernel
theorem dX6_placeSigns_198 : decode cX6_placeSigns 198 = .ok (.iload 5, 2) := by decide +kernel
theorem dX6_placeSigns_200 : decode cX6_placeSigns 200 = .ok (.iload_n 1, 1) := by decide +kernel
theorem dX6_placeSigns_201 : decode cX6_placeSigns 201 = .ok (.iload_n 2, 1) := by decide +kernel
theorem dX6_placeSigns_202 : decode cX6_placeSigns 202 = .ok (.invokevirtual 131, 3) := by decide +kernel
theorem dX6_placeSigns_205 : decode cX6_placeSigns 205 = .ok (.iastore, 1) := by decide +kernel
theorem dX6_placeSigns_206 : decode cX6_placeSigns 206 = .ok (.iinc 4 1, 3) := by decide +kernel
theorem dX6_placeSigns_209 : decode cX6_placeSigns 209 = .ok (.goto (-148), 3) := by decide +kernel
theorem dX6_placeSigns_212 : decode cX6_placeSigns 212 = .ok (.return_, 1) := by decide +kernel
set_option maxRecDepth 20000 in
theorem ggX6_columnFor_X6_isAt : GoodIn wsX6_columnFor wsX6_isAt := goodIn_r _ [8, 9, 10, 16, 17, 18, 19, 20, 21, 22, 23, 24, 25, 26, 27, 28, 29, 30, 31, 32, 33, 34, 35, 36, 37, 38] rfl (by decide +kernel)
set_option maxRecDepth 20000 in
theorem gX6_columnFor_X6_isAt : GoodIn wsX6_columnFor (wsV RX6 93 RX6 yX6_isAt wsX6_isAt) := goodIn_app (goodIn_r _ [4, 5, 6, 7] rfl (by decide +kernel)) ggX6_columnFor_X6_isAt
set_option maxRecDepth 20000 in
theorem ggX6_columnFor_X6_step : GoodIn wsX6_columnFor wsX6_step := goodIn_r _ [14, 15, 16, 17, 18, 19, 20, 21, 22, 23, 24, 25, 26, 27, 28, 29, 30, 31, 32, 33, 34, 35, 36, 37, 38] rfl (by decide +kernel)
set_option maxRecDepth 20000 in
theorem gX6_columnFor_X6_step : GoodIn wsX6_columnFor (wsV RX6 100 RX6 yX6_step wsX6_step) := goodIn_app (goodIn_r _ [11, 12, 13, 7] rfl (by decide +kernel)) ggX6_columnFor_X6_step
theorem dX6_columnFor_0 : decode cX6_columnFor 0 = .ok (.iconst 0, 1) := by decide +kernel
theorem dX6_columnFor_1 : decode cX6_columnFor 1 = .ok (.istore 4, 2) := by decide +kernel
theorem dX6_columnFor_3 : decode cX6_columnFor 3 = .ok (.iload 4, 2) := by decide +kernel
theorem dX6_columnFor_5 : decode cX6_columnFor 5 = .ok (.aload_n 0, 1) := by decide +kernel
theorem dX6_columnFor_6 : decode cX6_columnFor 6 = .ok (.getfield 76, 3) := by decide +kernel
theorem dX6_columnFor_9 : decode cX6_columnFor 9 = .ok (.if_icmp .ge 68, 3) := by decide +kernel
theorem dX6_columnFor_12 : decode cX6_columnFor 12 = .ok (.aload_n 0, 1) := by decide +kernel
theorem dX6_columnFor_13 : decode cX6_columnFor 13 = .ok (.iload 4, 2) := by decide +kernel
theorem dX6_columnFor_15 : decode cX6_columnFor 15 = .ok (.iload_n 2, 1) := by decide +kernel
theorem dX6_columnFor_16 : decode cX6_columnFor 16 = .ok (.iload_n 3, 1) := by decide +kernel
theorem dX6_columnFor_17 : decode cX6_columnFor 17 = .ok (.invokevirtual 93, 3) := by decide +kernel
theorem dX6_columnFor_20 : decode cX6_columnFor 20 = .ok (.ifCond .eq 51, 3) := by decide +kernel
theorem dX6_columnFor_23 : decode cX6_columnFor 23 = .ok (.aload_n 0, 1) := by decide +kernel
theorem dX6_columnFor_24 : decode cX6_columnFor 24 = .ok (.getfield 62, 3) := by decide +kernel
theorem dX6_columnFor_27 : decode cX6_columnFor 27 = .ok (.iload 4, 2) := by decide +kernel
theorem dX6_columnFor_29 : decode cX6_columnFor 29 = .ok (.iaload, 1) := by decide +kernel
theorem dX6_columnFor_30 : decode cX6_columnFor 30 = .ok (.ifCond .le 41, 3) := by decide +kernel
theorem dX6_columnFor_33 : decode cX6_columnFor 33 = .ok (.aload_n 0, 1) := by decide +kernel
theorem dX6_columnFor_34 : decode cX6_columnFor 34 = .ok (.iload 4, 2) := by decide +kernel
theorem dX6_columnFor_36 : decode cX6_columnFor 36 = .ok (.invokevirtual 100, 3) := by decide +kernel
theorem dX6_columnFor_39 : decode cX6_columnFor 39 = .ok (.aload_n 0, 1) := by decide +kernel
theorem dX6_columnFor_40 : decode cX6_columnFor 40 = .ok (.iload_n 1, 1) := by decide +kernel
theorem dX6_columnFor_41 : decode cX6_columnFor 41 = .ok (.invokevirtual 100, 3) := by decide +kernel
theorem dX6_columnFor_44 : decode cX6_columnFor 44 = .ok (.if_icmp .ne 27, 3) := by decide +kernel
theorem dX6_columnFor_47 : decode cX6_columnFor 47 = .ok (.aload_n 0, 1) := by decide +kernel
theorem dX6_columnFor_48 : decode cX6_columnFor 48 = .ok (.getfield 40, 3) := by decide +kernel
theorem dX6_columnFor_51 : decode cX6_columnFor 51 = .ok (.iload 4, 2) := by decide +kernel
theorem dX6_columnFor_53 : decode cX6_columnFor 53 = .ok (.iaload, 1) := by decide +kernel
theorem dX6_columnFor_54 : decode cX6_columnFor 54 = .ok (.aload_n 0, 1) := by decide +kernel
theorem dX6_columnFor_55 : decode cX6_columnFor 55 = .ok (.getfield 40, 3) := by decide +kernel
theorem dX6_columnFor_58 : decode cX6_columnFor 58 = .ok (.iload_n 1, 1) := by decide +kernel
theorem dX6_columnFor_59 : decode cX6_columnFor 59 = .ok (.iaload, 1) := by decide +kernel
theorem dX6_columnFor_60 : decode cX6_columnFor 60 = .ok (.if_icmp .ne 11, 3) := by decide +kernel
theorem dX6_columnFor_63 : decode cX6_columnFor 63 = .ok (.aload_n 0, 1) := by decide +kernel
theorem dX6_columnFor_64 : decode cX6_columnFor 64 = .ok (.getfield 62, 3) := by decide +kernel
theorem dX6_columnFor_67 : decode cX6_columnFor 67 = .ok (.iload 4, 2) := by decide +kernel
theorem dX6_columnFor_69 : decode cX6_columnFor 69 = .ok (.iaload, 1) := by decide +kernel
theorem dX6_columnFor_70 : decode cX6_columnFor 70 = .ok (.ireturn, 1) := by decide +kernel
theorem dX6_columnFor_71 : decode cX6_columnFor 71 = .ok (.iinc 4 1, 3) := by decide +kernel
theorem dX6_columnFor_74 : decode cX6_columnFor 74 = .ok (.goto (-71), 3) := by decide +kernel
theorem dX6_columnFor_77 : decode cX6_columnFor 77 = .ok (.iconst 0, 1) := by decide +kernel
theorem dX6_columnFor_78 : decode cX6_columnFor 78 = .ok (.istore 4, 2) := by decide +kernel
theorem dX6_columnFor_80 : decode cX6_columnFor 80 = .ok (.iconst 0, 1) := by decide +kernel
theorem dX6_columnFor_81 : decode cX6_columnFor 81 = .ok (.istore 5, 2) := by decide +kernel
theorem dX6_columnFor_83 : decode cX6_columnFor 83 = .ok (.iload 5, 2) := by decide +kernel
theorem dX6_columnFor_85 : decode cX6_columnFor 85 = .ok (.ifCond .ne 93, 3) := by decide +kernel
theorem dX6_columnFor_88 : decode cX6_columnFor 88 = .ok (.iinc 4 1, 3) := by decide +kernel
theorem dX6_columnFor_91 : decode cX6_columnFor 91 = .ok (.iconst 1, 1) := by decide +kernel
theorem dX6_columnFor_92 : decode cX6_columnFor 92 = .ok (.istore 5, 2) := by decide +kernel
theorem dX6_columnFor_94 : decode cX6_columnFor 94 = .ok (.iconst 0, 1) := by decide +kernel
theorem dX6_columnFor_95 : decode cX6_columnFor 95 = .ok (.istore 6, 2) := by decide +kernel
theorem dX6_columnFor_97 : decode cX6_columnFor 97 = .ok (.iload 6, 2) := by decide +kernel
theorem dX6_columnFor_99 : decode cX6_columnFor 99 = .ok (.aload_n 0, 1) := by decide +kernel
theorem dX6_columnFor_100 : decode cX6_columnFor 100 = .ok (.getfield 76, 3) := by decide +kernel
theorem dX6_columnFor_103 : decode cX6_columnFor 103 = .ok (.if_icmp .ge 72, 3) := by decide +kernel
theorem dX6_columnFor_106 : decode cX6_columnFor 106 = .ok (.aload_n 0, 1) := by decide +kernel
theorem dX6_columnFor_107 : decode cX6_columnFor 107 = .ok (.iload 6, 2) := by decide +kernel
theorem dX6_columnFor_109 : decode cX6_columnFor 109 = .ok (.invokevirtual 100, 3) := by decide +kernel
theorem dX6_columnFor_112 : decode cX6_columnFor 112 = .ok (.aload_n 0, 1) := by decide +kernel
theorem dX6_columnFor_113 : decode cX6_columnFor 113 = .ok (.iload_n 1, 1) := by decide +kernel
theorem dX6_columnFor_114 : decode cX6_columnFor 114 = .ok (.invokevirtual 100, 3) := by decide +kernel
theorem dX6_columnFor_117 : decode cX6_columnFor 117 = .ok (.isub, 1) := by decide +kernel
theorem dX6_columnFor_118 : decode cX6_columnFor 118 = .ok (.istore 7, 2) := by decide +kernel
theorem dX6_columnFor_120 : decode cX6_columnFor 120 = .ok (.iload 5, 2) := by decide +kernel
theorem dX6_columnFor_122 : decode cX6_columnFor 122 = .ok (.ifCond .eq 44, 3) := by decide +kernel
theorem dX6_columnFor_125 : decode cX6_columnFor 125 = .ok (.aload_n 0, 1) := by decide +kernel
theorem dX6_columnFor_126 : decode cX6_columnFor 126 = .ok (.iload 6, 2) := by decide +kernel
theorem dX6_columnFor_128 : decode cX6_columnFor 128 = .ok (.iload_n 2, 1) := by decide +kernel
theorem dX6_columnFor_129 : decode cX6_columnFor 129 = .ok (.iload_n 3, 1) := by decide +kernel
theorem dX6_columnFor_130 : decode cX6_columnFor 130 = .ok (.invokevirtual 93, 3) := by decide +kernel
theorem dX6_columnFor_133 : decode cX6_columnFor 133 = .ok (.ifCond .eq 29, 3) := by decide +kernel
theorem dX6_columnFor_136 : decode cX6_columnFor 136 = .ok (.aload_n 0, 1) := by decide +kernel
theorem dX6_columnFor_137 : decode cX6_columnFor 137 = .ok (.getfield 62, 3) := by decide +kernel
theorem dX6_columnFor_140 : decode cX6_columnFor 140 = .ok (.iload 6, 2) := by decide +kernel
theorem dX6_columnFor_142 : decode cX6_columnFor 142 = .ok (.iaload, 1) := by decide +kernel
theorem dX6_columnFor_143 : decode cX6_columnFor 143 = .ok (.iload 4, 2) := by decide +kernel
theorem dX6_columnFor_145 : decode cX6_columnFor 145 = .ok (.if_icmp .ne 17, 3) := by decide +kernel
theorem dX6_columnFor_148 : decode cX6_columnFor 148 = .ok (.iload 7, 2) := by decide +kernel
theorem dX6_columnFor_150 : decode cX6_columnFor 150 = .ok (.bipush (-6), 2) := by decide +kernel
theorem dX6_columnFor_152 : decode cX6_columnFor 152 = .ok (.if_icmp .le 10, 3) := by decide +kernel
theorem dX6_columnFor_155 : decode cX6_columnFor 155 = .ok (.iload 7, 2) := by decide +kernel
theorem dX6_columnFor_157 : decode cX6_columnFor 157 = .ok (.bipush 6, 2) := by decide +kernel
theorem dX6_columnFor_159 : decode cX6_columnFor 159 = .ok (.if_icmp .lt 7, 3) := by decide +kernel
theorem dX6_columnFor_162 : decode cX6_columnFor 162 = .ok (.iconst 1, 1) := by decide +kernel
theorem dX6_columnFor_163 : decode cX6_columnFor 163 = .ok (.goto 4, 3) := by decide +kernel
theorem dX6_columnFor_166 : decode cX6_columnFor 166 = .ok (.iconst 0, 1) := by decide +kernel
theorem dX6_columnFor_167 : decode cX6_columnFor 167 = .ok (.istore 5, 2) := by decide +kernel
theorem dX6_columnFor_169 : decode cX6_columnFor 169 = .ok (.iinc 6 1, 3) := by decide +kernel
theorem dX6_columnFor_172 : decode cX6_columnFor 172 = .ok (.goto (-75), 3) := by decide +kernel
theorem dX6_columnFor_175 : decode cX6_columnFor 175 = .ok (.goto (-92), 3) := by decide +kernel
theorem dX6_columnFor_178 : decode cX6_columnFor 178 = .ok (.iload 4, 2) := by decide +kernel
theorem dX6_columnFor_180 : decode cX6_columnFor 180 = .ok (.ireturn, 1) := by decide +kernel
set_option maxRecDepth 20000 in
theorem ggX6_of_X6_isNote : GoodIn wsX6_of wsX6_isNote := goodIn_r _ [12, 13, 14, 15, 11, 16, 92, 93, 94, 95, 96, 97, 98, 99, 100, 101, 102, 103, 104, 105, 106, 107, 108, 109, 110, 111, 112, 113, 114] rfl (by decide +kernel)
set_option maxRecDepth 20000 in
theorem gX6_of_X6_isNote : GoodIn wsX6_of (wsV RX6 86 RX6 yX6_isNote wsX6_isNote) := goodIn_app (goodIn_r _ [8, 9, 10, 11] rfl (by decide +kernel)) ggX6_of_X6_isNote
set_option maxRecDepth 20000 in
theorem ggX6_of_X6_reckon : GoodIn wsX6_of wsX6_reckon := goodIn_r _ [20, 13, 21, 22, 23, 24, 11, 25, 2, 26, 27, 28, 3, 29, 30, 31, 32, 33, 14, 15, 16, 92, 93, 94, 95, 96, 97, 98, 99, 100, 101, 102, 103, 104, 105, 106, 107, 108, 109, 110, 111, 112, 113, 114] rfl (by decide +kernel)
set_option maxRecDepth 20000 in
theorem gX6_of_X6_reckon : GoodIn wsX6_of (wsV RX6 134 RX6 yX6_reckon wsX6_reckon) := goodIn_app (goodIn_r _ [17, 18, 19, 11] rfl (by decide +kernel)) ggX6_of_X6_reckon
set_option maxRecDepth 20000 in
theorem ggX6_of_X6_step : GoodIn wsX6_of wsX6_step := goodIn_r _ [37, 21, 92, 93, 94, 95, 96, 97, 98, 99, 100, 101, 102, 103, 104, 105, 106, 107, 108, 109, 110, 111, 112, 113, 114] rfl (by decide +kernel)
set_option maxRecDepth 20000 in
theorem gX6_of_X6_step : GoodIn wsX6_of (wsV RX6 100 RX6 yX6_step wsX6_step) := goodIn_app (goodIn_r _ [34, 35, 36, 11] rfl (by decide +kernel)) ggX6_of_X6_step
set_option maxRecDepth 20000 in
theorem ggX6_of_X6_stemOf : GoodIn wsX6_of wsX6_stemOf := goodIn_r _ [41, 2, 3, 7, 42, 43, 44, 11, 45, 46, 47, 48, 49, 13, 50, 51, 52, 53, 54, 55, 56, 57, 58, 59, 60, 61, 34, 35, 36, 37, 21, 92, 93, 94, 95, 96, 97, 98, 99, 100, 101, 102, 103, 104, 105, 106, 107, 108, 109, 110, 111, 112, 113, 114] rfl (by decide +kernel)
set_option maxRecDepth 20000 in
theorem gX6_of_X6_stemOf : GoodIn wsX6_of (wsV RX6 114 RX6 yX6_stemOf wsX6_stemOf) := goodIn_app (goodIn_r _ [38, 39, 40, 11] rfl (by decide +kernel)) ggX6_of_X6_stemOf
set_option maxRecDepth 20000 in
theorem ggX6_of_X6_aside : GoodIn wsX6_of wsX6_aside := goodIn_r _ [65, 13, 2, 3, 7, 38, 39, 40, 11, 41, 42, 43, 44, 45, 46, 47, 48, 49, 50, 51, 52, 53, 54, 55, 56, 57, 58, 59, 60, 61, 34, 35, 36, 37, 21, 66, 67, 68, 69, 92, 93, 94, 95, 96, 97, 98, 99, 100, 101, 102, 103, 104, 105, 106, 107, 108, 109, 110, 111, 112, 113, 114] rfl (by decide +kernel)
set_option maxRecDepth 20000 in
theorem gX6_of_X6_aside : GoodIn wsX6_of (wsV RX6 121 RX6 yX6_aside wsX6_aside) := goodIn_app (goodIn_r _ [62, 63, 64, 11] rfl (by decide +kernel)) ggX6_of_X6_aside
set_option maxRecDepth 20000 in
theorem ggX6_of_X6_move : GoodIn wsX6_of wsX6_move := goodIn_r _ [73, 6, 13, 4, 50, 51, 52, 11, 53, 7, 54, 55, 56, 57, 2, 3, 62, 63, 64, 65, 38, 39, 40, 41, 42, 43, 44, 45, 46, 47, 48, 49, 58, 59, 60, 61, 34, 35, 36, 37, 21, 66, 67, 68, 69, 74, 75, 76, 77, 78, 79, 80, 81, 82, 83, 92, 93, 94, 95, 96, 97, 98, 99, 100, 101, 102, 103, 104, 105, 106, 107, 108, 109, 110, 111, 112, 113, 114] rfl (by decide +kernel)
set_option maxRecDepth 20000 in
theorem gX6_of_X6_move : GoodIn wsX6_of (wsV RX6 137 RX6 yX6_move wsX6_move) := goodIn_app (goodIn_r _ [70, 71, 72, 11] rfl (by decide +kernel)) ggX6_of_X6_move
set_option maxRecDepth 20000 in
theorem ggX6_of_X6_placeSigns : GoodIn wsX6_of wsX6_placeSigns := goodIn_r _ [87, 13, 5, 83, 54, 55, 56, 11, 57, 2, 3, 34, 35, 36, 37, 21, 88, 89, 90, 91, 92, 93, 94, 95, 96, 97, 98, 99, 100, 101, 102, 103, 104, 105, 106, 107, 108, 109, 110, 111, 112, 113, 114] rfl (by decide +kernel)
set_option maxRecDepth 20000 in
theorem gX6_of_X6_placeSigns : GoodIn wsX6_of (wsV RX6 141 RX6 yX6_placeSigns wsX6_placeSigns) := goodIn_app (goodIn_r _ [84, 85, 86, 11] rfl (by decide +kernel)) ggX6_of_X6_placeSigns
set_option maxRecDepth 20000 in
theorem ggX6_of_X6_many : GoodIn wsX6_of wsX6_many := goodIn_r _ [49, 13, 50, 51, 52, 11, 53, 7, 54, 55, 56, 57, 2, 3, 92, 93, 94, 95, 96, 97, 98, 99, 100, 101, 102, 103, 104, 105, 106, 107, 108, 109, 110, 111, 112, 113, 114] rfl (by decide +kernel)
set_option maxRecDepth 20000 in
theorem gX6_of_X6_many : GoodIn wsX6_of (wsV RX6 103 RX6 yX6_many wsX6_many) := goodIn_app (goodIn_r _ [46, 47, 48, 11] rfl (by decide +kernel)) ggX6_of_X6_many
theorem dX6_of_0 : decode cX6_of 0 = .ok (.aload_n 0, 1) := by decide +kernel
theorem dX6_of_1 : decode cX6_of 1 = .ok (.iconst 0, 1) := by decide +kernel
theorem dX6_of_2 : decode cX6_of 2 = .ok (.putfield 69, 3) := by decide +kernel
theorem dX6_of_5 : decode cX6_of 5 = .ok (.aload_n 0, 1) := by decide +kernel
theorem dX6_of_6 : decode cX6_of 6 = .ok (.iload_n 1, 1) := by decide +kernel
theorem dX6_of_7 : decode cX6_of 7 = .ok (.invokevirtual 86, 3) := by decide +kernel
theorem dX6_of_10 : decode cX6_of 10 = .ok (.ifCond .ne 7, 3) := by decide +kernel
theorem dX6_of_13 : decode cX6_of 13 = .ok (.sipush (-1001), 3) := by decide +kernel
theorem dX6_of_16 : decode cX6_of 16 = .ok (.ireturn, 1) := by decide +kernel
theorem dX6_of_17 : decode cX6_of 17 = .ok (.aload_n 0, 1) := by decide +kernel
theorem dX6_of_18 : decode cX6_of 18 = .ok (.invokevirtual 134, 3) := by decide +kernel
theorem dX6_of_21 : decode cX6_of 21 = .ok (.aload_n 0, 1) := by decide +kernel
theorem dX6_of_22 : decode cX6_of 22 = .ok (.iload_n 1, 1) := by decide +kernel
theorem dX6_of_23 : decode cX6_of 23 = .ok (.invokevirtual 100, 3) := by decide +kernel
theorem dX6_of_26 : decode cX6_of 26 = .ok (.istore_n 3, 1) := by decide +kernel
theorem dX6_of_27 : decode cX6_of 27 = .ok (.iload_n 2, 1) := by decide +kernel
theorem dX6_of_28 : decode cX6_of 28 = .ok (.tableswitch 193 0 8 #[52, 54, 67, 84, 90, 96, 119, 142, 170], 52) := by decide +kernel
theorem dX6_of_80 : decode cX6_of 80 = .ok (.iload_n 3, 1) := by decide +kernel
theorem dX6_of_81 : decode cX6_of 81 = .ok (.ireturn, 1) := by decide +kernel
theorem dX6_of_82 : decode cX6_of 82 = .ok (.iload_n 3, 1) := by decide +kernel
theorem dX6_of_83 : decode cX6_of 83 = .ok (.ifCond .ge 10, 3) := by decide +kernel
theorem dX6_of_86 : decode cX6_of 86 = .ok (.iload_n 3, 1) := by decide +kernel
theorem dX6_of_87 : decode cX6_of 87 = .ok (.ineg, 1) := by decide +kernel
theorem dX6_of_88 : decode cX6_of 88 = .ok (.iconst 2, 1) := by decide +kernel
theorem dX6_of_89 : decode cX6_of 89 = .ok (.idiv, 1) := by decide +kernel
theorem dX6_of_90 : decode cX6_of 90 = .ok (.goto 4, 3) := by decide +kernel
theorem dX6_of_93 : decode cX6_of 93 = .ok (.iconst 0, 1) := by decide +kernel
theorem dX6_of_94 : decode cX6_of 94 = .ok (.ireturn, 1) := by decide +kernel
theorem dX6_of_95 : decode cX6_of 95 = .ok (.iload_n 3, 1) := by decide +kernel
theorem dX6_of_96 : decode cX6_of 96 = .ok (.bipush 8, 2) := by decide +kernel
theorem dX6_of_98 : decode cX6_of 98 = .ok (.if_icmp .le 12, 3) := by decide +kernel
theorem dX6_of_101 : decode cX6_of 101 = .ok (.iload_n 3, 1) := by decide +kernel
theorem dX6_of_102 : decode cX6_of 102 = .ok (.bipush 8, 2) := by decide +kernel
theorem dX6_of_104 : decode cX6_of 104 = .ok (.isub, 1) := by decide +kernel
theorem dX6_of_105 : decode cX6_of 105 = .ok (.iconst 2, 1) := by decide +kernel
theorem dX6_of_106 : decode cX6_of 106 = .ok (.idiv, 1) := by decide +kernel
theorem dX6_of_107 : decode cX6_of 107 = .ok (.goto 4, 3) := by decide +kernel
theorem dX6_of_110 : decode cX6_of 110 = .ok (.iconst 0, 1) := by decide +kernel
theorem dX6_of_111 : decode cX6_of 111 = .ok (.ireturn, 1) := by decide +kernel
theorem dX6_of_112 : decode cX6_of 112 = .ok (.aload_n 0, 1) := by decide +kernel
theorem dX6_of_113 : decode cX6_of 113 = .ok (.iload_n 1, 1) := by decide +kernel
theorem dX6_of_114 : decode cX6_of 114 = .ok (.invokevirtual 114, 3) := by decide +kernel
theorem dX6_of_117 : decode cX6_of 117 = .ok (.ireturn, 1) := by decide +kernel
theorem dX6_of_118 : decode cX6_of 118 = .ok (.aload_n 0, 1) := by decide +kernel
theorem dX6_of_119 : decode cX6_of 119 = .ok (.iload_n 1, 1) := by decide +kernel
theorem dX6_of_120 : decode cX6_of 120 = .ok (.invokevirtual 121, 3) := by decide +kernel
theorem dX6_of_123 : decode cX6_of 123 = .ok (.ireturn, 1) := by decide +kernel
theorem dX6_of_124 : decode cX6_of 124 = .ok (.aload_n 0, 1) := by decide +kernel
theorem dX6_of_125 : decode cX6_of 125 = .ok (.aload_n 0, 1) := by decide +kernel
theorem dX6_of_126 : decode cX6_of 126 = .ok (.getfield 28, 3) := by decide +kernel
theorem dX6_of_129 : decode cX6_of 129 = .ok (.iload_n 1, 1) := by decide +kernel
theorem dX6_of_130 : decode cX6_of 130 = .ok (.iaload, 1) := by decide +kernel
theorem dX6_of_131 : decode cX6_of 131 = .ok (.aload_n 0, 1) := by decide +kernel
theorem dX6_of_132 : decode cX6_of 132 = .ok (.getfield 34, 3) := by decide +kernel
theorem dX6_of_135 : decode cX6_of 135 = .ok (.iload_n 1, 1) := by decide +kernel
theorem dX6_of_136 : decode cX6_of 136 = .ok (.iaload, 1) := by decide +kernel
theorem dX6_of_137 : decode cX6_of 137 = .ok (.invokevirtual 137, 3) := by decide +kernel
theorem dX6_of_140 : decode cX6_of 140 = .ok (.aload_n 0, 1) := by decide +kernel
theorem dX6_of_141 : decode cX6_of 141 = .ok (.getfield 59, 3) := by decide +kernel
theorem dX6_of_144 : decode cX6_of 144 = .ok (.iload_n 1, 1) := by decide +kernel
theorem dX6_of_145 : decode cX6_of 145 = .ok (.iaload, 1) := by decide +kernel
theorem dX6_of_146 : decode cX6_of 146 = .ok (.ireturn, 1) := by decide +kernel
theorem dX6_of_147 : decode cX6_of 147 = .ok (.aload_n 0, 1) := by decide +kernel
theorem dX6_of_148 : decode cX6_of 148 = .ok (.aload_n 0, 1) := by decide +kernel
theorem dX6_of_149 : decode cX6_of 149 = .ok (.getfield 28, 3) := by decide +kernel
theorem dX6_of_152 : decode cX6_of 152 = .ok (.iload_n 1, 1) := by decide +kernel
theorem dX6_of_153 : decode cX6_of 153 = .ok (.iaload, 1) := by decide +kernel
theorem dX6_of_154 : decode cX6_of 154 = .ok (.aload_n 0, 1) := by decide +kernel
theorem dX6_of_155 : decode cX6_of 155 = .ok (.getfield 34, 3) := by decide +kernel
theorem dX6_of_158 : decode cX6_of 158 = .ok (.iload_n 1, 1) := by decide +kernel
theorem dX6_of_159 : decode cX6_of 159 = .ok (.iaload, 1) := by decide +kernel
theorem dX6_of_160 : decode cX6_of 160 = .ok (.invokevirtual 141, 3) := by decide +kernel
theorem dX6_of_163 : decode cX6_of 163 = .ok (.aload_n 0, 1) := by decide +kernel
theorem dX6_of_164 : decode cX6_of 164 = .ok (.getfield 62, 3) := by decide +kernel
theorem dX6_of_167 : decode cX6_of 167 = .ok (.iload_n 1, 1) := by decide +kernel
theorem dX6_of_168 : decode cX6_of 168 = .ok (.iaload, 1) := by decide +kernel
theorem dX6_of_169 : decode cX6_of 169 = .ok (.ireturn, 1) := by decide +kernel
theorem dX6_of_170 : decode cX6_of 170 = .ok (.aload_n 0, 1) := by decide +kernel
theorem dX6_of_171 : decode cX6_of 171 = .ok (.aload_n 0, 1) := by decide +kernel
theorem dX6_of_172 : decode cX6_of 172 = .ok (.getfield 28, 3) := by decide +kernel
theorem dX6_of_175 : decode cX6_of 175 = .ok (.iload_n 1, 1) := by decide +kernel
theorem dX6_of_176 : decode cX6_of 176 = .ok (.iaload, 1) := by decide +kernel
theorem dX6_of_177 : decode cX6_of 177 = .ok (.aload_n 0, 1) := by decide +kernel
theorem dX6_of_178 : decode cX6_of 178 = .ok (.getfield 34, 3) := by decide +kernel
theorem dX6_of_181 : decode cX6_of 181 = .ok (.iload_n 1, 1) := by decide +kernel
theorem dX6_of_182 : decode cX6_of 182 = .ok (.iaload, 1) := by decide +kernel
theorem dX6_of_183 : decode cX6_of 183 = .ok (.invokevirtual 137, 3) := by decide +kernel
theorem dX6_of_186 : decode cX6_of 186 = .ok (.aload_n 0, 1) := by decide +kernel
theorem dX6_of_187 : decode cX6_of 187 = .ok (.getfield 56, 3) := by decide +kernel
theorem dX6_of_190 : decode cX6_of 190 = .ok (.aload_n 0, 1) := by decide +kernel
theorem dX6_of_191 : decode cX6_of 191 = .ok (.getfield 31, 3) := by decide +kernel
theorem dX6_of_194 : decode cX6_of 194 = .ok (.iload_n 1, 1) := by decide +kernel
theorem dX6_of_195 : decode cX6_of 195 = .ok (.iaload, 1) := by decide +kernel
theorem dX6_of_196 : decode cX6_of 196 = .ok (.iaload, 1) := by decide +kernel
theorem dX6_of_197 : decode cX6_of 197 = .ok (.ireturn, 1) := by decide +kernel
theorem dX6_of_198 : decode cX6_of 198 = .ok (.aload_n 0, 1) := by decide +kernel
theorem dX6_of_199 : decode cX6_of 199 = .ok (.aload_n 0, 1) := by decide +kernel
theorem dX6_of_200 : decode cX6_of 200 = .ok (.getfield 28, 3) := by decide +kernel
theorem dX6_of_203 : decode cX6_of 203 = .ok (.iload_n 1, 1) := by decide +kernel
theorem dX6_of_204 : decode cX6_of 204 = .ok (.iaload, 1) := by decide +kernel
theorem dX6_of_205 : decode cX6_of 205 = .ok (.aload_n 0, 1) := by decide +kernel
theorem dX6_of_206 : decode cX6_of 206 = .ok (.getfield 34, 3) := by decide +kernel
theorem dX6_of_209 : decode cX6_of 209 = .ok (.iload_n 1, 1) := by decide +kernel
theorem dX6_of_210 : decode cX6_of 210 = .ok (.iaload, 1) := by decide +kernel
theorem dX6_of_211 : decode cX6_of 211 = .ok (.aload_n 0, 1) := by decide +kernel
theorem dX6_of_212 : decode cX6_of 212 = .ok (.getfield 31, 3) := by decide +kernel
theorem dX6_of_215 : decode cX6_of 215 = .ok (.iload_n 1, 1) := by decide +kernel
theorem dX6_of_216 : decode cX6_of 216 = .ok (.iaload, 1) := by decide +kernel
theorem dX6_of_217 : decode cX6_of 217 = .ok (.invokevirtual 103, 3) := by decide +kernel
theorem dX6_of_220 : decode cX6_of 220 = .ok (.ireturn, 1) := by decide +kernel
theorem dX6_of_221 : decode cX6_of 221 = .ok (.sipush (-1002), 3) := by decide +kernel
theorem dX6_of_224 : decode cX6_of 224 = .ok (.ireturn, 1) := by decide +kernel
set_option maxRecDepth 20000 in
theorem ggX6_high_X6_isAt : GoodIn wsX6_high wsX6_isAt := goodIn_r _ [8, 9, 10, 36, 37, 38, 39, 40, 41, 42, 43, 44, 45, 46, 47, 48, 49, 50, 51, 52, 53, 54, 55, 56, 57, 58] rfl (by decide +kernel)
set_option maxRecDepth 20000 in
theorem gX6_high_X6_isAt : GoodIn wsX6_high (wsV RX6 93 RX6 yX6_isAt wsX6_isAt) := goodIn_app (goodIn_r _ [4, 5, 6, 7] rfl (by decide +kernel)) ggX6_high_X6_isAt
set_option maxRecDepth 20000 in
theorem ggX6_high_X6_step : GoodIn wsX6_high wsX6_step := goodIn_r _ [14, 15, 36, 37, 38, 39, 40, 41, 42, 43, 44, 45, 46, 47, 48, 49, 50, 51, 52, 53, 54, 55, 56, 57, 58] rfl (by decide +kernel)
set_option maxRecDepth 20000 in
theorem gX6_high_X6_step : GoodIn wsX6_high (wsV RX6 100 RX6 yX6_step wsX6_step) := goodIn_app (goodIn_r _ [11, 12, 13, 7] rfl (by decide +kernel)) ggX6_high_X6_step
set_option maxRecDepth 20000 in
theorem ggX6_high_X6_stemOf : GoodIn wsX6_high wsX6_stemOf := goodIn_r _ [19, 9, 10, 3, 20, 21, 22, 7, 23, 24, 25, 26, 27, 1, 28, 29, 30, 31, 4, 5, 6, 8, 32, 33, 34, 35, 11, 12, 13, 14, 15, 36, 37, 38, 39, 40, 41, 42, 43, 44, 45, 46, 47, 48, 49, 50, 51, 52, 53, 54, 55, 56, 57, 58] rfl (by decide +kernel)
set_option maxRecDepth 20000 in
theorem gX6_high_X6_stemOf : GoodIn wsX6_high (wsV RX6 114 RX6 yX6_stemOf wsX6_stemOf) := goodIn_app (goodIn_r _ [16, 17, 18, 7] rfl (by decide +kernel)) ggX6_high_X6_stemOf
set_option maxRecDepth 20000 in
theorem ggX6_high_X6_end : GoodIn wsX6_high wsX6_end := goodIn_r _ [35, 1, 28, 29, 30, 7, 31, 3, 4, 5, 6, 8, 9, 10, 11, 12, 13, 14, 15, 36, 37, 38, 39, 40, 41, 42, 43, 44, 45, 46, 47, 48, 49, 50, 51, 52, 53, 54, 55, 56, 57, 58] rfl (by decide +kernel)
set_option maxRecDepth 20000 in
theorem gX6_high_X6_end : GoodIn wsX6_high (wsV RX6 107 RX6 yX6_end wsX6_end) := goodIn_app (goodIn_r _ [32, 33, 34, 7] rfl (by decide +kernel)) ggX6_high_X6_end
theorem dX6_high_0 : decode cX6_high 0 = .ok (.bipush 8, 2) := by decide +kernel
theorem dX6_high_2 : decode cX6_high 2 = .ok (.istore_n 3, 1) := by decide +kernel
theorem dX6_high_3 : decode cX6_high 3 = .ok (.iconst 0, 1) := by decide +kernel
theorem dX6_high_4 : decode cX6_high 4 = .ok (.istore 4, 2) := by decide +kernel
theorem dX6_high_6 : decode cX6_high 6 = .ok (.iload 4, 2) := by decide +kernel
theorem dX6_high_8 : decode cX6_high 8 = .ok (.aload_n 0, 1) := by decide +kernel
theorem dX6_high_9 : decode cX6_high 9 = .ok (.getfield 76, 3) := by decide +kernel
theorem dX6_high_12 : decode cX6_high 12 = .ok (.if_icmp .ge 93, 3) := by decide +kernel
theorem dX6_high_15 : decode cX6_high 15 = .ok (.aload_n 0, 1) := by decide +kernel
theorem dX6_high_16 : decode cX6_high 16 = .ok (.iload 4, 2) := by decide +kernel
theorem dX6_high_18 : decode cX6_high 18 = .ok (.iload_n 1, 1) := by decide +kernel
theorem dX6_high_19 : decode cX6_high 19 = .ok (.iload_n 2, 1) := by decide +kernel
theorem dX6_high_20 : decode cX6_high 20 = .ok (.invokevirtual 93, 3) := by decide +kernel
theorem dX6_high_23 : decode cX6_high 23 = .ok (.ifCond .eq 76, 3) := by decide +kernel
theorem dX6_high_26 : decode cX6_high 26 = .ok (.aload_n 0, 1) := by decide +kernel
theorem dX6_high_27 : decode cX6_high 27 = .ok (.iload 4, 2) := by decide +kernel
theorem dX6_high_29 : decode cX6_high 29 = .ok (.invokevirtual 100, 3) := by decide +kernel
theorem dX6_high_32 : decode cX6_high 32 = .ok (.istore 5, 2) := by decide +kernel
theorem dX6_high_34 : decode cX6_high 34 = .ok (.iload 5, 2) := by decide +kernel
theorem dX6_high_36 : decode cX6_high 36 = .ok (.iload_n 3, 1) := by decide +kernel
theorem dX6_high_37 : decode cX6_high 37 = .ok (.if_icmp .le 8, 3) := by decide +kernel
theorem dX6_high_40 : decode cX6_high 40 = .ok (.iload 5, 2) := by decide +kernel
theorem dX6_high_42 : decode cX6_high 42 = .ok (.goto 4, 3) := by decide +kernel
theorem dX6_high_45 : decode cX6_high 45 = .ok (.iload_n 3, 1) := by decide +kernel
theorem dX6_high_46 : decode cX6_high 46 = .ok (.istore_n 3, 1) := by decide +kernel
theorem dX6_high_47 : decode cX6_high 47 = .ok (.aload_n 0, 1) := by decide +kernel
theorem dX6_high_48 : decode cX6_high 48 = .ok (.getfield 43, 3) := by decide +kernel
theorem dX6_high_51 : decode cX6_high 51 = .ok (.iload 4, 2) := by decide +kernel
theorem dX6_high_53 : decode cX6_high 53 = .ok (.iaload, 1) := by decide +kernel
theorem dX6_high_54 : decode cX6_high 54 = .ok (.ifCond .eq 45, 3) := by decide +kernel
theorem dX6_high_57 : decode cX6_high 57 = .ok (.aload_n 0, 1) := by decide +kernel
theorem dX6_high_58 : decode cX6_high 58 = .ok (.iload 4, 2) := by decide +kernel
theorem dX6_high_60 : decode cX6_high 60 = .ok (.invokevirtual 114, 3) := by decide +kernel
theorem dX6_high_63 : decode cX6_high 63 = .ok (.iconst 1, 1) := by decide +kernel
theorem dX6_high_64 : decode cX6_high 64 = .ok (.if_icmp .ne 35, 3) := by decide +kernel
theorem dX6_high_67 : decode cX6_high 67 = .ok (.aload_n 0, 1) := by decide +kernel
theorem dX6_high_68 : decode cX6_high 68 = .ok (.iload_n 1, 1) := by decide +kernel
theorem dX6_high_69 : decode cX6_high 69 = .ok (.iload_n 2, 1) := by decide +kernel
theorem dX6_high_70 : decode cX6_high 70 = .ok (.aload_n 0, 1) := by decide +kernel
theorem dX6_high_71 : decode cX6_high 71 = .ok (.getfield 31, 3) := by decide +kernel
theorem dX6_high_74 : decode cX6_high 74 = .ok (.iload 4, 2) := by decide +kernel
theorem dX6_high_76 : decode cX6_high 76 = .ok (.iaload, 1) := by decide +kernel
theorem dX6_high_77 : decode cX6_high 77 = .ok (.iconst 1, 1) := by decide +kernel
theorem dX6_high_78 : decode cX6_high 78 = .ok (.invokevirtual 107, 3) := by decide +kernel
theorem dX6_high_81 : decode cX6_high 81 = .ok (.bipush 7, 2) := by decide +kernel
theorem dX6_high_83 : decode cX6_high 83 = .ok (.iadd, 1) := by decide +kernel
theorem dX6_high_84 : decode cX6_high 84 = .ok (.istore 6, 2) := by decide +kernel
theorem dX6_high_86 : decode cX6_high 86 = .ok (.iload 6, 2) := by decide +kernel
theorem dX6_high_88 : decode cX6_high 88 = .ok (.iload_n 3, 1) := by decide +kernel
theorem dX6_high_89 : decode cX6_high 89 = .ok (.if_icmp .le 8, 3) := by decide +kernel
theorem dX6_high_92 : decode cX6_high 92 = .ok (.iload 6, 2) := by decide +kernel
theorem dX6_high_94 : decode cX6_high 94 = .ok (.goto 4, 3) := by decide +kernel
theorem dX6_high_97 : decode cX6_high 97 = .ok (.iload_n 3, 1) := by decide +kernel
theorem dX6_high_98 : decode cX6_high 98 = .ok (.istore_n 3, 1) := by decide +kernel
theorem dX6_high_99 : decode cX6_high 99 = .ok (.iinc 4 1, 3) := by decide +kernel
theorem dX6_high_102 : decode cX6_high 102 = .ok (.goto (-96), 3) := by decide +kernel
theorem dX6_high_105 : decode cX6_high 105 = .ok (.iload_n 3, 1) := by decide +kernel
theorem dX6_high_106 : decode cX6_high 106 = .ok (.ireturn, 1) := by decide +kernel
set_option maxRecDepth 20000 in
theorem ggX6_low_X6_isAt : GoodIn wsX6_low wsX6_isAt := goodIn_r _ [8, 9, 10, 36, 37, 38, 39, 40, 41, 42, 43, 44, 45, 46, 47, 48, 49, 50, 51, 52, 53, 54, 55, 56, 57, 58] rfl (by decide +kernel)
set_option maxRecDepth 20000 in
theorem gX6_low_X6_isAt : GoodIn wsX6_low (wsV RX6 93 RX6 yX6_isAt wsX6_isAt) := goodIn_app (goodIn_r _ [4, 5, 6, 7] rfl (by decide +kernel)) ggX6_low_X6_isAt
set_option maxRecDepth 20000 in
theorem ggX6_low_X6_step : GoodIn wsX6_low wsX6_step := goodIn_r _ [14, 15, 36, 37, 38, 39, 40, 41, 42, 43, 44, 45, 46, 47, 48, 49, 50, 51, 52, 53, 54, 55, 56, 57, 58] rfl (by decide +kernel)
set_option maxRecDepth 20000 in
theorem gX6_low_X6_step : GoodIn wsX6_low (wsV RX6 100 RX6 yX6_step wsX6_step) := goodIn_app (goodIn_r _ [11, 12, 13, 7] rfl (by decide +kernel)) ggX6_low_X6_step
set_option maxRecDepth 20000 in
theorem ggX6_low_X6_stemOf : GoodIn wsX6_low wsX6_stemOf := goodIn_r _ [19, 9, 10, 3, 20, 21, 22, 7, 23, 24, 25, 26, 27, 1, 28, 29, 30, 31, 4, 5, 6, 8, 32, 33, 34, 35, 11, 12, 13, 14, 15, 36, 37, 38, 39, 40, 41, 42, 43, 44, 45, 46, 47, 48, 49, 50, 51, 52, 53, 54, 55, 56, 57, 58] rfl (by decide +kernel)
set_option maxRecDepth 20000 in
theorem gX6_low_X6_stemOf : GoodIn wsX6_low (wsV RX6 114 RX6 yX6_stemOf wsX6_stemOf) := goodIn_app (goodIn_r _ [16, 17, 18, 7] rfl (by decide +kernel)) ggX6_low_X6_stemOf
set_option maxRecDepth 20000 in
theorem ggX6_low_X6_end : GoodIn wsX6_low wsX6_end := goodIn_r _ [35, 1, 28, 29, 30, 7, 31, 3, 4, 5, 6, 8, 9, 10, 11, 12, 13, 14, 15, 36, 37, 38, 39, 40, 41, 42, 43, 44, 45, 46, 47, 48, 49, 50, 51, 52, 53, 54, 55, 56, 57, 58] rfl (by decide +kernel)
set_option maxRecDepth 20000 in
theorem gX6_low_X6_end : GoodIn wsX6_low (wsV RX6 107 RX6 yX6_end wsX6_end) := goodIn_app (goodIn_r _ [32, 33, 34, 7] rfl (by decide +kernel)) ggX6_low_X6_end
theorem dX6_low_0 : decode cX6_low 0 = .ok (.iconst 0, 1) := by decide +kernel
theorem dX6_low_1 : decode cX6_low 1 = .ok (.istore_n 3, 1) := by decide +kernel
theorem dX6_low_2 : decode cX6_low 2 = .ok (.iconst 0, 1) := by decide +kernel
theorem dX6_low_3 : decode cX6_low 3 = .ok (.istore 4, 2) := by decide +kernel
theorem dX6_low_5 : decode cX6_low 5 = .ok (.iload 4, 2) := by decide +kernel
theorem dX6_low_7 : decode cX6_low 7 = .ok (.aload_n 0, 1) := by decide +kernel
theorem dX6_low_8 : decode cX6_low 8 = .ok (.getfield 76, 3) := by decide +kernel
theorem dX6_low_11 : decode cX6_low 11 = .ok (.if_icmp .ge 92, 3) := by decide +kernel
theorem dX6_low_14 : decode cX6_low 14 = .ok (.aload_n 0, 1) := by decide +kernel
theorem dX6_low_15 : decode cX6_low 15 = .ok (.iload 4, 2) := by decide +kernel
theorem dX6_low_17 : decode cX6_low 17 = .ok (.iload_n 1, 1) := by decide +kernel
theorem dX6_low_18 : decode cX6_low 18 = .ok (.iload_n 2, 1) := by decide +kernel
theorem dX6_low_19 : decode cX6_low 19 = .ok (.invokevirtual 93, 3) := by decide +kernel
theorem dX6_low_22 : decode cX6_low 22 = .ok (.ifCond .eq 75, 3) := by decide +kernel
theorem dX6_low_25 : decode cX6_low 25 = .ok (.aload_n 0, 1) := by decide +kernel
theorem dX6_low_26 : decode cX6_low 26 = .ok (.iload 4, 2) := by decide +kernel
theorem dX6_low_28 : decode cX6_low 28 = .ok (.invokevirtual 100, 3) := by decide +kernel
theorem dX6_low_31 : decode cX6_low 31 = .ok (.istore 5, 2) := by decide +kernel
theorem dX6_low_33 : decode cX6_low 33 = .ok (.iload 5, 2) := by decide +kernel
theorem dX6_low_35 : decode cX6_low 35 = .ok (.iload_n 3, 1) := by decide +kernel
theorem dX6_low_36 : decode cX6_low 36 = .ok (.if_icmp .ge 8, 3) := by decide +kernel
theorem dX6_low_39 : decode cX6_low 39 = .ok (.iload 5, 2) := by decide +kernel
theorem dX6_low_41 : decode cX6_low 41 = .ok (.goto 4, 3) := by decide +kernel
theorem dX6_low_44 : decode cX6_low 44 = .ok (.iload_n 3, 1) := by decide +kernel
theorem dX6_low_45 : decode cX6_low 45 = .ok (.istore_n 3, 1) := by decide +kernel
theorem dX6_low_46 : decode cX6_low 46 = .ok (.aload_n 0, 1) := by decide +kernel
theorem dX6_low_47 : decode cX6_low 47 = .ok (.getfield 43, 3) := by decide +kernel
theorem dX6_low_50 : decode cX6_low 50 = .ok (.iload 4, 2) := by decide +kernel
theorem dX6_low_52 : decode cX6_low 52 = .ok (.iaload, 1) := by decide +kernel
theorem dX6_low_53 : decode cX6_low 53 = .ok (.ifCond .eq 44, 3) := by decide +kernel
theorem dX6_low_56 : decode cX6_low 56 = .ok (.aload_n 0, 1) := by decide +kernel
theorem dX6_low_57 : decode cX6_low 57 = .ok (.iload 4, 2) := by decide +kernel
theorem dX6_low_59 : decode cX6_low 59 = .ok (.invokevirtual 114, 3) := by decide +kernel
theorem dX6_low_62 : decode cX6_low 62 = .ok (.ifCond .ne 35, 3) := by decide +kernel
theorem dX6_low_65 : decode cX6_low 65 = .ok (.aload_n 0, 1) := by decide +kernel
theorem dX6_low_66 : decode cX6_low 66 = .ok (.iload_n 1, 1) := by decide +kernel
theorem dX6_low_67 : decode cX6_low 67 = .ok (.iload_n 2, 1) := by decide +kernel
theorem dX6_low_68 : decode cX6_low 68 = .ok (.aload_n 0, 1) := by decide +kernel
theorem dX6_low_69 : decode cX6_low 69 = .ok (.getfield 31, 3) := by decide +kernel
theorem dX6_low_72 : decode cX6_low 72 = .ok (.iload 4, 2) := by decide +kernel
theorem dX6_low_74 : decode cX6_low 74 = .ok (.iaload, 1) := by decide +kernel
theorem dX6_low_75 : decode cX6_low 75 = .ok (.iconst 0, 1) := by decide +kernel
theorem dX6_low_76 : decode cX6_low 76 = .ok (.invokevirtual 107, 3) := by decide +kernel
theorem dX6_low_79 : decode cX6_low 79 = .ok (.bipush 7, 2) := by decide +kernel
theorem dX6_low_81 : decode cX6_low 81 = .ok (.isub, 1) := by decide +kernel
theorem dX6_low_82 : decode cX6_low 82 = .ok (.istore 6, 2) := by decide +kernel
theorem dX6_low_84 : decode cX6_low 84 = .ok (.iload 6, 2) := by decide +kernel
theorem dX6_low_86 : decode cX6_low 86 = .ok (.iload_n 3, 1) := by decide +kernel
theorem dX6_low_87 : decode cX6_low 87 = .ok (.if_icmp .ge 8, 3) := by decide +kernel
theorem dX6_low_90 : decode cX6_low 90 = .ok (.iload 6, 2) := by decide +kernel
theorem dX6_low_92 : decode cX6_low 92 = .ok (.goto 4, 3) := by decide +kernel
theorem dX6_low_95 : decode cX6_low 95 = .ok (.iload_n 3, 1) := by decide +kernel
theorem dX6_low_96 : decode cX6_low 96 = .ok (.istore_n 3, 1) := by decide +kernel
theorem dX6_low_97 : decode cX6_low 97 = .ok (.iinc 4 1, 3) := by decide +kernel
theorem dX6_low_100 : decode cX6_low 100 = .ok (.goto (-95), 3) := by decide +kernel
theorem dX6_low_103 : decode cX6_low 103 = .ok (.iload_n 3, 1) := by decide +kernel
theorem dX6_low_104 : decode cX6_low 104 = .ok (.ireturn, 1) := by decide +kernel
set_option maxRecDepth 20000 in
theorem ggX6_at_X6_isStaff : GoodIn wsX6_at wsX6_isStaff := goodIn_r _ [7, 8, 9, 6, 10] rfl (by decide +kernel)
set_option maxRecDepth 20000 in
theorem gX6_at_X6_isStaff : GoodIn wsX6_at (va_wsS RX6 79 yX6_isStaff wsX6_isStaff) := goodIn_app (goodIn_r _ [4, 5, 6] rfl (by decide +kernel)) ggX6_at_X6_isStaff
set_option maxRecDepth 20000 in
theorem ggX6_at_X6_in : GoodIn wsX6_at wsX6_in := goodIn_r _ [10] rfl (by decide +kernel)
set_option maxRecDepth 20000 in
theorem gX6_at_X6_in : GoodIn wsX6_at (va_wsS RX6 72 yX6_in wsX6_in) := goodIn_app (goodIn_r _ [8, 9, 6] rfl (by decide +kernel)) ggX6_at_X6_in
set_option maxRecDepth 20000 in
theorem ggX6_at_X6_many : GoodIn wsX6_at wsX6_many := goodIn_r _ [14, 2, 15, 16, 17, 6, 18, 19, 20, 21, 22, 23, 24, 25, 77, 78, 79, 80, 81, 82, 83, 84, 85, 86, 87, 88, 89, 90, 91, 92, 93, 94, 95, 96, 97, 98, 99] rfl (by decide +kernel)
set_option maxRecDepth 20000 in
theorem gX6_at_X6_many : GoodIn wsX6_at (wsV RX6 103 RX6 yX6_many wsX6_many) := goodIn_app (goodIn_r _ [11, 12, 13, 6] rfl (by decide +kernel)) ggX6_at_X6_many
set_option maxRecDepth 20000 in
theorem ggX6_at_X6_reckon : GoodIn wsX6_at wsX6_reckon := goodIn_r _ [29, 2, 30, 31, 32, 33, 6, 34, 24, 35, 36, 37, 25, 38, 39, 40, 41, 42, 8, 9, 10, 77, 78, 79, 80, 81, 82, 83, 84, 85, 86, 87, 88, 89, 90, 91, 92, 93, 94, 95, 96, 97, 98, 99] rfl (by decide +kernel)
set_option maxRecDepth 20000 in
theorem gX6_at_X6_reckon : GoodIn wsX6_at (wsV RX6 134 RX6 yX6_reckon wsX6_reckon) := goodIn_app (goodIn_r _ [26, 27, 28, 6] rfl (by decide +kernel)) ggX6_at_X6_reckon
set_option maxRecDepth 20000 in
theorem ggX6_at_X6_placeSigns : GoodIn wsX6_at wsX6_placeSigns := goodIn_r _ [46, 2, 3, 47, 20, 21, 22, 6, 23, 24, 25, 48, 49, 50, 51, 30, 52, 53, 54, 55, 77, 78, 79, 80, 81, 82, 83, 84, 85, 86, 87, 88, 89, 90, 91, 92, 93, 94, 95, 96, 97, 98, 99] rfl (by decide +kernel)
set_option maxRecDepth 20000 in
theorem gX6_at_X6_placeSigns : GoodIn wsX6_at (wsV RX6 141 RX6 yX6_placeSigns wsX6_placeSigns) := goodIn_app (goodIn_r _ [43, 44, 45, 6] rfl (by decide +kernel)) ggX6_at_X6_placeSigns
set_option maxRecDepth 20000 in
theorem ggX6_at_X6_high : GoodIn wsX6_at wsX6_high := goodIn_r _ [59, 2, 60, 19, 20, 21, 22, 6, 23, 24, 25, 48, 49, 50, 51, 30, 61, 62, 63, 64, 65, 66, 67, 68, 11, 12, 13, 14, 15, 16, 17, 18, 69, 70, 71, 72, 77, 78, 79, 80, 81, 82, 83, 84, 85, 86, 87, 88, 89, 90, 91, 92, 93, 94, 95, 96, 97, 98, 99] rfl (by decide +kernel)
set_option maxRecDepth 20000 in
theorem gX6_at_X6_high : GoodIn wsX6_at (wsV RX6 144 RX6 yX6_high wsX6_high) := goodIn_app (goodIn_r _ [56, 57, 58, 6] rfl (by decide +kernel)) ggX6_at_X6_high
set_option maxRecDepth 20000 in
theorem ggX6_at_X6_low : GoodIn wsX6_at wsX6_low := goodIn_r _ [76, 2, 60, 19, 20, 21, 22, 6, 23, 24, 25, 48, 49, 50, 51, 30, 61, 62, 63, 64, 65, 66, 67, 68, 11, 12, 13, 14, 15, 16, 17, 18, 69, 70, 71, 72, 77, 78, 79, 80, 81, 82, 83, 84, 85, 86, 87, 88, 89, 90, 91, 92, 93, 94, 95, 96, 97, 98, 99] rfl (by decide +kernel)
set_option maxRecDepth 20000 in
theorem gX6_at_X6_low : GoodIn wsX6_at (wsV RX6 148 RX6 yX6_low wsX6_low) := goodIn_app (goodIn_r _ [73, 74, 75, 6] rfl (by decide +kernel)) ggX6_at_X6_low
theorem dX6_at_0 : decode cX6_at 0 = .ok (.aload_n 0, 1) := by decide +kernel
theorem dX6_at_1 : decode cX6_at 1 = .ok (.iconst 0, 1) := by decide +kernel
theorem dX6_at_2 : decode cX6_at 2 = .ok (.putfield 69, 3) := by decide +kernel
theorem dX6_at_5 : decode cX6_at 5 = .ok (.iload_n 1, 1) := by decide +kernel
theorem dX6_at_6 : decode cX6_at 6 = .ok (.invokestatic 79, 3) := by decide +kernel
theorem dX6_at_9 : decode cX6_at 9 = .ok (.ifCond .ne 7, 3) := by decide +kernel
theorem dX6_at_12 : decode cX6_at 12 = .ok (.sipush (-1001), 3) := by decide +kernel
theorem dX6_at_15 : decode cX6_at 15 = .ok (.ireturn, 1) := by decide +kernel
theorem dX6_at_16 : decode cX6_at 16 = .ok (.iload_n 2, 1) := by decide +kernel
theorem dX6_at_17 : decode cX6_at 17 = .ok (.iconst 0, 1) := by decide +kernel
theorem dX6_at_18 : decode cX6_at 18 = .ok (.bipush 99, 2) := by decide +kernel
theorem dX6_at_20 : decode cX6_at 20 = .ok (.invokestatic 72, 3) := by decide +kernel
theorem dX6_at_23 : decode cX6_at 23 = .ok (.ifCond .eq 12, 3) := by decide +kernel
theorem dX6_at_26 : decode cX6_at 26 = .ok (.iload_n 3, 1) := by decide +kernel
theorem dX6_at_27 : decode cX6_at 27 = .ok (.iconst 0, 1) := by decide +kernel
theorem dX6_at_28 : decode cX6_at 28 = .ok (.iconst 4, 1) := by decide +kernel
theorem dX6_at_29 : decode cX6_at 29 = .ok (.invokestatic 72, 3) := by decide +kernel
theorem dX6_at_32 : decode cX6_at 32 = .ok (.ifCond .ne 7, 3) := by decide +kernel
theorem dX6_at_35 : decode cX6_at 35 = .ok (.sipush (-1002), 3) := by decide +kernel
theorem dX6_at_38 : decode cX6_at 38 = .ok (.ireturn, 1) := by decide +kernel
theorem dX6_at_39 : decode cX6_at 39 = .ok (.iconst 0, 1) := by decide +kernel
theorem dX6_at_40 : decode cX6_at 40 = .ok (.istore 4, 2) := by decide +kernel
theorem dX6_at_42 : decode cX6_at 42 = .ok (.iconst 0, 1) := by decide +kernel
theorem dX6_at_43 : decode cX6_at 43 = .ok (.istore 5, 2) := by decide +kernel
theorem dX6_at_45 : decode cX6_at 45 = .ok (.iconst 0, 1) := by decide +kernel
theorem dX6_at_46 : decode cX6_at 46 = .ok (.istore 6, 2) := by decide +kernel
theorem dX6_at_48 : decode cX6_at 48 = .ok (.iload 6, 2) := by decide +kernel
theorem dX6_at_50 : decode cX6_at 50 = .ok (.iconst 3, 1) := by decide +kernel
theorem dX6_at_51 : decode cX6_at 51 = .ok (.if_icmp .ge 41, 3) := by decide +kernel
theorem dX6_at_54 : decode cX6_at 54 = .ok (.aload_n 0, 1) := by decide +kernel
theorem dX6_at_55 : decode cX6_at 55 = .ok (.iload_n 1, 1) := by decide +kernel
theorem dX6_at_56 : decode cX6_at 56 = .ok (.iload_n 2, 1) := by decide +kernel
theorem dX6_at_57 : decode cX6_at 57 = .ok (.iload 6, 2) := by decide +kernel
theorem dX6_at_59 : decode cX6_at 59 = .ok (.invokevirtual 103, 3) := by decide +kernel
theorem dX6_at_62 : decode cX6_at 62 = .ok (.istore 7, 2) := by decide +kernel
theorem dX6_at_64 : decode cX6_at 64 = .ok (.iload 4, 2) := by decide +kernel
theorem dX6_at_66 : decode cX6_at 66 = .ok (.iload 7, 2) := by decide +kernel
theorem dX6_at_68 : decode cX6_at 68 = .ok (.iadd, 1) := by decide +kernel
theorem dX6_at_69 : decode cX6_at 69 = .ok (.istore 4, 2) := by decide +kernel
theorem dX6_at_71 : decode cX6_at 71 = .ok (.iload 5, 2) := by decide +kernel
theorem dX6_at_73 : decode cX6_at 73 = .ok (.iload 7, 2) := by decide +kernel
theorem dX6_at_75 : decode cX6_at 75 = .ok (.ifCond .le 7, 3) := by decide +kernel
theorem dX6_at_78 : decode cX6_at 78 = .ok (.iconst 1, 1) := by decide +kernel
theorem dX6_at_79 : decode cX6_at 79 = .ok (.goto 4, 3) := by decide +kernel
theorem dX6_at_82 : decode cX6_at 82 = .ok (.iconst 0, 1) := by decide +kernel
theorem dX6_at_83 : decode cX6_at 83 = .ok (.iadd, 1) := by decide +kernel
theorem dX6_at_84 : decode cX6_at 84 = .ok (.istore 5, 2) := by decide +kernel
theorem dX6_at_86 : decode cX6_at 86 = .ok (.iinc 6 1, 3) := by decide +kernel
theorem dX6_at_89 : decode cX6_at 89 = .ok (.goto (-41), 3) := by decide +kernel
theorem dX6_at_92 : decode cX6_at 92 = .ok (.iconst 0, 1) := by decide +kernel
theorem dX6_at_93 : decode cX6_at 93 = .ok (.istore 6, 2) := by decide +kernel
theorem dX6_at_95 : decode cX6_at 95 = .ok (.aload_n 0, 1) := by decide +kernel
theorem dX6_at_96 : decode cX6_at 96 = .ok (.invokevirtual 134, 3) := by decide +kernel
theorem dX6_at_99 : decode cX6_at 99 = .ok (.aload_n 0, 1) := by decide +kernel
theorem dX6_at_100 : decode cX6_at 100 = .ok (.iload_n 1, 1) := by decide +kernel
theorem dX6_at_101 : decode cX6_at 101 = .ok (.iload_n 2, 1) := by decide +kernel
theorem dX6_at_102 : decode cX6_at 102 = .ok (.invokevirtual 141, 3) := by decide +kernel
theorem dX6_at_105 : decode cX6_at 105 = .ok (.iconst 0, 1) := by decide +kernel
theorem dX6_at_106 : decode cX6_at 106 = .ok (.istore 7, 2) := by decide +kernel
theorem dX6_at_108 : decode cX6_at 108 = .ok (.iload 7, 2) := by decide +kernel
theorem dX6_at_110 : decode cX6_at 110 = .ok (.aload_n 0, 1) := by decide +kernel
theorem dX6_at_111 : decode cX6_at 111 = .ok (.getfield 76, 3) := by decide +kernel
theorem dX6_at_114 : decode cX6_at 114 = .ok (.if_icmp .ge 35, 3) := by decide +kernel
theorem dX6_at_117 : decode cX6_at 117 = .ok (.aload_n 0, 1) := by decide +kernel
theorem dX6_at_118 : decode cX6_at 118 = .ok (.getfield 62, 3) := by decide +kernel
theorem dX6_at_121 : decode cX6_at 121 = .ok (.iload 7, 2) := by decide +kernel
theorem dX6_at_123 : decode cX6_at 123 = .ok (.iaload, 1) := by decide +kernel
theorem dX6_at_124 : decode cX6_at 124 = .ok (.iload 6, 2) := by decide +kernel
theorem dX6_at_126 : decode cX6_at 126 = .ok (.if_icmp .le 13, 3) := by decide +kernel
theorem dX6_at_129 : decode cX6_at 129 = .ok (.aload_n 0, 1) := by decide +kernel
theorem dX6_at_130 : decode cX6_at 130 = .ok (.getfield 62, 3) := by decide +kernel
theorem dX6_at_133 : decode cX6_at 133 = .ok (.iload 7, 2) := by decide +kernel
theorem dX6_at_135 : decode cX6_at 135 = .ok (.iaload, 1) := by decide +kernel
theorem dX6_at_136 : decode cX6_at 136 = .ok (.goto 5, 3) := by decide +kernel
theorem dX6_at_139 : decode cX6_at 139 = .ok (.iload 6, 2) := by decide +kernel
theorem dX6_at_141 : decode cX6_at 141 = .ok (.istore 6, 2) := by decide +kernel
theorem dX6_at_143 : decode cX6_at 143 = .ok (.iinc 7 1, 3) := by decide +kernel
theorem dX6_at_146 : decode cX6_at 146 = .ok (.goto (-38), 3) := by decide +kernel
theorem dX6_at_149 : decode cX6_at 149 = .ok (.iload_n 3, 1) := by decide +kernel
theorem dX6_at_150 : decode cX6_at 150 = .ok (.ifCond .ne 12, 3) := by decide +kernel
theorem dX6_at_153 : decode cX6_at 153 = .ok (.aload_n 0, 1) := by decide +kernel
theorem dX6_at_154 : decode cX6_at 154 = .ok (.iload_n 1, 1) := by decide +kernel
theorem dX6_at_155 : decode cX6_at 155 = .ok (.iload_n 2, 1) := by decide +kernel
theorem dX6_at_156 : decode cX6_at 156 = .ok (.invokevirtual 144, 3) := by decide +kernel
theorem dX6_at_159 : decode cX6_at 159 = .ok (.goto 39, 3) := by decide +kernel
theorem dX6_at_162 : decode cX6_at 162 = .ok (.iload_n 3, 1) := by decide +kernel
theorem dX6_at_163 : decode cX6_at 163 = .ok (.iconst 1, 1) := by decide +kernel
theorem dX6_at_164 : decode cX6_at 164 = .ok (.if_icmp .ne 12, 3) := by decide +kernel
theorem dX6_at_167 : decode cX6_at 167 = .ok (.aload_n 0, 1) := by decide +kernel
theorem dX6_at_168 : decode cX6_at 168 = .ok (.iload_n 1, 1) := by decide +kernel
theorem dX6_at_169 : decode cX6_at 169 = .ok (.iload_n 2, 1) := by decide +kernel
theorem dX6_at_170 : decode cX6_at 170 = .ok (.invokevirtual 148, 3) := by decide +kernel
theorem dX6_at_173 : decode cX6_at 173 = .ok (.goto 25, 3) := by decide +kernel
theorem dX6_at_176 : decode cX6_at 176 = .ok (.iload_n 3, 1) := by decide +kernel
theorem dX6_at_177 : decode cX6_at 177 = .ok (.iconst 2, 1) := by decide +kernel
theorem dX6_at_178 : decode cX6_at 178 = .ok (.if_icmp .ne 8, 3) := by decide +kernel
theorem dX6_at_181 : decode cX6_at 181 = .ok (.iload 4, 2) := by decide +kernel
theorem dX6_at_183 : decode cX6_at 183 = .ok (.goto 15, 3) := by decide +kernel
theorem dX6_at_186 : decode cX6_at 186 = .ok (.iload_n 3, 1) := by decide +kernel
theorem dX6_at_187 : decode cX6_at 187 = .ok (.iconst 3, 1) := by decide +kernel
theorem dX6_at_188 : decode cX6_at 188 = .ok (.if_icmp .ne 8, 3) := by decide +kernel
theorem dX6_at_191 : decode cX6_at 191 = .ok (.iload 5, 2) := by decide +kernel
theorem dX6_at_193 : decode cX6_at 193 = .ok (.goto 5, 3) := by decide +kernel
theorem dX6_at_196 : decode cX6_at 196 = .ok (.iload 6, 2) := by decide +kernel
theorem dX6_at_198 : decode cX6_at 198 = .ok (.ireturn, 1) := by decide +kernel
set_option maxRecDepth 20000 in
theorem ggX6_shared_X6_reckon : GoodIn wsX6_shared wsX6_reckon := goodIn_r _ [6, 7, 8, 9, 10, 11, 5, 12, 13, 14, 15, 16, 17, 18, 19, 20, 21, 22, 23, 24, 25, 65, 66, 67, 68, 69, 70, 71, 72, 73, 74, 75, 76, 77, 78, 79, 80, 81, 82, 83, 84, 85, 86, 87] rfl (by decide +kernel)
set_option maxRecDepth 20000 in
theorem gX6_shared_X6_reckon : GoodIn wsX6_shared (wsV RX6 134 RX6 yX6_reckon wsX6_reckon) := goodIn_app (goodIn_r _ [2, 3, 4, 5] rfl (by decide +kernel)) ggX6_shared_X6_reckon
set_option maxRecDepth 20000 in
theorem ggX6_shared_X6_isNote : GoodIn wsX6_shared wsX6_isNote := goodIn_r _ [29, 7, 23, 24, 5, 25, 65, 66, 67, 68, 69, 70, 71, 72, 73, 74, 75, 76, 77, 78, 79, 80, 81, 82, 83, 84, 85, 86, 87] rfl (by decide +kernel)
set_option maxRecDepth 20000 in
theorem gX6_shared_X6_isNote : GoodIn wsX6_shared (wsV RX6 86 RX6 yX6_isNote wsX6_isNote) := goodIn_app (goodIn_r _ [26, 27, 28, 5] rfl (by decide +kernel)) ggX6_shared_X6_isNote
set_option maxRecDepth 20000 in
theorem ggX6_shared_X6_areShared : GoodIn wsX6_shared wsX6_areShared := goodIn_r _ [33, 13, 17, 34, 35, 36, 37, 38, 5, 39, 40, 41, 42, 43, 8, 44, 45, 46, 47, 48, 49, 50, 51, 52, 53, 54, 55, 56, 7, 57, 58, 59, 60, 61, 62, 63, 64, 65, 66, 67, 68, 69, 70, 71, 72, 73, 74, 75, 76, 77, 78, 79, 80, 81, 82, 83, 84, 85, 86, 87] rfl (by decide +kernel)
set_option maxRecDepth 20000 in
theorem gX6_shared_X6_areShared : GoodIn wsX6_shared (wsV RX6 127 RX6 yX6_areShared wsX6_areShared) := goodIn_app (goodIn_r _ [30, 31, 32, 5] rfl (by decide +kernel)) ggX6_shared_X6_areShared
theorem dX6_shared_0 : decode cX6_shared 0 = .ok (.aload_n 0, 1) := by decide +kernel
theorem dX6_shared_1 : decode cX6_shared 1 = .ok (.iconst 0, 1) := by decide +kernel
theorem dX6_shared_2 : decode cX6_shared 2 = .ok (.putfield 69, 3) := by decide +kernel
theorem dX6_shared_5 : decode cX6_shared 5 = .ok (.aload_n 0, 1) := by decide +kernel
theorem dX6_shared_6 : decode cX6_shared 6 = .ok (.invokevirtual 134, 3) := by decide +kernel
theorem dX6_shared_9 : decode cX6_shared 9 = .ok (.aload_n 0, 1) := by decide +kernel
theorem dX6_shared_10 : decode cX6_shared 10 = .ok (.iload_n 1, 1) := by decide +kernel
theorem dX6_shared_11 : decode cX6_shared 11 = .ok (.invokevirtual 86, 3) := by decide +kernel
theorem dX6_shared_14 : decode cX6_shared 14 = .ok (.ifCond .eq 11, 3) := by decide +kernel
theorem dX6_shared_17 : decode cX6_shared 17 = .ok (.aload_n 0, 1) := by decide +kernel
theorem dX6_shared_18 : decode cX6_shared 18 = .ok (.iload_n 2, 1) := by decide +kernel
theorem dX6_shared_19 : decode cX6_shared 19 = .ok (.invokevirtual 86, 3) := by decide +kernel
theorem dX6_shared_22 : decode cX6_shared 22 = .ok (.ifCond .ne 9, 3) := by decide +kernel
theorem dX6_shared_25 : decode cX6_shared 25 = .ok (.sipush (-1001), 3) := by decide +kernel
theorem dX6_shared_28 : decode cX6_shared 28 = .ok (.goto 17, 3) := by decide +kernel
theorem dX6_shared_31 : decode cX6_shared 31 = .ok (.aload_n 0, 1) := by decide +kernel
theorem dX6_shared_32 : decode cX6_shared 32 = .ok (.iload_n 1, 1) := by decide +kernel
theorem dX6_shared_33 : decode cX6_shared 33 = .ok (.iload_n 2, 1) := by decide +kernel
theorem dX6_shared_34 : decode cX6_shared 34 = .ok (.invokevirtual 127, 3) := by decide +kernel
theorem dX6_shared_37 : decode cX6_shared 37 = .ok (.ifCond .eq 7, 3) := by decide +kernel
theorem dX6_shared_40 : decode cX6_shared 40 = .ok (.iconst 1, 1) := by decide +kernel
theorem dX6_shared_41 : decode cX6_shared 41 = .ok (.goto 4, 3) := by decide +kernel
theorem dX6_shared_44 : decode cX6_shared 44 = .ok (.iconst 0, 1) := by decide +kernel
theorem dX6_shared_45 : decode cX6_shared 45 = .ok (.ireturn, 1) := by decide +kernel
set_option maxRecDepth 20000 in
theorem ggX6_setting_X6_in : GoodIn wsX6_setting wsX6_in := goodIn_r _ [7] rfl (by decide +kernel)
set_option maxRecDepth 20000 in
theorem gX6_setting_X6_in : GoodIn wsX6_setting (va_wsS RX6 72 yX6_in wsX6_in) := goodIn_app (goodIn_r _ [4, 5, 6] rfl (by decide +kernel)) ggX6_setting_X6_in
theorem dX6_setting_0 : decode cX6_setting 0 = .ok (.aload_n 0, 1) := by decide +kernel
theorem dX6_setting_1 : decode cX6_setting 1 = .ok (.iconst 0, 1) := by decide +kernel
theorem dX6_setting_2 : decode cX6_setting 2 = .ok (.putfield 69, 3) := by decide +kernel
theorem dX6_setting_5 : decode cX6_setting 5 = .ok (.iload_n 1, 1) := by decide +kernel
theorem dX6_setting_6 : decode cX6_setting 6 = .ok (.iconst 0, 1) := by decide +kernel
theorem dX6_setting_7 : decode cX6_setting 7 = .ok (.iconst 1, 1) := by decide +kernel
theorem dX6_setting_8 : decode cX6_setting 8 = .ok (.invokestatic 72, 3) := by decide +kernel
theorem dX6_setting_11 : decode cX6_setting 11 = .ok (.ifCond .eq 13, 3) := by decide +kernel
theorem dX6_setting_14 : decode cX6_setting 14 = .ok (.iload_n 2, 1) := by decide +kernel
theorem dX6_setting_15 : decode cX6_setting 15 = .ok (.iconst 0, 1) := by decide +kernel
theorem dX6_setting_16 : decode cX6_setting 16 = .ok (.bipush 100, 2) := by decide +kernel
theorem dX6_setting_18 : decode cX6_setting 18 = .ok (.invokestatic 72, 3) := by decide +kernel
theorem dX6_setting_21 : decode cX6_setting 21 = .ok (.ifCond .ne 7, 3) := by decide +kernel
theorem dX6_setting_24 : decode cX6_setting 24 = .ok (.sipush (-1002), 3) := by decide +kernel
theorem dX6_setting_27 : decode cX6_setting 27 = .ok (.ireturn, 1) := by decide +kernel
theorem dX6_setting_28 : decode cX6_setting 28 = .ok (.iload_n 1, 1) := by decide +kernel
theorem dX6_setting_29 : decode cX6_setting 29 = .ok (.ifCond .ne 10, 3) := by decide +kernel
theorem dX6_setting_32 : decode cX6_setting 32 = .ok (.aload_n 0, 1) := by decide +kernel
theorem dX6_setting_33 : decode cX6_setting 33 = .ok (.getfield 46, 3) := by decide +kernel
theorem dX6_setting_36 : decode cX6_setting 36 = .ok (.goto 7, 3) := by decide +kernel
theorem dX6_setting_39 : decode cX6_setting 39 = .ok (.aload_n 0, 1) := by decide +kernel
theorem dX6_setting_40 : decode cX6_setting 40 = .ok (.getfield 50, 3) := by decide +kernel
theorem dX6_setting_43 : decode cX6_setting 43 = .ok (.istore_n 3, 1) := by decide +kernel
theorem dX6_setting_44 : decode cX6_setting 44 = .ok (.aload_n 0, 1) := by decide +kernel
theorem dX6_setting_45 : decode cX6_setting 45 = .ok (.iload_n 1, 1) := by decide +kernel
theorem dX6_setting_46 : decode cX6_setting 46 = .ok (.ifCond .ne 7, 3) := by decide +kernel
theorem dX6_setting_49 : decode cX6_setting 49 = .ok (.iload_n 2, 1) := by decide +kernel
theorem dX6_setting_50 : decode cX6_setting 50 = .ok (.goto 7, 3) := by decide +kernel
theorem dX6_setting_53 : decode cX6_setting 53 = .ok (.aload_n 0, 1) := by decide +kernel
theorem dX6_setting_54 : decode cX6_setting 54 = .ok (.getfield 46, 3) := by decide +kernel
theorem dX6_setting_57 : decode cX6_setting 57 = .ok (.putfield 46, 3) := by decide +kernel
theorem dX6_setting_60 : decode cX6_setting 60 = .ok (.aload_n 0, 1) := by decide +kernel
theorem dX6_setting_61 : decode cX6_setting 61 = .ok (.iload_n 1, 1) := by decide +kernel
theorem dX6_setting_62 : decode cX6_setting 62 = .ok (.iconst 1, 1) := by decide +kernel
theorem dX6_setting_63 : decode cX6_setting 63 = .ok (.if_icmp .ne 7, 3) := by decide +kernel
theorem dX6_setting_66 : decode cX6_setting 66 = .ok (.iload_n 2, 1) := by decide +kernel
theorem dX6_setting_67 : decode cX6_setting 67 = .ok (.goto 7, 3) := by decide +kernel
theorem dX6_setting_70 : decode cX6_setting 70 = .ok (.aload_n 0, 1) := by decide +kernel
theorem dX6_setting_71 : decode cX6_setting 71 = .ok (.getfield 50, 3) := by decide +kernel
theorem dX6_setting_74 : decode cX6_setting 74 = .ok (.putfield 50, 3) := by decide +kernel
theorem dX6_setting_77 : decode cX6_setting 77 = .ok (.iload_n 3, 1) := by decide +kernel
theorem dX6_setting_78 : decode cX6_setting 78 = .ok (.ireturn, 1) := by decide +kernel
theorem dX6_hides_0 : decode cX6_hides 0 = .ok (.aload_n 0, 1) := by decide +kernel
theorem dX6_hides_1 : decode cX6_hides 1 = .ok (.iconst 0, 1) := by decide +kernel
theorem dX6_hides_2 : decode cX6_hides 2 = .ok (.putfield 69, 3) := by decide +kernel
theorem dX6_hides_5 : decode cX6_hides 5 = .ok (.aload_n 0, 1) := by decide +kernel
theorem dX6_hides_6 : decode cX6_hides 6 = .ok (.getfield 151, 3) := by decide +kernel
theorem dX6_hides_9 : decode cX6_hides 9 = .ok (.ifCond .eq 7, 3) := by decide +kernel
theorem dX6_hides_12 : decode cX6_hides 12 = .ok (.iconst 1, 1) := by decide +kernel
theorem dX6_hides_13 : decode cX6_hides 13 = .ok (.goto 4, 3) := by decide +kernel
theorem dX6_hides_16 : decode cX6_hides 16 = .ok (.iconst 0, 1) := by decide +kernel
theorem dX6_hides_17 : decode cX6_hides 17 = .ok (.istore_n 2, 1) := by decide +kernel
theorem dX6_hides_18 : decode cX6_hides 18 = .ok (.aload_n 0, 1) := by decide +kernel
theorem dX6_hides_19 : decode cX6_hides 19 = .ok (.iload_n 1, 1) := by decide +kernel
theorem dX6_hides_20 : decode cX6_hides 20 = .ok (.putfield 151, 3) := by decide +kernel
theorem dX6_hides_23 : decode cX6_hides 23 = .ok (.iload_n 2, 1) := by decide +kernel
theorem dX6_hides_24 : decode cX6_hides 24 = .ok (.ireturn, 1) := by decide +kernel
theorem dX6_isHidden_0 : decode cX6_isHidden 0 = .ok (.aload_n 0, 1) := by decide +kernel
theorem dX6_isHidden_1 : decode cX6_isHidden 1 = .ok (.getfield 151, 3) := by decide +kernel
theorem dX6_isHidden_4 : decode cX6_isHidden 4 = .ok (.ifCond .eq 11, 3) := by decide +kernel
theorem dX6_isHidden_7 : decode cX6_isHidden 7 = .ok (.iload_n 1, 1) := by decide +kernel
theorem dX6_isHidden_8 : decode cX6_isHidden 8 = .ok (.ifCond .le 7, 3) := by decide +kernel
theorem dX6_isHidden_11 : decode cX6_isHidden 11 = .ok (.iconst 1, 1) := by decide +kernel
theorem dX6_isHidden_12 : decode cX6_isHidden 12 = .ok (.goto 4, 3) := by decide +kernel
theorem dX6_isHidden_15 : decode cX6_isHidden 15 = .ok (.iconst 0, 1) := by decide +kernel
theorem dX6_isHidden_16 : decode cX6_isHidden 16 = .ok (.istore_n 2, 1) := by decide +kernel
theorem dX6_isHidden_17 : decode cX6_isHidden 17 = .ok (.iconst 0, 1) := by decide +kernel
theorem dX6_isHidden_18 : decode cX6_isHidden 18 = .ok (.istore_n 3, 1) := by decide +kernel
theorem dX6_isHidden_19 : decode cX6_isHidden 19 = .ok (.iload_n 3, 1) := by decide +kernel
theorem dX6_isHidden_20 : decode cX6_isHidden 20 = .ok (.aload_n 0, 1) := by decide +kernel
theorem dX6_isHidden_21 : decode cX6_isHidden 21 = .ok (.getfield 76, 3) := by decide +kernel
theorem dX6_isHidden_24 : decode cX6_isHidden 24 = .ok (.if_icmp .ge 29, 3) := by decide +kernel
theorem dX6_isHidden_27 : decode cX6_isHidden 27 = .ok (.iload_n 2, 1) := by decide +kernel
theorem dX6_isHidden_28 : decode cX6_isHidden 28 = .ok (.ifCond .eq 17, 3) := by decide +kernel
theorem dX6_isHidden_31 : decode cX6_isHidden 31 = .ok (.aload_n 0, 1) := by decide +kernel
theorem dX6_isHidden_32 : decode cX6_isHidden 32 = .ok (.getfield 28, 3) := by decide +kernel
theorem dX6_isHidden_35 : decode cX6_isHidden 35 = .ok (.iload_n 3, 1) := by decide +kernel
theorem dX6_isHidden_36 : decode cX6_isHidden 36 = .ok (.iaload, 1) := by decide +kernel
theorem dX6_isHidden_37 : decode cX6_isHidden 37 = .ok (.iload_n 1, 1) := by decide +kernel
theorem dX6_isHidden_38 : decode cX6_isHidden 38 = .ok (.if_icmp .eq 7, 3) := by decide +kernel
theorem dX6_isHidden_41 : decode cX6_isHidden 41 = .ok (.iconst 1, 1) := by decide +kernel
theorem dX6_isHidden_42 : decode cX6_isHidden 42 = .ok (.goto 4, 3) := by decide +kernel
theorem dX6_isHidden_45 : decode cX6_isHidden 45 = .ok (.iconst 0, 1) := by decide +kernel
theorem dX6_isHidden_46 : decode cX6_isHidden 46 = .ok (.istore_n 2, 1) := by decide +kernel
theorem dX6_isHidden_47 : decode cX6_isHidden 47 = .ok (.iinc 3 1, 3) := by decide +kernel
theorem dX6_isHidden_50 : decode cX6_isHidden 50 = .ok (.goto (-31), 3) := by decide +kernel
theorem dX6_isHidden_53 : decode cX6_isHidden 53 = .ok (.iload_n 2, 1) := by decide +kernel
theorem dX6_isHidden_54 : decode cX6_isHidden 54 = .ok (.ireturn, 1) := by decide +kernel
set_option maxRecDepth 20000 in
theorem ggX6_gapAbove_X6_isHidden : GoodIn wsX6_gapAbove wsX6_isHidden := goodIn_r _ [10, 11, 3, 4, 55, 56, 57, 58, 59, 60, 61, 62, 63, 64, 65, 66, 67, 68, 69, 70, 71, 72, 73, 74, 75, 76, 77] rfl (by decide +kernel)
set_option maxRecDepth 20000 in
theorem gX6_gapAbove_X6_isHidden : GoodIn wsX6_gapAbove (wsV RX6 155 RX6 yX6_isHidden wsX6_isHidden) := goodIn_app (goodIn_r _ [6, 7, 8, 9] rfl (by decide +kernel)) ggX6_gapAbove_X6_isHidden
set_option maxRecDepth 20000 in
theorem ggX6_gapAbove_X6_isFirstAt : GoodIn wsX6_gapAbove wsX6_isFirstAt := goodIn_r _ [15, 5, 4, 55, 56, 57, 58, 59, 60, 61, 62, 63, 64, 65, 66, 67, 68, 69, 70, 71, 72, 73, 74, 75, 76, 77] rfl (by decide +kernel)
set_option maxRecDepth 20000 in
theorem gX6_gapAbove_X6_isFirstAt : GoodIn wsX6_gapAbove (wsV RX6 158 RX6 yX6_isFirstAt wsX6_isFirstAt) := goodIn_app (goodIn_r _ [12, 13, 14, 9] rfl (by decide +kernel)) ggX6_gapAbove_X6_isFirstAt
set_option maxRecDepth 20000 in
theorem ggX6_gapAbove_X6_high : GoodIn wsX6_gapAbove wsX6_high := goodIn_r _ [19, 3, 20, 21, 22, 23, 24, 9, 25, 4, 5, 26, 27, 28, 29, 30, 31, 32, 33, 34, 35, 36, 37, 38, 39, 40, 41, 42, 43, 44, 45, 46, 47, 48, 49, 50, 55, 56, 57, 58, 59, 60, 61, 62, 63, 64, 65, 66, 67, 68, 69, 70, 71, 72, 73, 74, 75, 76, 77] rfl (by decide +kernel)
set_option maxRecDepth 20000 in
theorem gX6_gapAbove_X6_high : GoodIn wsX6_gapAbove (wsV RX6 144 RX6 yX6_high wsX6_high) := goodIn_app (goodIn_r _ [16, 17, 18, 9] rfl (by decide +kernel)) ggX6_gapAbove_X6_high
set_option maxRecDepth 20000 in
theorem ggX6_gapAbove_X6_low : GoodIn wsX6_gapAbove wsX6_low := goodIn_r _ [54, 3, 20, 21, 22, 23, 24, 9, 25, 4, 5, 26, 27, 28, 29, 30, 31, 32, 33, 34, 35, 36, 37, 38, 39, 40, 41, 42, 43, 44, 45, 46, 47, 48, 49, 50, 55, 56, 57, 58, 59, 60, 61, 62, 63, 64, 65, 66, 67, 68, 69, 70, 71, 72, 73, 74, 75, 76, 77] rfl (by decide +kernel)
set_option maxRecDepth 20000 in
theorem gX6_gapAbove_X6_low : GoodIn wsX6_gapAbove (wsV RX6 148 RX6 yX6_low wsX6_low) := goodIn_app (goodIn_r _ [51, 52, 53, 9] rfl (by decide +kernel)) ggX6_gapAbove_X6_low
theorem dX6_gapAbove_0 : decode cX6_gapAbove 0 = .ok (.iload_n 1, 1) := by decide +kernel
theorem dX6_gapAbove_1 : decode cX6_gapAbove 1 = .ok (.iconst 1, 1) := by decide +kernel
theorem dX6_gapAbove_2 : decode cX6_gapAbove 2 = .ok (.isub, 1) := by decide +kernel
theorem dX6_gapAbove_3 : decode cX6_gapAbove 3 = .ok (.istore_n 2, 1) := by decide +kernel
theorem dX6_gapAbove_4 : decode cX6_gapAbove 4 = .ok (.aload_n 0, 1) := by decide +kernel
theorem dX6_gapAbove_5 : decode cX6_gapAbove 5 = .ok (.iload_n 2, 1) := by decide +kernel
theorem dX6_gapAbove_6 : decode cX6_gapAbove 6 = .ok (.invokevirtual 155, 3) := by decide +kernel
theorem dX6_gapAbove_9 : decode cX6_gapAbove 9 = .ok (.ifCond .eq 9, 3) := by decide +kernel
theorem dX6_gapAbove_12 : decode cX6_gapAbove 12 = .ok (.iinc 2 (-1), 3) := by decide +kernel
theorem dX6_gapAbove_15 : decode cX6_gapAbove 15 = .ok (.goto (-11), 3) := by decide +kernel
theorem dX6_gapAbove_18 : decode cX6_gapAbove 18 = .ok (.aload_n 0, 1) := by decide +kernel
theorem dX6_gapAbove_19 : decode cX6_gapAbove 19 = .ok (.getfield 50, 3) := by decide +kernel
theorem dX6_gapAbove_22 : decode cX6_gapAbove 22 = .ok (.aload_n 0, 1) := by decide +kernel
theorem dX6_gapAbove_23 : decode cX6_gapAbove 23 = .ok (.getfield 46, 3) := by decide +kernel
theorem dX6_gapAbove_26 : decode cX6_gapAbove 26 = .ok (.if_icmp .le 10, 3) := by decide +kernel
theorem dX6_gapAbove_29 : decode cX6_gapAbove 29 = .ok (.aload_n 0, 1) := by decide +kernel
theorem dX6_gapAbove_30 : decode cX6_gapAbove 30 = .ok (.getfield 50, 3) := by decide +kernel
theorem dX6_gapAbove_33 : decode cX6_gapAbove 33 = .ok (.goto 7, 3) := by decide +kernel
theorem dX6_gapAbove_36 : decode cX6_gapAbove 36 = .ok (.aload_n 0, 1) := by decide +kernel
theorem dX6_gapAbove_37 : decode cX6_gapAbove 37 = .ok (.getfield 46, 3) := by decide +kernel
theorem dX6_gapAbove_40 : decode cX6_gapAbove 40 = .ok (.istore_n 3, 1) := by decide +kernel
theorem dX6_gapAbove_41 : decode cX6_gapAbove 41 = .ok (.iconst 0, 1) := by decide +kernel
theorem dX6_gapAbove_42 : decode cX6_gapAbove 42 = .ok (.istore 4, 2) := by decide +kernel
theorem dX6_gapAbove_44 : decode cX6_gapAbove 44 = .ok (.iload 4, 2) := by decide +kernel
theorem dX6_gapAbove_46 : decode cX6_gapAbove 46 = .ok (.aload_n 0, 1) := by decide +kernel
theorem dX6_gapAbove_47 : decode cX6_gapAbove 47 = .ok (.getfield 76, 3) := by decide +kernel
theorem dX6_gapAbove_50 : decode cX6_gapAbove 50 = .ok (.if_icmp .ge 90, 3) := by decide +kernel
theorem dX6_gapAbove_53 : decode cX6_gapAbove 53 = .ok (.aload_n 0, 1) := by decide +kernel
theorem dX6_gapAbove_54 : decode cX6_gapAbove 54 = .ok (.getfield 28, 3) := by decide +kernel
theorem dX6_gapAbove_57 : decode cX6_gapAbove 57 = .ok (.iload 4, 2) := by decide +kernel
theorem dX6_gapAbove_59 : decode cX6_gapAbove 59 = .ok (.iaload, 1) := by decide +kernel
theorem dX6_gapAbove_60 : decode cX6_gapAbove 60 = .ok (.iload_n 1, 1) := by decide +kernel
theorem dX6_gapAbove_61 : decode cX6_gapAbove 61 = .ok (.if_icmp .eq 14, 3) := by decide +kernel
theorem dX6_gapAbove_64 : decode cX6_gapAbove 64 = .ok (.aload_n 0, 1) := by decide +kernel
theorem dX6_gapAbove_65 : decode cX6_gapAbove 65 = .ok (.getfield 28, 3) := by decide +kernel
theorem dX6_gapAbove_68 : decode cX6_gapAbove 68 = .ok (.iload 4, 2) := by decide +kernel
theorem dX6_gapAbove_70 : decode cX6_gapAbove 70 = .ok (.iaload, 1) := by decide +kernel
theorem dX6_gapAbove_71 : decode cX6_gapAbove 71 = .ok (.iload_n 2, 1) := by decide +kernel
theorem dX6_gapAbove_72 : decode cX6_gapAbove 72 = .ok (.if_icmp .ne 62, 3) := by decide +kernel
theorem dX6_gapAbove_75 : decode cX6_gapAbove 75 = .ok (.aload_n 0, 1) := by decide +kernel
theorem dX6_gapAbove_76 : decode cX6_gapAbove 76 = .ok (.iload 4, 2) := by decide +kernel
theorem dX6_gapAbove_78 : decode cX6_gapAbove 78 = .ok (.iload_n 1, 1) := by decide +kernel
theorem dX6_gapAbove_79 : decode cX6_gapAbove 79 = .ok (.iload_n 2, 1) := by decide +kernel
theorem dX6_gapAbove_80 : decode cX6_gapAbove 80 = .ok (.invokevirtual 158, 3) := by decide +kernel
theorem dX6_gapAbove_83 : decode cX6_gapAbove 83 = .ok (.ifCond .eq 51, 3) := by decide +kernel
theorem dX6_gapAbove_86 : decode cX6_gapAbove 86 = .ok (.aload_n 0, 1) := by decide +kernel
theorem dX6_gapAbove_87 : decode cX6_gapAbove 87 = .ok (.iload_n 1, 1) := by decide +kernel
theorem dX6_gapAbove_88 : decode cX6_gapAbove 88 = .ok (.aload_n 0, 1) := by decide +kernel
theorem dX6_gapAbove_89 : decode cX6_gapAbove 89 = .ok (.getfield 34, 3) := by decide +kernel
theorem dX6_gapAbove_92 : decode cX6_gapAbove 92 = .ok (.iload 4, 2) := by decide +kernel
theorem dX6_gapAbove_94 : decode cX6_gapAbove 94 = .ok (.iaload, 1) := by decide +kernel
theorem dX6_gapAbove_95 : decode cX6_gapAbove 95 = .ok (.invokevirtual 144, 3) := by decide +kernel
theorem dX6_gapAbove_98 : decode cX6_gapAbove 98 = .ok (.bipush 8, 2) := by decide +kernel
theorem dX6_gapAbove_100 : decode cX6_gapAbove 100 = .ok (.isub, 1) := by decide +kernel
theorem dX6_gapAbove_101 : decode cX6_gapAbove 101 = .ok (.aload_n 0, 1) := by decide +kernel
theorem dX6_gapAbove_102 : decode cX6_gapAbove 102 = .ok (.iload_n 2, 1) := by decide +kernel
theorem dX6_gapAbove_103 : decode cX6_gapAbove 103 = .ok (.aload_n 0, 1) := by decide +kernel
theorem dX6_gapAbove_104 : decode cX6_gapAbove 104 = .ok (.getfield 34, 3) := by decide +kernel
theorem dX6_gapAbove_107 : decode cX6_gapAbove 107 = .ok (.iload 4, 2) := by decide +kernel
theorem dX6_gapAbove_109 : decode cX6_gapAbove 109 = .ok (.iaload, 1) := by decide +kernel
theorem dX6_gapAbove_110 : decode cX6_gapAbove 110 = .ok (.invokevirtual 148, 3) := by decide +kernel
theorem dX6_gapAbove_113 : decode cX6_gapAbove 113 = .ok (.isub, 1) := by decide +kernel
theorem dX6_gapAbove_114 : decode cX6_gapAbove 114 = .ok (.aload_n 0, 1) := by decide +kernel
theorem dX6_gapAbove_115 : decode cX6_gapAbove 115 = .ok (.getfield 46, 3) := by decide +kernel
theorem dX6_gapAbove_118 : decode cX6_gapAbove 118 = .ok (.iadd, 1) := by decide +kernel
theorem dX6_gapAbove_119 : decode cX6_gapAbove 119 = .ok (.istore 5, 2) := by decide +kernel
theorem dX6_gapAbove_121 : decode cX6_gapAbove 121 = .ok (.iload 5, 2) := by decide +kernel
theorem dX6_gapAbove_123 : decode cX6_gapAbove 123 = .ok (.iload_n 3, 1) := by decide +kernel
theorem dX6_gapAbove_124 : decode cX6_gapAbove 124 = .ok (.if_icmp .le 8, 3) := by decide +kernel
theorem dX6_gapAbove_127 : decode cX6_gapAbove 127 = .ok (.iload 5, 2) := by decide +kernel
theorem dX6_gapAbove_129 : decode cX6_gapAbove 129 = .ok (.goto 4, 3) := by decide +kernel
theorem dX6_gapAbove_132 : decode cX6_gapAbove 132 = .ok (.iload_n 3, 1) := by decide +kernel
theorem dX6_gapAbove_133 : decode cX6_gapAbove 133 = .ok (.istore_n 3, 1) := by decide +kernel
theorem dX6_gapAbove_134 : decode cX6_gapAbove 134 = .ok (.iinc 4 1, 3) := by decide +kernel
theorem dX6_gapAbove_137 : decode cX6_gapAbove 137 = .ok (.goto (-93), 3) := by decide +kernel
theorem dX6_gapAbove_140 : decode cX6_gapAbove 140 = .ok (.iload_n 3, 1) := by decide +kernel
theorem dX6_gapAbove_141 : decode cX6_gapAbove 141 = .ok (.ireturn, 1) := by decide +kernel
theorem dX6_isFirstAt_0 : decode cX6_isFirstAt 0 = .ok (.iconst 0, 1) := by decide +kernel
theorem dX6_isFirstAt_1 : decode cX6_isFirstAt 1 = .ok (.istore 4, 2) := by decide +kernel
theorem dX6_isFirstAt_3 : decode cX6_isFirstAt 3 = .ok (.iload 4, 2) := by decide +kernel
theorem dX6_isFirstAt_5 : decode cX6_isFirstAt 5 = .ok (.iload_n 1, 1) := by decide +kernel
theorem dX6_isFirstAt_6 : decode cX6_isFirstAt 6 = .ok (.if_icmp .ge 49, 3) := by decide +kernel
theorem dX6_isFirstAt_9 : decode cX6_isFirstAt 9 = .ok (.aload_n 0, 1) := by decide +kernel
theorem dX6_isFirstAt_10 : decode cX6_isFirstAt 10 = .ok (.getfield 34, 3) := by decide +kernel
theorem dX6_isFirstAt_13 : decode cX6_isFirstAt 13 = .ok (.iload 4, 2) := by decide +kernel
theorem dX6_isFirstAt_15 : decode cX6_isFirstAt 15 = .ok (.iaload, 1) := by decide +kernel
theorem dX6_isFirstAt_16 : decode cX6_isFirstAt 16 = .ok (.aload_n 0, 1) := by decide +kernel
theorem dX6_isFirstAt_17 : decode cX6_isFirstAt 17 = .ok (.getfield 34, 3) := by decide +kernel
theorem dX6_isFirstAt_20 : decode cX6_isFirstAt 20 = .ok (.iload_n 1, 1) := by decide +kernel
theorem dX6_isFirstAt_21 : decode cX6_isFirstAt 21 = .ok (.iaload, 1) := by decide +kernel
theorem dX6_isFirstAt_22 : decode cX6_isFirstAt 22 = .ok (.if_icmp .ne 27, 3) := by decide +kernel
theorem dX6_isFirstAt_25 : decode cX6_isFirstAt 25 = .ok (.aload_n 0, 1) := by decide +kernel
theorem dX6_isFirstAt_26 : decode cX6_isFirstAt 26 = .ok (.getfield 28, 3) := by decide +kernel
theorem dX6_isFirstAt_29 : decode cX6_isFirstAt 29 = .ok (.iload 4, 2) := by decide +kernel
theorem dX6_isFirstAt_31 : decode cX6_isFirstAt 31 = .ok (.iaload, 1) := by decide +kernel
theorem dX6_isFirstAt_32 : decode cX6_isFirstAt 32 = .ok (.iload_n 2, 1) := by decide +kernel
theorem dX6_isFirstAt_33 : decode cX6_isFirstAt 33 = .ok (.if_icmp .eq 14, 3) := by decide +kernel
theorem dX6_isFirstAt_36 : decode cX6_isFirstAt 36 = .ok (.aload_n 0, 1) := by decide +kernel
theorem dX6_isFirstAt_37 : decode cX6_isFirstAt 37 = .ok (.getfield 28, 3) := by decide +kernel
theorem dX6_isFirstAt_40 : decode cX6_isFirstAt 40 = .ok (.iload 4, 2) := by decide +kernel
theorem dX6_isFirstAt_42 : decode cX6_isFirstAt 42 = .ok (.iaload, 1) := by decide +kernel
theorem dX6_isFirstAt_43 : decode cX6_isFirstAt 43 = .ok (.iload_n 3, 1) := by decide +kernel
theorem dX6_isFirstAt_44 : decode cX6_isFirstAt 44 = .ok (.if_icmp .ne 5, 3) := by decide +kernel
theorem dX6_isFirstAt_47 : decode cX6_isFirstAt 47 = .ok (.iconst 0, 1) := by decide +kernel
theorem dX6_isFirstAt_48 : decode cX6_isFirstAt 48 = .ok (.ireturn, 1) := by decide +kernel
theorem dX6_isFirstAt_49 : decode cX6_isFirstAt 49 = .ok (.iinc 4 1, 3) := by decide +kernel
theorem dX6_isFirstAt_52 : decode cX6_isFirstAt 52 = .ok (.goto (-49), 3) := by decide +kernel
theorem dX6_isFirstAt_55 : decode cX6_isFirstAt 55 = .ok (.iconst 1, 1) := by decide +kernel
theorem dX6_isFirstAt_56 : decode cX6_isFirstAt 56 = .ok (.ireturn, 1) := by decide +kernel
set_option maxRecDepth 20000 in
theorem ggX6_placeOf_X6_isHidden : GoodIn wsX6_placeOf wsX6_isHidden := goodIn_r _ [6, 7, 8, 9, 60, 61, 62, 63, 64, 65, 66, 67, 68, 69, 70, 71, 72, 73, 74, 75, 76, 77, 78, 79, 80, 81, 82] rfl (by decide +kernel)
set_option maxRecDepth 20000 in
theorem gX6_placeOf_X6_isHidden : GoodIn wsX6_placeOf (wsV RX6 155 RX6 yX6_isHidden wsX6_isHidden) := goodIn_app (goodIn_r _ [2, 3, 4, 5] rfl (by decide +kernel)) ggX6_placeOf_X6_isHidden
set_option maxRecDepth 20000 in
theorem ggX6_placeOf_X6_gapAbove : GoodIn wsX6_placeOf wsX6_gapAbove := goodIn_r _ [13, 14, 15, 8, 9, 16, 2, 3, 4, 5, 6, 7, 17, 18, 19, 20, 21, 22, 23, 24, 25, 26, 27, 28, 29, 30, 31, 32, 33, 34, 35, 36, 37, 38, 39, 40, 41, 42, 43, 44, 45, 46, 47, 48, 49, 50, 51, 52, 53, 54, 55, 56, 57, 58, 59, 60, 61, 62, 63, 64, 65, 66, 67, 68, 69, 70, 71, 72, 73, 74, 75, 76, 77, 78, 79, 80, 81, 82] rfl (by decide +kernel)
set_option maxRecDepth 20000 in
theorem gX6_placeOf_X6_gapAbove : GoodIn wsX6_placeOf (wsV RX6 161 RX6 yX6_gapAbove wsX6_gapAbove) := goodIn_app (goodIn_r _ [10, 11, 12, 5] rfl (by decide +kernel)) ggX6_placeOf_X6_gapAbove
theorem dX6_placeOf_0 : decode cX6_placeOf 0 = .ok (.lconst 0, 1) := by decide +kernel
theorem dX6_placeOf_1 : decode cX6_placeOf 1 = .ok (.lstore_n 2, 1) := by decide +kernel
theorem dX6_placeOf_2 : decode cX6_placeOf 2 = .ok (.iconst 1, 1) := by decide +kernel
theorem dX6_placeOf_3 : decode cX6_placeOf 3 = .ok (.istore 4, 2) := by decide +kernel
theorem dX6_placeOf_5 : decode cX6_placeOf 5 = .ok (.iload 4, 2) := by decide +kernel
theorem dX6_placeOf_7 : decode cX6_placeOf 7 = .ok (.iload_n 1, 1) := by decide +kernel
theorem dX6_placeOf_8 : decode cX6_placeOf 8 = .ok (.if_icmp .gt 35, 3) := by decide +kernel
theorem dX6_placeOf_11 : decode cX6_placeOf 11 = .ok (.lload_n 2, 1) := by decide +kernel
theorem dX6_placeOf_12 : decode cX6_placeOf 12 = .ok (.aload_n 0, 1) := by decide +kernel
theorem dX6_placeOf_13 : decode cX6_placeOf 13 = .ok (.iload 4, 2) := by decide +kernel
theorem dX6_placeOf_15 : decode cX6_placeOf 15 = .ok (.invokevirtual 155, 3) := by decide +kernel
theorem dX6_placeOf_18 : decode cX6_placeOf 18 = .ok (.ifCond .eq 7, 3) := by decide +kernel
theorem dX6_placeOf_21 : decode cX6_placeOf 21 = .ok (.lconst 0, 1) := by decide +kernel
theorem dX6_placeOf_22 : decode cX6_placeOf 22 = .ok (.goto 13, 3) := by decide +kernel
theorem dX6_placeOf_25 : decode cX6_placeOf 25 = .ok (.aload_n 0, 1) := by decide +kernel
theorem dX6_placeOf_26 : decode cX6_placeOf 26 = .ok (.iload 4, 2) := by decide +kernel
theorem dX6_placeOf_28 : decode cX6_placeOf 28 = .ok (.invokevirtual 161, 3) := by decide +kernel
theorem dX6_placeOf_31 : decode cX6_placeOf 31 = .ok (.bipush 8, 2) := by decide +kernel
theorem dX6_placeOf_33 : decode cX6_placeOf 33 = .ok (.iadd, 1) := by decide +kernel
theorem dX6_placeOf_34 : decode cX6_placeOf 34 = .ok (.i2l, 1) := by decide +kernel
theorem dX6_placeOf_35 : decode cX6_placeOf 35 = .ok (.ladd, 1) := by decide +kernel
theorem dX6_placeOf_36 : decode cX6_placeOf 36 = .ok (.lstore_n 2, 1) := by decide +kernel
theorem dX6_placeOf_37 : decode cX6_placeOf 37 = .ok (.iinc 4 1, 3) := by decide +kernel
theorem dX6_placeOf_40 : decode cX6_placeOf 40 = .ok (.goto (-35), 3) := by decide +kernel
theorem dX6_placeOf_43 : decode cX6_placeOf 43 = .ok (.aload_n 0, 1) := by decide +kernel
theorem dX6_placeOf_44 : decode cX6_placeOf 44 = .ok (.getfield 66, 3) := by decide +kernel
theorem dX6_placeOf_47 : decode cX6_placeOf 47 = .ok (.i2l, 1) := by decide +kernel
theorem dX6_placeOf_48 : decode cX6_placeOf 48 = .ok (.lload_n 2, 1) := by decide +kernel
theorem dX6_placeOf_49 : decode cX6_placeOf 49 = .ok (.lmul, 1) := by decide +kernel
theorem dX6_placeOf_50 : decode cX6_placeOf 50 = .ok (.lreturn, 1) := by decide +kernel
set_option maxRecDepth 20000 in
theorem ggX6_gap_X6_isStaff : GoodIn wsX6_gap wsX6_isStaff := goodIn_r _ [5, 6, 7, 4, 8] rfl (by decide +kernel)
set_option maxRecDepth 20000 in
theorem gX6_gap_X6_isStaff : GoodIn wsX6_gap (va_wsS RX6 79 yX6_isStaff wsX6_isStaff) := goodIn_app (goodIn_r _ [2, 3, 4] rfl (by decide +kernel)) ggX6_gap_X6_isStaff
set_option maxRecDepth 20000 in
theorem ggX6_gap_X6_reckon : GoodIn wsX6_gap wsX6_reckon := goodIn_r _ [12, 13, 14, 15, 16, 17, 4, 18, 19, 20, 21, 22, 23, 24, 25, 26, 27, 28, 6, 7, 8, 82, 83, 84, 85, 86, 87, 88, 89, 90, 91, 92, 93, 94, 95, 96, 97, 98, 99, 100, 101, 102, 103, 104] rfl (by decide +kernel)
set_option maxRecDepth 20000 in
theorem gX6_gap_X6_reckon : GoodIn wsX6_gap (wsV RX6 134 RX6 yX6_reckon wsX6_reckon) := goodIn_app (goodIn_r _ [9, 10, 11, 4] rfl (by decide +kernel)) ggX6_gap_X6_reckon
set_option maxRecDepth 20000 in
theorem ggX6_gap_X6_isHidden : GoodIn wsX6_gap wsX6_isHidden := goodIn_r _ [32, 33, 13, 19, 82, 83, 84, 85, 86, 87, 88, 89, 90, 91, 92, 93, 94, 95, 96, 97, 98, 99, 100, 101, 102, 103, 104] rfl (by decide +kernel)
set_option maxRecDepth 20000 in
theorem gX6_gap_X6_isHidden : GoodIn wsX6_gap (wsV RX6 155 RX6 yX6_isHidden wsX6_isHidden) := goodIn_app (goodIn_r _ [29, 30, 31, 4] rfl (by decide +kernel)) ggX6_gap_X6_isHidden
set_option maxRecDepth 20000 in
theorem ggX6_gap_X6_gapAbove : GoodIn wsX6_gap wsX6_gapAbove := goodIn_r _ [37, 38, 39, 13, 19, 23, 29, 30, 31, 4, 32, 33, 40, 41, 42, 43, 44, 45, 46, 47, 48, 49, 50, 51, 52, 53, 54, 55, 56, 57, 14, 58, 59, 60, 61, 62, 63, 64, 65, 66, 67, 68, 69, 70, 71, 72, 73, 74, 75, 76, 77, 78, 79, 80, 81, 82, 83, 84, 85, 86, 87, 88, 89, 90, 91, 92, 93, 94, 95, 96, 97, 98, 99, 100, 101, 102, 103, 104] rfl (by decide +kernel)
set_option maxRecDepth 20000 in
theorem gX6_gap_X6_gapAbove : GoodIn wsX6_gap (wsV RX6 161 RX6 yX6_gapAbove wsX6_gapAbove) := goodIn_app (goodIn_r _ [34, 35, 36, 4] rfl (by decide +kernel)) ggX6_gap_X6_gapAbove
theorem dX6_gap_0 : decode cX6_gap 0 = .ok (.aload_n 0, 1) := by decide +kernel
theorem dX6_gap_1 : decode cX6_gap 1 = .ok (.iconst 0, 1) := by decide +kernel
theorem dX6_gap_2 : decode cX6_gap 2 = .ok (.putfield 69, 3) := by decide +kernel
theorem dX6_gap_5 : decode cX6_gap 5 = .ok (.iload_n 1, 1) := by decide +kernel
theorem dX6_gap_6 : decode cX6_gap 6 = .ok (.invokestatic 79, 3) := by decide +kernel
theorem dX6_gap_9 : decode cX6_gap 9 = .ok (.ifCond .ne 7, 3) := by decide +kernel
theorem dX6_gap_12 : decode cX6_gap 12 = .ok (.sipush (-1001), 3) := by decide +kernel
theorem dX6_gap_15 : decode cX6_gap 15 = .ok (.ireturn, 1) := by decide +kernel
theorem dX6_gap_16 : decode cX6_gap 16 = .ok (.aload_n 0, 1) := by decide +kernel
theorem dX6_gap_17 : decode cX6_gap 17 = .ok (.invokevirtual 134, 3) := by decide +kernel
theorem dX6_gap_20 : decode cX6_gap 20 = .ok (.iload_n 1, 1) := by decide +kernel
theorem dX6_gap_21 : decode cX6_gap 21 = .ok (.ifCond .eq 11, 3) := by decide +kernel
theorem dX6_gap_24 : decode cX6_gap 24 = .ok (.aload_n 0, 1) := by decide +kernel
theorem dX6_gap_25 : decode cX6_gap 25 = .ok (.iload_n 1, 1) := by decide +kernel
theorem dX6_gap_26 : decode cX6_gap 26 = .ok (.invokevirtual 155, 3) := by decide +kernel
theorem dX6_gap_29 : decode cX6_gap 29 = .ok (.ifCond .eq 9, 3) := by decide +kernel
theorem dX6_gap_32 : decode cX6_gap 32 = .ok (.sipush (-1000), 3) := by decide +kernel
theorem dX6_gap_35 : decode cX6_gap 35 = .ok (.goto 8, 3) := by decide +kernel
theorem dX6_gap_38 : decode cX6_gap 38 = .ok (.aload_n 0, 1) := by decide +kernel
theorem dX6_gap_39 : decode cX6_gap 39 = .ok (.iload_n 1, 1) := by decide +kernel
theorem dX6_gap_40 : decode cX6_gap 40 = .ok (.invokevirtual 161, 3) := by decide +kernel
theorem dX6_gap_43 : decode cX6_gap 43 = .ok (.ireturn, 1) := by decide +kernel
set_option maxRecDepth 20000 in
theorem ggX6_place_X6_isStaff : GoodIn wsX6_place wsX6_isStaff := goodIn_r _ [7, 8, 9, 6, 10] rfl (by decide +kernel)
set_option maxRecDepth 20000 in
theorem gX6_place_X6_isStaff : GoodIn wsX6_place (va_wsS RX6 79 yX6_isStaff wsX6_isStaff) := goodIn_app (goodIn_r _ [4, 5, 6] rfl (by decide +kernel)) ggX6_place_X6_isStaff
set_option maxRecDepth 20000 in
theorem ggX6_place_X6_reckon : GoodIn wsX6_place wsX6_reckon := goodIn_r _ [14, 15, 16, 17, 18, 19, 6, 20, 21, 22, 23, 24, 25, 26, 27, 28, 29, 30, 8, 9, 10, 89, 90, 91, 92, 93, 94, 95, 96, 97, 98, 99, 100, 101, 102, 103, 104, 105, 106, 107, 108, 109, 110, 111] rfl (by decide +kernel)
set_option maxRecDepth 20000 in
theorem gX6_place_X6_reckon : GoodIn wsX6_place (wsV RX6 134 RX6 yX6_reckon wsX6_reckon) := goodIn_app (goodIn_r _ [11, 12, 13, 6] rfl (by decide +kernel)) ggX6_place_X6_reckon
set_option maxRecDepth 20000 in
theorem ggX6_place_X6_isHidden : GoodIn wsX6_place wsX6_isHidden := goodIn_r _ [34, 35, 15, 21, 89, 90, 91, 92, 93, 94, 95, 96, 97, 98, 99, 100, 101, 102, 103, 104, 105, 106, 107, 108, 109, 110, 111] rfl (by decide +kernel)
set_option maxRecDepth 20000 in
theorem gX6_place_X6_isHidden : GoodIn wsX6_place (wsV RX6 155 RX6 yX6_isHidden wsX6_isHidden) := goodIn_app (goodIn_r _ [31, 32, 33, 6] rfl (by decide +kernel)) ggX6_place_X6_isHidden
set_option maxRecDepth 20000 in
theorem ggX6_place_X6_placeOf : GoodIn wsX6_place wsX6_placeOf := goodIn_r _ [39, 40, 31, 32, 33, 6, 34, 35, 15, 21, 41, 42, 43, 44, 45, 46, 25, 47, 48, 49, 50, 51, 52, 53, 54, 55, 56, 57, 58, 59, 60, 61, 62, 63, 64, 16, 65, 66, 67, 68, 69, 70, 71, 72, 73, 74, 75, 76, 77, 78, 79, 80, 81, 82, 83, 84, 85, 86, 87, 88, 89, 90, 91, 92, 93, 94, 95, 96, 97, 98, 99, 100, 101, 102, 103, 104, 105, 106, 107, 108, 109, 110, 111] rfl (by decide +kernel)
set_option maxRecDepth 20000 in
theorem gX6_place_X6_placeOf : GoodIn wsX6_place (wsV RX6 168 RX6 yX6_placeOf wsX6_placeOf) := goodIn_app (goodIn_r _ [36, 37, 38, 6] rfl (by decide +kernel)) ggX6_place_X6_placeOf
theorem dX6_place_0 : decode cX6_place 0 = .ok (.aload_n 0, 1) := by decide +kernel
theorem dX6_place_1 : decode cX6_place 1 = .ok (.iconst 0, 1) := by decide +kernel
theorem dX6_place_2 : decode cX6_place 2 = .ok (.putfield 69, 3) := by decide +kernel
theorem dX6_place_5 : decode cX6_place 5 = .ok (.iload_n 1, 1) := by decide +kernel
theorem dX6_place_6 : decode cX6_place 6 = .ok (.invokestatic 79, 3) := by decide +kernel
theorem dX6_place_9 : decode cX6_place 9 = .ok (.ifCond .ne 7, 3) := by decide +kernel
theorem dX6_place_12 : decode cX6_place 12 = .ok (.ldc2_w 164, 3) := by decide +kernel
theorem dX6_place_15 : decode cX6_place 15 = .ok (.lreturn, 1) := by decide +kernel
theorem dX6_place_16 : decode cX6_place 16 = .ok (.aload_n 0, 1) := by decide +kernel
theorem dX6_place_17 : decode cX6_place 17 = .ok (.invokevirtual 134, 3) := by decide +kernel
theorem dX6_place_20 : decode cX6_place 20 = .ok (.aload_n 0, 1) := by decide +kernel
theorem dX6_place_21 : decode cX6_place 21 = .ok (.iload_n 1, 1) := by decide +kernel
theorem dX6_place_22 : decode cX6_place 22 = .ok (.invokevirtual 155, 3) := by decide +kernel
theorem dX6_place_25 : decode cX6_place 25 = .ok (.ifCond .eq 9, 3) := by decide +kernel
theorem dX6_place_28 : decode cX6_place 28 = .ok (.ldc2_w 166, 3) := by decide +kernel
theorem dX6_place_31 : decode cX6_place 31 = .ok (.goto 8, 3) := by decide +kernel
theorem dX6_place_34 : decode cX6_place 34 = .ok (.aload_n 0, 1) := by decide +kernel
theorem dX6_place_35 : decode cX6_place 35 = .ok (.iload_n 1, 1) := by decide +kernel
theorem dX6_place_36 : decode cX6_place 36 = .ok (.invokevirtual 168, 3) := by decide +kernel
theorem dX6_place_39 : decode cX6_place 39 = .ok (.lreturn, 1) := by decide +kernel
set_option maxRecDepth 20000 in
theorem ggX6_height_X6_reckon : GoodIn wsX6_height wsX6_reckon := goodIn_r _ [9, 10, 11, 12, 13, 14, 8, 15, 3, 16, 17, 18, 19, 20, 21, 22, 23, 24, 25, 26, 27, 89, 90, 91, 92, 93, 94, 95, 96, 97, 98, 99, 100, 101, 102, 103, 104, 105, 106, 107, 108, 109, 110, 111] rfl (by decide +kernel)
set_option maxRecDepth 20000 in
theorem gX6_height_X6_reckon : GoodIn wsX6_height (wsV RX6 134 RX6 yX6_reckon wsX6_reckon) := goodIn_app (goodIn_r _ [5, 6, 7, 8] rfl (by decide +kernel)) ggX6_height_X6_reckon
set_option maxRecDepth 20000 in
theorem ggX6_height_X6_isNote : GoodIn wsX6_height wsX6_isNote := goodIn_r _ [31, 10, 25, 26, 8, 27, 89, 90, 91, 92, 93, 94, 95, 96, 97, 98, 99, 100, 101, 102, 103, 104, 105, 106, 107, 108, 109, 110, 111] rfl (by decide +kernel)
set_option maxRecDepth 20000 in
theorem gX6_height_X6_isNote : GoodIn wsX6_height (wsV RX6 86 RX6 yX6_isNote wsX6_isNote) := goodIn_app (goodIn_r _ [28, 29, 30, 8] rfl (by decide +kernel)) ggX6_height_X6_isNote
set_option maxRecDepth 20000 in
theorem ggX6_height_X6_step : GoodIn wsX6_height wsX6_step := goodIn_r _ [35, 11, 89, 90, 91, 92, 93, 94, 95, 96, 97, 98, 99, 100, 101, 102, 103, 104, 105, 106, 107, 108, 109, 110, 111] rfl (by decide +kernel)
set_option maxRecDepth 20000 in
theorem gX6_height_X6_step : GoodIn wsX6_height (wsV RX6 100 RX6 yX6_step wsX6_step) := goodIn_app (goodIn_r _ [32, 33, 34, 8] rfl (by decide +kernel)) ggX6_height_X6_step
set_option maxRecDepth 20000 in
theorem ggX6_height_X6_placeOf : GoodIn wsX6_height wsX6_placeOf := goodIn_r _ [39, 2, 40, 41, 42, 8, 43, 44, 10, 3, 45, 46, 47, 48, 49, 50, 19, 51, 52, 53, 54, 55, 56, 57, 58, 59, 60, 61, 62, 63, 64, 32, 33, 34, 35, 11, 65, 66, 67, 68, 69, 70, 71, 72, 73, 74, 75, 76, 77, 78, 79, 80, 81, 82, 83, 84, 85, 86, 87, 88, 89, 90, 91, 92, 93, 94, 95, 96, 97, 98, 99, 100, 101, 102, 103, 104, 105, 106, 107, 108, 109, 110, 111] rfl (by decide +kernel)
set_option maxRecDepth 20000 in
theorem gX6_height_X6_placeOf : GoodIn wsX6_height (wsV RX6 168 RX6 yX6_placeOf wsX6_placeOf) := goodIn_app (goodIn_r _ [36, 37, 38, 8] rfl (by decide +kernel)) ggX6_height_X6_placeOf
theorem dX6_height_0 : decode cX6_height 0 = .ok (.aload_n 0, 1) := by decide +kernel
theorem dX6_height_1 : decode cX6_height 1 = .ok (.iconst 0, 1) := by decide +kernel
theorem dX6_height_2 : decode cX6_height 2 = .ok (.putfield 69, 3) := by decide +kernel
theorem dX6_height_5 : decode cX6_height 5 = .ok (.aload_n 0, 1) := by decide +kernel
theorem dX6_height_6 : decode cX6_height 6 = .ok (.invokevirtual 134, 3) := by decide +kernel
theorem dX6_height_9 : decode cX6_height 9 = .ok (.aload_n 0, 1) := by decide +kernel
theorem dX6_height_10 : decode cX6_height 10 = .ok (.iload_n 1, 1) := by decide +kernel
theorem dX6_height_11 : decode cX6_height 11 = .ok (.invokevirtual 86, 3) := by decide +kernel
theorem dX6_height_14 : decode cX6_height 14 = .ok (.ifCond .eq 29, 3) := by decide +kernel
theorem dX6_height_17 : decode cX6_height 17 = .ok (.aload_n 0, 1) := by decide +kernel
theorem dX6_height_18 : decode cX6_height 18 = .ok (.getfield 66, 3) := by decide +kernel
theorem dX6_height_21 : decode cX6_height 21 = .ok (.i2l, 1) := by decide +kernel
theorem dX6_height_22 : decode cX6_height 22 = .ok (.aload_n 0, 1) := by decide +kernel
theorem dX6_height_23 : decode cX6_height 23 = .ok (.iload_n 1, 1) := by decide +kernel
theorem dX6_height_24 : decode cX6_height 24 = .ok (.invokevirtual 100, 3) := by decide +kernel
theorem dX6_height_27 : decode cX6_height 27 = .ok (.i2l, 1) := by decide +kernel
theorem dX6_height_28 : decode cX6_height 28 = .ok (.lmul, 1) := by decide +kernel
theorem dX6_height_29 : decode cX6_height 29 = .ok (.aload_n 0, 1) := by decide +kernel
theorem dX6_height_30 : decode cX6_height 30 = .ok (.aload_n 0, 1) := by decide +kernel
theorem dX6_height_31 : decode cX6_height 31 = .ok (.getfield 28, 3) := by decide +kernel
theorem dX6_height_34 : decode cX6_height 34 = .ok (.iload_n 1, 1) := by decide +kernel
theorem dX6_height_35 : decode cX6_height 35 = .ok (.iaload, 1) := by decide +kernel
theorem dX6_height_36 : decode cX6_height 36 = .ok (.invokevirtual 168, 3) := by decide +kernel
theorem dX6_height_39 : decode cX6_height 39 = .ok (.lsub, 1) := by decide +kernel
theorem dX6_height_40 : decode cX6_height 40 = .ok (.goto 6, 3) := by decide +kernel
theorem dX6_height_43 : decode cX6_height 43 = .ok (.ldc2_w 164, 3) := by decide +kernel
theorem dX6_height_46 : decode cX6_height 46 = .ok (.lreturn, 1) := by decide +kernel
set_option maxRecDepth 20000 in
theorem ggX6_crowded_X6_isStaff : GoodIn wsX6_crowded wsX6_isStaff := goodIn_r _ [6, 7, 8, 5, 9] rfl (by decide +kernel)
set_option maxRecDepth 20000 in
theorem gX6_crowded_X6_isStaff : GoodIn wsX6_crowded (va_wsS RX6 79 yX6_isStaff wsX6_isStaff) := goodIn_app (goodIn_r _ [3, 4, 5] rfl (by decide +kernel)) ggX6_crowded_X6_isStaff
set_option maxRecDepth 20000 in
theorem ggX6_crowded_X6_reckon : GoodIn wsX6_crowded wsX6_reckon := goodIn_r _ [13, 14, 15, 16, 17, 18, 5, 19, 20, 21, 22, 23, 24, 25, 26, 27, 28, 29, 7, 8, 9, 82, 83, 84, 85, 86, 87, 88, 89, 90, 91, 92, 93, 94, 95, 96, 97, 98, 99, 100, 101, 102, 103, 104] rfl (by decide +kernel)
set_option maxRecDepth 20000 in
theorem gX6_crowded_X6_reckon : GoodIn wsX6_crowded (wsV RX6 134 RX6 yX6_reckon wsX6_reckon) := goodIn_app (goodIn_r _ [10, 11, 12, 5] rfl (by decide +kernel)) ggX6_crowded_X6_reckon
set_option maxRecDepth 20000 in
theorem ggX6_crowded_X6_many : GoodIn wsX6_crowded wsX6_many := goodIn_r _ [33, 14, 34, 35, 36, 5, 37, 38, 39, 40, 41, 42, 20, 24, 82, 83, 84, 85, 86, 87, 88, 89, 90, 91, 92, 93, 94, 95, 96, 97, 98, 99, 100, 101, 102, 103, 104] rfl (by decide +kernel)
set_option maxRecDepth 20000 in
theorem gX6_crowded_X6_many : GoodIn wsX6_crowded (wsV RX6 103 RX6 yX6_many wsX6_many) := goodIn_app (goodIn_r _ [30, 31, 32, 5] rfl (by decide +kernel)) ggX6_crowded_X6_many
set_option maxRecDepth 20000 in
theorem ggX6_crowded_X6_move : GoodIn wsX6_crowded wsX6_move := goodIn_r _ [46, 2, 14, 47, 34, 35, 36, 5, 37, 38, 39, 40, 41, 42, 20, 24, 48, 49, 50, 51, 52, 53, 54, 55, 56, 57, 58, 59, 30, 31, 32, 33, 60, 61, 62, 63, 64, 65, 66, 67, 15, 68, 69, 70, 71, 72, 73, 74, 75, 76, 77, 78, 79, 80, 81, 82, 83, 84, 85, 86, 87, 88, 89, 90, 91, 92, 93, 94, 95, 96, 97, 98, 99, 100, 101, 102, 103, 104] rfl (by decide +kernel)
set_option maxRecDepth 20000 in
theorem gX6_crowded_X6_move : GoodIn wsX6_crowded (wsV RX6 137 RX6 yX6_move wsX6_move) := goodIn_app (goodIn_r _ [43, 44, 45, 5] rfl (by decide +kernel)) ggX6_crowded_X6_move
theorem dX6_crowded_0 : decode cX6_crowded 0 = .ok (.aload_n 0, 1) := by decide +kernel
theorem dX6_crowded_1 : decode cX6_crowded 1 = .ok (.iconst 0, 1) := by decide +kernel
theorem dX6_crowded_2 : decode cX6_crowded 2 = .ok (.putfield 69, 3) := by decide +kernel
theorem dX6_crowded_5 : decode cX6_crowded 5 = .ok (.iload_n 1, 1) := by decide +kernel
theorem dX6_crowded_6 : decode cX6_crowded 6 = .ok (.invokestatic 79, 3) := by decide +kernel
theorem dX6_crowded_9 : decode cX6_crowded 9 = .ok (.ifCond .ne 7, 3) := by decide +kernel
theorem dX6_crowded_12 : decode cX6_crowded 12 = .ok (.sipush (-1001), 3) := by decide +kernel
theorem dX6_crowded_15 : decode cX6_crowded 15 = .ok (.ireturn, 1) := by decide +kernel
theorem dX6_crowded_16 : decode cX6_crowded 16 = .ok (.iconst 0, 1) := by decide +kernel
theorem dX6_crowded_17 : decode cX6_crowded 17 = .ok (.istore_n 2, 1) := by decide +kernel
theorem dX6_crowded_18 : decode cX6_crowded 18 = .ok (.iconst 0, 1) := by decide +kernel
theorem dX6_crowded_19 : decode cX6_crowded 19 = .ok (.istore_n 3, 1) := by decide +kernel
theorem dX6_crowded_20 : decode cX6_crowded 20 = .ok (.aload_n 0, 1) := by decide +kernel
theorem dX6_crowded_21 : decode cX6_crowded 21 = .ok (.invokevirtual 134, 3) := by decide +kernel
theorem dX6_crowded_24 : decode cX6_crowded 24 = .ok (.iconst 0, 1) := by decide +kernel
theorem dX6_crowded_25 : decode cX6_crowded 25 = .ok (.istore 4, 2) := by decide +kernel
theorem dX6_crowded_27 : decode cX6_crowded 27 = .ok (.iload 4, 2) := by decide +kernel
theorem dX6_crowded_29 : decode cX6_crowded 29 = .ok (.bipush 100, 2) := by decide +kernel
theorem dX6_crowded_31 : decode cX6_crowded 31 = .ok (.if_icmp .ge 83, 3) := by decide +kernel
theorem dX6_crowded_34 : decode cX6_crowded 34 = .ok (.aload_n 0, 1) := by decide +kernel
theorem dX6_crowded_35 : decode cX6_crowded 35 = .ok (.iload_n 1, 1) := by decide +kernel
theorem dX6_crowded_36 : decode cX6_crowded 36 = .ok (.iload 4, 2) := by decide +kernel
theorem dX6_crowded_38 : decode cX6_crowded 38 = .ok (.iconst 0, 1) := by decide +kernel
theorem dX6_crowded_39 : decode cX6_crowded 39 = .ok (.invokevirtual 103, 3) := by decide +kernel
theorem dX6_crowded_42 : decode cX6_crowded 42 = .ok (.aload_n 0, 1) := by decide +kernel
theorem dX6_crowded_43 : decode cX6_crowded 43 = .ok (.iload_n 1, 1) := by decide +kernel
theorem dX6_crowded_44 : decode cX6_crowded 44 = .ok (.iload 4, 2) := by decide +kernel
theorem dX6_crowded_46 : decode cX6_crowded 46 = .ok (.iconst 1, 1) := by decide +kernel
theorem dX6_crowded_47 : decode cX6_crowded 47 = .ok (.invokevirtual 103, 3) := by decide +kernel
theorem dX6_crowded_50 : decode cX6_crowded 50 = .ok (.iadd, 1) := by decide +kernel
theorem dX6_crowded_51 : decode cX6_crowded 51 = .ok (.aload_n 0, 1) := by decide +kernel
theorem dX6_crowded_52 : decode cX6_crowded 52 = .ok (.iload_n 1, 1) := by decide +kernel
theorem dX6_crowded_53 : decode cX6_crowded 53 = .ok (.iload 4, 2) := by decide +kernel
theorem dX6_crowded_55 : decode cX6_crowded 55 = .ok (.iconst 2, 1) := by decide +kernel
theorem dX6_crowded_56 : decode cX6_crowded 56 = .ok (.invokevirtual 103, 3) := by decide +kernel
theorem dX6_crowded_59 : decode cX6_crowded 59 = .ok (.iadd, 1) := by decide +kernel
theorem dX6_crowded_60 : decode cX6_crowded 60 = .ok (.istore 5, 2) := by decide +kernel
theorem dX6_crowded_62 : decode cX6_crowded 62 = .ok (.iload 5, 2) := by decide +kernel
theorem dX6_crowded_64 : decode cX6_crowded 64 = .ok (.ifCond .le 44, 3) := by decide +kernel
theorem dX6_crowded_67 : decode cX6_crowded 67 = .ok (.aload_n 0, 1) := by decide +kernel
theorem dX6_crowded_68 : decode cX6_crowded 68 = .ok (.iload_n 1, 1) := by decide +kernel
theorem dX6_crowded_69 : decode cX6_crowded 69 = .ok (.iload 4, 2) := by decide +kernel
theorem dX6_crowded_71 : decode cX6_crowded 71 = .ok (.invokevirtual 137, 3) := by decide +kernel
theorem dX6_crowded_74 : decode cX6_crowded 74 = .ok (.iinc 2 1, 3) := by decide +kernel
theorem dX6_crowded_77 : decode cX6_crowded 77 = .ok (.iload_n 3, 1) := by decide +kernel
theorem dX6_crowded_78 : decode cX6_crowded 78 = .ok (.aload_n 0, 1) := by decide +kernel
theorem dX6_crowded_79 : decode cX6_crowded 79 = .ok (.getfield 56, 3) := by decide +kernel
theorem dX6_crowded_82 : decode cX6_crowded 82 = .ok (.iconst 0, 1) := by decide +kernel
theorem dX6_crowded_83 : decode cX6_crowded 83 = .ok (.iaload, 1) := by decide +kernel
theorem dX6_crowded_84 : decode cX6_crowded 84 = .ok (.aload_n 0, 1) := by decide +kernel
theorem dX6_crowded_85 : decode cX6_crowded 85 = .ok (.getfield 56, 3) := by decide +kernel
theorem dX6_crowded_88 : decode cX6_crowded 88 = .ok (.iconst 1, 1) := by decide +kernel
theorem dX6_crowded_89 : decode cX6_crowded 89 = .ok (.iaload, 1) := by decide +kernel
theorem dX6_crowded_90 : decode cX6_crowded 90 = .ok (.iadd, 1) := by decide +kernel
theorem dX6_crowded_91 : decode cX6_crowded 91 = .ok (.aload_n 0, 1) := by decide +kernel
theorem dX6_crowded_92 : decode cX6_crowded 92 = .ok (.getfield 56, 3) := by decide +kernel
theorem dX6_crowded_95 : decode cX6_crowded 95 = .ok (.iconst 2, 1) := by decide +kernel
theorem dX6_crowded_96 : decode cX6_crowded 96 = .ok (.iaload, 1) := by decide +kernel
theorem dX6_crowded_97 : decode cX6_crowded 97 = .ok (.iadd, 1) := by decide +kernel
theorem dX6_crowded_98 : decode cX6_crowded 98 = .ok (.ifCond .le 7, 3) := by decide +kernel
theorem dX6_crowded_101 : decode cX6_crowded 101 = .ok (.iconst 1, 1) := by decide +kernel
theorem dX6_crowded_102 : decode cX6_crowded 102 = .ok (.goto 4, 3) := by decide +kernel
theorem dX6_crowded_105 : decode cX6_crowded 105 = .ok (.iconst 0, 1) := by decide +kernel
theorem dX6_crowded_106 : decode cX6_crowded 106 = .ok (.iadd, 1) := by decide +kernel
theorem dX6_crowded_107 : decode cX6_crowded 107 = .ok (.istore_n 3, 1) := by decide +kernel
theorem dX6_crowded_108 : decode cX6_crowded 108 = .ok (.iinc 4 1, 3) := by decide +kernel
theorem dX6_crowded_111 : decode cX6_crowded 111 = .ok (.goto (-84), 3) := by decide +kernel
theorem dX6_crowded_114 : decode cX6_crowded 114 = .ok (.aload_n 0, 1) := by decide +kernel
theorem dX6_crowded_115 : decode cX6_crowded 115 = .ok (.iload_n 2, 1) := by decide +kernel
theorem dX6_crowded_116 : decode cX6_crowded 116 = .ok (.ifCond .ne 7, 3) := by decide +kernel
theorem dX6_crowded_119 : decode cX6_crowded 119 = .ok (.iconst 1, 1) := by decide +kernel
theorem dX6_crowded_120 : decode cX6_crowded 120 = .ok (.goto 4, 3) := by decide +kernel
theorem dX6_crowded_123 : decode cX6_crowded 123 = .ok (.iconst 0, 1) := by decide +kernel
theorem dX6_crowded_124 : decode cX6_crowded 124 = .ok (.putfield 69, 3) := by decide +kernel
theorem dX6_crowded_127 : decode cX6_crowded 127 = .ok (.aload_n 0, 1) := by decide +kernel
theorem dX6_crowded_128 : decode cX6_crowded 128 = .ok (.getfield 69, 3) := by decide +kernel
theorem dX6_crowded_131 : decode cX6_crowded 131 = .ok (.ifCond .le 7, 3) := by decide +kernel
theorem dX6_crowded_134 : decode cX6_crowded 134 = .ok (.iconst 0, 1) := by decide +kernel
theorem dX6_crowded_135 : decode cX6_crowded 135 = .ok (.goto 10, 3) := by decide +kernel
theorem dX6_crowded_138 : decode cX6_crowded 138 = .ok (.sipush 1000, 3) := by decide +kernel
theorem dX6_crowded_141 : decode cX6_crowded 141 = .ok (.iload_n 3, 1) := by decide +kernel
theorem dX6_crowded_142 : decode cX6_crowded 142 = .ok (.imul, 1) := by decide +kernel
theorem dX6_crowded_143 : decode cX6_crowded 143 = .ok (.iload_n 2, 1) := by decide +kernel
theorem dX6_crowded_144 : decode cX6_crowded 144 = .ok (.idiv, 1) := by decide +kernel
theorem dX6_crowded_145 : decode cX6_crowded 145 = .ok (.ireturn, 1) := by decide +kernel
set_option maxRecDepth 20000 in
theorem ggX6_about_X6_isHidden : GoodIn wsX6_about wsX6_isHidden := goodIn_r _ [8, 9, 2, 10, 11, 12, 13, 14, 15, 16, 17, 18, 19, 20, 21, 22, 23, 24, 25, 26, 27, 28, 29, 30, 31, 32, 33] rfl (by decide +kernel)
set_option maxRecDepth 20000 in
theorem gX6_about_X6_isHidden : GoodIn wsX6_about (wsV RX6 155 RX6 yX6_isHidden wsX6_isHidden) := goodIn_app (goodIn_r _ [4, 5, 6, 7] rfl (by decide +kernel)) ggX6_about_X6_isHidden
theorem dX6_about_0 : decode cX6_about 0 = .ok (.aload_n 0, 1) := by decide +kernel
theorem dX6_about_1 : decode cX6_about 1 = .ok (.iconst 0, 1) := by decide +kernel
theorem dX6_about_2 : decode cX6_about 2 = .ok (.putfield 69, 3) := by decide +kernel
theorem dX6_about_5 : decode cX6_about 5 = .ok (.iconst 0, 1) := by decide +kernel
theorem dX6_about_6 : decode cX6_about 6 = .ok (.istore_n 2, 1) := by decide +kernel
theorem dX6_about_7 : decode cX6_about 7 = .ok (.iconst 0, 1) := by decide +kernel
theorem dX6_about_8 : decode cX6_about 8 = .ok (.istore_n 3, 1) := by decide +kernel
theorem dX6_about_9 : decode cX6_about 9 = .ok (.iload_n 3, 1) := by decide +kernel
theorem dX6_about_10 : decode cX6_about 10 = .ok (.iconst 4, 1) := by decide +kernel
theorem dX6_about_11 : decode cX6_about 11 = .ok (.if_icmp .ge 25, 3) := by decide +kernel
theorem dX6_about_14 : decode cX6_about 14 = .ok (.iload_n 2, 1) := by decide +kernel
theorem dX6_about_15 : decode cX6_about 15 = .ok (.aload_n 0, 1) := by decide +kernel
theorem dX6_about_16 : decode cX6_about 16 = .ok (.iload_n 3, 1) := by decide +kernel
theorem dX6_about_17 : decode cX6_about 17 = .ok (.invokevirtual 155, 3) := by decide +kernel
theorem dX6_about_20 : decode cX6_about 20 = .ok (.ifCond .eq 7, 3) := by decide +kernel
theorem dX6_about_23 : decode cX6_about 23 = .ok (.iconst 0, 1) := by decide +kernel
theorem dX6_about_24 : decode cX6_about 24 = .ok (.goto 4, 3) := by decide +kernel
theorem dX6_about_27 : decode cX6_about 27 = .ok (.iconst 1, 1) := by decide +kernel
theorem dX6_about_28 : decode cX6_about 28 = .ok (.iadd, 1) := by decide +kernel
theorem dX6_about_29 : decode cX6_about 29 = .ok (.istore_n 2, 1) := by decide +kernel
theorem dX6_about_30 : decode cX6_about 30 = .ok (.iinc 3 1, 3) := by decide +kernel
theorem dX6_about_33 : decode cX6_about 33 = .ok (.goto (-24), 3) := by decide +kernel
theorem dX6_about_36 : decode cX6_about 36 = .ok (.iload_n 1, 1) := by decide +kernel
theorem dX6_about_37 : decode cX6_about 37 = .ok (.ifCond .ne 10, 3) := by decide +kernel
theorem dX6_about_40 : decode cX6_about 40 = .ok (.aload_n 0, 1) := by decide +kernel
theorem dX6_about_41 : decode cX6_about 41 = .ok (.getfield 76, 3) := by decide +kernel
theorem dX6_about_44 : decode cX6_about 44 = .ok (.goto 27, 3) := by decide +kernel
theorem dX6_about_47 : decode cX6_about 47 = .ok (.iload_n 1, 1) := by decide +kernel
theorem dX6_about_48 : decode cX6_about 48 = .ok (.iconst 1, 1) := by decide +kernel
theorem dX6_about_49 : decode cX6_about 49 = .ok (.if_icmp .ne 10, 3) := by decide +kernel
theorem dX6_about_52 : decode cX6_about 52 = .ok (.aload_n 0, 1) := by decide +kernel
theorem dX6_about_53 : decode cX6_about 53 = .ok (.getfield 83, 3) := by decide +kernel
theorem dX6_about_56 : decode cX6_about 56 = .ok (.goto 15, 3) := by decide +kernel
theorem dX6_about_59 : decode cX6_about 59 = .ok (.iload_n 1, 1) := by decide +kernel
theorem dX6_about_60 : decode cX6_about 60 = .ok (.iconst 2, 1) := by decide +kernel
theorem dX6_about_61 : decode cX6_about 61 = .ok (.if_icmp .ne 7, 3) := by decide +kernel
theorem dX6_about_64 : decode cX6_about 64 = .ok (.iload_n 2, 1) := by decide +kernel
theorem dX6_about_65 : decode cX6_about 65 = .ok (.goto 6, 3) := by decide +kernel
theorem dX6_about_68 : decode cX6_about 68 = .ok (.sipush (-1002), 3) := by decide +kernel
theorem dX6_about_71 : decode cX6_about 71 = .ok (.ireturn, 1) := by decide +kernel
theorem dJ9_abs_0f7a4_0 : decode cJ9_abs_0f7a4 0 = .ok (.iload_n 0, 1) := by decide +kernel
theorem dJ9_abs_0f7a4_1 : decode cJ9_abs_0f7a4 1 = .ok (.ifCond .ge 8, 3) := by decide +kernel
theorem dJ9_abs_0f7a4_4 : decode cJ9_abs_0f7a4 4 = .ok (.iload_n 0, 1) := by decide +kernel
theorem dJ9_abs_0f7a4_5 : decode cJ9_abs_0f7a4 5 = .ok (.ineg, 1) := by decide +kernel
theorem dJ9_abs_0f7a4_6 : decode cJ9_abs_0f7a4 6 = .ok (.goto 4, 3) := by decide +kernel
theorem dJ9_abs_0f7a4_9 : decode cJ9_abs_0f7a4 9 = .ok (.iload_n 0, 1) := by decide +kernel
theorem dJ9_abs_0f7a4_10 : decode cJ9_abs_0f7a4 10 = .ok (.ireturn, 1) := by decide +kernel
theorem dJ9_max_7cf53_0 : decode cJ9_max_7cf53 0 = .ok (.iload_n 0, 1) := by decide +kernel
theorem dJ9_max_7cf53_1 : decode cJ9_max_7cf53 1 = .ok (.iload_n 1, 1) := by decide +kernel
theorem dJ9_max_7cf53_2 : decode cJ9_max_7cf53 2 = .ok (.if_icmp .lt 7, 3) := by decide +kernel
theorem dJ9_max_7cf53_5 : decode cJ9_max_7cf53 5 = .ok (.iload_n 0, 1) := by decide +kernel
theorem dJ9_max_7cf53_6 : decode cJ9_max_7cf53 6 = .ok (.goto 4, 3) := by decide +kernel
theorem dJ9_max_7cf53_9 : decode cJ9_max_7cf53 9 = .ok (.iload_n 1, 1) := by decide +kernel
theorem dJ9_max_7cf53_10 : decode cJ9_max_7cf53 10 = .ok (.ireturn, 1) := by decide +kernel
theorem dJ9_min_7cf53_0 : decode cJ9_min_7cf53 0 = .ok (.iload_n 0, 1) := by decide +kernel
theorem dJ9_min_7cf53_1 : decode cJ9_min_7cf53 1 = .ok (.iload_n 1, 1) := by decide +kernel
theorem dJ9_min_7cf53_2 : decode cJ9_min_7cf53 2 = .ok (.if_icmp .gt 7, 3) := by decide +kernel
theorem dJ9_min_7cf53_5 : decode cJ9_min_7cf53 5 = .ok (.iload_n 0, 1) := by decide +kernel
theorem dJ9_min_7cf53_6 : decode cJ9_min_7cf53 6 = .ok (.goto 4, 3) := by decide +kernel
theorem dJ9_min_7cf53_9 : decode cJ9_min_7cf53 9 = .ok (.iload_n 1, 1) := by decide +kernel
theorem dJ9_min_7cf53_10 : decode cJ9_min_7cf53 10 = .ok (.ireturn, 1) := by decide +kernel
theorem dJ7_fill_53178_0 : decode cJ7_fill_53178 0 = .ok (.iconst 0, 1) := by decide +kernel
theorem dJ7_fill_53178_1 : decode cJ7_fill_53178 1 = .ok (.istore_n 2, 1) := by decide +kernel
theorem dJ7_fill_53178_2 : decode cJ7_fill_53178 2 = .ok (.aload_n 0, 1) := by decide +kernel
theorem dJ7_fill_53178_3 : decode cJ7_fill_53178 3 = .ok (.arraylength, 1) := by decide +kernel
theorem dJ7_fill_53178_4 : decode cJ7_fill_53178 4 = .ok (.istore_n 3, 1) := by decide +kernel
theorem dJ7_fill_53178_5 : decode cJ7_fill_53178 5 = .ok (.iload_n 2, 1) := by decide +kernel
theorem dJ7_fill_53178_6 : decode cJ7_fill_53178 6 = .ok (.iload_n 3, 1) := by decide +kernel
theorem dJ7_fill_53178_7 : decode cJ7_fill_53178 7 = .ok (.if_icmp .ge 13, 3) := by decide +kernel
theorem dJ7_fill_53178_10 : decode cJ7_fill_53178 10 = .ok (.aload_n 0, 1) := by decide +kernel
theorem dJ7_fill_53178_11 : decode cJ7_fill_53178 11 = .ok (.iload_n 2, 1) := by decide +kernel
theorem dJ7_fill_53178_12 : decode cJ7_fill_53178 12 = .ok (.iload_n 1, 1) := by decide +kernel
theorem dJ7_fill_53178_13 : decode cJ7_fill_53178 13 = .ok (.iastore, 1) := by decide +kernel
theorem dJ7_fill_53178_14 : decode cJ7_fill_53178 14 = .ok (.iinc 2 1, 3) := by decide +kernel
theorem dJ7_fill_53178_17 : decode cJ7_fill_53178 17 = .ok (.goto (-12), 3) := by decide +kernel
theorem dJ7_fill_53178_20 : decode cJ7_fill_53178 20 = .ok (.return_, 1) := by decide +kernel
theorem dL_cell_0 : decode cL_cell 0 = .ok (.iload_n 1, 1) := by decide +kernel
theorem dL_cell_1 : decode cL_cell 1 = .ok (.aload_n 0, 1) := by decide +kernel
theorem dL_cell_2 : decode cL_cell 2 = .ok (.arraylength, 1) := by decide +kernel
theorem dL_cell_3 : decode cL_cell 3 = .ok (.if_icmp .ge 9, 3) := by decide +kernel
theorem dL_cell_6 : decode cL_cell 6 = .ok (.aload_n 0, 1) := by decide +kernel
theorem dL_cell_7 : decode cL_cell 7 = .ok (.iload_n 1, 1) := by decide +kernel
theorem dL_cell_8 : decode cL_cell 8 = .ok (.iaload, 1) := by decide +kernel
theorem dL_cell_9 : decode cL_cell 9 = .ok (.goto 4, 3) := by decide +kernel
theorem dL_cell_12 : decode cL_cell 12 = .ok (.iconst 0, 1) := by decide +kernel
theorem dL_cell_13 : decode cL_cell 13 = .ok (.ireturn, 1) := by decide +kernel
theorem dL_crowded_0 : decode cL_crowded 0 = .ok (.aload_n 2, 1) := by decide +kernel
theorem dL_crowded_1 : decode cL_crowded 1 = .ok (.iconst 0, 1) := by decide +kernel
theorem dL_crowded_2 : decode cL_crowded 2 = .ok (.aload_n 0, 1) := by decide +kernel
theorem dL_crowded_3 : decode cL_crowded 3 = .ok (.iload_n 1, 1) := by decide +kernel
theorem dL_crowded_4 : decode cL_crowded 4 = .ok (.invokevirtual 7, 3) := by decide +kernel
theorem dL_crowded_7 : decode cL_crowded 7 = .ok (.i2l, 1) := by decide +kernel
theorem dL_crowded_8 : decode cL_crowded 8 = .ok (.lastore, 1) := by decide +kernel
theorem dL_crowded_9 : decode cL_crowded 9 = .ok (.goto 6, 3) := by decide +kernel
theorem dL_crowded_12 : decode cL_crowded 12 = .ok (.astore_n 3, 1) := by decide +kernel
theorem dL_crowded_13 : decode cL_crowded 13 = .ok (.iconst 1, 1) := by decide +kernel
theorem dL_crowded_14 : decode cL_crowded 14 = .ok (.ireturn, 1) := by decide +kernel
theorem dL_crowded_15 : decode cL_crowded 15 = .ok (.iconst 0, 1) := by decide +kernel
theorem dL_crowded_16 : decode cL_crowded 16 = .ok (.ireturn, 1) := by decide +kernel
