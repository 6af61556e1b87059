theorem dX10_init_0 : decode cX10_init 0 = .ok (.aload_n 0, 1) := by decide +kernel
theorem dX10_init_1 : decode cX10_init 1 = .ok (.invokespecial 1, 3) := by decide +kernel
theorem dX10_init_4 : decode cX10_init 4 = .ok (.aload_n 0, 1) := by decide +kernel
theorem dX10_init_5 : decode cX10_init 5 = .ok (.iconst 4, 1) := by decide +kernel
theorem dX10_init_6 : decode cX10_init 6 = .ok (.putfield 7, 3) := by decide +kernel
theorem dX10_init_9 : decode cX10_init 9 = .ok (.aload_n 0, 1) := by decide +kernel
theorem dX10_init_10 : decode cX10_init 10 = .ok (.bipush 8, 2) := by decide +kernel
theorem dX10_init_12 : decode cX10_init 12 = .ok (.newarray .int, 2) := by decide +kernel
theorem dX10_init_14 : decode cX10_init 14 = .ok (.putfield 13, 3) := by decide +kernel
theorem dX10_init_17 : decode cX10_init 17 = .ok (.aload_n 0, 1) := by decide +kernel
theorem dX10_init_18 : decode cX10_init 18 = .ok (.bipush 8, 2) := by decide +kernel
theorem dX10_init_20 : decode cX10_init 20 = .ok (.newarray .int, 2) := by decide +kernel
theorem dX10_init_22 : decode cX10_init 22 = .ok (.putfield 17, 3) := by decide +kernel
theorem dX10_init_25 : decode cX10_init 25 = .ok (.aload_n 0, 1) := by decide +kernel
theorem dX10_init_26 : decode cX10_init 26 = .ok (.bipush 8, 2) := by decide +kernel
theorem dX10_init_28 : decode cX10_init 28 = .ok (.newarray .int, 2) := by decide +kernel
theorem dX10_init_30 : decode cX10_init 30 = .ok (.putfield 20, 3) := by decide +kernel
theorem dX10_init_33 : decode cX10_init 33 = .ok (.aload_n 0, 1) := by decide +kernel
theorem dX10_init_34 : decode cX10_init 34 = .ok (.bipush 8, 2) := by decide +kernel
theorem dX10_init_36 : decode cX10_init 36 = .ok (.newarray .int, 2) := by decide +kernel
theorem dX10_init_38 : decode cX10_init 38 = .ok (.putfield 23, 3) := by decide +kernel
theorem dX10_init_41 : decode cX10_init 41 = .ok (.aload_n 0, 1) := by decide +kernel
theorem dX10_init_42 : decode cX10_init 42 = .ok (.bipush 8, 2) := by decide +kernel
theorem dX10_init_44 : decode cX10_init 44 = .ok (.newarray .int, 2) := by decide +kernel
theorem dX10_init_46 : decode cX10_init 46 = .ok (.putfield 26, 3) := by decide +kernel
theorem dX10_init_49 : decode cX10_init 49 = .ok (.aload_n 0, 1) := by decide +kernel
theorem dX10_init_50 : decode cX10_init 50 = .ok (.bipush 64, 2) := by decide +kernel
theorem dX10_init_52 : decode cX10_init 52 = .ok (.newarray .int, 2) := by decide +kernel
theorem dX10_init_54 : decode cX10_init 54 = .ok (.putfield 29, 3) := by decide +kernel
theorem dX10_init_57 : decode cX10_init 57 = .ok (.aload_n 0, 1) := by decide +kernel
theorem dX10_init_58 : decode cX10_init 58 = .ok (.bipush 64, 2) := by decide +kernel
theorem dX10_init_60 : decode cX10_init 60 = .ok (.newarray .int, 2) := by decide +kernel
theorem dX10_init_62 : decode cX10_init 62 = .ok (.putfield 32, 3) := by decide +kernel
theorem dX10_init_65 : decode cX10_init 65 = .ok (.aload_n 0, 1) := by decide +kernel
theorem dX10_init_66 : decode cX10_init 66 = .ok (.bipush 64, 2) := by decide +kernel
theorem dX10_init_68 : decode cX10_init 68 = .ok (.newarray .int, 2) := by decide +kernel
theorem dX10_init_70 : decode cX10_init 70 = .ok (.putfield 35, 3) := by decide +kernel
theorem dX10_init_73 : decode cX10_init 73 = .ok (.aload_n 0, 1) := by decide +kernel
theorem dX10_init_74 : decode cX10_init 74 = .ok (.bipush 72, 2) := by decide +kernel
theorem dX10_init_76 : decode cX10_init 76 = .ok (.newarray .int, 2) := by decide +kernel
theorem dX10_init_78 : decode cX10_init 78 = .ok (.putfield 38, 3) := by decide +kernel
theorem dX10_init_81 : decode cX10_init 81 = .ok (.aload_n 0, 1) := by decide +kernel
theorem dX10_init_82 : decode cX10_init 82 = .ok (.iconst 3, 1) := by decide +kernel
theorem dX10_init_83 : decode cX10_init 83 = .ok (.newarray .int, 2) := by decide +kernel
theorem dX10_init_85 : decode cX10_init 85 = .ok (.dup, 1) := by decide +kernel
theorem dX10_init_86 : decode cX10_init 86 = .ok (.iconst 0, 1) := by decide +kernel
theorem dX10_init_87 : decode cX10_init 87 = .ok (.iconst (-1), 1) := by decide +kernel
theorem dX10_init_88 : decode cX10_init 88 = .ok (.iastore, 1) := by decide +kernel
theorem dX10_init_89 : decode cX10_init 89 = .ok (.dup, 1) := by decide +kernel
theorem dX10_init_90 : decode cX10_init 90 = .ok (.iconst 1, 1) := by decide +kernel
theorem dX10_init_91 : decode cX10_init 91 = .ok (.iconst (-1), 1) := by decide +kernel
theorem dX10_init_92 : decode cX10_init 92 = .ok (.iastore, 1) := by decide +kernel
theorem dX10_init_93 : decode cX10_init 93 = .ok (.dup, 1) := by decide +kernel
theorem dX10_init_94 : decode cX10_init 94 = .ok (.iconst 2, 1) := by decide +kernel
theorem dX10_init_95 : decode cX10_init 95 = .ok (.iconst (-1), 1) := by decide +kernel
theorem dX10_init_96 : decode cX10_init 96 = .ok (.iastore, 1) := by decide +kernel
theorem dX10_init_97 : decode cX10_init 97 = .ok (.putfield 41, 3) := by decide +kernel
theorem dX10_init_100 : decode cX10_init 100 = .ok (.aload_n 0, 1) := by decide +kernel
theorem dX10_init_101 : decode cX10_init 101 = .ok (.bipush 120, 2) := by decide +kernel
theorem dX10_init_103 : decode cX10_init 103 = .ok (.newarray .int, 2) := by decide +kernel
theorem dX10_init_105 : decode cX10_init 105 = .ok (.putfield 44, 3) := by decide +kernel
theorem dX10_init_108 : decode cX10_init 108 = .ok (.aload_n 0, 1) := by decide +kernel
theorem dX10_init_109 : decode cX10_init 109 = .ok (.bipush 7, 2) := by decide +kernel
theorem dX10_init_111 : decode cX10_init 111 = .ok (.newarray .int, 2) := by decide +kernel
theorem dX10_init_113 : decode cX10_init 113 = .ok (.putfield 47, 3) := by decide +kernel
theorem dX10_init_116 : decode cX10_init 116 = .ok (.aload_n 0, 1) := by decide +kernel
theorem dX10_init_117 : decode cX10_init 117 = .ok (.bipush 8, 2) := by decide +kernel
theorem dX10_init_119 : decode cX10_init 119 = .ok (.newarray .int, 2) := by decide +kernel
theorem dX10_init_121 : decode cX10_init 121 = .ok (.putfield 50, 3) := by decide +kernel
theorem dX10_init_124 : decode cX10_init 124 = .ok (.aload_n 0, 1) := by decide +kernel
theorem dX10_init_125 : decode cX10_init 125 = .ok (.bipush 7, 2) := by decide +kernel
theorem dX10_init_127 : decode cX10_init 127 = .ok (.newarray .int, 2) := by decide +kernel
theorem dX10_init_129 : decode cX10_init 129 = .ok (.putfield 53, 3) := by decide +kernel
theorem dX10_init_132 : decode cX10_init 132 = .ok (.aload_n 0, 1) := by decide +kernel
theorem dX10_init_133 : decode cX10_init 133 = .ok (.bipush 56, 2) := by decide +kernel
theorem dX10_init_135 : decode cX10_init 135 = .ok (.newarray .int, 2) := by decide +kernel
theorem dX10_init_137 : decode cX10_init 137 = .ok (.putfield 56, 3) := by decide +kernel
theorem dX10_init_140 : decode cX10_init 140 = .ok (.aload_n 0, 1) := by decide +kernel
theorem dX10_init_141 : decode cX10_init 141 = .ok (.bipush 7, 2) := by decide +kernel
theorem dX10_init_143 : decode cX10_init 143 = .ok (.newarray .int, 2) := by decide +kernel
theorem dX10_init_145 : decode cX10_init 145 = .ok (.putfield 59, 3) := by decide +kernel
theorem dX10_init_148 : decode cX10_init 148 = .ok (.aload_n 0, 1) := by decide +kernel
theorem dX10_init_149 : decode cX10_init 149 = .ok (.bipush 56, 2) := by decide +kernel
theorem dX10_init_151 : decode cX10_init 151 = .ok (.newarray .long, 2) := by decide +kernel
theorem dX10_init_153 : decode cX10_init 153 = .ok (.putfield 62, 3) := by decide +kernel
theorem dX10_init_156 : decode cX10_init 156 = .ok (.aload_n 0, 1) := by decide +kernel
theorem dX10_init_157 : decode cX10_init 157 = .ok (.bipush 120, 2) := by decide +kernel
theorem dX10_init_159 : decode cX10_init 159 = .ok (.newarray .int, 2) := by decide +kernel
theorem dX10_init_161 : decode cX10_init 161 = .ok (.putfield 66, 3) := by decide +kernel
theorem dX10_init_164 : decode cX10_init 164 = .ok (.aload_n 0, 1) := by decide +kernel
theorem dX10_init_165 : decode cX10_init 165 = .ok (.bipush 7, 2) := by decide +kernel
theorem dX10_init_167 : decode cX10_init 167 = .ok (.newarray .int, 2) := by decide +kernel
theorem dX10_init_169 : decode cX10_init 169 = .ok (.putfield 69, 3) := by decide +kernel
theorem dX10_init_172 : decode cX10_init 172 = .ok (.aload_n 0, 1) := by decide +kernel
theorem dX10_init_173 : decode cX10_init 173 = .ok (.bipush 42, 2) := by decide +kernel
theorem dX10_init_175 : decode cX10_init 175 = .ok (.newarray .int, 2) := by decide +kernel
theorem dX10_init_177 : decode cX10_init 177 = .ok (.putfield 72, 3) := by decide +kernel
theorem dX10_init_180 : decode cX10_init 180 = .ok (.aload_n 0, 1) := by decide +kernel
theorem dX10_init_181 : decode cX10_init 181 = .ok (.bipush 42, 2) := by decide +kernel
theorem dX10_init_183 : decode cX10_init 183 = .ok (.newarray .int, 2) := by decide +kernel
theorem dX10_init_185 : decode cX10_init 185 = .ok (.putfield 75, 3) := by decide +kernel
theorem dX10_init_188 : decode cX10_init 188 = .ok (.return_, 1) := by decide +kernel
theorem dX10_in_0 : decode cX10_in 0 = .ok (.iload_n 0, 1) := by decide +kernel
theorem dX10_in_1 : decode cX10_in 1 = .ok (.iload_n 1, 1) := by decide +kernel
theorem dX10_in_2 : decode cX10_in 2 = .ok (.if_icmp .lt 12, 3) := by decide +kernel
theorem dX10_in_5 : decode cX10_in 5 = .ok (.iload_n 0, 1) := by decide +kernel
theorem dX10_in_6 : decode cX10_in 6 = .ok (.iload_n 2, 1) := by decide +kernel
theorem dX10_in_7 : decode cX10_in 7 = .ok (.if_icmp .gt 7, 3) := by decide +kernel
theorem dX10_in_10 : decode cX10_in 10 = .ok (.iconst 1, 1) := by decide +kernel
theorem dX10_in_11 : decode cX10_in 11 = .ok (.goto 4, 3) := by decide +kernel
theorem dX10_in_14 : decode cX10_in 14 = .ok (.iconst 0, 1) := by decide +kernel
theorem dX10_in_15 : decode cX10_in 15 = .ok (.ireturn, 1) := by decide +kernel
theorem dX10_isPoint_0 : decode cX10_isPoint 0 = .ok (.iload_n 1, 1) := by decide +kernel
theorem dX10_isPoint_1 : decode cX10_isPoint 1 = .ok (.iconst 0, 1) := by decide +kernel
theorem dX10_isPoint_2 : decode cX10_isPoint 2 = .ok (.aload_n 0, 1) := by decide +kernel
theorem dX10_isPoint_3 : decode cX10_isPoint 3 = .ok (.getfield 7, 3) := by decide +kernel
theorem dX10_isPoint_6 : decode cX10_isPoint 6 = .ok (.iconst 1, 1) := by decide +kernel
theorem dX10_isPoint_7 : decode cX10_isPoint 7 = .ok (.isub, 1) := by decide +kernel
theorem dX10_isPoint_8 : decode cX10_isPoint 8 = .ok (.invokestatic 78, 3) := by decide +kernel
theorem dX10_isPoint_11 : decode cX10_isPoint 11 = .ok (.ireturn, 1) := by decide +kernel
theorem dX10_isLine_0 : decode cX10_isLine 0 = .ok (.iload_n 1, 1) := by decide +kernel
theorem dX10_isLine_1 : decode cX10_isLine 1 = .ok (.iconst 0, 1) := by decide +kernel
theorem dX10_isLine_2 : decode cX10_isLine 2 = .ok (.aload_n 0, 1) := by decide +kernel
theorem dX10_isLine_3 : decode cX10_isLine 3 = .ok (.getfield 82, 3) := by decide +kernel
theorem dX10_isLine_6 : decode cX10_isLine 6 = .ok (.iconst 1, 1) := by decide +kernel
theorem dX10_isLine_7 : decode cX10_isLine 7 = .ok (.isub, 1) := by decide +kernel
theorem dX10_isLine_8 : decode cX10_isLine 8 = .ok (.invokestatic 78, 3) := by decide +kernel
theorem dX10_isLine_11 : decode cX10_isLine 11 = .ok (.ireturn, 1) := by decide +kernel
theorem dX10_refused_0 : decode cX10_refused 0 = .ok (.aload_n 0, 1) := by decide +kernel
theorem dX10_refused_1 : decode cX10_refused 1 = .ok (.getfield 47, 3) := by decide +kernel
theorem dX10_refused_4 : decode cX10_refused 4 = .ok (.iload_n 1, 1) := by decide +kernel
theorem dX10_refused_5 : decode cX10_refused 5 = .ok (.ineg, 1) := by decide +kernel
theorem dX10_refused_6 : decode cX10_refused 6 = .ok (.dup2, 1) := by decide +kernel
theorem dX10_refused_7 : decode cX10_refused 7 = .ok (.iaload, 1) := by decide +kernel
theorem dX10_refused_8 : decode cX10_refused 8 = .ok (.iconst 1, 1) := by decide +kernel
theorem dX10_refused_9 : decode cX10_refused 9 = .ok (.iadd, 1) := by decide +kernel
theorem dX10_refused_10 : decode cX10_refused 10 = .ok (.iastore, 1) := by decide +kernel
theorem dX10_refused_11 : decode cX10_refused 11 = .ok (.iload_n 1, 1) := by decide +kernel
theorem dX10_refused_12 : decode cX10_refused 12 = .ok (.ireturn, 1) := by decide +kernel
theorem dX10_farther_0 : decode cX10_farther 0 = .ok (.ldc2_w 85, 3) := by decide +kernel
theorem dX10_farther_3 : decode cX10_farther 3 = .ok (.aload_n 0, 1) := by decide +kernel
theorem dX10_farther_4 : decode cX10_farther 4 = .ok (.iload_n 1, 1) := by decide +kernel
theorem dX10_farther_5 : decode cX10_farther 5 = .ok (.invokevirtual 87, 3) := by decide +kernel
theorem dX10_farther_8 : decode cX10_farther 8 = .ok (.i2l, 1) := by decide +kernel
theorem dX10_farther_9 : decode cX10_farther 9 = .ok (.lsub, 1) := by decide +kernel
theorem dX10_farther_10 : decode cX10_farther 10 = .ok (.lreturn, 1) := by decide +kernel
theorem dX10_letter_0 : decode cX10_letter 0 = .ok (.iload_n 1, 1) := by decide +kernel
theorem dX10_letter_1 : decode cX10_letter 1 = .ok (.ifCond .ge 10, 3) := by decide +kernel
theorem dX10_letter_4 : decode cX10_letter 4 = .ok (.aload_n 0, 1) := by decide +kernel
theorem dX10_letter_5 : decode cX10_letter 5 = .ok (.bipush (-4), 2) := by decide +kernel
theorem dX10_letter_7 : decode cX10_letter 7 = .ok (.invokevirtual 87, 3) := by decide +kernel
theorem dX10_letter_10 : decode cX10_letter 10 = .ok (.ireturn, 1) := by decide +kernel
theorem dX10_letter_11 : decode cX10_letter 11 = .ok (.iload_n 1, 1) := by decide +kernel
theorem dX10_letter_12 : decode cX10_letter 12 = .ok (.sipush 255, 3) := by decide +kernel
theorem dX10_letter_15 : decode cX10_letter 15 = .ok (.if_icmp .gt 12, 3) := by decide +kernel
theorem dX10_letter_18 : decode cX10_letter 18 = .ok (.aload_n 0, 1) := by decide +kernel
theorem dX10_letter_19 : decode cX10_letter 19 = .ok (.getfield 91, 3) := by decide +kernel
theorem dX10_letter_22 : decode cX10_letter 22 = .ok (.bipush 72, 2) := by decide +kernel
theorem dX10_letter_24 : decode cX10_letter 24 = .ok (.if_icmp .ne 10, 3) := by decide +kernel
theorem dX10_letter_27 : decode cX10_letter 27 = .ok (.aload_n 0, 1) := by decide +kernel
theorem dX10_letter_28 : decode cX10_letter 28 = .ok (.bipush (-6), 2) := by decide +kernel
theorem dX10_letter_30 : decode cX10_letter 30 = .ok (.invokevirtual 87, 3) := by decide +kernel
theorem dX10_letter_33 : decode cX10_letter 33 = .ok (.ireturn, 1) := by decide +kernel
theorem dX10_letter_34 : decode cX10_letter 34 = .ok (.aload_n 0, 1) := by decide +kernel
theorem dX10_letter_35 : decode cX10_letter 35 = .ok (.getfield 38, 3) := by decide +kernel
theorem dX10_letter_38 : decode cX10_letter 38 = .ok (.aload_n 0, 1) := by decide +kernel
theorem dX10_letter_39 : decode cX10_letter 39 = .ok (.getfield 91, 3) := by decide +kernel
theorem dX10_letter_42 : decode cX10_letter 42 = .ok (.iload_n 1, 1) := by decide +kernel
theorem dX10_letter_43 : decode cX10_letter 43 = .ok (.iastore, 1) := by decide +kernel
theorem dX10_letter_44 : decode cX10_letter 44 = .ok (.aload_n 0, 1) := by decide +kernel
theorem dX10_letter_45 : decode cX10_letter 45 = .ok (.dup, 1) := by decide +kernel
theorem dX10_letter_46 : decode cX10_letter 46 = .ok (.getfield 91, 3) := by decide +kernel
theorem dX10_letter_49 : decode cX10_letter 49 = .ok (.iconst 1, 1) := by decide +kernel
theorem dX10_letter_50 : decode cX10_letter 50 = .ok (.iadd, 1) := by decide +kernel
theorem dX10_letter_51 : decode cX10_letter 51 = .ok (.putfield 91, 3) := by decide +kernel
theorem dX10_letter_54 : decode cX10_letter 54 = .ok (.aload_n 0, 1) := by decide +kernel
theorem dX10_letter_55 : decode cX10_letter 55 = .ok (.getfield 91, 3) := by decide +kernel
theorem dX10_letter_58 : decode cX10_letter 58 = .ok (.ireturn, 1) := by decide +kernel
theorem dX10_figuresOf_0 : decode cX10_figuresOf 0 = .ok (.iload_n 0, 1) := by decide +kernel
theorem dX10_figuresOf_1 : decode cX10_figuresOf 1 = .ok (.bipush 110, 2) := by decide +kernel
theorem dX10_figuresOf_3 : decode cX10_figuresOf 3 = .ok (.if_icmp .ne 7, 3) := by decide +kernel
theorem dX10_figuresOf_6 : decode cX10_figuresOf 6 = .ok (.iconst 1, 1) := by decide +kernel
theorem dX10_figuresOf_7 : decode cX10_figuresOf 7 = .ok (.goto 14, 3) := by decide +kernel
theorem dX10_figuresOf_10 : decode cX10_figuresOf 10 = .ok (.iload_n 0, 1) := by decide +kernel
theorem dX10_figuresOf_11 : decode cX10_figuresOf 11 = .ok (.bipush 102, 2) := by decide +kernel
theorem dX10_figuresOf_13 : decode cX10_figuresOf 13 = .ok (.if_icmp .ne 7, 3) := by decide +kernel
theorem dX10_figuresOf_16 : decode cX10_figuresOf 16 = .ok (.iconst 2, 1) := by decide +kernel
theorem dX10_figuresOf_17 : decode cX10_figuresOf 17 = .ok (.goto 4, 3) := by decide +kernel
theorem dX10_figuresOf_20 : decode cX10_figuresOf 20 = .ok (.iconst 3, 1) := by decide +kernel
theorem dX10_figuresOf_21 : decode cX10_figuresOf 21 = .ok (.ireturn, 1) := by decide +kernel
theorem dX10_digitAt_0 : decode cX10_digitAt 0 = .ok (.aload_n 0, 1) := by decide +kernel
theorem dX10_digitAt_1 : decode cX10_digitAt 1 = .ok (.getfield 38, 3) := by decide +kernel
theorem dX10_digitAt_4 : decode cX10_digitAt 4 = .ok (.iload_n 1, 1) := by decide +kernel
theorem dX10_digitAt_5 : decode cX10_digitAt 5 = .ok (.iaload, 1) := by decide +kernel
theorem dX10_digitAt_6 : decode cX10_digitAt 6 = .ok (.bipush 48, 2) := by decide +kernel
theorem dX10_digitAt_8 : decode cX10_digitAt 8 = .ok (.isub, 1) := by decide +kernel
theorem dX10_digitAt_9 : decode cX10_digitAt 9 = .ok (.ireturn, 1) := by decide +kernel
theorem dX10_formFault_0 : decode cX10_formFault 0 = .ok (.iconst 0, 1) := by decide +kernel
theorem dX10_formFault_1 : decode cX10_formFault 1 = .ok (.istore_n 1, 1) := by decide +kernel
theorem dX10_formFault_2 : decode cX10_formFault 2 = .ok (.iload_n 1, 1) := by decide +kernel
theorem dX10_formFault_3 : decode cX10_formFault 3 = .ok (.aload_n 0, 1) := by decide +kernel
theorem dX10_formFault_4 : decode cX10_formFault 4 = .ok (.getfield 91, 3) := by decide +kernel
theorem dX10_formFault_7 : decode cX10_formFault 7 = .ok (.if_icmp .ge 12, 3) := by decide +kernel
theorem dX10_formFault_10 : decode cX10_formFault 10 = .ok (.aload_n 0, 1) := by decide +kernel
theorem dX10_formFault_11 : decode cX10_formFault 11 = .ok (.getfield 38, 3) := by decide +kernel
theorem dX10_formFault_14 : decode cX10_formFault 14 = .ok (.iload_n 1, 1) := by decide +kernel
theorem dX10_formFault_15 : decode cX10_formFault 15 = .ok (.iaload, 1) := by decide +kernel
theorem dX10_formFault_16 : decode cX10_formFault 16 = .ok (.goto 4, 3) := by decide +kernel
theorem dX10_formFault_19 : decode cX10_formFault 19 = .ok (.iconst 0, 1) := by decide +kernel
theorem dX10_formFault_20 : decode cX10_formFault 20 = .ok (.istore_n 2, 1) := by decide +kernel
theorem dX10_formFault_21 : decode cX10_formFault 21 = .ok (.iload_n 2, 1) := by decide +kernel
theorem dX10_formFault_22 : decode cX10_formFault 22 = .ok (.bipush 110, 2) := by decide +kernel
theorem dX10_formFault_24 : decode cX10_formFault 24 = .ok (.if_icmp .eq 23, 3) := by decide +kernel
theorem dX10_formFault_27 : decode cX10_formFault 27 = .ok (.iload_n 2, 1) := by decide +kernel
theorem dX10_formFault_28 : decode cX10_formFault 28 = .ok (.bipush 108, 2) := by decide +kernel
theorem dX10_formFault_30 : decode cX10_formFault 30 = .ok (.if_icmp .eq 17, 3) := by decide +kernel
theorem dX10_formFault_33 : decode cX10_formFault 33 = .ok (.iload_n 2, 1) := by decide +kernel
theorem dX10_formFault_34 : decode cX10_formFault 34 = .ok (.bipush 102, 2) := by decide +kernel
theorem dX10_formFault_36 : decode cX10_formFault 36 = .ok (.if_icmp .eq 11, 3) := by decide +kernel
theorem dX10_formFault_39 : decode cX10_formFault 39 = .ok (.iload_n 2, 1) := by decide +kernel
theorem dX10_formFault_40 : decode cX10_formFault 40 = .ok (.bipush 118, 2) := by decide +kernel
theorem dX10_formFault_42 : decode cX10_formFault 42 = .ok (.if_icmp .eq 5, 3) := by decide +kernel
theorem dX10_formFault_45 : decode cX10_formFault 45 = .ok (.iload_n 1, 1) := by decide +kernel
theorem dX10_formFault_46 : decode cX10_formFault 46 = .ok (.ireturn, 1) := by decide +kernel
theorem dX10_formFault_47 : decode cX10_formFault 47 = .ok (.iinc 1 1, 3) := by decide +kernel
theorem dX10_formFault_50 : decode cX10_formFault 50 = .ok (.iconst 0, 1) := by decide +kernel
theorem dX10_formFault_51 : decode cX10_formFault 51 = .ok (.istore_n 3, 1) := by decide +kernel
theorem dX10_formFault_52 : decode cX10_formFault 52 = .ok (.iload_n 3, 1) := by decide +kernel
theorem dX10_formFault_53 : decode cX10_formFault 53 = .ok (.iload_n 2, 1) := by decide +kernel
theorem dX10_formFault_54 : decode cX10_formFault 54 = .ok (.invokestatic 94, 3) := by decide +kernel
theorem dX10_formFault_57 : decode cX10_formFault 57 = .ok (.if_icmp .ge 38, 3) := by decide +kernel
theorem dX10_formFault_60 : decode cX10_formFault 60 = .ok (.iload_n 1, 1) := by decide +kernel
theorem dX10_formFault_61 : decode cX10_formFault 61 = .ok (.aload_n 0, 1) := by decide +kernel
theorem dX10_formFault_62 : decode cX10_formFault 62 = .ok (.getfield 91, 3) := by decide +kernel
theorem dX10_formFault_65 : decode cX10_formFault 65 = .ok (.if_icmp .eq 19, 3) := by decide +kernel
theorem dX10_formFault_68 : decode cX10_formFault 68 = .ok (.aload_n 0, 1) := by decide +kernel
theorem dX10_formFault_69 : decode cX10_formFault 69 = .ok (.getfield 38, 3) := by decide +kernel
theorem dX10_formFault_72 : decode cX10_formFault 72 = .ok (.iload_n 1, 1) := by decide +kernel
theorem dX10_formFault_73 : decode cX10_formFault 73 = .ok (.iaload, 1) := by decide +kernel
theorem dX10_formFault_74 : decode cX10_formFault 74 = .ok (.bipush 48, 2) := by decide +kernel
theorem dX10_formFault_76 : decode cX10_formFault 76 = .ok (.bipush 57, 2) := by decide +kernel
theorem dX10_formFault_78 : decode cX10_formFault 78 = .ok (.invokestatic 78, 3) := by decide +kernel
theorem dX10_formFault_81 : decode cX10_formFault 81 = .ok (.ifCond .ne 5, 3) := by decide +kernel
theorem dX10_formFault_84 : decode cX10_formFault 84 = .ok (.iload_n 1, 1) := by decide +kernel
theorem dX10_formFault_85 : decode cX10_formFault 85 = .ok (.ireturn, 1) := by decide +kernel
theorem dX10_formFault_86 : decode cX10_formFault 86 = .ok (.iinc 1 1, 3) := by decide +kernel
theorem dX10_formFault_89 : decode cX10_formFault 89 = .ok (.iinc 3 1, 3) := by decide +kernel
theorem dX10_formFault_92 : decode cX10_formFault 92 = .ok (.goto (-40), 3) := by decide +kernel
theorem dX10_formFault_95 : decode cX10_formFault 95 = .ok (.iload_n 1, 1) := by decide +kernel
theorem dX10_formFault_96 : decode cX10_formFault 96 = .ok (.aload_n 0, 1) := by decide +kernel
theorem dX10_formFault_97 : decode cX10_formFault 97 = .ok (.getfield 91, 3) := by decide +kernel
theorem dX10_formFault_100 : decode cX10_formFault 100 = .ok (.if_icmp .eq 14, 3) := by decide +kernel
theorem dX10_formFault_103 : decode cX10_formFault 103 = .ok (.aload_n 0, 1) := by decide +kernel
theorem dX10_formFault_104 : decode cX10_formFault 104 = .ok (.getfield 38, 3) := by decide +kernel
theorem dX10_formFault_107 : decode cX10_formFault 107 = .ok (.iload_n 1, 1) := by decide +kernel
theorem dX10_formFault_108 : decode cX10_formFault 108 = .ok (.iaload, 1) := by decide +kernel
theorem dX10_formFault_109 : decode cX10_formFault 109 = .ok (.bipush 59, 2) := by decide +kernel
theorem dX10_formFault_111 : decode cX10_formFault 111 = .ok (.if_icmp .eq 5, 3) := by decide +kernel
theorem dX10_formFault_114 : decode cX10_formFault 114 = .ok (.iload_n 1, 1) := by decide +kernel
theorem dX10_formFault_115 : decode cX10_formFault 115 = .ok (.ireturn, 1) := by decide +kernel
theorem dX10_formFault_116 : decode cX10_formFault 116 = .ok (.iinc 1 1, 3) := by decide +kernel
theorem dX10_formFault_119 : decode cX10_formFault 119 = .ok (.iload_n 1, 1) := by decide +kernel
theorem dX10_formFault_120 : decode cX10_formFault 120 = .ok (.aload_n 0, 1) := by decide +kernel
theorem dX10_formFault_121 : decode cX10_formFault 121 = .ok (.getfield 91, 3) := by decide +kernel
theorem dX10_formFault_124 : decode cX10_formFault 124 = .ok (.if_icmp .lt (-122), 3) := by decide +kernel
theorem dX10_formFault_127 : decode cX10_formFault 127 = .ok (.iconst (-1), 1) := by decide +kernel
theorem dX10_formFault_128 : decode cX10_formFault 128 = .ok (.ireturn, 1) := by decide +kernel
theorem dX10_isDone_0 : decode cX10_isDone 0 = .ok (.aload_n 0, 1) := by decide +kernel
theorem dX10_isDone_1 : decode cX10_isDone 1 = .ok (.getfield 38, 3) := by decide +kernel
theorem dX10_isDone_4 : decode cX10_isDone 4 = .ok (.iload_n 1, 1) := by decide +kernel
theorem dX10_isDone_5 : decode cX10_isDone 5 = .ok (.iaload, 1) := by decide +kernel
theorem dX10_isDone_6 : decode cX10_isDone 6 = .ok (.lookupswitch 185 #[(102, 148), (108, 70), (110, 34)], 34) := by decide +kernel
theorem dX10_isDone_40 : decode cX10_isDone 40 = .ok (.aload_n 0, 1) := by decide +kernel
theorem dX10_isDone_41 : decode cX10_isDone 41 = .ok (.iload_n 1, 1) := by decide +kernel
theorem dX10_isDone_42 : decode cX10_isDone 42 = .ok (.iconst 1, 1) := by decide +kernel
theorem dX10_isDone_43 : decode cX10_isDone 43 = .ok (.iadd, 1) := by decide +kernel
theorem dX10_isDone_44 : decode cX10_isDone 44 = .ok (.invokevirtual 97, 3) := by decide +kernel
theorem dX10_isDone_47 : decode cX10_isDone 47 = .ok (.iconst 1, 1) := by decide +kernel
theorem dX10_isDone_48 : decode cX10_isDone 48 = .ok (.bipush 7, 2) := by decide +kernel
theorem dX10_isDone_50 : decode cX10_isDone 50 = .ok (.invokestatic 78, 3) := by decide +kernel
theorem dX10_isDone_53 : decode cX10_isDone 53 = .ok (.ifCond .ne 5, 3) := by decide +kernel
theorem dX10_isDone_56 : decode cX10_isDone 56 = .ok (.iconst 0, 1) := by decide +kernel
theorem dX10_isDone_57 : decode cX10_isDone 57 = .ok (.ireturn, 1) := by decide +kernel
theorem dX10_isDone_58 : decode cX10_isDone 58 = .ok (.aload_n 0, 1) := by decide +kernel
theorem dX10_isDone_59 : decode cX10_isDone 59 = .ok (.aload_n 0, 1) := by decide +kernel
theorem dX10_isDone_60 : decode cX10_isDone 60 = .ok (.iload_n 1, 1) := by decide +kernel
theorem dX10_isDone_61 : decode cX10_isDone 61 = .ok (.iconst 1, 1) := by decide +kernel
theorem dX10_isDone_62 : decode cX10_isDone 62 = .ok (.iadd, 1) := by decide +kernel
theorem dX10_isDone_63 : decode cX10_isDone 63 = .ok (.invokevirtual 97, 3) := by decide +kernel
theorem dX10_isDone_66 : decode cX10_isDone 66 = .ok (.putfield 7, 3) := by decide +kernel
theorem dX10_isDone_69 : decode cX10_isDone 69 = .ok (.aload_n 0, 1) := by decide +kernel
theorem dX10_isDone_70 : decode cX10_isDone 70 = .ok (.iconst 0, 1) := by decide +kernel
theorem dX10_isDone_71 : decode cX10_isDone 71 = .ok (.putfield 82, 3) := by decide +kernel
theorem dX10_isDone_74 : decode cX10_isDone 74 = .ok (.iconst 1, 1) := by decide +kernel
theorem dX10_isDone_75 : decode cX10_isDone 75 = .ok (.ireturn, 1) := by decide +kernel
theorem dX10_isDone_76 : decode cX10_isDone 76 = .ok (.aload_n 0, 1) := by decide +kernel
theorem dX10_isDone_77 : decode cX10_isDone 77 = .ok (.iload_n 1, 1) := by decide +kernel
theorem dX10_isDone_78 : decode cX10_isDone 78 = .ok (.iconst 1, 1) := by decide +kernel
theorem dX10_isDone_79 : decode cX10_isDone 79 = .ok (.iadd, 1) := by decide +kernel
theorem dX10_isDone_80 : decode cX10_isDone 80 = .ok (.invokevirtual 97, 3) := by decide +kernel
theorem dX10_isDone_83 : decode cX10_isDone 83 = .ok (.bipush 6, 2) := by decide +kernel
theorem dX10_isDone_85 : decode cX10_isDone 85 = .ok (.if_icmp .ge 40, 3) := by decide +kernel
theorem dX10_isDone_88 : decode cX10_isDone 88 = .ok (.aload_n 0, 1) := by decide +kernel
theorem dX10_isDone_89 : decode cX10_isDone 89 = .ok (.aload_n 0, 1) := by decide +kernel
theorem dX10_isDone_90 : decode cX10_isDone 90 = .ok (.iload_n 1, 1) := by decide +kernel
theorem dX10_isDone_91 : decode cX10_isDone 91 = .ok (.iconst 2, 1) := by decide +kernel
theorem dX10_isDone_92 : decode cX10_isDone 92 = .ok (.iadd, 1) := by decide +kernel
theorem dX10_isDone_93 : decode cX10_isDone 93 = .ok (.invokevirtual 97, 3) := by decide +kernel
theorem dX10_isDone_96 : decode cX10_isDone 96 = .ok (.invokevirtual 100, 3) := by decide +kernel
theorem dX10_isDone_99 : decode cX10_isDone 99 = .ok (.ifCond .eq 26, 3) := by decide +kernel
theorem dX10_isDone_102 : decode cX10_isDone 102 = .ok (.aload_n 0, 1) := by decide +kernel
theorem dX10_isDone_103 : decode cX10_isDone 103 = .ok (.aload_n 0, 1) := by decide +kernel
theorem dX10_isDone_104 : decode cX10_isDone 104 = .ok (.iload_n 1, 1) := by decide +kernel
theorem dX10_isDone_105 : decode cX10_isDone 105 = .ok (.iconst 3, 1) := by decide +kernel
theorem dX10_isDone_106 : decode cX10_isDone 106 = .ok (.iadd, 1) := by decide +kernel
theorem dX10_isDone_107 : decode cX10_isDone 107 = .ok (.invokevirtual 97, 3) := by decide +kernel
theorem dX10_isDone_110 : decode cX10_isDone 110 = .ok (.invokevirtual 100, 3) := by decide +kernel
theorem dX10_isDone_113 : decode cX10_isDone 113 = .ok (.ifCond .eq 12, 3) := by decide +kernel
theorem dX10_isDone_116 : decode cX10_isDone 116 = .ok (.aload_n 0, 1) := by decide +kernel
theorem dX10_isDone_117 : decode cX10_isDone 117 = .ok (.getfield 82, 3) := by decide +kernel
theorem dX10_isDone_120 : decode cX10_isDone 120 = .ok (.bipush 8, 2) := by decide +kernel
theorem dX10_isDone_122 : decode cX10_isDone 122 = .ok (.if_icmp .ne 5, 3) := by decide +kernel
theorem dX10_isDone_125 : decode cX10_isDone 125 = .ok (.iconst 0, 1) := by decide +kernel
theorem dX10_isDone_126 : decode cX10_isDone 126 = .ok (.ireturn, 1) := by decide +kernel
theorem dX10_isDone_127 : decode cX10_isDone 127 = .ok (.aload_n 0, 1) := by decide +kernel
theorem dX10_isDone_128 : decode cX10_isDone 128 = .ok (.aload_n 0, 1) := by decide +kernel
theorem dX10_isDone_129 : decode cX10_isDone 129 = .ok (.iload_n 1, 1) := by decide +kernel
theorem dX10_isDone_130 : decode cX10_isDone 130 = .ok (.iconst 1, 1) := by decide +kernel
theorem dX10_isDone_131 : decode cX10_isDone 131 = .ok (.iadd, 1) := by decide +kernel
theorem dX10_isDone_132 : decode cX10_isDone 132 = .ok (.invokevirtual 97, 3) := by decide +kernel
theorem dX10_isDone_135 : decode cX10_isDone 135 = .ok (.aload_n 0, 1) := by decide +kernel
theorem dX10_isDone_136 : decode cX10_isDone 136 = .ok (.iload_n 1, 1) := by decide +kernel
theorem dX10_isDone_137 : decode cX10_isDone 137 = .ok (.iconst 2, 1) := by decide +kernel
theorem dX10_isDone_138 : decode cX10_isDone 138 = .ok (.iadd, 1) := by decide +kernel
theorem dX10_isDone_139 : decode cX10_isDone 139 = .ok (.invokevirtual 97, 3) := by decide +kernel
theorem dX10_isDone_142 : decode cX10_isDone 142 = .ok (.aload_n 0, 1) := by decide +kernel
theorem dX10_isDone_143 : decode cX10_isDone 143 = .ok (.iload_n 1, 1) := by decide +kernel
theorem dX10_isDone_144 : decode cX10_isDone 144 = .ok (.iconst 3, 1) := by decide +kernel
theorem dX10_isDone_145 : decode cX10_isDone 145 = .ok (.iadd, 1) := by decide +kernel
theorem dX10_isDone_146 : decode cX10_isDone 146 = .ok (.invokevirtual 97, 3) := by decide +kernel
theorem dX10_isDone_149 : decode cX10_isDone 149 = .ok (.invokevirtual 104, 3) := by decide +kernel
theorem dX10_isDone_152 : decode cX10_isDone 152 = .ok (.iconst 1, 1) := by decide +kernel
theorem dX10_isDone_153 : decode cX10_isDone 153 = .ok (.ireturn, 1) := by decide +kernel
theorem dX10_isDone_154 : decode cX10_isDone 154 = .ok (.aload_n 0, 1) := by decide +kernel
theorem dX10_isDone_155 : decode cX10_isDone 155 = .ok (.aload_n 0, 1) := by decide +kernel
theorem dX10_isDone_156 : decode cX10_isDone 156 = .ok (.iload_n 1, 1) := by decide +kernel
theorem dX10_isDone_157 : decode cX10_isDone 157 = .ok (.iconst 1, 1) := by decide +kernel
theorem dX10_isDone_158 : decode cX10_isDone 158 = .ok (.iadd, 1) := by decide +kernel
theorem dX10_isDone_159 : decode cX10_isDone 159 = .ok (.invokevirtual 97, 3) := by decide +kernel
theorem dX10_isDone_162 : decode cX10_isDone 162 = .ok (.invokevirtual 108, 3) := by decide +kernel
theorem dX10_isDone_165 : decode cX10_isDone 165 = .ok (.ifCond .ne 5, 3) := by decide +kernel
theorem dX10_isDone_168 : decode cX10_isDone 168 = .ok (.iconst 0, 1) := by decide +kernel
theorem dX10_isDone_169 : decode cX10_isDone 169 = .ok (.ireturn, 1) := by decide +kernel
theorem dX10_isDone_170 : decode cX10_isDone 170 = .ok (.aload_n 0, 1) := by decide +kernel
theorem dX10_isDone_171 : decode cX10_isDone 171 = .ok (.getfield 17, 3) := by decide +kernel
theorem dX10_isDone_174 : decode cX10_isDone 174 = .ok (.aload_n 0, 1) := by decide +kernel
theorem dX10_isDone_175 : decode cX10_isDone 175 = .ok (.iload_n 1, 1) := by decide +kernel
theorem dX10_isDone_176 : decode cX10_isDone 176 = .ok (.iconst 1, 1) := by decide +kernel
theorem dX10_isDone_177 : decode cX10_isDone 177 = .ok (.iadd, 1) := by decide +kernel
theorem dX10_isDone_178 : decode cX10_isDone 178 = .ok (.invokevirtual 97, 3) := by decide +kernel
theorem dX10_isDone_181 : decode cX10_isDone 181 = .ok (.aload_n 0, 1) := by decide +kernel
theorem dX10_isDone_182 : decode cX10_isDone 182 = .ok (.iload_n 1, 1) := by decide +kernel
theorem dX10_isDone_183 : decode cX10_isDone 183 = .ok (.iconst 2, 1) := by decide +kernel
theorem dX10_isDone_184 : decode cX10_isDone 184 = .ok (.iadd, 1) := by decide +kernel
theorem dX10_isDone_185 : decode cX10_isDone 185 = .ok (.invokevirtual 97, 3) := by decide +kernel
theorem dX10_isDone_188 : decode cX10_isDone 188 = .ok (.iastore, 1) := by decide +kernel
theorem dX10_isDone_189 : decode cX10_isDone 189 = .ok (.iconst 1, 1) := by decide +kernel
theorem dX10_isDone_190 : decode cX10_isDone 190 = .ok (.ireturn, 1) := by decide +kernel
theorem dX10_isDone_191 : decode cX10_isDone 191 = .ok (.aload_n 0, 1) := by decide +kernel
theorem dX10_isDone_192 : decode cX10_isDone 192 = .ok (.aload_n 0, 1) := by decide +kernel
theorem dX10_isDone_193 : decode cX10_isDone 193 = .ok (.iload_n 1, 1) := by decide +kernel
theorem dX10_isDone_194 : decode cX10_isDone 194 = .ok (.iconst 1, 1) := by decide +kernel
theorem dX10_isDone_195 : decode cX10_isDone 195 = .ok (.iadd, 1) := by decide +kernel
theorem dX10_isDone_196 : decode cX10_isDone 196 = .ok (.invokevirtual 97, 3) := by decide +kernel
theorem dX10_isDone_199 : decode cX10_isDone 199 = .ok (.invokevirtual 108, 3) := by decide +kernel
theorem dX10_isDone_202 : decode cX10_isDone 202 = .ok (.ifCond .ne 5, 3) := by decide +kernel
theorem dX10_isDone_205 : decode cX10_isDone 205 = .ok (.iconst 0, 1) := by decide +kernel
theorem dX10_isDone_206 : decode cX10_isDone 206 = .ok (.ireturn, 1) := by decide +kernel
theorem dX10_isDone_207 : decode cX10_isDone 207 = .ok (.aload_n 0, 1) := by decide +kernel
theorem dX10_isDone_208 : decode cX10_isDone 208 = .ok (.getfield 26, 3) := by decide +kernel
theorem dX10_isDone_211 : decode cX10_isDone 211 = .ok (.aload_n 0, 1) := by decide +kernel
theorem dX10_isDone_212 : decode cX10_isDone 212 = .ok (.iload_n 1, 1) := by decide +kernel
theorem dX10_isDone_213 : decode cX10_isDone 213 = .ok (.iconst 1, 1) := by decide +kernel
theorem dX10_isDone_214 : decode cX10_isDone 214 = .ok (.iadd, 1) := by decide +kernel
theorem dX10_isDone_215 : decode cX10_isDone 215 = .ok (.invokevirtual 97, 3) := by decide +kernel
theorem dX10_isDone_218 : decode cX10_isDone 218 = .ok (.bipush 10, 2) := by decide +kernel
theorem dX10_isDone_220 : decode cX10_isDone 220 = .ok (.aload_n 0, 1) := by decide +kernel
theorem dX10_isDone_221 : decode cX10_isDone 221 = .ok (.iload_n 1, 1) := by decide +kernel
theorem dX10_isDone_222 : decode cX10_isDone 222 = .ok (.iconst 2, 1) := by decide +kernel
theorem dX10_isDone_223 : decode cX10_isDone 223 = .ok (.iadd, 1) := by decide +kernel
theorem dX10_isDone_224 : decode cX10_isDone 224 = .ok (.invokevirtual 97, 3) := by decide +kernel
theorem dX10_isDone_227 : decode cX10_isDone 227 = .ok (.imul, 1) := by decide +kernel
theorem dX10_isDone_228 : decode cX10_isDone 228 = .ok (.aload_n 0, 1) := by decide +kernel
theorem dX10_isDone_229 : decode cX10_isDone 229 = .ok (.iload_n 1, 1) := by decide +kernel
theorem dX10_isDone_230 : decode cX10_isDone 230 = .ok (.iconst 3, 1) := by decide +kernel
theorem dX10_isDone_231 : decode cX10_isDone 231 = .ok (.iadd, 1) := by decide +kernel
theorem dX10_isDone_232 : decode cX10_isDone 232 = .ok (.invokevirtual 97, 3) := by decide +kernel
theorem dX10_isDone_235 : decode cX10_isDone 235 = .ok (.iadd, 1) := by decide +kernel
theorem dX10_isDone_236 : decode cX10_isDone 236 = .ok (.iastore, 1) := by decide +kernel
theorem dX10_isDone_237 : decode cX10_isDone 237 = .ok (.iconst 1, 1) := by decide +kernel
theorem dX10_isDone_238 : decode cX10_isDone 238 = .ok (.ireturn, 1) := by decide +kernel
theorem dX10_text_0 : decode cX10_text 0 = .ok (.aload_n 0, 1) := by decide +kernel
theorem dX10_text_1 : decode cX10_text 1 = .ok (.invokevirtual 111, 3) := by decide +kernel
theorem dX10_text_4 : decode cX10_text 4 = .ok (.istore_n 1, 1) := by decide +kernel
theorem dX10_text_5 : decode cX10_text 5 = .ok (.aload_n 0, 1) := by decide +kernel
theorem dX10_text_6 : decode cX10_text 6 = .ok (.getfield 91, 3) := by decide +kernel
theorem dX10_text_9 : decode cX10_text 9 = .ok (.istore_n 2, 1) := by decide +kernel
theorem dX10_text_10 : decode cX10_text 10 = .ok (.aload_n 0, 1) := by decide +kernel
theorem dX10_text_11 : decode cX10_text 11 = .ok (.iconst 0, 1) := by decide +kernel
theorem dX10_text_12 : decode cX10_text 12 = .ok (.putfield 91, 3) := by decide +kernel
theorem dX10_text_15 : decode cX10_text 15 = .ok (.iload_n 1, 1) := by decide +kernel
theorem dX10_text_16 : decode cX10_text 16 = .ok (.ifCond .lt 9, 3) := by decide +kernel
theorem dX10_text_19 : decode cX10_text 19 = .ok (.sipush (-1000), 3) := by decide +kernel
theorem dX10_text_22 : decode cX10_text 22 = .ok (.iload_n 1, 1) := by decide +kernel
theorem dX10_text_23 : decode cX10_text 23 = .ok (.isub, 1) := by decide +kernel
theorem dX10_text_24 : decode cX10_text 24 = .ok (.ireturn, 1) := by decide +kernel
theorem dX10_text_25 : decode cX10_text 25 = .ok (.aload_n 0, 1) := by decide +kernel
theorem dX10_text_26 : decode cX10_text 26 = .ok (.aload_n 0, 1) := by decide +kernel
theorem dX10_text_27 : decode cX10_text 27 = .ok (.getfield 75, 3) := by decide +kernel
theorem dX10_text_30 : decode cX10_text 30 = .ok (.invokevirtual 115, 3) := by decide +kernel
theorem dX10_text_33 : decode cX10_text 33 = .ok (.iconst 0, 1) := by decide +kernel
theorem dX10_text_34 : decode cX10_text 34 = .ok (.istore_n 3, 1) := by decide +kernel
theorem dX10_text_35 : decode cX10_text 35 = .ok (.iconst 0, 1) := by decide +kernel
theorem dX10_text_36 : decode cX10_text 36 = .ok (.istore 4, 2) := by decide +kernel
theorem dX10_text_38 : decode cX10_text 38 = .ok (.iload 4, 2) := by decide +kernel
theorem dX10_text_40 : decode cX10_text 40 = .ok (.iload_n 2, 1) := by decide +kernel
theorem dX10_text_41 : decode cX10_text 41 = .ok (.if_icmp .ge 50, 3) := by decide +kernel
theorem dX10_text_44 : decode cX10_text 44 = .ok (.aload_n 0, 1) := by decide +kernel
theorem dX10_text_45 : decode cX10_text 45 = .ok (.iload 4, 2) := by decide +kernel
theorem dX10_text_47 : decode cX10_text 47 = .ok (.invokevirtual 119, 3) := by decide +kernel
theorem dX10_text_50 : decode cX10_text 50 = .ok (.ifCond .ne 18, 3) := by decide +kernel
theorem dX10_text_53 : decode cX10_text 53 = .ok (.aload_n 0, 1) := by decide +kernel
theorem dX10_text_54 : decode cX10_text 54 = .ok (.aload_n 0, 1) := by decide +kernel
theorem dX10_text_55 : decode cX10_text 55 = .ok (.getfield 75, 3) := by decide +kernel
theorem dX10_text_58 : decode cX10_text 58 = .ok (.invokevirtual 122, 3) := by decide +kernel
theorem dX10_text_61 : decode cX10_text 61 = .ok (.sipush (-2000), 3) := by decide +kernel
theorem dX10_text_64 : decode cX10_text 64 = .ok (.iload 4, 2) := by decide +kernel
theorem dX10_text_66 : decode cX10_text 66 = .ok (.isub, 1) := by decide +kernel
theorem dX10_text_67 : decode cX10_text 67 = .ok (.ireturn, 1) := by decide +kernel
theorem dX10_text_68 : decode cX10_text 68 = .ok (.iload 4, 2) := by decide +kernel
theorem dX10_text_70 : decode cX10_text 70 = .ok (.aload_n 0, 1) := by decide +kernel
theorem dX10_text_71 : decode cX10_text 71 = .ok (.getfield 38, 3) := by decide +kernel
theorem dX10_text_74 : decode cX10_text 74 = .ok (.iload 4, 2) := by decide +kernel
theorem dX10_text_76 : decode cX10_text 76 = .ok (.iaload, 1) := by decide +kernel
theorem dX10_text_77 : decode cX10_text 77 = .ok (.invokestatic 94, 3) := by decide +kernel
theorem dX10_text_80 : decode cX10_text 80 = .ok (.iconst 2, 1) := by decide +kernel
theorem dX10_text_81 : decode cX10_text 81 = .ok (.iadd, 1) := by decide +kernel
theorem dX10_text_82 : decode cX10_text 82 = .ok (.iadd, 1) := by decide +kernel
theorem dX10_text_83 : decode cX10_text 83 = .ok (.istore 4, 2) := by decide +kernel
theorem dX10_text_85 : decode cX10_text 85 = .ok (.iinc 3 1, 3) := by decide +kernel
theorem dX10_text_88 : decode cX10_text 88 = .ok (.goto (-50), 3) := by decide +kernel
theorem dX10_text_91 : decode cX10_text 91 = .ok (.aload_n 0, 1) := by decide +kernel
theorem dX10_text_92 : decode cX10_text 92 = .ok (.iconst 0, 1) := by decide +kernel
theorem dX10_text_93 : decode cX10_text 93 = .ok (.putfield 125, 3) := by decide +kernel
theorem dX10_text_96 : decode cX10_text 96 = .ok (.iload_n 3, 1) := by decide +kernel
theorem dX10_text_97 : decode cX10_text 97 = .ok (.ireturn, 1) := by decide +kernel
theorem dX10_comes_0 : decode cX10_comes 0 = .ok (.aload_n 0, 1) := by decide +kernel
theorem dX10_comes_1 : decode cX10_comes 1 = .ok (.getfield 13, 3) := by decide +kernel
theorem dX10_comes_4 : decode cX10_comes 4 = .ok (.aload_n 0, 1) := by decide +kernel
theorem dX10_comes_5 : decode cX10_comes 5 = .ok (.getfield 82, 3) := by decide +kernel
theorem dX10_comes_8 : decode cX10_comes 8 = .ok (.iload_n 1, 1) := by decide +kernel
theorem dX10_comes_9 : decode cX10_comes 9 = .ok (.iastore, 1) := by decide +kernel
theorem dX10_comes_10 : decode cX10_comes 10 = .ok (.aload_n 0, 1) := by decide +kernel
theorem dX10_comes_11 : decode cX10_comes 11 = .ok (.getfield 17, 3) := by decide +kernel
theorem dX10_comes_14 : decode cX10_comes 14 = .ok (.aload_n 0, 1) := by decide +kernel
theorem dX10_comes_15 : decode cX10_comes 15 = .ok (.getfield 82, 3) := by decide +kernel
theorem dX10_comes_18 : decode cX10_comes 18 = .ok (.iconst 0, 1) := by decide +kernel
theorem dX10_comes_19 : decode cX10_comes 19 = .ok (.iastore, 1) := by decide +kernel
theorem dX10_comes_20 : decode cX10_comes 20 = .ok (.aload_n 0, 1) := by decide +kernel
theorem dX10_comes_21 : decode cX10_comes 21 = .ok (.getfield 20, 3) := by decide +kernel
theorem dX10_comes_24 : decode cX10_comes 24 = .ok (.aload_n 0, 1) := by decide +kernel
theorem dX10_comes_25 : decode cX10_comes 25 = .ok (.getfield 82, 3) := by decide +kernel
theorem dX10_comes_28 : decode cX10_comes 28 = .ok (.iload_n 2, 1) := by decide +kernel
theorem dX10_comes_29 : decode cX10_comes 29 = .ok (.iastore, 1) := by decide +kernel
theorem dX10_comes_30 : decode cX10_comes 30 = .ok (.aload_n 0, 1) := by decide +kernel
theorem dX10_comes_31 : decode cX10_comes 31 = .ok (.getfield 23, 3) := by decide +kernel
theorem dX10_comes_34 : decode cX10_comes 34 = .ok (.aload_n 0, 1) := by decide +kernel
theorem dX10_comes_35 : decode cX10_comes 35 = .ok (.getfield 82, 3) := by decide +kernel
theorem dX10_comes_38 : decode cX10_comes 38 = .ok (.iload_n 3, 1) := by decide +kernel
theorem dX10_comes_39 : decode cX10_comes 39 = .ok (.iastore, 1) := by decide +kernel
theorem dX10_comes_40 : decode cX10_comes 40 = .ok (.aload_n 0, 1) := by decide +kernel
theorem dX10_comes_41 : decode cX10_comes 41 = .ok (.getfield 26, 3) := by decide +kernel
theorem dX10_comes_44 : decode cX10_comes 44 = .ok (.aload_n 0, 1) := by decide +kernel
theorem dX10_comes_45 : decode cX10_comes 45 = .ok (.getfield 82, 3) := by decide +kernel
theorem dX10_comes_48 : decode cX10_comes 48 = .ok (.iconst 0, 1) := by decide +kernel
theorem dX10_comes_49 : decode cX10_comes 49 = .ok (.iastore, 1) := by decide +kernel
theorem dX10_comes_50 : decode cX10_comes 50 = .ok (.aload_n 0, 1) := by decide +kernel
theorem dX10_comes_51 : decode cX10_comes 51 = .ok (.dup, 1) := by decide +kernel
theorem dX10_comes_52 : decode cX10_comes 52 = .ok (.getfield 82, 3) := by decide +kernel
theorem dX10_comes_55 : decode cX10_comes 55 = .ok (.iconst 1, 1) := by decide +kernel
theorem dX10_comes_56 : decode cX10_comes 56 = .ok (.iadd, 1) := by decide +kernel
theorem dX10_comes_57 : decode cX10_comes 57 = .ok (.putfield 82, 3) := by decide +kernel
theorem dX10_comes_60 : decode cX10_comes 60 = .ok (.return_, 1) := by decide +kernel
theorem dX10_points_0 : decode cX10_points 0 = .ok (.iload_n 1, 1) := by decide +kernel
theorem dX10_points_1 : decode cX10_points 1 = .ok (.iconst 1, 1) := by decide +kernel
theorem dX10_points_2 : decode cX10_points 2 = .ok (.if_icmp .ge 10, 3) := by decide +kernel
theorem dX10_points_5 : decode cX10_points 5 = .ok (.aload_n 0, 1) := by decide +kernel
theorem dX10_points_6 : decode cX10_points 6 = .ok (.bipush (-4), 2) := by decide +kernel
theorem dX10_points_8 : decode cX10_points 8 = .ok (.invokevirtual 87, 3) := by decide +kernel
theorem dX10_points_11 : decode cX10_points 11 = .ok (.ireturn, 1) := by decide +kernel
theorem dX10_points_12 : decode cX10_points 12 = .ok (.iload_n 1, 1) := by decide +kernel
theorem dX10_points_13 : decode cX10_points 13 = .ok (.bipush 7, 2) := by decide +kernel
theorem dX10_points_15 : decode cX10_points 15 = .ok (.if_icmp .le 10, 3) := by decide +kernel
theorem dX10_points_18 : decode cX10_points 18 = .ok (.aload_n 0, 1) := by decide +kernel
theorem dX10_points_19 : decode cX10_points 19 = .ok (.bipush (-6), 2) := by decide +kernel
theorem dX10_points_21 : decode cX10_points 21 = .ok (.invokevirtual 87, 3) := by decide +kernel
theorem dX10_points_24 : decode cX10_points 24 = .ok (.ireturn, 1) := by decide +kernel
theorem dX10_points_25 : decode cX10_points 25 = .ok (.aload_n 0, 1) := by decide +kernel
theorem dX10_points_26 : decode cX10_points 26 = .ok (.getfield 7, 3) := by decide +kernel
theorem dX10_points_29 : decode cX10_points 29 = .ok (.istore_n 2, 1) := by decide +kernel
theorem dX10_points_30 : decode cX10_points 30 = .ok (.aload_n 0, 1) := by decide +kernel
theorem dX10_points_31 : decode cX10_points 31 = .ok (.iload_n 1, 1) := by decide +kernel
theorem dX10_points_32 : decode cX10_points 32 = .ok (.putfield 7, 3) := by decide +kernel
theorem dX10_points_35 : decode cX10_points 35 = .ok (.aload_n 0, 1) := by decide +kernel
theorem dX10_points_36 : decode cX10_points 36 = .ok (.iconst 0, 1) := by decide +kernel
theorem dX10_points_37 : decode cX10_points 37 = .ok (.putfield 82, 3) := by decide +kernel
theorem dX10_points_40 : decode cX10_points 40 = .ok (.aload_n 0, 1) := by decide +kernel
theorem dX10_points_41 : decode cX10_points 41 = .ok (.iconst 0, 1) := by decide +kernel
theorem dX10_points_42 : decode cX10_points 42 = .ok (.putfield 125, 3) := by decide +kernel
theorem dX10_points_45 : decode cX10_points 45 = .ok (.iload_n 2, 1) := by decide +kernel
theorem dX10_points_46 : decode cX10_points 46 = .ok (.ireturn, 1) := by decide +kernel
theorem dX10_line_0 : decode cX10_line 0 = .ok (.iload_n 1, 1) := by decide +kernel
theorem dX10_line_1 : decode cX10_line 1 = .ok (.iconst 0, 1) := by decide +kernel
theorem dX10_line_2 : decode cX10_line 2 = .ok (.iconst 5, 1) := by decide +kernel
theorem dX10_line_3 : decode cX10_line 3 = .ok (.invokestatic 78, 3) := by decide +kernel
theorem dX10_line_6 : decode cX10_line 6 = .ok (.ifCond .ne 10, 3) := by decide +kernel
theorem dX10_line_9 : decode cX10_line 9 = .ok (.aload_n 0, 1) := by decide +kernel
theorem dX10_line_10 : decode cX10_line 10 = .ok (.bipush (-2), 2) := by decide +kernel
theorem dX10_line_12 : decode cX10_line 12 = .ok (.invokevirtual 87, 3) := by decide +kernel
theorem dX10_line_15 : decode cX10_line 15 = .ok (.ireturn, 1) := by decide +kernel
theorem dX10_line_16 : decode cX10_line 16 = .ok (.aload_n 0, 1) := by decide +kernel
theorem dX10_line_17 : decode cX10_line 17 = .ok (.iload_n 2, 1) := by decide +kernel
theorem dX10_line_18 : decode cX10_line 18 = .ok (.invokevirtual 100, 3) := by decide +kernel
theorem dX10_line_21 : decode cX10_line 21 = .ok (.ifCond .eq 11, 3) := by decide +kernel
theorem dX10_line_24 : decode cX10_line 24 = .ok (.aload_n 0, 1) := by decide +kernel
theorem dX10_line_25 : decode cX10_line 25 = .ok (.iload_n 3, 1) := by decide +kernel
theorem dX10_line_26 : decode cX10_line 26 = .ok (.invokevirtual 100, 3) := by decide +kernel
theorem dX10_line_29 : decode cX10_line 29 = .ok (.ifCond .ne 9, 3) := by decide +kernel
theorem dX10_line_32 : decode cX10_line 32 = .ok (.aload_n 0, 1) := by decide +kernel
theorem dX10_line_33 : decode cX10_line 33 = .ok (.iconst (-1), 1) := by decide +kernel
theorem dX10_line_34 : decode cX10_line 34 = .ok (.invokevirtual 87, 3) := by decide +kernel
theorem dX10_line_37 : decode cX10_line 37 = .ok (.ireturn, 1) := by decide +kernel
theorem dX10_line_38 : decode cX10_line 38 = .ok (.aload_n 0, 1) := by decide +kernel
theorem dX10_line_39 : decode cX10_line 39 = .ok (.getfield 82, 3) := by decide +kernel
theorem dX10_line_42 : decode cX10_line 42 = .ok (.bipush 8, 2) := by decide +kernel
theorem dX10_line_44 : decode cX10_line 44 = .ok (.if_icmp .ne 10, 3) := by decide +kernel
theorem dX10_line_47 : decode cX10_line 47 = .ok (.aload_n 0, 1) := by decide +kernel
theorem dX10_line_48 : decode cX10_line 48 = .ok (.bipush (-6), 2) := by decide +kernel
theorem dX10_line_50 : decode cX10_line 50 = .ok (.invokevirtual 87, 3) := by decide +kernel
theorem dX10_line_53 : decode cX10_line 53 = .ok (.ireturn, 1) := by decide +kernel
theorem dX10_line_54 : decode cX10_line 54 = .ok (.aload_n 0, 1) := by decide +kernel
theorem dX10_line_55 : decode cX10_line 55 = .ok (.iload_n 1, 1) := by decide +kernel
theorem dX10_line_56 : decode cX10_line 56 = .ok (.iload_n 2, 1) := by decide +kernel
theorem dX10_line_57 : decode cX10_line 57 = .ok (.iload_n 3, 1) := by decide +kernel
theorem dX10_line_58 : decode cX10_line 58 = .ok (.invokevirtual 104, 3) := by decide +kernel
theorem dX10_line_61 : decode cX10_line 61 = .ok (.aload_n 0, 1) := by decide +kernel
theorem dX10_line_62 : decode cX10_line 62 = .ok (.iconst 0, 1) := by decide +kernel
theorem dX10_line_63 : decode cX10_line 63 = .ok (.putfield 125, 3) := by decide +kernel
theorem dX10_line_66 : decode cX10_line 66 = .ok (.aload_n 0, 1) := by decide +kernel
theorem dX10_line_67 : decode cX10_line 67 = .ok (.getfield 82, 3) := by decide +kernel
theorem dX10_line_70 : decode cX10_line 70 = .ok (.iconst 1, 1) := by decide +kernel
theorem dX10_line_71 : decode cX10_line 71 = .ok (.isub, 1) := by decide +kernel
theorem dX10_line_72 : decode cX10_line 72 = .ok (.ireturn, 1) := by decide +kernel
theorem dX10_drop_0 : decode cX10_drop 0 = .ok (.aload_n 0, 1) := by decide +kernel
theorem dX10_drop_1 : decode cX10_drop 1 = .ok (.getfield 82, 3) := by decide +kernel
theorem dX10_drop_4 : decode cX10_drop 4 = .ok (.ifCond .ne 10, 3) := by decide +kernel
theorem dX10_drop_7 : decode cX10_drop 7 = .ok (.aload_n 0, 1) := by decide +kernel
theorem dX10_drop_8 : decode cX10_drop 8 = .ok (.bipush (-3), 2) := by decide +kernel
theorem dX10_drop_10 : decode cX10_drop 10 = .ok (.invokevirtual 87, 3) := by decide +kernel
theorem dX10_drop_13 : decode cX10_drop 13 = .ok (.ireturn, 1) := by decide +kernel
theorem dX10_drop_14 : decode cX10_drop 14 = .ok (.aload_n 0, 1) := by decide +kernel
theorem dX10_drop_15 : decode cX10_drop 15 = .ok (.dup, 1) := by decide +kernel
theorem dX10_drop_16 : decode cX10_drop 16 = .ok (.getfield 82, 3) := by decide +kernel
theorem dX10_drop_19 : decode cX10_drop 19 = .ok (.iconst 1, 1) := by decide +kernel
theorem dX10_drop_20 : decode cX10_drop 20 = .ok (.isub, 1) := by decide +kernel
theorem dX10_drop_21 : decode cX10_drop 21 = .ok (.putfield 82, 3) := by decide +kernel
theorem dX10_drop_24 : decode cX10_drop 24 = .ok (.aload_n 0, 1) := by decide +kernel
theorem dX10_drop_25 : decode cX10_drop 25 = .ok (.iconst 0, 1) := by decide +kernel
theorem dX10_drop_26 : decode cX10_drop 26 = .ok (.putfield 125, 3) := by decide +kernel
theorem dX10_drop_29 : decode cX10_drop 29 = .ok (.aload_n 0, 1) := by decide +kernel
theorem dX10_drop_30 : decode cX10_drop 30 = .ok (.getfield 82, 3) := by decide +kernel
theorem dX10_drop_33 : decode cX10_drop 33 = .ok (.ireturn, 1) := by decide +kernel
theorem dX10_canBeUndone_0 : decode cX10_canBeUndone 0 = .ok (.aload_n 0, 1) := by decide +kernel
theorem dX10_canBeUndone_1 : decode cX10_canBeUndone 1 = .ok (.getfield 125, 3) := by decide +kernel
theorem dX10_canBeUndone_4 : decode cX10_canBeUndone 4 = .ok (.bipush 8, 2) := by decide +kernel
theorem dX10_canBeUndone_6 : decode cX10_canBeUndone 6 = .ok (.if_icmp .ne 73, 3) := by decide +kernel
theorem dX10_canBeUndone_9 : decode cX10_canBeUndone 9 = .ok (.bipush 8, 2) := by decide +kernel
theorem dX10_canBeUndone_11 : decode cX10_canBeUndone 11 = .ok (.istore_n 1, 1) := by decide +kernel
theorem dX10_canBeUndone_12 : decode cX10_canBeUndone 12 = .ok (.iload_n 1, 1) := by decide +kernel
theorem dX10_canBeUndone_13 : decode cX10_canBeUndone 13 = .ok (.bipush 64, 2) := by decide +kernel
theorem dX10_canBeUndone_15 : decode cX10_canBeUndone 15 = .ok (.if_icmp .ge 54, 3) := by decide +kernel
theorem dX10_canBeUndone_18 : decode cX10_canBeUndone 18 = .ok (.aload_n 0, 1) := by decide +kernel
theorem dX10_canBeUndone_19 : decode cX10_canBeUndone 19 = .ok (.getfield 29, 3) := by decide +kernel
theorem dX10_canBeUndone_22 : decode cX10_canBeUndone 22 = .ok (.iload_n 1, 1) := by decide +kernel
theorem dX10_canBeUndone_23 : decode cX10_canBeUndone 23 = .ok (.bipush 8, 2) := by decide +kernel
theorem dX10_canBeUndone_25 : decode cX10_canBeUndone 25 = .ok (.isub, 1) := by decide +kernel
theorem dX10_canBeUndone_26 : decode cX10_canBeUndone 26 = .ok (.aload_n 0, 1) := by decide +kernel
theorem dX10_canBeUndone_27 : decode cX10_canBeUndone 27 = .ok (.getfield 29, 3) := by decide +kernel
theorem dX10_canBeUndone_30 : decode cX10_canBeUndone 30 = .ok (.iload_n 1, 1) := by decide +kernel
theorem dX10_canBeUndone_31 : decode cX10_canBeUndone 31 = .ok (.iaload, 1) := by decide +kernel
theorem dX10_canBeUndone_32 : decode cX10_canBeUndone 32 = .ok (.iastore, 1) := by decide +kernel
theorem dX10_canBeUndone_33 : decode cX10_canBeUndone 33 = .ok (.aload_n 0, 1) := by decide +kernel
theorem dX10_canBeUndone_34 : decode cX10_canBeUndone 34 = .ok (.getfield 32, 3) := by decide +kernel
theorem dX10_canBeUndone_37 : decode cX10_canBeUndone 37 = .ok (.iload_n 1, 1) := by decide +kernel
theorem dX10_canBeUndone_38 : decode cX10_canBeUndone 38 = .ok (.bipush 8, 2) := by decide +kernel
theorem dX10_canBeUndone_40 : decode cX10_canBeUndone 40 = .ok (.isub, 1) := by decide +kernel
theorem dX10_canBeUndone_41 : decode cX10_canBeUndone 41 = .ok (.aload_n 0, 1) := by decide +kernel
theorem dX10_canBeUndone_42 : decode cX10_canBeUndone 42 = .ok (.getfield 32, 3) := by decide +kernel
theorem dX10_canBeUndone_45 : decode cX10_canBeUndone 45 = .ok (.iload_n 1, 1) := by decide +kernel
theorem dX10_canBeUndone_46 : decode cX10_canBeUndone 46 = .ok (.iaload, 1) := by decide +kernel
theorem dX10_canBeUndone_47 : decode cX10_canBeUndone 47 = .ok (.iastore, 1) := by decide +kernel
theorem dX10_canBeUndone_48 : decode cX10_canBeUndone 48 = .ok (.aload_n 0, 1) := by decide +kernel
theorem dX10_canBeUndone_49 : decode cX10_canBeUndone 49 = .ok (.getfield 35, 3) := by decide +kernel
theorem dX10_canBeUndone_52 : decode cX10_canBeUndone 52 = .ok (.iload_n 1, 1) := by decide +kernel
theorem dX10_canBeUndone_53 : decode cX10_canBeUndone 53 = .ok (.bipush 8, 2) := by decide +kernel
theorem dX10_canBeUndone_55 : decode cX10_canBeUndone 55 = .ok (.isub, 1) := by decide +kernel
theorem dX10_canBeUndone_56 : decode cX10_canBeUndone 56 = .ok (.aload_n 0, 1) := by decide +kernel
theorem dX10_canBeUndone_57 : decode cX10_canBeUndone 57 = .ok (.getfield 35, 3) := by decide +kernel
theorem dX10_canBeUndone_60 : decode cX10_canBeUndone 60 = .ok (.iload_n 1, 1) := by decide +kernel
theorem dX10_canBeUndone_61 : decode cX10_canBeUndone 61 = .ok (.iaload, 1) := by decide +kernel
theorem dX10_canBeUndone_62 : decode cX10_canBeUndone 62 = .ok (.iastore, 1) := by decide +kernel
theorem dX10_canBeUndone_63 : decode cX10_canBeUndone 63 = .ok (.iinc 1 1, 3) := by decide +kernel
theorem dX10_canBeUndone_66 : decode cX10_canBeUndone 66 = .ok (.goto (-54), 3) := by decide +kernel
theorem dX10_canBeUndone_69 : decode cX10_canBeUndone 69 = .ok (.aload_n 0, 1) := by decide +kernel
theorem dX10_canBeUndone_70 : decode cX10_canBeUndone 70 = .ok (.dup, 1) := by decide +kernel
theorem dX10_canBeUndone_71 : decode cX10_canBeUndone 71 = .ok (.getfield 125, 3) := by decide +kernel
theorem dX10_canBeUndone_74 : decode cX10_canBeUndone 74 = .ok (.iconst 1, 1) := by decide +kernel
theorem dX10_canBeUndone_75 : decode cX10_canBeUndone 75 = .ok (.isub, 1) := by decide +kernel
theorem dX10_canBeUndone_76 : decode cX10_canBeUndone 76 = .ok (.putfield 125, 3) := by decide +kernel
theorem dX10_canBeUndone_79 : decode cX10_canBeUndone 79 = .ok (.iconst 0, 1) := by decide +kernel
theorem dX10_canBeUndone_80 : decode cX10_canBeUndone 80 = .ok (.istore_n 1, 1) := by decide +kernel
theorem dX10_canBeUndone_81 : decode cX10_canBeUndone 81 = .ok (.iload_n 1, 1) := by decide +kernel
theorem dX10_canBeUndone_82 : decode cX10_canBeUndone 82 = .ok (.bipush 8, 2) := by decide +kernel
theorem dX10_canBeUndone_84 : decode cX10_canBeUndone 84 = .ok (.if_icmp .ge 69, 3) := by decide +kernel
theorem dX10_canBeUndone_87 : decode cX10_canBeUndone 87 = .ok (.aload_n 0, 1) := by decide +kernel
theorem dX10_canBeUndone_88 : decode cX10_canBeUndone 88 = .ok (.getfield 29, 3) := by decide +kernel
theorem dX10_canBeUndone_91 : decode cX10_canBeUndone 91 = .ok (.bipush 8, 2) := by decide +kernel
theorem dX10_canBeUndone_93 : decode cX10_canBeUndone 93 = .ok (.aload_n 0, 1) := by decide +kernel
theorem dX10_canBeUndone_94 : decode cX10_canBeUndone 94 = .ok (.getfield 125, 3) := by decide +kernel
theorem dX10_canBeUndone_97 : decode cX10_canBeUndone 97 = .ok (.imul, 1) := by decide +kernel
theorem dX10_canBeUndone_98 : decode cX10_canBeUndone 98 = .ok (.iload_n 1, 1) := by decide +kernel
theorem dX10_canBeUndone_99 : decode cX10_canBeUndone 99 = .ok (.iadd, 1) := by decide +kernel
theorem dX10_canBeUndone_100 : decode cX10_canBeUndone 100 = .ok (.aload_n 0, 1) := by decide +kernel
theorem dX10_canBeUndone_101 : decode cX10_canBeUndone 101 = .ok (.getfield 13, 3) := by decide +kernel
theorem dX10_canBeUndone_104 : decode cX10_canBeUndone 104 = .ok (.iload_n 1, 1) := by decide +kernel
theorem dX10_canBeUndone_105 : decode cX10_canBeUndone 105 = .ok (.iaload, 1) := by decide +kernel
theorem dX10_canBeUndone_106 : decode cX10_canBeUndone 106 = .ok (.iastore, 1) := by decide +kernel
theorem dX10_canBeUndone_107 : decode cX10_canBeUndone 107 = .ok (.aload_n 0, 1) := by decide +kernel
theorem dX10_canBeUndone_108 : decode cX10_canBeUndone 108 = .ok (.getfield 32, 3) := by decide +kernel
theorem dX10_canBeUndone_111 : decode cX10_canBeUndone 111 = .ok (.bipush 8, 2) := by decide +kernel
theorem dX10_canBeUndone_113 : decode cX10_canBeUndone 113 = .ok (.aload_n 0, 1) := by decide +kernel
theorem dX10_canBeUndone_114 : decode cX10_canBeUndone 114 = .ok (.getfield 125, 3) := by decide +kernel
theorem dX10_canBeUndone_117 : decode cX10_canBeUndone 117 = .ok (.imul, 1) := by decide +kernel
theorem dX10_canBeUndone_118 : decode cX10_canBeUndone 118 = .ok (.iload_n 1, 1) := by decide +kernel
theorem dX10_canBeUndone_119 : decode cX10_canBeUndone 119 = .ok (.iadd, 1) := by decide +kernel
theorem dX10_canBeUndone_120 : decode cX10_canBeUndone 120 = .ok (.aload_n 0, 1) := by decide +kernel
theorem dX10_canBeUndone_121 : decode cX10_canBeUndone 121 = .ok (.getfield 17, 3) := by decide +kernel
theorem dX10_canBeUndone_124 : decode cX10_canBeUndone 124 = .ok (.iload_n 1, 1) := by decide +kernel
theorem dX10_canBeUndone_125 : decode cX10_canBeUndone 125 = .ok (.iaload, 1) := by decide +kernel
theorem dX10_canBeUndone_126 : decode cX10_canBeUndone 126 = .ok (.iastore, 1) := by decide +kernel
theorem dX10_canBeUndone_127 : decode cX10_canBeUndone 127 = .ok (.aload_n 0, 1) := by decide +kernel
theorem dX10_canBeUndone_128 : decode cX10_canBeUndone 128 = .ok (.getfield 35, 3) := by decide +kernel
theorem dX10_canBeUndone_131 : decode cX10_canBeUndone 131 = .ok (.bipush 8, 2) := by decide +kernel
theorem dX10_canBeUndone_133 : decode cX10_canBeUndone 133 = .ok (.aload_n 0, 1) := by decide +kernel
theorem dX10_canBeUndone_134 : decode cX10_canBeUndone 134 = .ok (.getfield 125, 3) := by decide +kernel
theorem dX10_canBeUndone_137 : decode cX10_canBeUndone 137 = .ok (.imul, 1) := by decide +kernel
theorem dX10_canBeUndone_138 : decode cX10_canBeUndone 138 = .ok (.iload_n 1, 1) := by decide +kernel
theorem dX10_canBeUndone_139 : decode cX10_canBeUndone 139 = .ok (.iadd, 1) := by decide +kernel
theorem dX10_canBeUndone_140 : decode cX10_canBeUndone 140 = .ok (.aload_n 0, 1) := by decide +kernel
theorem dX10_canBeUndone_141 : decode cX10_canBeUndone 141 = .ok (.getfield 26, 3) := by decide +kernel
theorem dX10_canBeUndone_144 : decode cX10_canBeUndone 144 = .ok (.iload_n 1, 1) := by decide +kernel
theorem dX10_canBeUndone_145 : decode cX10_canBeUndone 145 = .ok (.iaload, 1) := by decide +kernel
theorem dX10_canBeUndone_146 : decode cX10_canBeUndone 146 = .ok (.iastore, 1) := by decide +kernel
theorem dX10_canBeUndone_147 : decode cX10_canBeUndone 147 = .ok (.iinc 1 1, 3) := by decide +kernel
theorem dX10_canBeUndone_150 : decode cX10_canBeUndone 150 = .ok (.goto (-69), 3) := by decide +kernel
theorem dX10_canBeUndone_153 : decode cX10_canBeUndone 153 = .ok (.aload_n 0, 1) := by decide +kernel
theorem dX10_canBeUndone_154 : decode cX10_canBeUndone 154 = .ok (.dup, 1) := by decide +kernel
theorem dX10_canBeUndone_155 : decode cX10_canBeUndone 155 = .ok (.getfield 125, 3) := by decide +kernel
theorem dX10_canBeUndone_158 : decode cX10_canBeUndone 158 = .ok (.iconst 1, 1) := by decide +kernel
theorem dX10_canBeUndone_159 : decode cX10_canBeUndone 159 = .ok (.iadd, 1) := by decide +kernel
theorem dX10_canBeUndone_160 : decode cX10_canBeUndone 160 = .ok (.putfield 125, 3) := by decide +kernel
theorem dX10_canBeUndone_163 : decode cX10_canBeUndone 163 = .ok (.return_, 1) := by decide +kernel
theorem dX10_label_0 : decode cX10_label 0 = .ok (.aload_n 0, 1) := by decide +kernel
theorem dX10_label_1 : decode cX10_label 1 = .ok (.iload_n 1, 1) := by decide +kernel
theorem dX10_label_2 : decode cX10_label 2 = .ok (.invokevirtual 108, 3) := by decide +kernel
theorem dX10_label_5 : decode cX10_label 5 = .ok (.ifCond .ne 9, 3) := by decide +kernel
theorem dX10_label_8 : decode cX10_label 8 = .ok (.aload_n 0, 1) := by decide +kernel
theorem dX10_label_9 : decode cX10_label 9 = .ok (.iconst (-1), 1) := by decide +kernel
theorem dX10_label_10 : decode cX10_label 10 = .ok (.invokevirtual 87, 3) := by decide +kernel
theorem dX10_label_13 : decode cX10_label 13 = .ok (.ireturn, 1) := by decide +kernel
theorem dX10_label_14 : decode cX10_label 14 = .ok (.iload_n 2, 1) := by decide +kernel
theorem dX10_label_15 : decode cX10_label 15 = .ok (.ifCond .ge 10, 3) := by decide +kernel
theorem dX10_label_18 : decode cX10_label 18 = .ok (.aload_n 0, 1) := by decide +kernel
theorem dX10_label_19 : decode cX10_label 19 = .ok (.bipush (-4), 2) := by decide +kernel
theorem dX10_label_21 : decode cX10_label 21 = .ok (.invokevirtual 87, 3) := by decide +kernel
theorem dX10_label_24 : decode cX10_label 24 = .ok (.ireturn, 1) := by decide +kernel
theorem dX10_label_25 : decode cX10_label 25 = .ok (.iload_n 2, 1) := by decide +kernel
theorem dX10_label_26 : decode cX10_label 26 = .ok (.bipush 99, 2) := by decide +kernel
theorem dX10_label_28 : decode cX10_label 28 = .ok (.if_icmp .le 10, 3) := by decide +kernel
theorem dX10_label_31 : decode cX10_label 31 = .ok (.aload_n 0, 1) := by decide +kernel
theorem dX10_label_32 : decode cX10_label 32 = .ok (.bipush (-6), 2) := by decide +kernel
theorem dX10_label_34 : decode cX10_label 34 = .ok (.invokevirtual 87, 3) := by decide +kernel
theorem dX10_label_37 : decode cX10_label 37 = .ok (.ireturn, 1) := by decide +kernel
theorem dX10_label_38 : decode cX10_label 38 = .ok (.aload_n 0, 1) := by decide +kernel
theorem dX10_label_39 : decode cX10_label 39 = .ok (.invokevirtual 128, 3) := by decide +kernel
theorem dX10_label_42 : decode cX10_label 42 = .ok (.aload_n 0, 1) := by decide +kernel
theorem dX10_label_43 : decode cX10_label 43 = .ok (.getfield 26, 3) := by decide +kernel
theorem dX10_label_46 : decode cX10_label 46 = .ok (.iload_n 1, 1) := by decide +kernel
theorem dX10_label_47 : decode cX10_label 47 = .ok (.iaload, 1) := by decide +kernel
theorem dX10_label_48 : decode cX10_label 48 = .ok (.istore_n 3, 1) := by decide +kernel
theorem dX10_label_49 : decode cX10_label 49 = .ok (.aload_n 0, 1) := by decide +kernel
theorem dX10_label_50 : decode cX10_label 50 = .ok (.getfield 26, 3) := by decide +kernel
theorem dX10_label_53 : decode cX10_label 53 = .ok (.iload_n 1, 1) := by decide +kernel
theorem dX10_label_54 : decode cX10_label 54 = .ok (.iload_n 2, 1) := by decide +kernel
theorem dX10_label_55 : decode cX10_label 55 = .ok (.iastore, 1) := by decide +kernel
theorem dX10_label_56 : decode cX10_label 56 = .ok (.iload_n 3, 1) := by decide +kernel
theorem dX10_label_57 : decode cX10_label 57 = .ok (.ireturn, 1) := by decide +kernel
theorem dX10_turn_0 : decode cX10_turn 0 = .ok (.aload_n 0, 1) := by decide +kernel
theorem dX10_turn_1 : decode cX10_turn 1 = .ok (.iload_n 1, 1) := by decide +kernel
theorem dX10_turn_2 : decode cX10_turn 2 = .ok (.invokevirtual 108, 3) := by decide +kernel
theorem dX10_turn_5 : decode cX10_turn 5 = .ok (.ifCond .ne 9, 3) := by decide +kernel
theorem dX10_turn_8 : decode cX10_turn 8 = .ok (.aload_n 0, 1) := by decide +kernel
theorem dX10_turn_9 : decode cX10_turn 9 = .ok (.iconst (-1), 1) := by decide +kernel
theorem dX10_turn_10 : decode cX10_turn 10 = .ok (.invokevirtual 87, 3) := by decide +kernel
theorem dX10_turn_13 : decode cX10_turn 13 = .ok (.ireturn, 1) := by decide +kernel
theorem dX10_turn_14 : decode cX10_turn 14 = .ok (.iload_n 2, 1) := by decide +kernel
theorem dX10_turn_15 : decode cX10_turn 15 = .ok (.iconst 0, 1) := by decide +kernel
theorem dX10_turn_16 : decode cX10_turn 16 = .ok (.iconst 5, 1) := by decide +kernel
theorem dX10_turn_17 : decode cX10_turn 17 = .ok (.invokestatic 78, 3) := by decide +kernel
theorem dX10_turn_20 : decode cX10_turn 20 = .ok (.ifCond .ne 10, 3) := by decide +kernel
theorem dX10_turn_23 : decode cX10_turn 23 = .ok (.aload_n 0, 1) := by decide +kernel
theorem dX10_turn_24 : decode cX10_turn 24 = .ok (.bipush (-2), 2) := by decide +kernel
theorem dX10_turn_26 : decode cX10_turn 26 = .ok (.invokevirtual 87, 3) := by decide +kernel
theorem dX10_turn_29 : decode cX10_turn 29 = .ok (.ireturn, 1) := by decide +kernel
theorem dX10_turn_30 : decode cX10_turn 30 = .ok (.iload_n 3, 1) := by decide +kernel
theorem dX10_turn_31 : decode cX10_turn 31 = .ok (.ifCond .ge 10, 3) := by decide +kernel
theorem dX10_turn_34 : decode cX10_turn 34 = .ok (.aload_n 0, 1) := by decide +kernel
theorem dX10_turn_35 : decode cX10_turn 35 = .ok (.bipush (-4), 2) := by decide +kernel
theorem dX10_turn_37 : decode cX10_turn 37 = .ok (.invokevirtual 87, 3) := by decide +kernel
theorem dX10_turn_40 : decode cX10_turn 40 = .ok (.ireturn, 1) := by decide +kernel
theorem dX10_turn_41 : decode cX10_turn 41 = .ok (.iload_n 3, 1) := by decide +kernel
theorem dX10_turn_42 : decode cX10_turn 42 = .ok (.bipush 9, 2) := by decide +kernel
theorem dX10_turn_44 : decode cX10_turn 44 = .ok (.if_icmp .le 10, 3) := by decide +kernel
theorem dX10_turn_47 : decode cX10_turn 47 = .ok (.aload_n 0, 1) := by decide +kernel
theorem dX10_turn_48 : decode cX10_turn 48 = .ok (.bipush (-6), 2) := by decide +kernel
theorem dX10_turn_50 : decode cX10_turn 50 = .ok (.invokevirtual 87, 3) := by decide +kernel
theorem dX10_turn_53 : decode cX10_turn 53 = .ok (.ireturn, 1) := by decide +kernel
theorem dX10_turn_54 : decode cX10_turn 54 = .ok (.aload_n 0, 1) := by decide +kernel
theorem dX10_turn_55 : decode cX10_turn 55 = .ok (.invokevirtual 128, 3) := by decide +kernel
theorem dX10_turn_58 : decode cX10_turn 58 = .ok (.bipush 10, 2) := by decide +kernel
theorem dX10_turn_60 : decode cX10_turn 60 = .ok (.aload_n 0, 1) := by decide +kernel
theorem dX10_turn_61 : decode cX10_turn 61 = .ok (.getfield 13, 3) := by decide +kernel
theorem dX10_turn_64 : decode cX10_turn 64 = .ok (.iload_n 1, 1) := by decide +kernel
theorem dX10_turn_65 : decode cX10_turn 65 = .ok (.iaload, 1) := by decide +kernel
theorem dX10_turn_66 : decode cX10_turn 66 = .ok (.imul, 1) := by decide +kernel
theorem dX10_turn_67 : decode cX10_turn 67 = .ok (.aload_n 0, 1) := by decide +kernel
theorem dX10_turn_68 : decode cX10_turn 68 = .ok (.getfield 17, 3) := by decide +kernel
theorem dX10_turn_71 : decode cX10_turn 71 = .ok (.iload_n 1, 1) := by decide +kernel
theorem dX10_turn_72 : decode cX10_turn 72 = .ok (.iaload, 1) := by decide +kernel
theorem dX10_turn_73 : decode cX10_turn 73 = .ok (.iadd, 1) := by decide +kernel
theorem dX10_turn_74 : decode cX10_turn 74 = .ok (.istore 4, 2) := by decide +kernel
theorem dX10_turn_76 : decode cX10_turn 76 = .ok (.aload_n 0, 1) := by decide +kernel
theorem dX10_turn_77 : decode cX10_turn 77 = .ok (.getfield 13, 3) := by decide +kernel
theorem dX10_turn_80 : decode cX10_turn 80 = .ok (.iload_n 1, 1) := by decide +kernel
theorem dX10_turn_81 : decode cX10_turn 81 = .ok (.iload_n 2, 1) := by decide +kernel
theorem dX10_turn_82 : decode cX10_turn 82 = .ok (.iastore, 1) := by decide +kernel
theorem dX10_turn_83 : decode cX10_turn 83 = .ok (.aload_n 0, 1) := by decide +kernel
theorem dX10_turn_84 : decode cX10_turn 84 = .ok (.getfield 17, 3) := by decide +kernel
theorem dX10_turn_87 : decode cX10_turn 87 = .ok (.iload_n 1, 1) := by decide +kernel
theorem dX10_turn_88 : decode cX10_turn 88 = .ok (.iload_n 3, 1) := by decide +kernel
theorem dX10_turn_89 : decode cX10_turn 89 = .ok (.iastore, 1) := by decide +kernel
theorem dX10_turn_90 : decode cX10_turn 90 = .ok (.iload 4, 2) := by decide +kernel
theorem dX10_turn_92 : decode cX10_turn 92 = .ok (.ireturn, 1) := by decide +kernel
theorem dX10_forth_0 : decode cX10_forth 0 = .ok (.aload_n 0, 1) := by decide +kernel
theorem dX10_forth_1 : decode cX10_forth 1 = .ok (.getfield 13, 3) := by decide +kernel
theorem dX10_forth_4 : decode cX10_forth 4 = .ok (.iload_n 1, 1) := by decide +kernel
theorem dX10_forth_5 : decode cX10_forth 5 = .ok (.iaload, 1) := by decide +kernel
theorem dX10_forth_6 : decode cX10_forth 6 = .ok (.iconst 2, 1) := by decide +kernel
theorem dX10_forth_7 : decode cX10_forth 7 = .ok (.if_icmp .ne 7, 3) := by decide +kernel
theorem dX10_forth_10 : decode cX10_forth 10 = .ok (.iconst 2, 1) := by decide +kernel
theorem dX10_forth_11 : decode cX10_forth 11 = .ok (.goto 39, 3) := by decide +kernel
theorem dX10_forth_14 : decode cX10_forth 14 = .ok (.aload_n 0, 1) := by decide +kernel
theorem dX10_forth_15 : decode cX10_forth 15 = .ok (.getfield 13, 3) := by decide +kernel
theorem dX10_forth_18 : decode cX10_forth 18 = .ok (.iload_n 1, 1) := by decide +kernel
theorem dX10_forth_19 : decode cX10_forth 19 = .ok (.iaload, 1) := by decide +kernel
theorem dX10_forth_20 : decode cX10_forth 20 = .ok (.iconst 3, 1) := by decide +kernel
theorem dX10_forth_21 : decode cX10_forth 21 = .ok (.if_icmp .ne 7, 3) := by decide +kernel
theorem dX10_forth_24 : decode cX10_forth 24 = .ok (.iconst 0, 1) := by decide +kernel
theorem dX10_forth_25 : decode cX10_forth 25 = .ok (.goto 25, 3) := by decide +kernel
theorem dX10_forth_28 : decode cX10_forth 28 = .ok (.aload_n 0, 1) := by decide +kernel
theorem dX10_forth_29 : decode cX10_forth 29 = .ok (.getfield 13, 3) := by decide +kernel
theorem dX10_forth_32 : decode cX10_forth 32 = .ok (.iload_n 1, 1) := by decide +kernel
theorem dX10_forth_33 : decode cX10_forth 33 = .ok (.iaload, 1) := by decide +kernel
theorem dX10_forth_34 : decode cX10_forth 34 = .ok (.iconst 4, 1) := by decide +kernel
theorem dX10_forth_35 : decode cX10_forth 35 = .ok (.if_icmp .ne 14, 3) := by decide +kernel
theorem dX10_forth_38 : decode cX10_forth 38 = .ok (.iconst 2, 1) := by decide +kernel
theorem dX10_forth_39 : decode cX10_forth 39 = .ok (.aload_n 0, 1) := by decide +kernel
theorem dX10_forth_40 : decode cX10_forth 40 = .ok (.getfield 17, 3) := by decide +kernel
theorem dX10_forth_43 : decode cX10_forth 43 = .ok (.iload_n 1, 1) := by decide +kernel
theorem dX10_forth_44 : decode cX10_forth 44 = .ok (.iaload, 1) := by decide +kernel
theorem dX10_forth_45 : decode cX10_forth 45 = .ok (.iadd, 1) := by decide +kernel
theorem dX10_forth_46 : decode cX10_forth 46 = .ok (.goto 4, 3) := by decide +kernel
theorem dX10_forth_49 : decode cX10_forth 49 = .ok (.iconst 1, 1) := by decide +kernel
theorem dX10_forth_50 : decode cX10_forth 50 = .ok (.ireturn, 1) := by decide +kernel
theorem dX10_back_0 : decode cX10_back 0 = .ok (.aload_n 0, 1) := by decide +kernel
theorem dX10_back_1 : decode cX10_back 1 = .ok (.getfield 13, 3) := by decide +kernel
theorem dX10_back_4 : decode cX10_back 4 = .ok (.iload_n 1, 1) := by decide +kernel
theorem dX10_back_5 : decode cX10_back 5 = .ok (.iaload, 1) := by decide +kernel
theorem dX10_back_6 : decode cX10_back 6 = .ok (.iconst 1, 1) := by decide +kernel
theorem dX10_back_7 : decode cX10_back 7 = .ok (.if_icmp .ne 7, 3) := by decide +kernel
theorem dX10_back_10 : decode cX10_back 10 = .ok (.iconst 0, 1) := by decide +kernel
theorem dX10_back_11 : decode cX10_back 11 = .ok (.goto 51, 3) := by decide +kernel
theorem dX10_back_14 : decode cX10_back 14 = .ok (.aload_n 0, 1) := by decide +kernel
theorem dX10_back_15 : decode cX10_back 15 = .ok (.getfield 13, 3) := by decide +kernel
theorem dX10_back_18 : decode cX10_back 18 = .ok (.iload_n 1, 1) := by decide +kernel
theorem dX10_back_19 : decode cX10_back 19 = .ok (.iaload, 1) := by decide +kernel
theorem dX10_back_20 : decode cX10_back 20 = .ok (.iconst 2, 1) := by decide +kernel
theorem dX10_back_21 : decode cX10_back 21 = .ok (.if_icmp .eq 13, 3) := by decide +kernel
theorem dX10_back_24 : decode cX10_back 24 = .ok (.aload_n 0, 1) := by decide +kernel
theorem dX10_back_25 : decode cX10_back 25 = .ok (.getfield 13, 3) := by decide +kernel
theorem dX10_back_28 : decode cX10_back 28 = .ok (.iload_n 1, 1) := by decide +kernel
theorem dX10_back_29 : decode cX10_back 29 = .ok (.iaload, 1) := by decide +kernel
theorem dX10_back_30 : decode cX10_back 30 = .ok (.iconst 4, 1) := by decide +kernel
theorem dX10_back_31 : decode cX10_back 31 = .ok (.if_icmp .ne 7, 3) := by decide +kernel
theorem dX10_back_34 : decode cX10_back 34 = .ok (.iconst 2, 1) := by decide +kernel
theorem dX10_back_35 : decode cX10_back 35 = .ok (.goto 27, 3) := by decide +kernel
theorem dX10_back_38 : decode cX10_back 38 = .ok (.aload_n 0, 1) := by decide +kernel
theorem dX10_back_39 : decode cX10_back 39 = .ok (.getfield 13, 3) := by decide +kernel
theorem dX10_back_42 : decode cX10_back 42 = .ok (.iload_n 1, 1) := by decide +kernel
theorem dX10_back_43 : decode cX10_back 43 = .ok (.iaload, 1) := by decide +kernel
theorem dX10_back_44 : decode cX10_back 44 = .ok (.iconst 5, 1) := by decide +kernel
theorem dX10_back_45 : decode cX10_back 45 = .ok (.if_icmp .ne 16, 3) := by decide +kernel
theorem dX10_back_48 : decode cX10_back 48 = .ok (.iconst 1, 1) := by decide +kernel
theorem dX10_back_49 : decode cX10_back 49 = .ok (.aload_n 0, 1) := by decide +kernel
theorem dX10_back_50 : decode cX10_back 50 = .ok (.getfield 17, 3) := by decide +kernel
theorem dX10_back_53 : decode cX10_back 53 = .ok (.iload_n 1, 1) := by decide +kernel
theorem dX10_back_54 : decode cX10_back 54 = .ok (.iaload, 1) := by decide +kernel
theorem dX10_back_55 : decode cX10_back 55 = .ok (.iconst 2, 1) := by decide +kernel
theorem dX10_back_56 : decode cX10_back 56 = .ok (.irem, 1) := by decide +kernel
theorem dX10_back_57 : decode cX10_back 57 = .ok (.isub, 1) := by decide +kernel
theorem dX10_back_58 : decode cX10_back 58 = .ok (.goto 4, 3) := by decide +kernel
theorem dX10_back_61 : decode cX10_back 61 = .ok (.iconst 1, 1) := by decide +kernel
theorem dX10_back_62 : decode cX10_back 62 = .ok (.ireturn, 1) := by decide +kernel
theorem dX10_of_0 : decode cX10_of 0 = .ok (.aload_n 0, 1) := by decide +kernel
theorem dX10_of_1 : decode cX10_of 1 = .ok (.iload_n 1, 1) := by decide +kernel
theorem dX10_of_2 : decode cX10_of 2 = .ok (.invokevirtual 108, 3) := by decide +kernel
theorem dX10_of_5 : decode cX10_of 5 = .ok (.ifCond .ne 9, 3) := by decide +kernel
theorem dX10_of_8 : decode cX10_of 8 = .ok (.aload_n 0, 1) := by decide +kernel
theorem dX10_of_9 : decode cX10_of 9 = .ok (.iconst (-1), 1) := by decide +kernel
theorem dX10_of_10 : decode cX10_of 10 = .ok (.invokevirtual 87, 3) := by decide +kernel
theorem dX10_of_13 : decode cX10_of 13 = .ok (.ireturn, 1) := by decide +kernel
theorem dX10_of_14 : decode cX10_of 14 = .ok (.iload_n 2, 1) := by decide +kernel
theorem dX10_of_15 : decode cX10_of 15 = .ok (.tableswitch 88 0 6 #[41, 48, 55, 62, 69, 76, 82], 41) := by decide +kernel
theorem dX10_of_56 : decode cX10_of 56 = .ok (.aload_n 0, 1) := by decide +kernel
theorem dX10_of_57 : decode cX10_of 57 = .ok (.getfield 13, 3) := by decide +kernel
theorem dX10_of_60 : decode cX10_of 60 = .ok (.iload_n 1, 1) := by decide +kernel
theorem dX10_of_61 : decode cX10_of 61 = .ok (.iaload, 1) := by decide +kernel
theorem dX10_of_62 : decode cX10_of 62 = .ok (.ireturn, 1) := by decide +kernel
theorem dX10_of_63 : decode cX10_of 63 = .ok (.aload_n 0, 1) := by decide +kernel
theorem dX10_of_64 : decode cX10_of 64 = .ok (.getfield 17, 3) := by decide +kernel
theorem dX10_of_67 : decode cX10_of 67 = .ok (.iload_n 1, 1) := by decide +kernel
theorem dX10_of_68 : decode cX10_of 68 = .ok (.iaload, 1) := by decide +kernel
theorem dX10_of_69 : decode cX10_of 69 = .ok (.ireturn, 1) := by decide +kernel
theorem dX10_of_70 : decode cX10_of 70 = .ok (.aload_n 0, 1) := by decide +kernel
theorem dX10_of_71 : decode cX10_of 71 = .ok (.getfield 20, 3) := by decide +kernel
theorem dX10_of_74 : decode cX10_of 74 = .ok (.iload_n 1, 1) := by decide +kernel
theorem dX10_of_75 : decode cX10_of 75 = .ok (.iaload, 1) := by decide +kernel
theorem dX10_of_76 : decode cX10_of 76 = .ok (.ireturn, 1) := by decide +kernel
theorem dX10_of_77 : decode cX10_of 77 = .ok (.aload_n 0, 1) := by decide +kernel
theorem dX10_of_78 : decode cX10_of 78 = .ok (.getfield 23, 3) := by decide +kernel
theorem dX10_of_81 : decode cX10_of 81 = .ok (.iload_n 1, 1) := by decide +kernel
theorem dX10_of_82 : decode cX10_of 82 = .ok (.iaload, 1) := by decide +kernel
theorem dX10_of_83 : decode cX10_of 83 = .ok (.ireturn, 1) := by decide +kernel
theorem dX10_of_84 : decode cX10_of 84 = .ok (.aload_n 0, 1) := by decide +kernel
theorem dX10_of_85 : decode cX10_of 85 = .ok (.getfield 26, 3) := by decide +kernel
theorem dX10_of_88 : decode cX10_of 88 = .ok (.iload_n 1, 1) := by decide +kernel
theorem dX10_of_89 : decode cX10_of 89 = .ok (.iaload, 1) := by decide +kernel
theorem dX10_of_90 : decode cX10_of 90 = .ok (.ireturn, 1) := by decide +kernel
theorem dX10_of_91 : decode cX10_of 91 = .ok (.aload_n 0, 1) := by decide +kernel
theorem dX10_of_92 : decode cX10_of 92 = .ok (.iload_n 1, 1) := by decide +kernel
theorem dX10_of_93 : decode cX10_of 93 = .ok (.invokevirtual 131, 3) := by decide +kernel
theorem dX10_of_96 : decode cX10_of 96 = .ok (.ireturn, 1) := by decide +kernel
theorem dX10_of_97 : decode cX10_of 97 = .ok (.aload_n 0, 1) := by decide +kernel
theorem dX10_of_98 : decode cX10_of 98 = .ok (.iload_n 1, 1) := by decide +kernel
theorem dX10_of_99 : decode cX10_of 99 = .ok (.invokevirtual 134, 3) := by decide +kernel
theorem dX10_of_102 : decode cX10_of 102 = .ok (.ireturn, 1) := by decide +kernel
theorem dX10_of_103 : decode cX10_of 103 = .ok (.aload_n 0, 1) := by decide +kernel
theorem dX10_of_104 : decode cX10_of 104 = .ok (.bipush (-2), 2) := by decide +kernel
theorem dX10_of_106 : decode cX10_of 106 = .ok (.invokevirtual 87, 3) := by decide +kernel
theorem dX10_of_109 : decode cX10_of 109 = .ok (.ireturn, 1) := by decide +kernel
theorem dX10_taken_0 : decode cX10_taken 0 = .ok (.aload_n 0, 1) := by decide +kernel
theorem dX10_taken_1 : decode cX10_taken 1 = .ok (.iload_n 1, 1) := by decide +kernel
theorem dX10_taken_2 : decode cX10_taken 2 = .ok (.invokevirtual 108, 3) := by decide +kernel
theorem dX10_taken_5 : decode cX10_taken 5 = .ok (.ifCond .ne 9, 3) := by decide +kernel
theorem dX10_taken_8 : decode cX10_taken 8 = .ok (.aload_n 0, 1) := by decide +kernel
theorem dX10_taken_9 : decode cX10_taken 9 = .ok (.iconst (-1), 1) := by decide +kernel
theorem dX10_taken_10 : decode cX10_taken 10 = .ok (.invokevirtual 87, 3) := by decide +kernel
theorem dX10_taken_13 : decode cX10_taken 13 = .ok (.ireturn, 1) := by decide +kernel
theorem dX10_taken_14 : decode cX10_taken 14 = .ok (.iload_n 2, 1) := by decide +kernel
theorem dX10_taken_15 : decode cX10_taken 15 = .ok (.iconst 0, 1) := by decide +kernel
theorem dX10_taken_16 : decode cX10_taken 16 = .ok (.iconst 5, 1) := by decide +kernel
theorem dX10_taken_17 : decode cX10_taken 17 = .ok (.invokestatic 78, 3) := by decide +kernel
theorem dX10_taken_20 : decode cX10_taken 20 = .ok (.ifCond .ne 10, 3) := by decide +kernel
theorem dX10_taken_23 : decode cX10_taken 23 = .ok (.aload_n 0, 1) := by decide +kernel
theorem dX10_taken_24 : decode cX10_taken 24 = .ok (.bipush (-2), 2) := by decide +kernel
theorem dX10_taken_26 : decode cX10_taken 26 = .ok (.invokevirtual 87, 3) := by decide +kernel
theorem dX10_taken_29 : decode cX10_taken 29 = .ok (.ireturn, 1) := by decide +kernel
theorem dX10_taken_30 : decode cX10_taken 30 = .ok (.aload_n 0, 1) := by decide +kernel
theorem dX10_taken_31 : decode cX10_taken 31 = .ok (.getfield 13, 3) := by decide +kernel
theorem dX10_taken_34 : decode cX10_taken 34 = .ok (.iload_n 1, 1) := by decide +kernel
theorem dX10_taken_35 : decode cX10_taken 35 = .ok (.iaload, 1) := by decide +kernel
theorem dX10_taken_36 : decode cX10_taken 36 = .ok (.istore_n 3, 1) := by decide +kernel
theorem dX10_taken_37 : decode cX10_taken 37 = .ok (.iload_n 2, 1) := by decide +kernel
theorem dX10_taken_38 : decode cX10_taken 38 = .ok (.ifCond .eq 28, 3) := by decide +kernel
theorem dX10_taken_41 : decode cX10_taken 41 = .ok (.iload_n 3, 1) := by decide +kernel
theorem dX10_taken_42 : decode cX10_taken 42 = .ok (.iload_n 2, 1) := by decide +kernel
theorem dX10_taken_43 : decode cX10_taken 43 = .ok (.if_icmp .eq 23, 3) := by decide +kernel
theorem dX10_taken_46 : decode cX10_taken 46 = .ok (.iload_n 2, 1) := by decide +kernel
theorem dX10_taken_47 : decode cX10_taken 47 = .ok (.iconst 1, 1) := by decide +kernel
theorem dX10_taken_48 : decode cX10_taken 48 = .ok (.if_icmp .ne 8, 3) := by decide +kernel
theorem dX10_taken_51 : decode cX10_taken 51 = .ok (.iload_n 3, 1) := by decide +kernel
theorem dX10_taken_52 : decode cX10_taken 52 = .ok (.iconst 3, 1) := by decide +kernel
theorem dX10_taken_53 : decode cX10_taken 53 = .ok (.if_icmp .eq 13, 3) := by decide +kernel
theorem dX10_taken_56 : decode cX10_taken 56 = .ok (.iload_n 2, 1) := by decide +kernel
theorem dX10_taken_57 : decode cX10_taken 57 = .ok (.iconst 2, 1) := by decide +kernel
theorem dX10_taken_58 : decode cX10_taken 58 = .ok (.if_icmp .ne 12, 3) := by decide +kernel
theorem dX10_taken_61 : decode cX10_taken 61 = .ok (.iload_n 3, 1) := by decide +kernel
theorem dX10_taken_62 : decode cX10_taken 62 = .ok (.iconst 4, 1) := by decide +kernel
theorem dX10_taken_63 : decode cX10_taken 63 = .ok (.if_icmp .ne 7, 3) := by decide +kernel
theorem dX10_taken_66 : decode cX10_taken 66 = .ok (.iload_n 3, 1) := by decide +kernel
theorem dX10_taken_67 : decode cX10_taken 67 = .ok (.goto 5, 3) := by decide +kernel
theorem dX10_taken_70 : decode cX10_taken 70 = .ok (.bipush (-16), 2) := by decide +kernel
theorem dX10_taken_72 : decode cX10_taken 72 = .ok (.ireturn, 1) := by decide +kernel
theorem dX10_weight_0 : decode cX10_weight 0 = .ok (.aload_n 0, 1) := by decide +kernel
theorem dX10_weight_1 : decode cX10_weight 1 = .ok (.getfield 20, 3) := by decide +kernel
theorem dX10_weight_4 : decode cX10_weight 4 = .ok (.iload_n 2, 1) := by decide +kernel
theorem dX10_weight_5 : decode cX10_weight 5 = .ok (.iaload, 1) := by decide +kernel
theorem dX10_weight_6 : decode cX10_weight 6 = .ok (.iload_n 1, 1) := by decide +kernel
theorem dX10_weight_7 : decode cX10_weight 7 = .ok (.if_icmp .ne 11, 3) := by decide +kernel
theorem dX10_weight_10 : decode cX10_weight 10 = .ok (.aload_n 0, 1) := by decide +kernel
theorem dX10_weight_11 : decode cX10_weight 11 = .ok (.iload_n 2, 1) := by decide +kernel
theorem dX10_weight_12 : decode cX10_weight 12 = .ok (.invokevirtual 131, 3) := by decide +kernel
theorem dX10_weight_15 : decode cX10_weight 15 = .ok (.goto 4, 3) := by decide +kernel
theorem dX10_weight_18 : decode cX10_weight 18 = .ok (.iconst 0, 1) := by decide +kernel
theorem dX10_weight_19 : decode cX10_weight 19 = .ok (.aload_n 0, 1) := by decide +kernel
theorem dX10_weight_20 : decode cX10_weight 20 = .ok (.getfield 23, 3) := by decide +kernel
theorem dX10_weight_23 : decode cX10_weight 23 = .ok (.iload_n 2, 1) := by decide +kernel
theorem dX10_weight_24 : decode cX10_weight 24 = .ok (.iaload, 1) := by decide +kernel
theorem dX10_weight_25 : decode cX10_weight 25 = .ok (.iload_n 1, 1) := by decide +kernel
theorem dX10_weight_26 : decode cX10_weight 26 = .ok (.if_icmp .ne 11, 3) := by decide +kernel
theorem dX10_weight_29 : decode cX10_weight 29 = .ok (.aload_n 0, 1) := by decide +kernel
theorem dX10_weight_30 : decode cX10_weight 30 = .ok (.iload_n 2, 1) := by decide +kernel
theorem dX10_weight_31 : decode cX10_weight 31 = .ok (.invokevirtual 134, 3) := by decide +kernel
theorem dX10_weight_34 : decode cX10_weight 34 = .ok (.goto 4, 3) := by decide +kernel
theorem dX10_weight_37 : decode cX10_weight 37 = .ok (.iconst 0, 1) := by decide +kernel
theorem dX10_weight_38 : decode cX10_weight 38 = .ok (.iadd, 1) := by decide +kernel
theorem dX10_weight_39 : decode cX10_weight 39 = .ok (.ireturn, 1) := by decide +kernel
theorem dX10_table_0 : decode cX10_table 0 = .ok (.aload_n 0, 1) := by decide +kernel
theorem dX10_table_1 : decode cX10_table 1 = .ok (.iload_n 1, 1) := by decide +kernel
theorem dX10_table_2 : decode cX10_table 2 = .ok (.invokevirtual 100, 3) := by decide +kernel
theorem dX10_table_5 : decode cX10_table 5 = .ok (.ifCond .eq 20, 3) := by decide +kernel
theorem dX10_table_8 : decode cX10_table 8 = .ok (.aload_n 0, 1) := by decide +kernel
theorem dX10_table_9 : decode cX10_table 9 = .ok (.iload_n 2, 1) := by decide +kernel
theorem dX10_table_10 : decode cX10_table 10 = .ok (.invokevirtual 108, 3) := by decide +kernel
theorem dX10_table_13 : decode cX10_table 13 = .ok (.ifCond .eq 12, 3) := by decide +kernel
theorem dX10_table_16 : decode cX10_table 16 = .ok (.aload_n 0, 1) := by decide +kernel
theorem dX10_table_17 : decode cX10_table 17 = .ok (.iload_n 1, 1) := by decide +kernel
theorem dX10_table_18 : decode cX10_table 18 = .ok (.iload_n 2, 1) := by decide +kernel
theorem dX10_table_19 : decode cX10_table 19 = .ok (.invokevirtual 137, 3) := by decide +kernel
theorem dX10_table_22 : decode cX10_table 22 = .ok (.goto 8, 3) := by decide +kernel
theorem dX10_table_25 : decode cX10_table 25 = .ok (.aload_n 0, 1) := by decide +kernel
theorem dX10_table_26 : decode cX10_table 26 = .ok (.iconst (-1), 1) := by decide +kernel
theorem dX10_table_27 : decode cX10_table 27 = .ok (.invokevirtual 87, 3) := by decide +kernel
theorem dX10_table_30 : decode cX10_table 30 = .ok (.ireturn, 1) := by decide +kernel
theorem dX10_layWeights_0 : decode cX10_layWeights 0 = .ok (.iconst 0, 1) := by decide +kernel
theorem dX10_layWeights_1 : decode cX10_layWeights 1 = .ok (.istore_n 1, 1) := by decide +kernel
theorem dX10_layWeights_2 : decode cX10_layWeights 2 = .ok (.iload_n 1, 1) := by decide +kernel
theorem dX10_layWeights_3 : decode cX10_layWeights 3 = .ok (.aload_n 0, 1) := by decide +kernel
theorem dX10_layWeights_4 : decode cX10_layWeights 4 = .ok (.getfield 7, 3) := by decide +kernel
theorem dX10_layWeights_7 : decode cX10_layWeights 7 = .ok (.if_icmp .ge 42, 3) := by decide +kernel
theorem dX10_layWeights_10 : decode cX10_layWeights 10 = .ok (.iconst 0, 1) := by decide +kernel
theorem dX10_layWeights_11 : decode cX10_layWeights 11 = .ok (.istore_n 2, 1) := by decide +kernel
theorem dX10_layWeights_12 : decode cX10_layWeights 12 = .ok (.iload_n 2, 1) := by decide +kernel
theorem dX10_layWeights_13 : decode cX10_layWeights 13 = .ok (.aload_n 0, 1) := by decide +kernel
theorem dX10_layWeights_14 : decode cX10_layWeights 14 = .ok (.getfield 82, 3) := by decide +kernel
theorem dX10_layWeights_17 : decode cX10_layWeights 17 = .ok (.if_icmp .ge 26, 3) := by decide +kernel
theorem dX10_layWeights_20 : decode cX10_layWeights 20 = .ok (.aload_n 0, 1) := by decide +kernel
theorem dX10_layWeights_21 : decode cX10_layWeights 21 = .ok (.getfield 56, 3) := by decide +kernel
theorem dX10_layWeights_24 : decode cX10_layWeights 24 = .ok (.bipush 8, 2) := by decide +kernel
theorem dX10_layWeights_26 : decode cX10_layWeights 26 = .ok (.iload_n 1, 1) := by decide +kernel
theorem dX10_layWeights_27 : decode cX10_layWeights 27 = .ok (.imul, 1) := by decide +kernel
theorem dX10_layWeights_28 : decode cX10_layWeights 28 = .ok (.iload_n 2, 1) := by decide +kernel
theorem dX10_layWeights_29 : decode cX10_layWeights 29 = .ok (.iadd, 1) := by decide +kernel
theorem dX10_layWeights_30 : decode cX10_layWeights 30 = .ok (.aload_n 0, 1) := by decide +kernel
theorem dX10_layWeights_31 : decode cX10_layWeights 31 = .ok (.iload_n 1, 1) := by decide +kernel
theorem dX10_layWeights_32 : decode cX10_layWeights 32 = .ok (.iload_n 2, 1) := by decide +kernel
theorem dX10_layWeights_33 : decode cX10_layWeights 33 = .ok (.invokevirtual 137, 3) := by decide +kernel
theorem dX10_layWeights_36 : decode cX10_layWeights 36 = .ok (.iastore, 1) := by decide +kernel
theorem dX10_layWeights_37 : decode cX10_layWeights 37 = .ok (.iinc 2 1, 3) := by decide +kernel
theorem dX10_layWeights_40 : decode cX10_layWeights 40 = .ok (.goto (-28), 3) := by decide +kernel
theorem dX10_layWeights_43 : decode cX10_layWeights 43 = .ok (.iinc 1 1, 3) := by decide +kernel
theorem dX10_layWeights_46 : decode cX10_layWeights 46 = .ok (.goto (-44), 3) := by decide +kernel
theorem dX10_layWeights_49 : decode cX10_layWeights 49 = .ok (.return_, 1) := by decide +kernel
theorem dX10_laySums_0 : decode cX10_laySums 0 = .ok (.iconst 0, 1) := by decide +kernel
theorem dX10_laySums_1 : decode cX10_laySums 1 = .ok (.istore_n 1, 1) := by decide +kernel
theorem dX10_laySums_2 : decode cX10_laySums 2 = .ok (.iload_n 1, 1) := by decide +kernel
theorem dX10_laySums_3 : decode cX10_laySums 3 = .ok (.aload_n 0, 1) := by decide +kernel
theorem dX10_laySums_4 : decode cX10_laySums 4 = .ok (.getfield 7, 3) := by decide +kernel
theorem dX10_laySums_7 : decode cX10_laySums 7 = .ok (.if_icmp .ge 59, 3) := by decide +kernel
theorem dX10_laySums_10 : decode cX10_laySums 10 = .ok (.aload_n 0, 1) := by decide +kernel
theorem dX10_laySums_11 : decode cX10_laySums 11 = .ok (.getfield 53, 3) := by decide +kernel
theorem dX10_laySums_14 : decode cX10_laySums 14 = .ok (.iload_n 1, 1) := by decide +kernel
theorem dX10_laySums_15 : decode cX10_laySums 15 = .ok (.iconst 0, 1) := by decide +kernel
theorem dX10_laySums_16 : decode cX10_laySums 16 = .ok (.iastore, 1) := by decide +kernel
theorem dX10_laySums_17 : decode cX10_laySums 17 = .ok (.iconst 0, 1) := by decide +kernel
theorem dX10_laySums_18 : decode cX10_laySums 18 = .ok (.istore_n 2, 1) := by decide +kernel
theorem dX10_laySums_19 : decode cX10_laySums 19 = .ok (.iload_n 2, 1) := by decide +kernel
theorem dX10_laySums_20 : decode cX10_laySums 20 = .ok (.aload_n 0, 1) := by decide +kernel
theorem dX10_laySums_21 : decode cX10_laySums 21 = .ok (.getfield 82, 3) := by decide +kernel
theorem dX10_laySums_24 : decode cX10_laySums 24 = .ok (.if_icmp .ge 36, 3) := by decide +kernel
theorem dX10_laySums_27 : decode cX10_laySums 27 = .ok (.aload_n 0, 1) := by decide +kernel
theorem dX10_laySums_28 : decode cX10_laySums 28 = .ok (.getfield 53, 3) := by decide +kernel
theorem dX10_laySums_31 : decode cX10_laySums 31 = .ok (.iload_n 1, 1) := by decide +kernel
theorem dX10_laySums_32 : decode cX10_laySums 32 = .ok (.dup2, 1) := by decide +kernel
theorem dX10_laySums_33 : decode cX10_laySums 33 = .ok (.iaload, 1) := by decide +kernel
theorem dX10_laySums_34 : decode cX10_laySums 34 = .ok (.aload_n 0, 1) := by decide +kernel
theorem dX10_laySums_35 : decode cX10_laySums 35 = .ok (.getfield 50, 3) := by decide +kernel
theorem dX10_laySums_38 : decode cX10_laySums 38 = .ok (.iload_n 2, 1) := by decide +kernel
theorem dX10_laySums_39 : decode cX10_laySums 39 = .ok (.iaload, 1) := by decide +kernel
theorem dX10_laySums_40 : decode cX10_laySums 40 = .ok (.aload_n 0, 1) := by decide +kernel
theorem dX10_laySums_41 : decode cX10_laySums 41 = .ok (.getfield 56, 3) := by decide +kernel
theorem dX10_laySums_44 : decode cX10_laySums 44 = .ok (.bipush 8, 2) := by decide +kernel
theorem dX10_laySums_46 : decode cX10_laySums 46 = .ok (.iload_n 1, 1) := by decide +kernel
theorem dX10_laySums_47 : decode cX10_laySums 47 = .ok (.imul, 1) := by decide +kernel
theorem dX10_laySums_48 : decode cX10_laySums 48 = .ok (.iload_n 2, 1) := by decide +kernel
theorem dX10_laySums_49 : decode cX10_laySums 49 = .ok (.iadd, 1) := by decide +kernel
theorem dX10_laySums_50 : decode cX10_laySums 50 = .ok (.iaload, 1) := by decide +kernel
theorem dX10_laySums_51 : decode cX10_laySums 51 = .ok (.imul, 1) := by decide +kernel
theorem dX10_laySums_52 : decode cX10_laySums 52 = .ok (.iadd, 1) := by decide +kernel
theorem dX10_laySums_53 : decode cX10_laySums 53 = .ok (.iastore, 1) := by decide +kernel
theorem dX10_laySums_54 : decode cX10_laySums 54 = .ok (.iinc 2 1, 3) := by decide +kernel
theorem dX10_laySums_57 : decode cX10_laySums 57 = .ok (.goto (-38), 3) := by decide +kernel
theorem dX10_laySums_60 : decode cX10_laySums 60 = .ok (.iinc 1 1, 3) := by decide +kernel
theorem dX10_laySums_63 : decode cX10_laySums 63 = .ok (.goto (-61), 3) := by decide +kernel
theorem dX10_laySums_66 : decode cX10_laySums 66 = .ok (.return_, 1) := by decide +kernel
theorem dX10_layNow_0 : decode cX10_layNow 0 = .ok (.iconst 0, 1) := by decide +kernel
theorem dX10_layNow_1 : decode cX10_layNow 1 = .ok (.istore_n 1, 1) := by decide +kernel
theorem dX10_layNow_2 : decode cX10_layNow 2 = .ok (.iload_n 1, 1) := by decide +kernel
theorem dX10_layNow_3 : decode cX10_layNow 3 = .ok (.aload_n 0, 1) := by decide +kernel
theorem dX10_layNow_4 : decode cX10_layNow 4 = .ok (.getfield 82, 3) := by decide +kernel
theorem dX10_layNow_7 : decode cX10_layNow 7 = .ok (.if_icmp .ge 21, 3) := by decide +kernel
theorem dX10_layNow_10 : decode cX10_layNow 10 = .ok (.aload_n 0, 1) := by decide +kernel
theorem dX10_layNow_11 : decode cX10_layNow 11 = .ok (.getfield 50, 3) := by decide +kernel
theorem dX10_layNow_14 : decode cX10_layNow 14 = .ok (.iload_n 1, 1) := by decide +kernel
theorem dX10_layNow_15 : decode cX10_layNow 15 = .ok (.aload_n 0, 1) := by decide +kernel
theorem dX10_layNow_16 : decode cX10_layNow 16 = .ok (.getfield 26, 3) := by decide +kernel
theorem dX10_layNow_19 : decode cX10_layNow 19 = .ok (.iload_n 1, 1) := by decide +kernel
theorem dX10_layNow_20 : decode cX10_layNow 20 = .ok (.iaload, 1) := by decide +kernel
theorem dX10_layNow_21 : decode cX10_layNow 21 = .ok (.iastore, 1) := by decide +kernel
theorem dX10_layNow_22 : decode cX10_layNow 22 = .ok (.iinc 1 1, 3) := by decide +kernel
theorem dX10_layNow_25 : decode cX10_layNow 25 = .ok (.goto (-23), 3) := by decide +kernel
theorem dX10_layNow_28 : decode cX10_layNow 28 = .ok (.aload_n 0, 1) := by decide +kernel
theorem dX10_layNow_29 : decode cX10_layNow 29 = .ok (.invokevirtual 141, 3) := by decide +kernel
theorem dX10_layNow_32 : decode cX10_layNow 32 = .ok (.aload_n 0, 1) := by decide +kernel
theorem dX10_layNow_33 : decode cX10_layNow 33 = .ok (.invokevirtual 144, 3) := by decide +kernel
theorem dX10_layNow_36 : decode cX10_layNow 36 = .ok (.return_, 1) := by decide +kernel
theorem dX10_often_0 : decode cX10_often 0 = .ok (.iconst 0, 1) := by decide +kernel
theorem dX10_often_1 : decode cX10_often 1 = .ok (.istore_n 3, 1) := by decide +kernel
theorem dX10_often_2 : decode cX10_often 2 = .ok (.iconst 0, 1) := by decide +kernel
theorem dX10_often_3 : decode cX10_often 3 = .ok (.istore 4, 2) := by decide +kernel
theorem dX10_often_5 : decode cX10_often 5 = .ok (.iload 4, 2) := by decide +kernel
theorem dX10_often_7 : decode cX10_often 7 = .ok (.iload_n 1, 1) := by decide +kernel
theorem dX10_often_8 : decode cX10_often 8 = .ok (.if_icmp .ge 25, 3) := by decide +kernel
theorem dX10_often_11 : decode cX10_often 11 = .ok (.iload_n 3, 1) := by decide +kernel
theorem dX10_often_12 : decode cX10_often 12 = .ok (.aload_n 0, 1) := by decide +kernel
theorem dX10_often_13 : decode cX10_often 13 = .ok (.iload 4, 2) := by decide +kernel
theorem dX10_often_15 : decode cX10_often 15 = .ok (.iaload, 1) := by decide +kernel
theorem dX10_often_16 : decode cX10_often 16 = .ok (.iload_n 2, 1) := by decide +kernel
theorem dX10_often_17 : decode cX10_often 17 = .ok (.if_icmp .ne 7, 3) := by decide +kernel
theorem dX10_often_20 : decode cX10_often 20 = .ok (.iconst 1, 1) := by decide +kernel
theorem dX10_often_21 : decode cX10_often 21 = .ok (.goto 4, 3) := by decide +kernel
theorem dX10_often_24 : decode cX10_often 24 = .ok (.iconst 0, 1) := by decide +kernel
theorem dX10_often_25 : decode cX10_often 25 = .ok (.iadd, 1) := by decide +kernel
theorem dX10_often_26 : decode cX10_often 26 = .ok (.istore_n 3, 1) := by decide +kernel
theorem dX10_often_27 : decode cX10_often 27 = .ok (.iinc 4 1, 3) := by decide +kernel
theorem dX10_often_30 : decode cX10_often 30 = .ok (.goto (-25), 3) := by decide +kernel
theorem dX10_often_33 : decode cX10_often 33 = .ok (.iload_n 3, 1) := by decide +kernel
theorem dX10_often_34 : decode cX10_often 34 = .ok (.ireturn, 1) := by decide +kernel
theorem dX10_isLike_0 : decode cX10_isLike 0 = .ok (.aload_n 0, 1) := by decide +kernel
theorem dX10_isLike_1 : decode cX10_isLike 1 = .ok (.iload_n 1, 1) := by decide +kernel
theorem dX10_isLike_2 : decode cX10_isLike 2 = .ok (.aload_n 0, 1) := by decide +kernel
theorem dX10_isLike_3 : decode cX10_isLike 3 = .ok (.iconst 0, 1) := by decide +kernel
theorem dX10_isLike_4 : decode cX10_isLike 4 = .ok (.iaload, 1) := by decide +kernel
theorem dX10_isLike_5 : decode cX10_isLike 5 = .ok (.invokestatic 147, 3) := by decide +kernel
theorem dX10_isLike_8 : decode cX10_isLike 8 = .ok (.iload_n 1, 1) := by decide +kernel
theorem dX10_isLike_9 : decode cX10_isLike 9 = .ok (.if_icmp .ne 7, 3) := by decide +kernel
theorem dX10_isLike_12 : decode cX10_isLike 12 = .ok (.iconst 1, 1) := by decide +kernel
theorem dX10_isLike_13 : decode cX10_isLike 13 = .ok (.goto 4, 3) := by decide +kernel
theorem dX10_isLike_16 : decode cX10_isLike 16 = .ok (.iconst 0, 1) := by decide +kernel
theorem dX10_isLike_17 : decode cX10_isLike 17 = .ok (.ireturn, 1) := by decide +kernel
theorem dX10_isUnlike_0 : decode cX10_isUnlike 0 = .ok (.iconst 0, 1) := by decide +kernel
theorem dX10_isUnlike_1 : decode cX10_isUnlike 1 = .ok (.istore_n 2, 1) := by decide +kernel
theorem dX10_isUnlike_2 : decode cX10_isUnlike 2 = .ok (.iload_n 2, 1) := by decide +kernel
theorem dX10_isUnlike_3 : decode cX10_isUnlike 3 = .ok (.iload_n 1, 1) := by decide +kernel
theorem dX10_isUnlike_4 : decode cX10_isUnlike 4 = .ok (.if_icmp .ge 23, 3) := by decide +kernel
theorem dX10_isUnlike_7 : decode cX10_isUnlike 7 = .ok (.aload_n 0, 1) := by decide +kernel
theorem dX10_isUnlike_8 : decode cX10_isUnlike 8 = .ok (.iload_n 1, 1) := by decide +kernel
theorem dX10_isUnlike_9 : decode cX10_isUnlike 9 = .ok (.aload_n 0, 1) := by decide +kernel
theorem dX10_isUnlike_10 : decode cX10_isUnlike 10 = .ok (.iload_n 2, 1) := by decide +kernel
theorem dX10_isUnlike_11 : decode cX10_isUnlike 11 = .ok (.iaload, 1) := by decide +kernel
theorem dX10_isUnlike_12 : decode cX10_isUnlike 12 = .ok (.invokestatic 147, 3) := by decide +kernel
theorem dX10_isUnlike_15 : decode cX10_isUnlike 15 = .ok (.iconst 1, 1) := by decide +kernel
theorem dX10_isUnlike_16 : decode cX10_isUnlike 16 = .ok (.if_icmp .le 5, 3) := by decide +kernel
theorem dX10_isUnlike_19 : decode cX10_isUnlike 19 = .ok (.iconst 0, 1) := by decide +kernel
theorem dX10_isUnlike_20 : decode cX10_isUnlike 20 = .ok (.ireturn, 1) := by decide +kernel
theorem dX10_isUnlike_21 : decode cX10_isUnlike 21 = .ok (.iinc 2 1, 3) := by decide +kernel
theorem dX10_isUnlike_24 : decode cX10_isUnlike 24 = .ok (.goto (-22), 3) := by decide +kernel
theorem dX10_isUnlike_27 : decode cX10_isUnlike 27 = .ok (.iconst 1, 1) := by decide +kernel
theorem dX10_isUnlike_28 : decode cX10_isUnlike 28 = .ok (.ireturn, 1) := by decide +kernel
theorem dX10_isSo_0 : decode cX10_isSo 0 = .ok (.iload_n 0, 1) := by decide +kernel
theorem dX10_isSo_1 : decode cX10_isSo 1 = .ok (.lookupswitch 69 #[(0, 35), (1, 41), (5, 47)], 35) := by decide +kernel
theorem dX10_isSo_36 : decode cX10_isSo 36 = .ok (.aload_n 1, 1) := by decide +kernel
theorem dX10_isSo_37 : decode cX10_isSo 37 = .ok (.iload_n 2, 1) := by decide +kernel
theorem dX10_isSo_38 : decode cX10_isSo 38 = .ok (.invokestatic 151, 3) := by decide +kernel
theorem dX10_isSo_41 : decode cX10_isSo 41 = .ok (.ireturn, 1) := by decide +kernel
theorem dX10_isSo_42 : decode cX10_isSo 42 = .ok (.aload_n 1, 1) := by decide +kernel
theorem dX10_isSo_43 : decode cX10_isSo 43 = .ok (.iload_n 2, 1) := by decide +kernel
theorem dX10_isSo_44 : decode cX10_isSo 44 = .ok (.invokestatic 155, 3) := by decide +kernel
theorem dX10_isSo_47 : decode cX10_isSo 47 = .ok (.ireturn, 1) := by decide +kernel
theorem dX10_isSo_48 : decode cX10_isSo 48 = .ok (.aload_n 1, 1) := by decide +kernel
theorem dX10_isSo_49 : decode cX10_isSo 49 = .ok (.iload_n 2, 1) := by decide +kernel
theorem dX10_isSo_50 : decode cX10_isSo 50 = .ok (.invokestatic 151, 3) := by decide +kernel
theorem dX10_isSo_53 : decode cX10_isSo 53 = .ok (.ifCond .ne 15, 3) := by decide +kernel
theorem dX10_isSo_56 : decode cX10_isSo 56 = .ok (.aload_n 1, 1) := by decide +kernel
theorem dX10_isSo_57 : decode cX10_isSo 57 = .ok (.iload_n 2, 1) := by decide +kernel
theorem dX10_isSo_58 : decode cX10_isSo 58 = .ok (.invokestatic 155, 3) := by decide +kernel
theorem dX10_isSo_61 : decode cX10_isSo 61 = .ok (.ifCond .ne 7, 3) := by decide +kernel
theorem dX10_isSo_64 : decode cX10_isSo 64 = .ok (.iconst 1, 1) := by decide +kernel
theorem dX10_isSo_65 : decode cX10_isSo 65 = .ok (.goto 4, 3) := by decide +kernel
theorem dX10_isSo_68 : decode cX10_isSo 68 = .ok (.iconst 0, 1) := by decide +kernel
theorem dX10_isSo_69 : decode cX10_isSo 69 = .ok (.ireturn, 1) := by decide +kernel
theorem dX10_isSo_70 : decode cX10_isSo 70 = .ok (.iconst 0, 1) := by decide +kernel
theorem dX10_isSo_71 : decode cX10_isSo 71 = .ok (.istore_n 3, 1) := by decide +kernel
theorem dX10_isSo_72 : decode cX10_isSo 72 = .ok (.iload_n 3, 1) := by decide +kernel
theorem dX10_isSo_73 : decode cX10_isSo 73 = .ok (.iload_n 2, 1) := by decide +kernel
theorem dX10_isSo_74 : decode cX10_isSo 74 = .ok (.if_icmp .ge 58, 3) := by decide +kernel
theorem dX10_isSo_77 : decode cX10_isSo 77 = .ok (.iload_n 0, 1) := by decide +kernel
theorem dX10_isSo_78 : decode cX10_isSo 78 = .ok (.iconst 2, 1) := by decide +kernel
theorem dX10_isSo_79 : decode cX10_isSo 79 = .ok (.if_icmp .ne 18, 3) := by decide +kernel
theorem dX10_isSo_82 : decode cX10_isSo 82 = .ok (.iload_n 3, 1) := by decide +kernel
theorem dX10_isSo_83 : decode cX10_isSo 83 = .ok (.ifCond .le 14, 3) := by decide +kernel
theorem dX10_isSo_86 : decode cX10_isSo 86 = .ok (.aload_n 1, 1) := by decide +kernel
theorem dX10_isSo_87 : decode cX10_isSo 87 = .ok (.iload_n 3, 1) := by decide +kernel
theorem dX10_isSo_88 : decode cX10_isSo 88 = .ok (.iaload, 1) := by decide +kernel
theorem dX10_isSo_89 : decode cX10_isSo 89 = .ok (.aload_n 1, 1) := by decide +kernel
theorem dX10_isSo_90 : decode cX10_isSo 90 = .ok (.iload_n 3, 1) := by decide +kernel
theorem dX10_isSo_91 : decode cX10_isSo 91 = .ok (.iconst 1, 1) := by decide +kernel
theorem dX10_isSo_92 : decode cX10_isSo 92 = .ok (.isub, 1) := by decide +kernel
theorem dX10_isSo_93 : decode cX10_isSo 93 = .ok (.iaload, 1) := by decide +kernel
theorem dX10_isSo_94 : decode cX10_isSo 94 = .ok (.if_icmp .le 30, 3) := by decide +kernel
theorem dX10_isSo_97 : decode cX10_isSo 97 = .ok (.iload_n 0, 1) := by decide +kernel
theorem dX10_isSo_98 : decode cX10_isSo 98 = .ok (.iconst 3, 1) := by decide +kernel
theorem dX10_isSo_99 : decode cX10_isSo 99 = .ok (.if_icmp .ne 11, 3) := by decide +kernel
theorem dX10_isSo_102 : decode cX10_isSo 102 = .ok (.aload_n 1, 1) := by decide +kernel
theorem dX10_isSo_103 : decode cX10_isSo 103 = .ok (.iload_n 3, 1) := by decide +kernel
theorem dX10_isSo_104 : decode cX10_isSo 104 = .ok (.iaload, 1) := by decide +kernel
theorem dX10_isSo_105 : decode cX10_isSo 105 = .ok (.iconst 2, 1) := by decide +kernel
theorem dX10_isSo_106 : decode cX10_isSo 106 = .ok (.irem, 1) := by decide +kernel
theorem dX10_isSo_107 : decode cX10_isSo 107 = .ok (.ifCond .ne 17, 3) := by decide +kernel
theorem dX10_isSo_110 : decode cX10_isSo 110 = .ok (.iload_n 0, 1) := by decide +kernel
theorem dX10_isSo_111 : decode cX10_isSo 111 = .ok (.iconst 4, 1) := by decide +kernel
theorem dX10_isSo_112 : decode cX10_isSo 112 = .ok (.if_icmp .ne 14, 3) := by decide +kernel
theorem dX10_isSo_115 : decode cX10_isSo 115 = .ok (.aload_n 1, 1) := by decide +kernel
theorem dX10_isSo_116 : decode cX10_isSo 116 = .ok (.iload_n 3, 1) := by decide +kernel
theorem dX10_isSo_117 : decode cX10_isSo 117 = .ok (.iaload, 1) := by decide +kernel
theorem dX10_isSo_118 : decode cX10_isSo 118 = .ok (.iconst 2, 1) := by decide +kernel
theorem dX10_isSo_119 : decode cX10_isSo 119 = .ok (.iload_n 2, 1) := by decide +kernel
theorem dX10_isSo_120 : decode cX10_isSo 120 = .ok (.imul, 1) := by decide +kernel
theorem dX10_isSo_121 : decode cX10_isSo 121 = .ok (.if_icmp .le 5, 3) := by decide +kernel
theorem dX10_isSo_124 : decode cX10_isSo 124 = .ok (.iconst 0, 1) := by decide +kernel
theorem dX10_isSo_125 : decode cX10_isSo 125 = .ok (.ireturn, 1) := by decide +kernel
theorem dX10_isSo_126 : decode cX10_isSo 126 = .ok (.iinc 3 1, 3) := by decide +kernel
theorem dX10_isSo_129 : decode cX10_isSo 129 = .ok (.goto (-57), 3) := by decide +kernel
theorem dX10_isSo_132 : decode cX10_isSo 132 = .ok (.iconst 1, 1) := by decide +kernel
theorem dX10_isSo_133 : decode cX10_isSo 133 = .ok (.ireturn, 1) := by decide +kernel
theorem dX10_sum_0 : decode cX10_sum 0 = .ok (.aload_n 0, 1) := by decide +kernel
theorem dX10_sum_1 : decode cX10_sum 1 = .ok (.iload_n 1, 1) := by decide +kernel
theorem dX10_sum_2 : decode cX10_sum 2 = .ok (.invokevirtual 100, 3) := by decide +kernel
theorem dX10_sum_5 : decode cX10_sum 5 = .ok (.ifCond .ne 9, 3) := by decide +kernel
theorem dX10_sum_8 : decode cX10_sum 8 = .ok (.aload_n 0, 1) := by decide +kernel
theorem dX10_sum_9 : decode cX10_sum 9 = .ok (.iconst (-1), 1) := by decide +kernel
theorem dX10_sum_10 : decode cX10_sum 10 = .ok (.invokevirtual 87, 3) := by decide +kernel
theorem dX10_sum_13 : decode cX10_sum 13 = .ok (.ireturn, 1) := by decide +kernel
theorem dX10_sum_14 : decode cX10_sum 14 = .ok (.aload_n 0, 1) := by decide +kernel
theorem dX10_sum_15 : decode cX10_sum 15 = .ok (.invokevirtual 158, 3) := by decide +kernel
theorem dX10_sum_18 : decode cX10_sum 18 = .ok (.aload_n 0, 1) := by decide +kernel
theorem dX10_sum_19 : decode cX10_sum 19 = .ok (.getfield 53, 3) := by decide +kernel
theorem dX10_sum_22 : decode cX10_sum 22 = .ok (.iload_n 1, 1) := by decide +kernel
theorem dX10_sum_23 : decode cX10_sum 23 = .ok (.iaload, 1) := by decide +kernel
theorem dX10_sum_24 : decode cX10_sum 24 = .ok (.ireturn, 1) := by decide +kernel
theorem dX10_totalNow_0 : decode cX10_totalNow 0 = .ok (.iconst 0, 1) := by decide +kernel
theorem dX10_totalNow_1 : decode cX10_totalNow 1 = .ok (.istore_n 1, 1) := by decide +kernel
theorem dX10_totalNow_2 : decode cX10_totalNow 2 = .ok (.iconst 0, 1) := by decide +kernel
theorem dX10_totalNow_3 : decode cX10_totalNow 3 = .ok (.istore_n 2, 1) := by decide +kernel
theorem dX10_totalNow_4 : decode cX10_totalNow 4 = .ok (.iload_n 2, 1) := by decide +kernel
theorem dX10_totalNow_5 : decode cX10_totalNow 5 = .ok (.aload_n 0, 1) := by decide +kernel
theorem dX10_totalNow_6 : decode cX10_totalNow 6 = .ok (.getfield 7, 3) := by decide +kernel
theorem dX10_totalNow_9 : decode cX10_totalNow 9 = .ok (.if_icmp .ge 18, 3) := by decide +kernel
theorem dX10_totalNow_12 : decode cX10_totalNow 12 = .ok (.iload_n 1, 1) := by decide +kernel
theorem dX10_totalNow_13 : decode cX10_totalNow 13 = .ok (.aload_n 0, 1) := by decide +kernel
theorem dX10_totalNow_14 : decode cX10_totalNow 14 = .ok (.getfield 53, 3) := by decide +kernel
theorem dX10_totalNow_17 : decode cX10_totalNow 17 = .ok (.iload_n 2, 1) := by decide +kernel
theorem dX10_totalNow_18 : decode cX10_totalNow 18 = .ok (.iaload, 1) := by decide +kernel
theorem dX10_totalNow_19 : decode cX10_totalNow 19 = .ok (.iadd, 1) := by decide +kernel
theorem dX10_totalNow_20 : decode cX10_totalNow 20 = .ok (.istore_n 1, 1) := by decide +kernel
theorem dX10_totalNow_21 : decode cX10_totalNow 21 = .ok (.iinc 2 1, 3) := by decide +kernel
theorem dX10_totalNow_24 : decode cX10_totalNow 24 = .ok (.goto (-20), 3) := by decide +kernel
theorem dX10_totalNow_27 : decode cX10_totalNow 27 = .ok (.iload_n 1, 1) := by decide +kernel
theorem dX10_totalNow_28 : decode cX10_totalNow 28 = .ok (.ireturn, 1) := by decide +kernel
theorem dX10_total_0 : decode cX10_total 0 = .ok (.aload_n 0, 1) := by decide +kernel
theorem dX10_total_1 : decode cX10_total 1 = .ok (.invokevirtual 158, 3) := by decide +kernel
theorem dX10_total_4 : decode cX10_total 4 = .ok (.aload_n 0, 1) := by decide +kernel
theorem dX10_total_5 : decode cX10_total 5 = .ok (.invokevirtual 161, 3) := by decide +kernel
theorem dX10_total_8 : decode cX10_total 8 = .ok (.ireturn, 1) := by decide +kernel
theorem dX10_rule_0 : decode cX10_rule 0 = .ok (.iload_n 1, 1) := by decide +kernel
theorem dX10_rule_1 : decode cX10_rule 1 = .ok (.iconst 0, 1) := by decide +kernel
theorem dX10_rule_2 : decode cX10_rule 2 = .ok (.iconst 5, 1) := by decide +kernel
theorem dX10_rule_3 : decode cX10_rule 3 = .ok (.invokestatic 78, 3) := by decide +kernel
theorem dX10_rule_6 : decode cX10_rule 6 = .ok (.ifCond .ne 10, 3) := by decide +kernel
theorem dX10_rule_9 : decode cX10_rule 9 = .ok (.aload_n 0, 1) := by decide +kernel
theorem dX10_rule_10 : decode cX10_rule 10 = .ok (.bipush (-2), 2) := by decide +kernel
theorem dX10_rule_12 : decode cX10_rule 12 = .ok (.invokevirtual 87, 3) := by decide +kernel
theorem dX10_rule_15 : decode cX10_rule 15 = .ok (.ireturn, 1) := by decide +kernel
theorem dX10_rule_16 : decode cX10_rule 16 = .ok (.aload_n 0, 1) := by decide +kernel
theorem dX10_rule_17 : decode cX10_rule 17 = .ok (.invokevirtual 158, 3) := by decide +kernel
theorem dX10_rule_20 : decode cX10_rule 20 = .ok (.iload_n 1, 1) := by decide +kernel
theorem dX10_rule_21 : decode cX10_rule 21 = .ok (.aload_n 0, 1) := by decide +kernel
theorem dX10_rule_22 : decode cX10_rule 22 = .ok (.getfield 53, 3) := by decide +kernel
theorem dX10_rule_25 : decode cX10_rule 25 = .ok (.aload_n 0, 1) := by decide +kernel
theorem dX10_rule_26 : decode cX10_rule 26 = .ok (.getfield 7, 3) := by decide +kernel
theorem dX10_rule_29 : decode cX10_rule 29 = .ok (.invokestatic 164, 3) := by decide +kernel
theorem dX10_rule_32 : decode cX10_rule 32 = .ok (.ifCond .eq 7, 3) := by decide +kernel
theorem dX10_rule_35 : decode cX10_rule 35 = .ok (.iconst 1, 1) := by decide +kernel
theorem dX10_rule_36 : decode cX10_rule 36 = .ok (.goto 4, 3) := by decide +kernel
theorem dX10_rule_39 : decode cX10_rule 39 = .ok (.iconst 0, 1) := by decide +kernel
theorem dX10_rule_40 : decode cX10_rule 40 = .ok (.ireturn, 1) := by decide +kernel
theorem dX10_ranked_0 : decode cX10_ranked 0 = .ok (.iload_n 1, 1) := by decide +kernel
theorem dX10_ranked_1 : decode cX10_ranked 1 = .ok (.ifCond .ge 10, 3) := by decide +kernel
theorem dX10_ranked_4 : decode cX10_ranked 4 = .ok (.aload_n 0, 1) := by decide +kernel
theorem dX10_ranked_5 : decode cX10_ranked 5 = .ok (.bipush (-4), 2) := by decide +kernel
theorem dX10_ranked_7 : decode cX10_ranked 7 = .ok (.invokevirtual 87, 3) := by decide +kernel
theorem dX10_ranked_10 : decode cX10_ranked 10 = .ok (.ireturn, 1) := by decide +kernel
theorem dX10_ranked_11 : decode cX10_ranked 11 = .ok (.aload_n 0, 1) := by decide +kernel
theorem dX10_ranked_12 : decode cX10_ranked 12 = .ok (.invokevirtual 158, 3) := by decide +kernel
theorem dX10_ranked_15 : decode cX10_ranked 15 = .ok (.iconst 0, 1) := by decide +kernel
theorem dX10_ranked_16 : decode cX10_ranked 16 = .ok (.istore_n 2, 1) := by decide +kernel
theorem dX10_ranked_17 : decode cX10_ranked 17 = .ok (.iload_n 2, 1) := by decide +kernel
theorem dX10_ranked_18 : decode cX10_ranked 18 = .ok (.aload_n 0, 1) := by decide +kernel
theorem dX10_ranked_19 : decode cX10_ranked 19 = .ok (.getfield 7, 3) := by decide +kernel
theorem dX10_ranked_22 : decode cX10_ranked 22 = .ok (.if_icmp .ge 82, 3) := by decide +kernel
theorem dX10_ranked_25 : decode cX10_ranked 25 = .ok (.iconst 0, 1) := by decide +kernel
theorem dX10_ranked_26 : decode cX10_ranked 26 = .ok (.istore_n 3, 1) := by decide +kernel
theorem dX10_ranked_27 : decode cX10_ranked 27 = .ok (.iconst 0, 1) := by decide +kernel
theorem dX10_ranked_28 : decode cX10_ranked 28 = .ok (.istore 4, 2) := by decide +kernel
theorem dX10_ranked_30 : decode cX10_ranked 30 = .ok (.iload 4, 2) := by decide +kernel
theorem dX10_ranked_32 : decode cX10_ranked 32 = .ok (.aload_n 0, 1) := by decide +kernel
theorem dX10_ranked_33 : decode cX10_ranked 33 = .ok (.getfield 7, 3) := by decide +kernel
theorem dX10_ranked_36 : decode cX10_ranked 36 = .ok (.if_icmp .ge 55, 3) := by decide +kernel
theorem dX10_ranked_39 : decode cX10_ranked 39 = .ok (.iload_n 3, 1) := by decide +kernel
theorem dX10_ranked_40 : decode cX10_ranked 40 = .ok (.aload_n 0, 1) := by decide +kernel
theorem dX10_ranked_41 : decode cX10_ranked 41 = .ok (.getfield 53, 3) := by decide +kernel
theorem dX10_ranked_44 : decode cX10_ranked 44 = .ok (.iload 4, 2) := by decide +kernel
theorem dX10_ranked_46 : decode cX10_ranked 46 = .ok (.iaload, 1) := by decide +kernel
theorem dX10_ranked_47 : decode cX10_ranked 47 = .ok (.aload_n 0, 1) := by decide +kernel
theorem dX10_ranked_48 : decode cX10_ranked 48 = .ok (.getfield 53, 3) := by decide +kernel
theorem dX10_ranked_51 : decode cX10_ranked 51 = .ok (.iload_n 2, 1) := by decide +kernel
theorem dX10_ranked_52 : decode cX10_ranked 52 = .ok (.iaload, 1) := by decide +kernel
theorem dX10_ranked_53 : decode cX10_ranked 53 = .ok (.if_icmp .gt 25, 3) := by decide +kernel
theorem dX10_ranked_56 : decode cX10_ranked 56 = .ok (.aload_n 0, 1) := by decide +kernel
theorem dX10_ranked_57 : decode cX10_ranked 57 = .ok (.getfield 53, 3) := by decide +kernel
theorem dX10_ranked_60 : decode cX10_ranked 60 = .ok (.iload 4, 2) := by decide +kernel
theorem dX10_ranked_62 : decode cX10_ranked 62 = .ok (.iaload, 1) := by decide +kernel
theorem dX10_ranked_63 : decode cX10_ranked 63 = .ok (.aload_n 0, 1) := by decide +kernel
theorem dX10_ranked_64 : decode cX10_ranked 64 = .ok (.getfield 53, 3) := by decide +kernel
theorem dX10_ranked_67 : decode cX10_ranked 67 = .ok (.iload_n 2, 1) := by decide +kernel
theorem dX10_ranked_68 : decode cX10_ranked 68 = .ok (.iaload, 1) := by decide +kernel
theorem dX10_ranked_69 : decode cX10_ranked 69 = .ok (.if_icmp .ne 13, 3) := by decide +kernel
theorem dX10_ranked_72 : decode cX10_ranked 72 = .ok (.iload 4, 2) := by decide +kernel
theorem dX10_ranked_74 : decode cX10_ranked 74 = .ok (.iload_n 2, 1) := by decide +kernel
theorem dX10_ranked_75 : decode cX10_ranked 75 = .ok (.if_icmp .ge 7, 3) := by decide +kernel
theorem dX10_ranked_78 : decode cX10_ranked 78 = .ok (.iconst 1, 1) := by decide +kernel
theorem dX10_ranked_79 : decode cX10_ranked 79 = .ok (.goto 4, 3) := by decide +kernel
theorem dX10_ranked_82 : decode cX10_ranked 82 = .ok (.iconst 0, 1) := by decide +kernel
theorem dX10_ranked_83 : decode cX10_ranked 83 = .ok (.iadd, 1) := by decide +kernel
theorem dX10_ranked_84 : decode cX10_ranked 84 = .ok (.istore_n 3, 1) := by decide +kernel
theorem dX10_ranked_85 : decode cX10_ranked 85 = .ok (.iinc 4 1, 3) := by decide +kernel
theorem dX10_ranked_88 : decode cX10_ranked 88 = .ok (.goto (-58), 3) := by decide +kernel
theorem dX10_ranked_91 : decode cX10_ranked 91 = .ok (.iload_n 3, 1) := by decide +kernel
theorem dX10_ranked_92 : decode cX10_ranked 92 = .ok (.iload_n 1, 1) := by decide +kernel
theorem dX10_ranked_93 : decode cX10_ranked 93 = .ok (.if_icmp .ne 5, 3) := by decide +kernel
theorem dX10_ranked_96 : decode cX10_ranked 96 = .ok (.iload_n 2, 1) := by decide +kernel
theorem dX10_ranked_97 : decode cX10_ranked 97 = .ok (.ireturn, 1) := by decide +kernel
theorem dX10_ranked_98 : decode cX10_ranked 98 = .ok (.iinc 2 1, 3) := by decide +kernel
theorem dX10_ranked_101 : decode cX10_ranked 101 = .ok (.goto (-84), 3) := by decide +kernel
theorem dX10_ranked_104 : decode cX10_ranked 104 = .ok (.bipush (-9), 2) := by decide +kernel
theorem dX10_ranked_106 : decode cX10_ranked 106 = .ok (.ireturn, 1) := by decide +kernel
theorem dX10_triesNought_0 : decode cX10_triesNought 0 = .ok (.iconst 0, 1) := by decide +kernel
theorem dX10_triesNought_1 : decode cX10_triesNought 1 = .ok (.istore_n 1, 1) := by decide +kernel
theorem dX10_triesNought_2 : decode cX10_triesNought 2 = .ok (.iload_n 1, 1) := by decide +kernel
theorem dX10_triesNought_3 : decode cX10_triesNought 3 = .ok (.bipush 8, 2) := by decide +kernel
theorem dX10_triesNought_5 : decode cX10_triesNought 5 = .ok (.if_icmp .ge 16, 3) := by decide +kernel
theorem dX10_triesNought_8 : decode cX10_triesNought 8 = .ok (.aload_n 0, 1) := by decide +kernel
theorem dX10_triesNought_9 : decode cX10_triesNought 9 = .ok (.getfield 50, 3) := by decide +kernel
theorem dX10_triesNought_12 : decode cX10_triesNought 12 = .ok (.iload_n 1, 1) := by decide +kernel
theorem dX10_triesNought_13 : decode cX10_triesNought 13 = .ok (.iconst 0, 1) := by decide +kernel
theorem dX10_triesNought_14 : decode cX10_triesNought 14 = .ok (.iastore, 1) := by decide +kernel
theorem dX10_triesNought_15 : decode cX10_triesNought 15 = .ok (.iinc 1 1, 3) := by decide +kernel
theorem dX10_triesNought_18 : decode cX10_triesNought 18 = .ok (.goto (-16), 3) := by decide +kernel
theorem dX10_triesNought_21 : decode cX10_triesNought 21 = .ok (.aload_n 0, 1) := by decide +kernel
theorem dX10_triesNought_22 : decode cX10_triesNought 22 = .ok (.invokevirtual 141, 3) := by decide +kernel
theorem dX10_triesNought_25 : decode cX10_triesNought 25 = .ok (.aload_n 0, 1) := by decide +kernel
theorem dX10_triesNought_26 : decode cX10_triesNought 26 = .ok (.invokevirtual 144, 3) := by decide +kernel
theorem dX10_triesNought_29 : decode cX10_triesNought 29 = .ok (.return_, 1) := by decide +kernel
theorem dX10_goesOn_0 : decode cX10_goesOn 0 = .ok (.aload_n 0, 1) := by decide +kernel
theorem dX10_goesOn_1 : decode cX10_goesOn 1 = .ok (.getfield 82, 3) := by decide +kernel
theorem dX10_goesOn_4 : decode cX10_goesOn 4 = .ok (.iconst 1, 1) := by decide +kernel
theorem dX10_goesOn_5 : decode cX10_goesOn 5 = .ok (.isub, 1) := by decide +kernel
theorem dX10_goesOn_6 : decode cX10_goesOn 6 = .ok (.istore_n 2, 1) := by decide +kernel
theorem dX10_goesOn_7 : decode cX10_goesOn 7 = .ok (.iload_n 2, 1) := by decide +kernel
theorem dX10_goesOn_8 : decode cX10_goesOn 8 = .ok (.ifCond .lt 26, 3) := by decide +kernel
theorem dX10_goesOn_11 : decode cX10_goesOn 11 = .ok (.aload_n 0, 1) := by decide +kernel
theorem dX10_goesOn_12 : decode cX10_goesOn 12 = .ok (.getfield 50, 3) := by decide +kernel
theorem dX10_goesOn_15 : decode cX10_goesOn 15 = .ok (.iload_n 2, 1) := by decide +kernel
theorem dX10_goesOn_16 : decode cX10_goesOn 16 = .ok (.iaload, 1) := by decide +kernel
theorem dX10_goesOn_17 : decode cX10_goesOn 17 = .ok (.iload_n 1, 1) := by decide +kernel
theorem dX10_goesOn_18 : decode cX10_goesOn 18 = .ok (.if_icmp .ne 16, 3) := by decide +kernel
theorem dX10_goesOn_21 : decode cX10_goesOn 21 = .ok (.aload_n 0, 1) := by decide +kernel
theorem dX10_goesOn_22 : decode cX10_goesOn 22 = .ok (.getfield 50, 3) := by decide +kernel
theorem dX10_goesOn_25 : decode cX10_goesOn 25 = .ok (.iload_n 2, 1) := by decide +kernel
theorem dX10_goesOn_26 : decode cX10_goesOn 26 = .ok (.iconst 0, 1) := by decide +kernel
theorem dX10_goesOn_27 : decode cX10_goesOn 27 = .ok (.iastore, 1) := by decide +kernel
theorem dX10_goesOn_28 : decode cX10_goesOn 28 = .ok (.iinc 2 (-1), 3) := by decide +kernel
theorem dX10_goesOn_31 : decode cX10_goesOn 31 = .ok (.goto (-24), 3) := by decide +kernel
theorem dX10_goesOn_34 : decode cX10_goesOn 34 = .ok (.iload_n 2, 1) := by decide +kernel
theorem dX10_goesOn_35 : decode cX10_goesOn 35 = .ok (.ifCond .ge 5, 3) := by decide +kernel
theorem dX10_goesOn_38 : decode cX10_goesOn 38 = .ok (.iconst 0, 1) := by decide +kernel
theorem dX10_goesOn_39 : decode cX10_goesOn 39 = .ok (.ireturn, 1) := by decide +kernel
theorem dX10_goesOn_40 : decode cX10_goesOn 40 = .ok (.aload_n 0, 1) := by decide +kernel
theorem dX10_goesOn_41 : decode cX10_goesOn 41 = .ok (.getfield 50, 3) := by decide +kernel
theorem dX10_goesOn_44 : decode cX10_goesOn 44 = .ok (.iload_n 2, 1) := by decide +kernel
theorem dX10_goesOn_45 : decode cX10_goesOn 45 = .ok (.dup2, 1) := by decide +kernel
theorem dX10_goesOn_46 : decode cX10_goesOn 46 = .ok (.iaload, 1) := by decide +kernel
theorem dX10_goesOn_47 : decode cX10_goesOn 47 = .ok (.iconst 1, 1) := by decide +kernel
theorem dX10_goesOn_48 : decode cX10_goesOn 48 = .ok (.iadd, 1) := by decide +kernel
theorem dX10_goesOn_49 : decode cX10_goesOn 49 = .ok (.iastore, 1) := by decide +kernel
theorem dX10_goesOn_50 : decode cX10_goesOn 50 = .ok (.aload_n 0, 1) := by decide +kernel
theorem dX10_goesOn_51 : decode cX10_goesOn 51 = .ok (.invokevirtual 144, 3) := by decide +kernel
theorem dX10_goesOn_54 : decode cX10_goesOn 54 = .ok (.iconst 1, 1) := by decide +kernel
theorem dX10_goesOn_55 : decode cX10_goesOn 55 = .ok (.ireturn, 1) := by decide +kernel
theorem dX10_waysTo_0 : decode cX10_waysTo 0 = .ok (.aload_n 0, 1) := by decide +kernel
theorem dX10_waysTo_1 : decode cX10_waysTo 1 = .ok (.invokevirtual 168, 3) := by decide +kernel
theorem dX10_waysTo_4 : decode cX10_waysTo 4 = .ok (.iconst 0, 1) := by decide +kernel
theorem dX10_waysTo_5 : decode cX10_waysTo 5 = .ok (.istore 4, 2) := by decide +kernel
theorem dX10_waysTo_7 : decode cX10_waysTo 7 = .ok (.iconst 1, 1) := by decide +kernel
theorem dX10_waysTo_8 : decode cX10_waysTo 8 = .ok (.istore 5, 2) := by decide +kernel
theorem dX10_waysTo_10 : decode cX10_waysTo 10 = .ok (.iload 5, 2) := by decide +kernel
theorem dX10_waysTo_12 : decode cX10_waysTo 12 = .ok (.ifCond .eq 56, 3) := by decide +kernel
theorem dX10_waysTo_15 : decode cX10_waysTo 15 = .ok (.iload_n 1, 1) := by decide +kernel
theorem dX10_waysTo_16 : decode cX10_waysTo 16 = .ok (.aload_n 0, 1) := by decide +kernel
theorem dX10_waysTo_17 : decode cX10_waysTo 17 = .ok (.getfield 53, 3) := by decide +kernel
theorem dX10_waysTo_20 : decode cX10_waysTo 20 = .ok (.aload_n 0, 1) := by decide +kernel
theorem dX10_waysTo_21 : decode cX10_waysTo 21 = .ok (.getfield 7, 3) := by decide +kernel
theorem dX10_waysTo_24 : decode cX10_waysTo 24 = .ok (.invokestatic 164, 3) := by decide +kernel
theorem dX10_waysTo_27 : decode cX10_waysTo 27 = .ok (.istore 6, 2) := by decide +kernel
theorem dX10_waysTo_29 : decode cX10_waysTo 29 = .ok (.iload 6, 2) := by decide +kernel
theorem dX10_waysTo_31 : decode cX10_waysTo 31 = .ok (.ifCond .eq 12, 3) := by decide +kernel
theorem dX10_waysTo_34 : decode cX10_waysTo 34 = .ok (.iload 4, 2) := by decide +kernel
theorem dX10_waysTo_36 : decode cX10_waysTo 36 = .ok (.iload_n 3, 1) := by decide +kernel
theorem dX10_waysTo_37 : decode cX10_waysTo 37 = .ok (.if_icmp .ne 6, 3) := by decide +kernel
theorem dX10_waysTo_40 : decode cX10_waysTo 40 = .ok (.iload 4, 2) := by decide +kernel
theorem dX10_waysTo_42 : decode cX10_waysTo 42 = .ok (.ireturn, 1) := by decide +kernel
theorem dX10_waysTo_43 : decode cX10_waysTo 43 = .ok (.iload 4, 2) := by decide +kernel
theorem dX10_waysTo_45 : decode cX10_waysTo 45 = .ok (.iload 6, 2) := by decide +kernel
theorem dX10_waysTo_47 : decode cX10_waysTo 47 = .ok (.ifCond .eq 7, 3) := by decide +kernel
theorem dX10_waysTo_50 : decode cX10_waysTo 50 = .ok (.iconst 1, 1) := by decide +kernel
theorem dX10_waysTo_51 : decode cX10_waysTo 51 = .ok (.goto 4, 3) := by decide +kernel
theorem dX10_waysTo_54 : decode cX10_waysTo 54 = .ok (.iconst 0, 1) := by decide +kernel
theorem dX10_waysTo_55 : decode cX10_waysTo 55 = .ok (.iadd, 1) := by decide +kernel
theorem dX10_waysTo_56 : decode cX10_waysTo 56 = .ok (.istore 4, 2) := by decide +kernel
theorem dX10_waysTo_58 : decode cX10_waysTo 58 = .ok (.aload_n 0, 1) := by decide +kernel
theorem dX10_waysTo_59 : decode cX10_waysTo 59 = .ok (.iload_n 2, 1) := by decide +kernel
theorem dX10_waysTo_60 : decode cX10_waysTo 60 = .ok (.invokevirtual 171, 3) := by decide +kernel
theorem dX10_waysTo_63 : decode cX10_waysTo 63 = .ok (.istore 5, 2) := by decide +kernel
theorem dX10_waysTo_65 : decode cX10_waysTo 65 = .ok (.goto (-55), 3) := by decide +kernel
theorem dX10_waysTo_68 : decode cX10_waysTo 68 = .ok (.iload 4, 2) := by decide +kernel
theorem dX10_waysTo_70 : decode cX10_waysTo 70 = .ok (.ireturn, 1) := by decide +kernel
theorem dX10_ways_0 : decode cX10_ways 0 = .ok (.iload_n 1, 1) := by decide +kernel
theorem dX10_ways_1 : decode cX10_ways 1 = .ok (.iconst 0, 1) := by decide +kernel
theorem dX10_ways_2 : decode cX10_ways 2 = .ok (.iconst 5, 1) := by decide +kernel
theorem dX10_ways_3 : decode cX10_ways 3 = .ok (.invokestatic 78, 3) := by decide +kernel
theorem dX10_ways_6 : decode cX10_ways 6 = .ok (.ifCond .ne 10, 3) := by decide +kernel
theorem dX10_ways_9 : decode cX10_ways 9 = .ok (.aload_n 0, 1) := by decide +kernel
theorem dX10_ways_10 : decode cX10_ways 10 = .ok (.bipush (-2), 2) := by decide +kernel
theorem dX10_ways_12 : decode cX10_ways 12 = .ok (.invokevirtual 87, 3) := by decide +kernel
theorem dX10_ways_15 : decode cX10_ways 15 = .ok (.ireturn, 1) := by decide +kernel
theorem dX10_ways_16 : decode cX10_ways 16 = .ok (.iload_n 2, 1) := by decide +kernel
theorem dX10_ways_17 : decode cX10_ways 17 = .ok (.ifCond .lt 8, 3) := by decide +kernel
theorem dX10_ways_20 : decode cX10_ways 20 = .ok (.iload_n 3, 1) := by decide +kernel
theorem dX10_ways_21 : decode cX10_ways 21 = .ok (.iconst (-1), 1) := by decide +kernel
theorem dX10_ways_22 : decode cX10_ways 22 = .ok (.if_icmp .ge 10, 3) := by decide +kernel
theorem dX10_ways_25 : decode cX10_ways 25 = .ok (.aload_n 0, 1) := by decide +kernel
theorem dX10_ways_26 : decode cX10_ways 26 = .ok (.bipush (-4), 2) := by decide +kernel
theorem dX10_ways_28 : decode cX10_ways 28 = .ok (.invokevirtual 87, 3) := by decide +kernel
theorem dX10_ways_31 : decode cX10_ways 31 = .ok (.ireturn, 1) := by decide +kernel
theorem dX10_ways_32 : decode cX10_ways 32 = .ok (.iload_n 2, 1) := by decide +kernel
theorem dX10_ways_33 : decode cX10_ways 33 = .ok (.iconst 3, 1) := by decide +kernel
theorem dX10_ways_34 : decode cX10_ways 34 = .ok (.if_icmp .le 10, 3) := by decide +kernel
theorem dX10_ways_37 : decode cX10_ways 37 = .ok (.aload_n 0, 1) := by decide +kernel
theorem dX10_ways_38 : decode cX10_ways 38 = .ok (.bipush (-6), 2) := by decide +kernel
theorem dX10_ways_40 : decode cX10_ways 40 = .ok (.invokevirtual 87, 3) := by decide +kernel
theorem dX10_ways_43 : decode cX10_ways 43 = .ok (.ireturn, 1) := by decide +kernel
theorem dX10_ways_44 : decode cX10_ways 44 = .ok (.iload_n 3, 1) := by decide +kernel
theorem dX10_ways_45 : decode cX10_ways 45 = .ok (.ifCond .lt 18, 3) := by decide +kernel
theorem dX10_ways_48 : decode cX10_ways 48 = .ok (.aload_n 0, 1) := by decide +kernel
theorem dX10_ways_49 : decode cX10_ways 49 = .ok (.iload 4, 2) := by decide +kernel
theorem dX10_ways_51 : decode cX10_ways 51 = .ok (.invokevirtual 108, 3) := by decide +kernel
theorem dX10_ways_54 : decode cX10_ways 54 = .ok (.ifCond .ne 9, 3) := by decide +kernel
theorem dX10_ways_57 : decode cX10_ways 57 = .ok (.aload_n 0, 1) := by decide +kernel
theorem dX10_ways_58 : decode cX10_ways 58 = .ok (.iconst (-1), 1) := by decide +kernel
theorem dX10_ways_59 : decode cX10_ways 59 = .ok (.invokevirtual 87, 3) := by decide +kernel
theorem dX10_ways_62 : decode cX10_ways 62 = .ok (.ireturn, 1) := by decide +kernel
theorem dX10_ways_63 : decode cX10_ways 63 = .ok (.iload_n 3, 1) := by decide +kernel
theorem dX10_ways_64 : decode cX10_ways 64 = .ok (.ifCond .ge 11, 3) := by decide +kernel
theorem dX10_ways_67 : decode cX10_ways 67 = .ok (.aload_n 0, 1) := by decide +kernel
theorem dX10_ways_68 : decode cX10_ways 68 = .ok (.iload_n 1, 1) := by decide +kernel
theorem dX10_ways_69 : decode cX10_ways 69 = .ok (.iload_n 2, 1) := by decide +kernel
theorem dX10_ways_70 : decode cX10_ways 70 = .ok (.iconst (-1), 1) := by decide +kernel
theorem dX10_ways_71 : decode cX10_ways 71 = .ok (.invokevirtual 174, 3) := by decide +kernel
theorem dX10_ways_74 : decode cX10_ways 74 = .ok (.ireturn, 1) := by decide +kernel
theorem dX10_ways_75 : decode cX10_ways 75 = .ok (.aload_n 0, 1) := by decide +kernel
theorem dX10_ways_76 : decode cX10_ways 76 = .ok (.iload_n 1, 1) := by decide +kernel
theorem dX10_ways_77 : decode cX10_ways 77 = .ok (.iload_n 2, 1) := by decide +kernel
theorem dX10_ways_78 : decode cX10_ways 78 = .ok (.iconst (-1), 1) := by decide +kernel
theorem dX10_ways_79 : decode cX10_ways 79 = .ok (.invokevirtual 174, 3) := by decide +kernel
theorem dX10_ways_82 : decode cX10_ways 82 = .ok (.iload_n 3, 1) := by decide +kernel
theorem dX10_ways_83 : decode cX10_ways 83 = .ok (.if_icmp .gt 6, 3) := by decide +kernel
theorem dX10_ways_86 : decode cX10_ways 86 = .ok (.bipush (-9), 2) := by decide +kernel
theorem dX10_ways_88 : decode cX10_ways 88 = .ok (.ireturn, 1) := by decide +kernel
theorem dX10_ways_89 : decode cX10_ways 89 = .ok (.aload_n 0, 1) := by decide +kernel
theorem dX10_ways_90 : decode cX10_ways 90 = .ok (.iload_n 1, 1) := by decide +kernel
theorem dX10_ways_91 : decode cX10_ways 91 = .ok (.iload_n 2, 1) := by decide +kernel
theorem dX10_ways_92 : decode cX10_ways 92 = .ok (.iload_n 3, 1) := by decide +kernel
theorem dX10_ways_93 : decode cX10_ways 93 = .ok (.invokevirtual 174, 3) := by decide +kernel
theorem dX10_ways_96 : decode cX10_ways 96 = .ok (.istore 5, 2) := by decide +kernel
theorem dX10_ways_98 : decode cX10_ways 98 = .ok (.aload_n 0, 1) := by decide +kernel
theorem dX10_ways_99 : decode cX10_ways 99 = .ok (.getfield 50, 3) := by decide +kernel
theorem dX10_ways_102 : decode cX10_ways 102 = .ok (.iload 4, 2) := by decide +kernel
theorem dX10_ways_104 : decode cX10_ways 104 = .ok (.iaload, 1) := by decide +kernel
theorem dX10_ways_105 : decode cX10_ways 105 = .ok (.ireturn, 1) := by decide +kernel
theorem dX10_isAbove_0 : decode cX10_isAbove 0 = .ok (.iconst 0, 1) := by decide +kernel
theorem dX10_isAbove_1 : decode cX10_isAbove 1 = .ok (.istore_n 2, 1) := by decide +kernel
theorem dX10_isAbove_2 : decode cX10_isAbove 2 = .ok (.iload_n 2, 1) := by decide +kernel
theorem dX10_isAbove_3 : decode cX10_isAbove 3 = .ok (.aload_n 0, 1) := by decide +kernel
theorem dX10_isAbove_4 : decode cX10_isAbove 4 = .ok (.getfield 7, 3) := by decide +kernel
theorem dX10_isAbove_7 : decode cX10_isAbove 7 = .ok (.if_icmp .ge 21, 3) := by decide +kernel
theorem dX10_isAbove_10 : decode cX10_isAbove 10 = .ok (.aload_n 0, 1) := by decide +kernel
theorem dX10_isAbove_11 : decode cX10_isAbove 11 = .ok (.getfield 53, 3) := by decide +kernel
theorem dX10_isAbove_14 : decode cX10_isAbove 14 = .ok (.iload_n 2, 1) := by decide +kernel
theorem dX10_isAbove_15 : decode cX10_isAbove 15 = .ok (.iaload, 1) := by decide +kernel
theorem dX10_isAbove_16 : decode cX10_isAbove 16 = .ok (.iload_n 1, 1) := by decide +kernel
theorem dX10_isAbove_17 : decode cX10_isAbove 17 = .ok (.if_icmp .le 5, 3) := by decide +kernel
theorem dX10_isAbove_20 : decode cX10_isAbove 20 = .ok (.iconst 1, 1) := by decide +kernel
theorem dX10_isAbove_21 : decode cX10_isAbove 21 = .ok (.ireturn, 1) := by decide +kernel
theorem dX10_isAbove_22 : decode cX10_isAbove 22 = .ok (.iinc 2 1, 3) := by decide +kernel
theorem dX10_isAbove_25 : decode cX10_isAbove 25 = .ok (.goto (-23), 3) := by decide +kernel
theorem dX10_isAbove_28 : decode cX10_isAbove 28 = .ok (.iconst 0, 1) := by decide +kernel
theorem dX10_isAbove_29 : decode cX10_isAbove 29 = .ok (.ireturn, 1) := by decide +kernel
theorem dX10_isAll_0 : decode cX10_isAll 0 = .ok (.iconst 0, 1) := by decide +kernel
theorem dX10_isAll_1 : decode cX10_isAll 1 = .ok (.istore_n 2, 1) := by decide +kernel
theorem dX10_isAll_2 : decode cX10_isAll 2 = .ok (.iload_n 2, 1) := by decide +kernel
theorem dX10_isAll_3 : decode cX10_isAll 3 = .ok (.aload_n 0, 1) := by decide +kernel
theorem dX10_isAll_4 : decode cX10_isAll 4 = .ok (.getfield 7, 3) := by decide +kernel
theorem dX10_isAll_7 : decode cX10_isAll 7 = .ok (.if_icmp .ge 21, 3) := by decide +kernel
theorem dX10_isAll_10 : decode cX10_isAll 10 = .ok (.aload_n 0, 1) := by decide +kernel
theorem dX10_isAll_11 : decode cX10_isAll 11 = .ok (.getfield 53, 3) := by decide +kernel
theorem dX10_isAll_14 : decode cX10_isAll 14 = .ok (.iload_n 2, 1) := by decide +kernel
theorem dX10_isAll_15 : decode cX10_isAll 15 = .ok (.iaload, 1) := by decide +kernel
theorem dX10_isAll_16 : decode cX10_isAll 16 = .ok (.iload_n 1, 1) := by decide +kernel
theorem dX10_isAll_17 : decode cX10_isAll 17 = .ok (.if_icmp .eq 5, 3) := by decide +kernel
theorem dX10_isAll_20 : decode cX10_isAll 20 = .ok (.iconst 0, 1) := by decide +kernel
theorem dX10_isAll_21 : decode cX10_isAll 21 = .ok (.ireturn, 1) := by decide +kernel
theorem dX10_isAll_22 : decode cX10_isAll 22 = .ok (.iinc 2 1, 3) := by decide +kernel
theorem dX10_isAll_25 : decode cX10_isAll 25 = .ok (.goto (-23), 3) := by decide +kernel
theorem dX10_isAll_28 : decode cX10_isAll 28 = .ok (.iconst 1, 1) := by decide +kernel
theorem dX10_isAll_29 : decode cX10_isAll 29 = .ok (.ireturn, 1) := by decide +kernel
theorem dX10_goesPast_0 : decode cX10_goesPast 0 = .ok (.aload_n 0, 1) := by decide +kernel
theorem dX10_goesPast_1 : decode cX10_goesPast 1 = .ok (.getfield 82, 3) := by decide +kernel
theorem dX10_goesPast_4 : decode cX10_goesPast 4 = .ok (.iconst 1, 1) := by decide +kernel
theorem dX10_goesPast_5 : decode cX10_goesPast 5 = .ok (.isub, 1) := by decide +kernel
theorem dX10_goesPast_6 : decode cX10_goesPast 6 = .ok (.istore_n 1, 1) := by decide +kernel
theorem dX10_goesPast_7 : decode cX10_goesPast 7 = .ok (.iload_n 1, 1) := by decide +kernel
theorem dX10_goesPast_8 : decode cX10_goesPast 8 = .ok (.ifCond .lt 18, 3) := by decide +kernel
theorem dX10_goesPast_11 : decode cX10_goesPast 11 = .ok (.aload_n 0, 1) := by decide +kernel
theorem dX10_goesPast_12 : decode cX10_goesPast 12 = .ok (.getfield 50, 3) := by decide +kernel
theorem dX10_goesPast_15 : decode cX10_goesPast 15 = .ok (.iload_n 1, 1) := by decide +kernel
theorem dX10_goesPast_16 : decode cX10_goesPast 16 = .ok (.iaload, 1) := by decide +kernel
theorem dX10_goesPast_17 : decode cX10_goesPast 17 = .ok (.ifCond .ne 9, 3) := by decide +kernel
theorem dX10_goesPast_20 : decode cX10_goesPast 20 = .ok (.iinc 1 (-1), 3) := by decide +kernel
theorem dX10_goesPast_23 : decode cX10_goesPast 23 = .ok (.goto (-16), 3) := by decide +kernel
theorem dX10_goesPast_26 : decode cX10_goesPast 26 = .ok (.iload_n 1, 1) := by decide +kernel
theorem dX10_goesPast_27 : decode cX10_goesPast 27 = .ok (.ifCond .ge 5, 3) := by decide +kernel
theorem dX10_goesPast_30 : decode cX10_goesPast 30 = .ok (.iconst 0, 1) := by decide +kernel
theorem dX10_goesPast_31 : decode cX10_goesPast 31 = .ok (.ireturn, 1) := by decide +kernel
theorem dX10_goesPast_32 : decode cX10_goesPast 32 = .ok (.aload_n 0, 1) := by decide +kernel
theorem dX10_goesPast_33 : decode cX10_goesPast 33 = .ok (.getfield 50, 3) := by decide +kernel
theorem dX10_goesPast_36 : decode cX10_goesPast 36 = .ok (.iload_n 1, 1) := by decide +kernel
theorem dX10_goesPast_37 : decode cX10_goesPast 37 = .ok (.iconst 0, 1) := by decide +kernel
theorem dX10_goesPast_38 : decode cX10_goesPast 38 = .ok (.iastore, 1) := by decide +kernel
theorem dX10_goesPast_39 : decode cX10_goesPast 39 = .ok (.iload_n 1, 1) := by decide +kernel
theorem dX10_goesPast_40 : decode cX10_goesPast 40 = .ok (.ifCond .ne 5, 3) := by decide +kernel
theorem dX10_goesPast_43 : decode cX10_goesPast 43 = .ok (.iconst 0, 1) := by decide +kernel
theorem dX10_goesPast_44 : decode cX10_goesPast 44 = .ok (.ireturn, 1) := by decide +kernel
theorem dX10_goesPast_45 : decode cX10_goesPast 45 = .ok (.aload_n 0, 1) := by decide +kernel
theorem dX10_goesPast_46 : decode cX10_goesPast 46 = .ok (.getfield 50, 3) := by decide +kernel
theorem dX10_goesPast_49 : decode cX10_goesPast 49 = .ok (.iload_n 1, 1) := by decide +kernel
theorem dX10_goesPast_50 : decode cX10_goesPast 50 = .ok (.iconst 1, 1) := by decide +kernel
theorem dX10_goesPast_51 : decode cX10_goesPast 51 = .ok (.isub, 1) := by decide +kernel
theorem dX10_goesPast_52 : decode cX10_goesPast 52 = .ok (.dup2, 1) := by decide +kernel
theorem dX10_goesPast_53 : decode cX10_goesPast 53 = .ok (.iaload, 1) := by decide +kernel
theorem dX10_goesPast_54 : decode cX10_goesPast 54 = .ok (.iconst 1, 1) := by decide +kernel
theorem dX10_goesPast_55 : decode cX10_goesPast 55 = .ok (.iadd, 1) := by decide +kernel
theorem dX10_goesPast_56 : decode cX10_goesPast 56 = .ok (.iastore, 1) := by decide +kernel
theorem dX10_goesPast_57 : decode cX10_goesPast 57 = .ok (.aload_n 0, 1) := by decide +kernel
theorem dX10_goesPast_58 : decode cX10_goesPast 58 = .ok (.invokevirtual 144, 3) := by decide +kernel
theorem dX10_goesPast_61 : decode cX10_goesPast 61 = .ok (.iconst 1, 1) := by decide +kernel
theorem dX10_goesPast_62 : decode cX10_goesPast 62 = .ok (.ireturn, 1) := by decide +kernel
theorem dX10_goesUp_0 : decode cX10_goesUp 0 = .ok (.aload_n 0, 1) := by decide +kernel
theorem dX10_goesUp_1 : decode cX10_goesUp 1 = .ok (.getfield 82, 3) := by decide +kernel
theorem dX10_goesUp_4 : decode cX10_goesUp 4 = .ok (.ifCond .ne 5, 3) := by decide +kernel
theorem dX10_goesUp_7 : decode cX10_goesUp 7 = .ok (.iconst 0, 1) := by decide +kernel
theorem dX10_goesUp_8 : decode cX10_goesUp 8 = .ok (.ireturn, 1) := by decide +kernel
theorem dX10_goesUp_9 : decode cX10_goesUp 9 = .ok (.aload_n 0, 1) := by decide +kernel
theorem dX10_goesUp_10 : decode cX10_goesUp 10 = .ok (.getfield 50, 3) := by decide +kernel
theorem dX10_goesUp_13 : decode cX10_goesUp 13 = .ok (.aload_n 0, 1) := by decide +kernel
theorem dX10_goesUp_14 : decode cX10_goesUp 14 = .ok (.getfield 82, 3) := by decide +kernel
theorem dX10_goesUp_17 : decode cX10_goesUp 17 = .ok (.iconst 1, 1) := by decide +kernel
theorem dX10_goesUp_18 : decode cX10_goesUp 18 = .ok (.isub, 1) := by decide +kernel
theorem dX10_goesUp_19 : decode cX10_goesUp 19 = .ok (.dup2, 1) := by decide +kernel
theorem dX10_goesUp_20 : decode cX10_goesUp 20 = .ok (.iaload, 1) := by decide +kernel
theorem dX10_goesUp_21 : decode cX10_goesUp 21 = .ok (.iconst 1, 1) := by decide +kernel
theorem dX10_goesUp_22 : decode cX10_goesUp 22 = .ok (.iadd, 1) := by decide +kernel
theorem dX10_goesUp_23 : decode cX10_goesUp 23 = .ok (.iastore, 1) := by decide +kernel
theorem dX10_goesUp_24 : decode cX10_goesUp 24 = .ok (.aload_n 0, 1) := by decide +kernel
theorem dX10_goesUp_25 : decode cX10_goesUp 25 = .ok (.invokevirtual 144, 3) := by decide +kernel
theorem dX10_goesUp_28 : decode cX10_goesUp 28 = .ok (.iconst 1, 1) := by decide +kernel
theorem dX10_goesUp_29 : decode cX10_goesUp 29 = .ok (.ireturn, 1) := by decide +kernel
theorem dX10_magicTo_0 : decode cX10_magicTo 0 = .ok (.aload_n 0, 1) := by decide +kernel
theorem dX10_magicTo_1 : decode cX10_magicTo 1 = .ok (.invokevirtual 168, 3) := by decide +kernel
theorem dX10_magicTo_4 : decode cX10_magicTo 4 = .ok (.iconst 0, 1) := by decide +kernel
theorem dX10_magicTo_5 : decode cX10_magicTo 5 = .ok (.istore_n 3, 1) := by decide +kernel
theorem dX10_magicTo_6 : decode cX10_magicTo 6 = .ok (.iconst 1, 1) := by decide +kernel
theorem dX10_magicTo_7 : decode cX10_magicTo 7 = .ok (.istore 4, 2) := by decide +kernel
theorem dX10_magicTo_9 : decode cX10_magicTo 9 = .ok (.iload 4, 2) := by decide +kernel
theorem dX10_magicTo_11 : decode cX10_magicTo 11 = .ok (.ifCond .eq 47, 3) := by decide +kernel
theorem dX10_magicTo_14 : decode cX10_magicTo 14 = .ok (.aload_n 0, 1) := by decide +kernel
theorem dX10_magicTo_15 : decode cX10_magicTo 15 = .ok (.iload_n 1, 1) := by decide +kernel
theorem dX10_magicTo_16 : decode cX10_magicTo 16 = .ok (.invokevirtual 178, 3) := by decide +kernel
theorem dX10_magicTo_19 : decode cX10_magicTo 19 = .ok (.ifCond .eq 12, 3) := by decide +kernel
theorem dX10_magicTo_22 : decode cX10_magicTo 22 = .ok (.aload_n 0, 1) := by decide +kernel
theorem dX10_magicTo_23 : decode cX10_magicTo 23 = .ok (.invokevirtual 181, 3) := by decide +kernel
theorem dX10_magicTo_26 : decode cX10_magicTo 26 = .ok (.istore 4, 2) := by decide +kernel
theorem dX10_magicTo_28 : decode cX10_magicTo 28 = .ok (.goto (-19), 3) := by decide +kernel
theorem dX10_magicTo_31 : decode cX10_magicTo 31 = .ok (.aload_n 0, 1) := by decide +kernel
theorem dX10_magicTo_32 : decode cX10_magicTo 32 = .ok (.iload_n 1, 1) := by decide +kernel
theorem dX10_magicTo_33 : decode cX10_magicTo 33 = .ok (.invokevirtual 185, 3) := by decide +kernel
theorem dX10_magicTo_36 : decode cX10_magicTo 36 = .ok (.ifCond .eq 13, 3) := by decide +kernel
theorem dX10_magicTo_39 : decode cX10_magicTo 39 = .ok (.iload_n 3, 1) := by decide +kernel
theorem dX10_magicTo_40 : decode cX10_magicTo 40 = .ok (.iload_n 2, 1) := by decide +kernel
theorem dX10_magicTo_41 : decode cX10_magicTo 41 = .ok (.if_icmp .ne 5, 3) := by decide +kernel
theorem dX10_magicTo_44 : decode cX10_magicTo 44 = .ok (.iload_n 3, 1) := by decide +kernel
theorem dX10_magicTo_45 : decode cX10_magicTo 45 = .ok (.ireturn, 1) := by decide +kernel
theorem dX10_magicTo_46 : decode cX10_magicTo 46 = .ok (.iinc 3 1, 3) := by decide +kernel
theorem dX10_magicTo_49 : decode cX10_magicTo 49 = .ok (.aload_n 0, 1) := by decide +kernel
theorem dX10_magicTo_50 : decode cX10_magicTo 50 = .ok (.invokevirtual 188, 3) := by decide +kernel
theorem dX10_magicTo_53 : decode cX10_magicTo 53 = .ok (.istore 4, 2) := by decide +kernel
theorem dX10_magicTo_55 : decode cX10_magicTo 55 = .ok (.goto (-46), 3) := by decide +kernel
theorem dX10_magicTo_58 : decode cX10_magicTo 58 = .ok (.iload_n 3, 1) := by decide +kernel
theorem dX10_magicTo_59 : decode cX10_magicTo 59 = .ok (.ireturn, 1) := by decide +kernel
theorem dX10_magic_0 : decode cX10_magic 0 = .ok (.iload_n 1, 1) := by decide +kernel
theorem dX10_magic_1 : decode cX10_magic 1 = .ok (.ifCond .lt 8, 3) := by decide +kernel
theorem dX10_magic_4 : decode cX10_magic 4 = .ok (.iload_n 2, 1) := by decide +kernel
theorem dX10_magic_5 : decode cX10_magic 5 = .ok (.iconst (-1), 1) := by decide +kernel
theorem dX10_magic_6 : decode cX10_magic 6 = .ok (.if_icmp .ge 10, 3) := by decide +kernel
theorem dX10_magic_9 : decode cX10_magic 9 = .ok (.aload_n 0, 1) := by decide +kernel
theorem dX10_magic_10 : decode cX10_magic 10 = .ok (.bipush (-4), 2) := by decide +kernel
theorem dX10_magic_12 : decode cX10_magic 12 = .ok (.invokevirtual 87, 3) := by decide +kernel
theorem dX10_magic_15 : decode cX10_magic 15 = .ok (.ireturn, 1) := by decide +kernel
theorem dX10_magic_16 : decode cX10_magic 16 = .ok (.iload_n 1, 1) := by decide +kernel
theorem dX10_magic_17 : decode cX10_magic 17 = .ok (.bipush 6, 2) := by decide +kernel
theorem dX10_magic_19 : decode cX10_magic 19 = .ok (.if_icmp .le 10, 3) := by decide +kernel
theorem dX10_magic_22 : decode cX10_magic 22 = .ok (.aload_n 0, 1) := by decide +kernel
theorem dX10_magic_23 : decode cX10_magic 23 = .ok (.bipush (-6), 2) := by decide +kernel
theorem dX10_magic_25 : decode cX10_magic 25 = .ok (.invokevirtual 87, 3) := by decide +kernel
theorem dX10_magic_28 : decode cX10_magic 28 = .ok (.ireturn, 1) := by decide +kernel
theorem dX10_magic_29 : decode cX10_magic 29 = .ok (.iload_n 2, 1) := by decide +kernel
theorem dX10_magic_30 : decode cX10_magic 30 = .ok (.ifCond .lt 17, 3) := by decide +kernel
theorem dX10_magic_33 : decode cX10_magic 33 = .ok (.aload_n 0, 1) := by decide +kernel
theorem dX10_magic_34 : decode cX10_magic 34 = .ok (.iload_n 3, 1) := by decide +kernel
theorem dX10_magic_35 : decode cX10_magic 35 = .ok (.invokevirtual 108, 3) := by decide +kernel
theorem dX10_magic_38 : decode cX10_magic 38 = .ok (.ifCond .ne 9, 3) := by decide +kernel
theorem dX10_magic_41 : decode cX10_magic 41 = .ok (.aload_n 0, 1) := by decide +kernel
theorem dX10_magic_42 : decode cX10_magic 42 = .ok (.iconst (-1), 1) := by decide +kernel
theorem dX10_magic_43 : decode cX10_magic 43 = .ok (.invokevirtual 87, 3) := by decide +kernel
theorem dX10_magic_46 : decode cX10_magic 46 = .ok (.ireturn, 1) := by decide +kernel
theorem dX10_magic_47 : decode cX10_magic 47 = .ok (.iload_n 2, 1) := by decide +kernel
theorem dX10_magic_48 : decode cX10_magic 48 = .ok (.ifCond .ge 10, 3) := by decide +kernel
theorem dX10_magic_51 : decode cX10_magic 51 = .ok (.aload_n 0, 1) := by decide +kernel
theorem dX10_magic_52 : decode cX10_magic 52 = .ok (.iload_n 1, 1) := by decide +kernel
theorem dX10_magic_53 : decode cX10_magic 53 = .ok (.iconst (-1), 1) := by decide +kernel
theorem dX10_magic_54 : decode cX10_magic 54 = .ok (.invokevirtual 191, 3) := by decide +kernel
theorem dX10_magic_57 : decode cX10_magic 57 = .ok (.ireturn, 1) := by decide +kernel
theorem dX10_magic_58 : decode cX10_magic 58 = .ok (.aload_n 0, 1) := by decide +kernel
theorem dX10_magic_59 : decode cX10_magic 59 = .ok (.iload_n 1, 1) := by decide +kernel
theorem dX10_magic_60 : decode cX10_magic 60 = .ok (.iconst (-1), 1) := by decide +kernel
theorem dX10_magic_61 : decode cX10_magic 61 = .ok (.invokevirtual 191, 3) := by decide +kernel
theorem dX10_magic_64 : decode cX10_magic 64 = .ok (.iload_n 2, 1) := by decide +kernel
theorem dX10_magic_65 : decode cX10_magic 65 = .ok (.if_icmp .gt 6, 3) := by decide +kernel
theorem dX10_magic_68 : decode cX10_magic 68 = .ok (.bipush (-9), 2) := by decide +kernel
theorem dX10_magic_70 : decode cX10_magic 70 = .ok (.ireturn, 1) := by decide +kernel
theorem dX10_magic_71 : decode cX10_magic 71 = .ok (.aload_n 0, 1) := by decide +kernel
theorem dX10_magic_72 : decode cX10_magic 72 = .ok (.iload_n 1, 1) := by decide +kernel
theorem dX10_magic_73 : decode cX10_magic 73 = .ok (.iload_n 2, 1) := by decide +kernel
theorem dX10_magic_74 : decode cX10_magic 74 = .ok (.invokevirtual 191, 3) := by decide +kernel
theorem dX10_magic_77 : decode cX10_magic 77 = .ok (.istore 4, 2) := by decide +kernel
theorem dX10_magic_79 : decode cX10_magic 79 = .ok (.aload_n 0, 1) := by decide +kernel
theorem dX10_magic_80 : decode cX10_magic 80 = .ok (.getfield 50, 3) := by decide +kernel
theorem dX10_magic_83 : decode cX10_magic 83 = .ok (.iload_n 3, 1) := by decide +kernel
theorem dX10_magic_84 : decode cX10_magic 84 = .ok (.iaload, 1) := by decide +kernel
theorem dX10_magic_85 : decode cX10_magic 85 = .ok (.ireturn, 1) := by decide +kernel
theorem dX10_layMagic_0 : decode cX10_layMagic 0 = .ok (.iconst 0, 1) := by decide +kernel
theorem dX10_layMagic_1 : decode cX10_layMagic 1 = .ok (.istore_n 1, 1) := by decide +kernel
theorem dX10_layMagic_2 : decode cX10_layMagic 2 = .ok (.iload_n 1, 1) := by decide +kernel
theorem dX10_layMagic_3 : decode cX10_layMagic 3 = .ok (.bipush 6, 2) := by decide +kernel
theorem dX10_layMagic_5 : decode cX10_layMagic 5 = .ok (.if_icmp .gt 21, 3) := by decide +kernel
theorem dX10_layMagic_8 : decode cX10_layMagic 8 = .ok (.aload_n 0, 1) := by decide +kernel
theorem dX10_layMagic_9 : decode cX10_layMagic 9 = .ok (.getfield 59, 3) := by decide +kernel
theorem dX10_layMagic_12 : decode cX10_layMagic 12 = .ok (.iload_n 1, 1) := by decide +kernel
theorem dX10_layMagic_13 : decode cX10_layMagic 13 = .ok (.aload_n 0, 1) := by decide +kernel
theorem dX10_layMagic_14 : decode cX10_layMagic 14 = .ok (.iload_n 1, 1) := by decide +kernel
theorem dX10_layMagic_15 : decode cX10_layMagic 15 = .ok (.iconst (-1), 1) := by decide +kernel
theorem dX10_layMagic_16 : decode cX10_layMagic 16 = .ok (.invokevirtual 191, 3) := by decide +kernel
theorem dX10_layMagic_19 : decode cX10_layMagic 19 = .ok (.iastore, 1) := by decide +kernel
theorem dX10_layMagic_20 : decode cX10_layMagic 20 = .ok (.iinc 1 1, 3) := by decide +kernel
theorem dX10_layMagic_23 : decode cX10_layMagic 23 = .ok (.goto (-21), 3) := by decide +kernel
theorem dX10_layMagic_26 : decode cX10_layMagic 26 = .ok (.return_, 1) := by decide +kernel
theorem dX10_differ_0 : decode cX10_differ 0 = .ok (.iconst 0, 1) := by decide +kernel
theorem dX10_differ_1 : decode cX10_differ 1 = .ok (.istore_n 2, 1) := by decide +kernel
theorem dX10_differ_2 : decode cX10_differ 2 = .ok (.iload_n 2, 1) := by decide +kernel
theorem dX10_differ_3 : decode cX10_differ 3 = .ok (.bipush 6, 2) := by decide +kernel
theorem dX10_differ_5 : decode cX10_differ 5 = .ok (.iload_n 1, 1) := by decide +kernel
theorem dX10_differ_6 : decode cX10_differ 6 = .ok (.isub, 1) := by decide +kernel
theorem dX10_differ_7 : decode cX10_differ 7 = .ok (.if_icmp .ge 30, 3) := by decide +kernel
theorem dX10_differ_10 : decode cX10_differ 10 = .ok (.aload_n 0, 1) := by decide +kernel
theorem dX10_differ_11 : decode cX10_differ 11 = .ok (.getfield 59, 3) := by decide +kernel
theorem dX10_differ_14 : decode cX10_differ 14 = .ok (.iload_n 2, 1) := by decide +kernel
theorem dX10_differ_15 : decode cX10_differ 15 = .ok (.aload_n 0, 1) := by decide +kernel
theorem dX10_differ_16 : decode cX10_differ 16 = .ok (.getfield 59, 3) := by decide +kernel
theorem dX10_differ_19 : decode cX10_differ 19 = .ok (.iload_n 2, 1) := by decide +kernel
theorem dX10_differ_20 : decode cX10_differ 20 = .ok (.iconst 1, 1) := by decide +kernel
theorem dX10_differ_21 : decode cX10_differ 21 = .ok (.iadd, 1) := by decide +kernel
theorem dX10_differ_22 : decode cX10_differ 22 = .ok (.iaload, 1) := by decide +kernel
theorem dX10_differ_23 : decode cX10_differ 23 = .ok (.aload_n 0, 1) := by decide +kernel
theorem dX10_differ_24 : decode cX10_differ 24 = .ok (.getfield 59, 3) := by decide +kernel
theorem dX10_differ_27 : decode cX10_differ 27 = .ok (.iload_n 2, 1) := by decide +kernel
theorem dX10_differ_28 : decode cX10_differ 28 = .ok (.iaload, 1) := by decide +kernel
theorem dX10_differ_29 : decode cX10_differ 29 = .ok (.isub, 1) := by decide +kernel
theorem dX10_differ_30 : decode cX10_differ 30 = .ok (.iastore, 1) := by decide +kernel
theorem dX10_differ_31 : decode cX10_differ 31 = .ok (.iinc 2 1, 3) := by decide +kernel
theorem dX10_differ_34 : decode cX10_differ 34 = .ok (.goto (-32), 3) := by decide +kernel
theorem dX10_differ_37 : decode cX10_differ 37 = .ok (.return_, 1) := by decide +kernel
theorem dX10_difference_0 : decode cX10_difference 0 = .ok (.iload_n 1, 1) := by decide +kernel
theorem dX10_difference_1 : decode cX10_difference 1 = .ok (.ifCond .lt 7, 3) := by decide +kernel
theorem dX10_difference_4 : decode cX10_difference 4 = .ok (.iload_n 2, 1) := by decide +kernel
theorem dX10_difference_5 : decode cX10_difference 5 = .ok (.ifCond .ge 13, 3) := by decide +kernel
theorem dX10_difference_8 : decode cX10_difference 8 = .ok (.ldc 194, 2) := by decide +kernel
theorem dX10_difference_10 : decode cX10_difference 10 = .ok (.aload_n 0, 1) := by decide +kernel
theorem dX10_difference_11 : decode cX10_difference 11 = .ok (.bipush (-4), 2) := by decide +kernel
theorem dX10_difference_13 : decode cX10_difference 13 = .ok (.invokevirtual 87, 3) := by decide +kernel
theorem dX10_difference_16 : decode cX10_difference 16 = .ok (.isub, 1) := by decide +kernel
theorem dX10_difference_17 : decode cX10_difference 17 = .ok (.ireturn, 1) := by decide +kernel
theorem dX10_difference_18 : decode cX10_difference 18 = .ok (.iload_n 1, 1) := by decide +kernel
theorem dX10_difference_19 : decode cX10_difference 19 = .ok (.bipush 6, 2) := by decide +kernel
theorem dX10_difference_21 : decode cX10_difference 21 = .ok (.if_icmp .gt 11, 3) := by decide +kernel
theorem dX10_difference_24 : decode cX10_difference 24 = .ok (.iload_n 2, 1) := by decide +kernel
theorem dX10_difference_25 : decode cX10_difference 25 = .ok (.bipush 6, 2) := by decide +kernel
theorem dX10_difference_27 : decode cX10_difference 27 = .ok (.iload_n 1, 1) := by decide +kernel
theorem dX10_difference_28 : decode cX10_difference 28 = .ok (.isub, 1) := by decide +kernel
theorem dX10_difference_29 : decode cX10_difference 29 = .ok (.if_icmp .le 13, 3) := by decide +kernel
theorem dX10_difference_32 : decode cX10_difference 32 = .ok (.ldc 194, 2) := by decide +kernel
theorem dX10_difference_34 : decode cX10_difference 34 = .ok (.aload_n 0, 1) := by decide +kernel
theorem dX10_difference_35 : decode cX10_difference 35 = .ok (.bipush (-6), 2) := by decide +kernel
theorem dX10_difference_37 : decode cX10_difference 37 = .ok (.invokevirtual 87, 3) := by decide +kernel
theorem dX10_difference_40 : decode cX10_difference 40 = .ok (.isub, 1) := by decide +kernel
theorem dX10_difference_41 : decode cX10_difference 41 = .ok (.ireturn, 1) := by decide +kernel
theorem dX10_difference_42 : decode cX10_difference 42 = .ok (.aload_n 0, 1) := by decide +kernel
theorem dX10_difference_43 : decode cX10_difference 43 = .ok (.invokevirtual 195, 3) := by decide +kernel
theorem dX10_difference_46 : decode cX10_difference 46 = .ok (.iconst 0, 1) := by decide +kernel
theorem dX10_difference_47 : decode cX10_difference 47 = .ok (.istore_n 3, 1) := by decide +kernel
theorem dX10_difference_48 : decode cX10_difference 48 = .ok (.iload_n 3, 1) := by decide +kernel
theorem dX10_difference_49 : decode cX10_difference 49 = .ok (.iload_n 1, 1) := by decide +kernel
theorem dX10_difference_50 : decode cX10_difference 50 = .ok (.if_icmp .ge 14, 3) := by decide +kernel
theorem dX10_difference_53 : decode cX10_difference 53 = .ok (.aload_n 0, 1) := by decide +kernel
theorem dX10_difference_54 : decode cX10_difference 54 = .ok (.iload_n 3, 1) := by decide +kernel
theorem dX10_difference_55 : decode cX10_difference 55 = .ok (.invokevirtual 198, 3) := by decide +kernel
theorem dX10_difference_58 : decode cX10_difference 58 = .ok (.iinc 3 1, 3) := by decide +kernel
theorem dX10_difference_61 : decode cX10_difference 61 = .ok (.goto (-13), 3) := by decide +kernel
theorem dX10_difference_64 : decode cX10_difference 64 = .ok (.aload_n 0, 1) := by decide +kernel
theorem dX10_difference_65 : decode cX10_difference 65 = .ok (.getfield 59, 3) := by decide +kernel
theorem dX10_difference_68 : decode cX10_difference 68 = .ok (.iload_n 2, 1) := by decide +kernel
theorem dX10_difference_69 : decode cX10_difference 69 = .ok (.iaload, 1) := by decide +kernel
theorem dX10_difference_70 : decode cX10_difference 70 = .ok (.ireturn, 1) := by decide +kernel
theorem dX10_settled_0 : decode cX10_settled 0 = .ok (.aload_n 0, 1) := by decide +kernel
theorem dX10_settled_1 : decode cX10_settled 1 = .ok (.invokevirtual 195, 3) := by decide +kernel
theorem dX10_settled_4 : decode cX10_settled 4 = .ok (.iconst 0, 1) := by decide +kernel
theorem dX10_settled_5 : decode cX10_settled 5 = .ok (.istore_n 1, 1) := by decide +kernel
theorem dX10_settled_6 : decode cX10_settled 6 = .ok (.aload_n 0, 1) := by decide +kernel
theorem dX10_settled_7 : decode cX10_settled 7 = .ok (.getfield 59, 3) := by decide +kernel
theorem dX10_settled_10 : decode cX10_settled 10 = .ok (.bipush 7, 2) := by decide +kernel
theorem dX10_settled_12 : decode cX10_settled 12 = .ok (.iload_n 1, 1) := by decide +kernel
theorem dX10_settled_13 : decode cX10_settled 13 = .ok (.isub, 1) := by decide +kernel
theorem dX10_settled_14 : decode cX10_settled 14 = .ok (.aload_n 0, 1) := by decide +kernel
theorem dX10_settled_15 : decode cX10_settled 15 = .ok (.getfield 59, 3) := by decide +kernel
theorem dX10_settled_18 : decode cX10_settled 18 = .ok (.iconst 0, 1) := by decide +kernel
theorem dX10_settled_19 : decode cX10_settled 19 = .ok (.iaload, 1) := by decide +kernel
theorem dX10_settled_20 : decode cX10_settled 20 = .ok (.invokestatic 147, 3) := by decide +kernel
theorem dX10_settled_23 : decode cX10_settled 23 = .ok (.bipush 7, 2) := by decide +kernel
theorem dX10_settled_25 : decode cX10_settled 25 = .ok (.iload_n 1, 1) := by decide +kernel
theorem dX10_settled_26 : decode cX10_settled 26 = .ok (.isub, 1) := by decide +kernel
theorem dX10_settled_27 : decode cX10_settled 27 = .ok (.if_icmp .ge 14, 3) := by decide +kernel
theorem dX10_settled_30 : decode cX10_settled 30 = .ok (.aload_n 0, 1) := by decide +kernel
theorem dX10_settled_31 : decode cX10_settled 31 = .ok (.iload_n 1, 1) := by decide +kernel
theorem dX10_settled_32 : decode cX10_settled 32 = .ok (.invokevirtual 198, 3) := by decide +kernel
theorem dX10_settled_35 : decode cX10_settled 35 = .ok (.iinc 1 1, 3) := by decide +kernel
theorem dX10_settled_38 : decode cX10_settled 38 = .ok (.goto (-32), 3) := by decide +kernel
theorem dX10_settled_41 : decode cX10_settled 41 = .ok (.iload_n 1, 1) := by decide +kernel
theorem dX10_settled_42 : decode cX10_settled 42 = .ok (.ireturn, 1) := by decide +kernel
theorem dX10_nextOrder_0 : decode cX10_nextOrder 0 = .ok (.aload_n 0, 1) := by decide +kernel
theorem dX10_nextOrder_1 : decode cX10_nextOrder 1 = .ok (.getfield 82, 3) := by decide +kernel
theorem dX10_nextOrder_4 : decode cX10_nextOrder 4 = .ok (.iconst 2, 1) := by decide +kernel
theorem dX10_nextOrder_5 : decode cX10_nextOrder 5 = .ok (.isub, 1) := by decide +kernel
theorem dX10_nextOrder_6 : decode cX10_nextOrder 6 = .ok (.istore_n 1, 1) := by decide +kernel
theorem dX10_nextOrder_7 : decode cX10_nextOrder 7 = .ok (.iload_n 1, 1) := by decide +kernel
theorem dX10_nextOrder_8 : decode cX10_nextOrder 8 = .ok (.ifCond .lt 26, 3) := by decide +kernel
theorem dX10_nextOrder_11 : decode cX10_nextOrder 11 = .ok (.aload_n 0, 1) := by decide +kernel
theorem dX10_nextOrder_12 : decode cX10_nextOrder 12 = .ok (.getfield 50, 3) := by decide +kernel
theorem dX10_nextOrder_15 : decode cX10_nextOrder 15 = .ok (.iload_n 1, 1) := by decide +kernel
theorem dX10_nextOrder_16 : decode cX10_nextOrder 16 = .ok (.iaload, 1) := by decide +kernel
theorem dX10_nextOrder_17 : decode cX10_nextOrder 17 = .ok (.aload_n 0, 1) := by decide +kernel
theorem dX10_nextOrder_18 : decode cX10_nextOrder 18 = .ok (.getfield 50, 3) := by decide +kernel
theorem dX10_nextOrder_21 : decode cX10_nextOrder 21 = .ok (.iload_n 1, 1) := by decide +kernel
theorem dX10_nextOrder_22 : decode cX10_nextOrder 22 = .ok (.iconst 1, 1) := by decide +kernel
theorem dX10_nextOrder_23 : decode cX10_nextOrder 23 = .ok (.iadd, 1) := by decide +kernel
theorem dX10_nextOrder_24 : decode cX10_nextOrder 24 = .ok (.iaload, 1) := by decide +kernel
theorem dX10_nextOrder_25 : decode cX10_nextOrder 25 = .ok (.if_icmp .le 9, 3) := by decide +kernel
theorem dX10_nextOrder_28 : decode cX10_nextOrder 28 = .ok (.iinc 1 (-1), 3) := by decide +kernel
theorem dX10_nextOrder_31 : decode cX10_nextOrder 31 = .ok (.goto (-24), 3) := by decide +kernel
theorem dX10_nextOrder_34 : decode cX10_nextOrder 34 = .ok (.iload_n 1, 1) := by decide +kernel
theorem dX10_nextOrder_35 : decode cX10_nextOrder 35 = .ok (.ifCond .ge 5, 3) := by decide +kernel
theorem dX10_nextOrder_38 : decode cX10_nextOrder 38 = .ok (.iconst 0, 1) := by decide +kernel
theorem dX10_nextOrder_39 : decode cX10_nextOrder 39 = .ok (.ireturn, 1) := by decide +kernel
theorem dX10_nextOrder_40 : decode cX10_nextOrder 40 = .ok (.aload_n 0, 1) := by decide +kernel
theorem dX10_nextOrder_41 : decode cX10_nextOrder 41 = .ok (.getfield 82, 3) := by decide +kernel
theorem dX10_nextOrder_44 : decode cX10_nextOrder 44 = .ok (.iconst 1, 1) := by decide +kernel
theorem dX10_nextOrder_45 : decode cX10_nextOrder 45 = .ok (.isub, 1) := by decide +kernel
theorem dX10_nextOrder_46 : decode cX10_nextOrder 46 = .ok (.istore_n 2, 1) := by decide +kernel
theorem dX10_nextOrder_47 : decode cX10_nextOrder 47 = .ok (.aload_n 0, 1) := by decide +kernel
theorem dX10_nextOrder_48 : decode cX10_nextOrder 48 = .ok (.getfield 50, 3) := by decide +kernel
theorem dX10_nextOrder_51 : decode cX10_nextOrder 51 = .ok (.iload_n 2, 1) := by decide +kernel
theorem dX10_nextOrder_52 : decode cX10_nextOrder 52 = .ok (.iaload, 1) := by decide +kernel
theorem dX10_nextOrder_53 : decode cX10_nextOrder 53 = .ok (.aload_n 0, 1) := by decide +kernel
theorem dX10_nextOrder_54 : decode cX10_nextOrder 54 = .ok (.getfield 50, 3) := by decide +kernel
theorem dX10_nextOrder_57 : decode cX10_nextOrder 57 = .ok (.iload_n 1, 1) := by decide +kernel
theorem dX10_nextOrder_58 : decode cX10_nextOrder 58 = .ok (.iaload, 1) := by decide +kernel
theorem dX10_nextOrder_59 : decode cX10_nextOrder 59 = .ok (.if_icmp .ge 9, 3) := by decide +kernel
theorem dX10_nextOrder_62 : decode cX10_nextOrder 62 = .ok (.iinc 2 (-1), 3) := by decide +kernel
theorem dX10_nextOrder_65 : decode cX10_nextOrder 65 = .ok (.goto (-18), 3) := by decide +kernel
theorem dX10_nextOrder_68 : decode cX10_nextOrder 68 = .ok (.aload_n 0, 1) := by decide +kernel
theorem dX10_nextOrder_69 : decode cX10_nextOrder 69 = .ok (.getfield 50, 3) := by decide +kernel
theorem dX10_nextOrder_72 : decode cX10_nextOrder 72 = .ok (.iload_n 1, 1) := by decide +kernel
theorem dX10_nextOrder_73 : decode cX10_nextOrder 73 = .ok (.iaload, 1) := by decide +kernel
theorem dX10_nextOrder_74 : decode cX10_nextOrder 74 = .ok (.istore_n 3, 1) := by decide +kernel
theorem dX10_nextOrder_75 : decode cX10_nextOrder 75 = .ok (.aload_n 0, 1) := by decide +kernel
theorem dX10_nextOrder_76 : decode cX10_nextOrder 76 = .ok (.getfield 50, 3) := by decide +kernel
theorem dX10_nextOrder_79 : decode cX10_nextOrder 79 = .ok (.iload_n 1, 1) := by decide +kernel
theorem dX10_nextOrder_80 : decode cX10_nextOrder 80 = .ok (.aload_n 0, 1) := by decide +kernel
theorem dX10_nextOrder_81 : decode cX10_nextOrder 81 = .ok (.getfield 50, 3) := by decide +kernel
theorem dX10_nextOrder_84 : decode cX10_nextOrder 84 = .ok (.iload_n 2, 1) := by decide +kernel
theorem dX10_nextOrder_85 : decode cX10_nextOrder 85 = .ok (.iaload, 1) := by decide +kernel
theorem dX10_nextOrder_86 : decode cX10_nextOrder 86 = .ok (.iastore, 1) := by decide +kernel
theorem dX10_nextOrder_87 : decode cX10_nextOrder 87 = .ok (.aload_n 0, 1) := by decide +kernel
theorem dX10_nextOrder_88 : decode cX10_nextOrder 88 = .ok (.getfield 50, 3) := by decide +kernel
theorem dX10_nextOrder_91 : decode cX10_nextOrder 91 = .ok (.iload_n 2, 1) := by decide +kernel
theorem dX10_nextOrder_92 : decode cX10_nextOrder 92 = .ok (.iload_n 3, 1) := by decide +kernel
theorem dX10_nextOrder_93 : decode cX10_nextOrder 93 = .ok (.iastore, 1) := by decide +kernel
theorem dX10_nextOrder_94 : decode cX10_nextOrder 94 = .ok (.iload_n 1, 1) := by decide +kernel
theorem dX10_nextOrder_95 : decode cX10_nextOrder 95 = .ok (.iconst 1, 1) := by decide +kernel
theorem dX10_nextOrder_96 : decode cX10_nextOrder 96 = .ok (.iadd, 1) := by decide +kernel
theorem dX10_nextOrder_97 : decode cX10_nextOrder 97 = .ok (.istore 4, 2) := by decide +kernel
theorem dX10_nextOrder_99 : decode cX10_nextOrder 99 = .ok (.aload_n 0, 1) := by decide +kernel
theorem dX10_nextOrder_100 : decode cX10_nextOrder 100 = .ok (.getfield 82, 3) := by decide +kernel
theorem dX10_nextOrder_103 : decode cX10_nextOrder 103 = .ok (.iconst 1, 1) := by decide +kernel
theorem dX10_nextOrder_104 : decode cX10_nextOrder 104 = .ok (.isub, 1) := by decide +kernel
theorem dX10_nextOrder_105 : decode cX10_nextOrder 105 = .ok (.istore 5, 2) := by decide +kernel
theorem dX10_nextOrder_107 : decode cX10_nextOrder 107 = .ok (.iload 4, 2) := by decide +kernel
theorem dX10_nextOrder_109 : decode cX10_nextOrder 109 = .ok (.iload 5, 2) := by decide +kernel
theorem dX10_nextOrder_111 : decode cX10_nextOrder 111 = .ok (.if_icmp .ge 42, 3) := by decide +kernel
theorem dX10_nextOrder_114 : decode cX10_nextOrder 114 = .ok (.aload_n 0, 1) := by decide +kernel
theorem dX10_nextOrder_115 : decode cX10_nextOrder 115 = .ok (.getfield 50, 3) := by decide +kernel
theorem dX10_nextOrder_118 : decode cX10_nextOrder 118 = .ok (.iload 4, 2) := by decide +kernel
theorem dX10_nextOrder_120 : decode cX10_nextOrder 120 = .ok (.iaload, 1) := by decide +kernel
theorem dX10_nextOrder_121 : decode cX10_nextOrder 121 = .ok (.istore_n 3, 1) := by decide +kernel
theorem dX10_nextOrder_122 : decode cX10_nextOrder 122 = .ok (.aload_n 0, 1) := by decide +kernel
theorem dX10_nextOrder_123 : decode cX10_nextOrder 123 = .ok (.getfield 50, 3) := by decide +kernel
theorem dX10_nextOrder_126 : decode cX10_nextOrder 126 = .ok (.iload 4, 2) := by decide +kernel
theorem dX10_nextOrder_128 : decode cX10_nextOrder 128 = .ok (.aload_n 0, 1) := by decide +kernel
theorem dX10_nextOrder_129 : decode cX10_nextOrder 129 = .ok (.getfield 50, 3) := by decide +kernel
theorem dX10_nextOrder_132 : decode cX10_nextOrder 132 = .ok (.iload 5, 2) := by decide +kernel
theorem dX10_nextOrder_134 : decode cX10_nextOrder 134 = .ok (.iaload, 1) := by decide +kernel
theorem dX10_nextOrder_135 : decode cX10_nextOrder 135 = .ok (.iastore, 1) := by decide +kernel
theorem dX10_nextOrder_136 : decode cX10_nextOrder 136 = .ok (.aload_n 0, 1) := by decide +kernel
theorem dX10_nextOrder_137 : decode cX10_nextOrder 137 = .ok (.getfield 50, 3) := by decide +kernel
theorem dX10_nextOrder_140 : decode cX10_nextOrder 140 = .ok (.iload 5, 2) := by decide +kernel
theorem dX10_nextOrder_142 : decode cX10_nextOrder 142 = .ok (.iload_n 3, 1) := by decide +kernel
theorem dX10_nextOrder_143 : decode cX10_nextOrder 143 = .ok (.iastore, 1) := by decide +kernel
theorem dX10_nextOrder_144 : decode cX10_nextOrder 144 = .ok (.iinc 4 1, 3) := by decide +kernel
theorem dX10_nextOrder_147 : decode cX10_nextOrder 147 = .ok (.iinc 5 (-1), 3) := by decide +kernel
theorem dX10_nextOrder_150 : decode cX10_nextOrder 150 = .ok (.goto (-43), 3) := by decide +kernel
theorem dX10_nextOrder_153 : decode cX10_nextOrder 153 = .ok (.aload_n 0, 1) := by decide +kernel
theorem dX10_nextOrder_154 : decode cX10_nextOrder 154 = .ok (.invokevirtual 144, 3) := by decide +kernel
theorem dX10_nextOrder_157 : decode cX10_nextOrder 157 = .ok (.iconst 1, 1) := by decide +kernel
theorem dX10_nextOrder_158 : decode cX10_nextOrder 158 = .ok (.ireturn, 1) := by decide +kernel
theorem dX10_ordersTo_0 : decode cX10_ordersTo 0 = .ok (.iconst 0, 1) := by decide +kernel
theorem dX10_ordersTo_1 : decode cX10_ordersTo 1 = .ok (.istore_n 2, 1) := by decide +kernel
theorem dX10_ordersTo_2 : decode cX10_ordersTo 2 = .ok (.iload_n 2, 1) := by decide +kernel
theorem dX10_ordersTo_3 : decode cX10_ordersTo 3 = .ok (.aload_n 0, 1) := by decide +kernel
theorem dX10_ordersTo_4 : decode cX10_ordersTo 4 = .ok (.getfield 82, 3) := by decide +kernel
theorem dX10_ordersTo_7 : decode cX10_ordersTo 7 = .ok (.if_icmp .ge 18, 3) := by decide +kernel
theorem dX10_ordersTo_10 : decode cX10_ordersTo 10 = .ok (.aload_n 0, 1) := by decide +kernel
theorem dX10_ordersTo_11 : decode cX10_ordersTo 11 = .ok (.getfield 50, 3) := by decide +kernel
theorem dX10_ordersTo_14 : decode cX10_ordersTo 14 = .ok (.iload_n 2, 1) := by decide +kernel
theorem dX10_ordersTo_15 : decode cX10_ordersTo 15 = .ok (.iload_n 2, 1) := by decide +kernel
theorem dX10_ordersTo_16 : decode cX10_ordersTo 16 = .ok (.iconst 1, 1) := by decide +kernel
theorem dX10_ordersTo_17 : decode cX10_ordersTo 17 = .ok (.iadd, 1) := by decide +kernel
theorem dX10_ordersTo_18 : decode cX10_ordersTo 18 = .ok (.iastore, 1) := by decide +kernel
theorem dX10_ordersTo_19 : decode cX10_ordersTo 19 = .ok (.iinc 2 1, 3) := by decide +kernel
theorem dX10_ordersTo_22 : decode cX10_ordersTo 22 = .ok (.goto (-20), 3) := by decide +kernel
theorem dX10_ordersTo_25 : decode cX10_ordersTo 25 = .ok (.aload_n 0, 1) := by decide +kernel
theorem dX10_ordersTo_26 : decode cX10_ordersTo 26 = .ok (.invokevirtual 141, 3) := by decide +kernel
theorem dX10_ordersTo_29 : decode cX10_ordersTo 29 = .ok (.aload_n 0, 1) := by decide +kernel
theorem dX10_ordersTo_30 : decode cX10_ordersTo 30 = .ok (.invokevirtual 144, 3) := by decide +kernel
theorem dX10_ordersTo_33 : decode cX10_ordersTo 33 = .ok (.aload_n 0, 1) := by decide +kernel
theorem dX10_ordersTo_34 : decode cX10_ordersTo 34 = .ok (.bipush (-9), 2) := by decide +kernel
theorem dX10_ordersTo_36 : decode cX10_ordersTo 36 = .ok (.putfield 202, 3) := by decide +kernel
theorem dX10_ordersTo_39 : decode cX10_ordersTo 39 = .ok (.iconst 0, 1) := by decide +kernel
theorem dX10_ordersTo_40 : decode cX10_ordersTo 40 = .ok (.istore_n 2, 1) := by decide +kernel
theorem dX10_ordersTo_41 : decode cX10_ordersTo 41 = .ok (.iconst 1, 1) := by decide +kernel
theorem dX10_ordersTo_42 : decode cX10_ordersTo 42 = .ok (.istore_n 3, 1) := by decide +kernel
theorem dX10_ordersTo_43 : decode cX10_ordersTo 43 = .ok (.iload_n 3, 1) := by decide +kernel
theorem dX10_ordersTo_44 : decode cX10_ordersTo 44 = .ok (.ifCond .eq 127, 3) := by decide +kernel
theorem dX10_ordersTo_47 : decode cX10_ordersTo 47 = .ok (.aload_n 0, 1) := by decide +kernel
theorem dX10_ordersTo_48 : decode cX10_ordersTo 48 = .ok (.getfield 53, 3) := by decide +kernel
theorem dX10_ordersTo_51 : decode cX10_ordersTo 51 = .ok (.aload_n 0, 1) := by decide +kernel
theorem dX10_ordersTo_52 : decode cX10_ordersTo 52 = .ok (.getfield 7, 3) := by decide +kernel
theorem dX10_ordersTo_55 : decode cX10_ordersTo 55 = .ok (.invokestatic 155, 3) := by decide +kernel
theorem dX10_ordersTo_58 : decode cX10_ordersTo 58 = .ok (.ifCond .eq 105, 3) := by decide +kernel
theorem dX10_ordersTo_61 : decode cX10_ordersTo 61 = .ok (.iload_n 2, 1) := by decide +kernel
theorem dX10_ordersTo_62 : decode cX10_ordersTo 62 = .ok (.iload_n 1, 1) := by decide +kernel
theorem dX10_ordersTo_63 : decode cX10_ordersTo 63 = .ok (.if_icmp .ne 5, 3) := by decide +kernel
theorem dX10_ordersTo_66 : decode cX10_ordersTo 66 = .ok (.iload_n 2, 1) := by decide +kernel
theorem dX10_ordersTo_67 : decode cX10_ordersTo 67 = .ok (.ireturn, 1) := by decide +kernel
theorem dX10_ordersTo_68 : decode cX10_ordersTo 68 = .ok (.iinc 2 1, 3) := by decide +kernel
theorem dX10_ordersTo_71 : decode cX10_ordersTo 71 = .ok (.iconst 0, 1) := by decide +kernel
theorem dX10_ordersTo_72 : decode cX10_ordersTo 72 = .ok (.istore 4, 2) := by decide +kernel
theorem dX10_ordersTo_74 : decode cX10_ordersTo 74 = .ok (.aload_n 0, 1) := by decide +kernel
theorem dX10_ordersTo_75 : decode cX10_ordersTo 75 = .ok (.getfield 53, 3) := by decide +kernel
theorem dX10_ordersTo_78 : decode cX10_ordersTo 78 = .ok (.iconst 0, 1) := by decide +kernel
theorem dX10_ordersTo_79 : decode cX10_ordersTo 79 = .ok (.iaload, 1) := by decide +kernel
theorem dX10_ordersTo_80 : decode cX10_ordersTo 80 = .ok (.istore 5, 2) := by decide +kernel
theorem dX10_ordersTo_82 : decode cX10_ordersTo 82 = .ok (.iconst 0, 1) := by decide +kernel
theorem dX10_ordersTo_83 : decode cX10_ordersTo 83 = .ok (.istore 6, 2) := by decide +kernel
theorem dX10_ordersTo_85 : decode cX10_ordersTo 85 = .ok (.iload 6, 2) := by decide +kernel
theorem dX10_ordersTo_87 : decode cX10_ordersTo 87 = .ok (.aload_n 0, 1) := by decide +kernel
theorem dX10_ordersTo_88 : decode cX10_ordersTo 88 = .ok (.getfield 7, 3) := by decide +kernel
theorem dX10_ordersTo_91 : decode cX10_ordersTo 91 = .ok (.if_icmp .ge 37, 3) := by decide +kernel
theorem dX10_ordersTo_94 : decode cX10_ordersTo 94 = .ok (.iload 4, 2) := by decide +kernel
theorem dX10_ordersTo_96 : decode cX10_ordersTo 96 = .ok (.aload_n 0, 1) := by decide +kernel
theorem dX10_ordersTo_97 : decode cX10_ordersTo 97 = .ok (.getfield 53, 3) := by decide +kernel
theorem dX10_ordersTo_100 : decode cX10_ordersTo 100 = .ok (.iload 6, 2) := by decide +kernel
theorem dX10_ordersTo_102 : decode cX10_ordersTo 102 = .ok (.iaload, 1) := by decide +kernel
theorem dX10_ordersTo_103 : decode cX10_ordersTo 103 = .ok (.invokestatic 205, 3) := by decide +kernel
theorem dX10_ordersTo_106 : decode cX10_ordersTo 106 = .ok (.istore 4, 2) := by decide +kernel
theorem dX10_ordersTo_108 : decode cX10_ordersTo 108 = .ok (.iload 5, 2) := by decide +kernel
theorem dX10_ordersTo_110 : decode cX10_ordersTo 110 = .ok (.aload_n 0, 1) := by decide +kernel
theorem dX10_ordersTo_111 : decode cX10_ordersTo 111 = .ok (.getfield 53, 3) := by decide +kernel
theorem dX10_ordersTo_114 : decode cX10_ordersTo 114 = .ok (.iload 6, 2) := by decide +kernel
theorem dX10_ordersTo_116 : decode cX10_ordersTo 116 = .ok (.iaload, 1) := by decide +kernel
theorem dX10_ordersTo_117 : decode cX10_ordersTo 117 = .ok (.invokestatic 210, 3) := by decide +kernel
theorem dX10_ordersTo_120 : decode cX10_ordersTo 120 = .ok (.istore 5, 2) := by decide +kernel
theorem dX10_ordersTo_122 : decode cX10_ordersTo 122 = .ok (.iinc 6 1, 3) := by decide +kernel
theorem dX10_ordersTo_125 : decode cX10_ordersTo 125 = .ok (.goto (-40), 3) := by decide +kernel
theorem dX10_ordersTo_128 : decode cX10_ordersTo 128 = .ok (.aload_n 0, 1) := by decide +kernel
theorem dX10_ordersTo_129 : decode cX10_ordersTo 129 = .ok (.aload_n 0, 1) := by decide +kernel
theorem dX10_ordersTo_130 : decode cX10_ordersTo 130 = .ok (.getfield 202, 3) := by decide +kernel
theorem dX10_ordersTo_133 : decode cX10_ordersTo 133 = .ok (.ifCond .lt 15, 3) := by decide +kernel
theorem dX10_ordersTo_136 : decode cX10_ordersTo 136 = .ok (.iload 4, 2) := by decide +kernel
theorem dX10_ordersTo_138 : decode cX10_ordersTo 138 = .ok (.iload 5, 2) := by decide +kernel
theorem dX10_ordersTo_140 : decode cX10_ordersTo 140 = .ok (.isub, 1) := by decide +kernel
theorem dX10_ordersTo_141 : decode cX10_ordersTo 141 = .ok (.aload_n 0, 1) := by decide +kernel
theorem dX10_ordersTo_142 : decode cX10_ordersTo 142 = .ok (.getfield 202, 3) := by decide +kernel
theorem dX10_ordersTo_145 : decode cX10_ordersTo 145 = .ok (.if_icmp .ge 11, 3) := by decide +kernel
theorem dX10_ordersTo_148 : decode cX10_ordersTo 148 = .ok (.iload 4, 2) := by decide +kernel
theorem dX10_ordersTo_150 : decode cX10_ordersTo 150 = .ok (.iload 5, 2) := by decide +kernel
theorem dX10_ordersTo_152 : decode cX10_ordersTo 152 = .ok (.isub, 1) := by decide +kernel
theorem dX10_ordersTo_153 : decode cX10_ordersTo 153 = .ok (.goto 7, 3) := by decide +kernel
theorem dX10_ordersTo_156 : decode cX10_ordersTo 156 = .ok (.aload_n 0, 1) := by decide +kernel
theorem dX10_ordersTo_157 : decode cX10_ordersTo 157 = .ok (.getfield 202, 3) := by decide +kernel
theorem dX10_ordersTo_160 : decode cX10_ordersTo 160 = .ok (.putfield 202, 3) := by decide +kernel
theorem dX10_ordersTo_163 : decode cX10_ordersTo 163 = .ok (.aload_n 0, 1) := by decide +kernel
theorem dX10_ordersTo_164 : decode cX10_ordersTo 164 = .ok (.invokevirtual 213, 3) := by decide +kernel
theorem dX10_ordersTo_167 : decode cX10_ordersTo 167 = .ok (.istore_n 3, 1) := by decide +kernel
theorem dX10_ordersTo_168 : decode cX10_ordersTo 168 = .ok (.goto (-125), 3) := by decide +kernel
theorem dX10_ordersTo_171 : decode cX10_ordersTo 171 = .ok (.iload_n 2, 1) := by decide +kernel
theorem dX10_ordersTo_172 : decode cX10_ordersTo 172 = .ok (.ireturn, 1) := by decide +kernel
theorem dX10_orders_0 : decode cX10_orders 0 = .ok (.iload_n 1, 1) := by decide +kernel
theorem dX10_orders_1 : decode cX10_orders 1 = .ok (.iconst (-1), 1) := by decide +kernel
theorem dX10_orders_2 : decode cX10_orders 2 = .ok (.if_icmp .ge 10, 3) := by decide +kernel
theorem dX10_orders_5 : decode cX10_orders 5 = .ok (.aload_n 0, 1) := by decide +kernel
theorem dX10_orders_6 : decode cX10_orders 6 = .ok (.bipush (-4), 2) := by decide +kernel
theorem dX10_orders_8 : decode cX10_orders 8 = .ok (.invokevirtual 87, 3) := by decide +kernel
theorem dX10_orders_11 : decode cX10_orders 11 = .ok (.ireturn, 1) := by decide +kernel
theorem dX10_orders_12 : decode cX10_orders 12 = .ok (.iload_n 1, 1) := by decide +kernel
theorem dX10_orders_13 : decode cX10_orders 13 = .ok (.ifCond .lt 17, 3) := by decide +kernel
theorem dX10_orders_16 : decode cX10_orders 16 = .ok (.aload_n 0, 1) := by decide +kernel
theorem dX10_orders_17 : decode cX10_orders 17 = .ok (.iload_n 2, 1) := by decide +kernel
theorem dX10_orders_18 : decode cX10_orders 18 = .ok (.invokevirtual 108, 3) := by decide +kernel
theorem dX10_orders_21 : decode cX10_orders 21 = .ok (.ifCond .ne 9, 3) := by decide +kernel
theorem dX10_orders_24 : decode cX10_orders 24 = .ok (.aload_n 0, 1) := by decide +kernel
theorem dX10_orders_25 : decode cX10_orders 25 = .ok (.iconst (-1), 1) := by decide +kernel
theorem dX10_orders_26 : decode cX10_orders 26 = .ok (.invokevirtual 87, 3) := by decide +kernel
theorem dX10_orders_29 : decode cX10_orders 29 = .ok (.ireturn, 1) := by decide +kernel
theorem dX10_orders_30 : decode cX10_orders 30 = .ok (.iload_n 1, 1) := by decide +kernel
theorem dX10_orders_31 : decode cX10_orders 31 = .ok (.ifCond .ge 9, 3) := by decide +kernel
theorem dX10_orders_34 : decode cX10_orders 34 = .ok (.aload_n 0, 1) := by decide +kernel
theorem dX10_orders_35 : decode cX10_orders 35 = .ok (.iconst (-1), 1) := by decide +kernel
theorem dX10_orders_36 : decode cX10_orders 36 = .ok (.invokevirtual 216, 3) := by decide +kernel
theorem dX10_orders_39 : decode cX10_orders 39 = .ok (.ireturn, 1) := by decide +kernel
theorem dX10_orders_40 : decode cX10_orders 40 = .ok (.aload_n 0, 1) := by decide +kernel
theorem dX10_orders_41 : decode cX10_orders 41 = .ok (.iconst (-1), 1) := by decide +kernel
theorem dX10_orders_42 : decode cX10_orders 42 = .ok (.invokevirtual 216, 3) := by decide +kernel
theorem dX10_orders_45 : decode cX10_orders 45 = .ok (.iload_n 1, 1) := by decide +kernel
theorem dX10_orders_46 : decode cX10_orders 46 = .ok (.if_icmp .gt 6, 3) := by decide +kernel
theorem dX10_orders_49 : decode cX10_orders 49 = .ok (.bipush (-9), 2) := by decide +kernel
theorem dX10_orders_51 : decode cX10_orders 51 = .ok (.ireturn, 1) := by decide +kernel
theorem dX10_orders_52 : decode cX10_orders 52 = .ok (.aload_n 0, 1) := by decide +kernel
theorem dX10_orders_53 : decode cX10_orders 53 = .ok (.iload_n 1, 1) := by decide +kernel
theorem dX10_orders_54 : decode cX10_orders 54 = .ok (.invokevirtual 216, 3) := by decide +kernel
theorem dX10_orders_57 : decode cX10_orders 57 = .ok (.istore_n 3, 1) := by decide +kernel
theorem dX10_orders_58 : decode cX10_orders 58 = .ok (.aload_n 0, 1) := by decide +kernel
theorem dX10_orders_59 : decode cX10_orders 59 = .ok (.getfield 50, 3) := by decide +kernel
theorem dX10_orders_62 : decode cX10_orders 62 = .ok (.iload_n 2, 1) := by decide +kernel
theorem dX10_orders_63 : decode cX10_orders 63 = .ok (.iaload, 1) := by decide +kernel
theorem dX10_orders_64 : decode cX10_orders 64 = .ok (.ireturn, 1) := by decide +kernel
theorem dX10_spread_0 : decode cX10_spread 0 = .ok (.aload_n 0, 1) := by decide +kernel
theorem dX10_spread_1 : decode cX10_spread 1 = .ok (.iconst (-1), 1) := by decide +kernel
theorem dX10_spread_2 : decode cX10_spread 2 = .ok (.invokevirtual 216, 3) := by decide +kernel
theorem dX10_spread_5 : decode cX10_spread 5 = .ok (.istore_n 1, 1) := by decide +kernel
theorem dX10_spread_6 : decode cX10_spread 6 = .ok (.aload_n 0, 1) := by decide +kernel
theorem dX10_spread_7 : decode cX10_spread 7 = .ok (.getfield 202, 3) := by decide +kernel
theorem dX10_spread_10 : decode cX10_spread 10 = .ok (.ireturn, 1) := by decide +kernel
theorem dX10_asPart_0 : decode cX10_asPart 0 = .ok (.lload_n 0, 1) := by decide +kernel
theorem dX10_asPart_1 : decode cX10_asPart 1 = .ok (.lstore 5, 2) := by decide +kernel
theorem dX10_asPart_3 : decode cX10_asPart 3 = .ok (.lload_n 2, 1) := by decide +kernel
theorem dX10_asPart_4 : decode cX10_asPart 4 = .ok (.lstore 7, 2) := by decide +kernel
theorem dX10_asPart_6 : decode cX10_asPart 6 = .ok (.lload 7, 2) := by decide +kernel
theorem dX10_asPart_8 : decode cX10_asPart 8 = .ok (.lconst 0, 1) := by decide +kernel
theorem dX10_asPart_9 : decode cX10_asPart 9 = .ok (.lcmp, 1) := by decide +kernel
theorem dX10_asPart_10 : decode cX10_asPart 10 = .ok (.ifCond .eq 21, 3) := by decide +kernel
theorem dX10_asPart_13 : decode cX10_asPart 13 = .ok (.lload 5, 2) := by decide +kernel
theorem dX10_asPart_15 : decode cX10_asPart 15 = .ok (.lload 7, 2) := by decide +kernel
theorem dX10_asPart_17 : decode cX10_asPart 17 = .ok (.lrem, 1) := by decide +kernel
theorem dX10_asPart_18 : decode cX10_asPart 18 = .ok (.lstore 9, 2) := by decide +kernel
theorem dX10_asPart_20 : decode cX10_asPart 20 = .ok (.lload 7, 2) := by decide +kernel
theorem dX10_asPart_22 : decode cX10_asPart 22 = .ok (.lstore 5, 2) := by decide +kernel
theorem dX10_asPart_24 : decode cX10_asPart 24 = .ok (.lload 9, 2) := by decide +kernel
theorem dX10_asPart_26 : decode cX10_asPart 26 = .ok (.lstore 7, 2) := by decide +kernel
theorem dX10_asPart_28 : decode cX10_asPart 28 = .ok (.goto (-22), 3) := by decide +kernel
theorem dX10_asPart_31 : decode cX10_asPart 31 = .ok (.iload 4, 2) := by decide +kernel
theorem dX10_asPart_33 : decode cX10_asPart 33 = .ok (.ifCond .ne 10, 3) := by decide +kernel
theorem dX10_asPart_36 : decode cX10_asPart 36 = .ok (.lload_n 0, 1) := by decide +kernel
theorem dX10_asPart_37 : decode cX10_asPart 37 = .ok (.lload 5, 2) := by decide +kernel
theorem dX10_asPart_39 : decode cX10_asPart 39 = .ok (.ldiv, 1) := by decide +kernel
theorem dX10_asPart_40 : decode cX10_asPart 40 = .ok (.goto 7, 3) := by decide +kernel
theorem dX10_asPart_43 : decode cX10_asPart 43 = .ok (.lload_n 2, 1) := by decide +kernel
theorem dX10_asPart_44 : decode cX10_asPart 44 = .ok (.lload 5, 2) := by decide +kernel
theorem dX10_asPart_46 : decode cX10_asPart 46 = .ok (.ldiv, 1) := by decide +kernel
theorem dX10_asPart_47 : decode cX10_asPart 47 = .ok (.lreturn, 1) := by decide +kernel
theorem dX10_odds_0 : decode cX10_odds 0 = .ok (.iload_n 1, 1) := by decide +kernel
theorem dX10_odds_1 : decode cX10_odds 1 = .ok (.iconst 0, 1) := by decide +kernel
theorem dX10_odds_2 : decode cX10_odds 2 = .ok (.iconst 5, 1) := by decide +kernel
theorem dX10_odds_3 : decode cX10_odds 3 = .ok (.invokestatic 78, 3) := by decide +kernel
theorem dX10_odds_6 : decode cX10_odds 6 = .ok (.ifCond .ne 10, 3) := by decide +kernel
theorem dX10_odds_9 : decode cX10_odds 9 = .ok (.aload_n 0, 1) := by decide +kernel
theorem dX10_odds_10 : decode cX10_odds 10 = .ok (.bipush (-2), 2) := by decide +kernel
theorem dX10_odds_12 : decode cX10_odds 12 = .ok (.invokevirtual 219, 3) := by decide +kernel
theorem dX10_odds_15 : decode cX10_odds 15 = .ok (.lreturn, 1) := by decide +kernel
theorem dX10_odds_16 : decode cX10_odds 16 = .ok (.iload_n 2, 1) := by decide +kernel
theorem dX10_odds_17 : decode cX10_odds 17 = .ok (.ifCond .ge 10, 3) := by decide +kernel
theorem dX10_odds_20 : decode cX10_odds 20 = .ok (.aload_n 0, 1) := by decide +kernel
theorem dX10_odds_21 : decode cX10_odds 21 = .ok (.bipush (-4), 2) := by decide +kernel
theorem dX10_odds_23 : decode cX10_odds 23 = .ok (.invokevirtual 219, 3) := by decide +kernel
theorem dX10_odds_26 : decode cX10_odds 26 = .ok (.lreturn, 1) := by decide +kernel
theorem dX10_odds_27 : decode cX10_odds 27 = .ok (.iload_n 2, 1) := by decide +kernel
theorem dX10_odds_28 : decode cX10_odds 28 = .ok (.iconst 3, 1) := by decide +kernel
theorem dX10_odds_29 : decode cX10_odds 29 = .ok (.if_icmp .le 10, 3) := by decide +kernel
theorem dX10_odds_32 : decode cX10_odds 32 = .ok (.aload_n 0, 1) := by decide +kernel
theorem dX10_odds_33 : decode cX10_odds 33 = .ok (.bipush (-6), 2) := by decide +kernel
theorem dX10_odds_35 : decode cX10_odds 35 = .ok (.invokevirtual 219, 3) := by decide +kernel
theorem dX10_odds_38 : decode cX10_odds 38 = .ok (.lreturn, 1) := by decide +kernel
theorem dX10_odds_39 : decode cX10_odds 39 = .ok (.iload_n 3, 1) := by decide +kernel
theorem dX10_odds_40 : decode cX10_odds 40 = .ok (.iconst 0, 1) := by decide +kernel
theorem dX10_odds_41 : decode cX10_odds 41 = .ok (.iconst 1, 1) := by decide +kernel
theorem dX10_odds_42 : decode cX10_odds 42 = .ok (.invokestatic 78, 3) := by decide +kernel
theorem dX10_odds_45 : decode cX10_odds 45 = .ok (.ifCond .ne 10, 3) := by decide +kernel
theorem dX10_odds_48 : decode cX10_odds 48 = .ok (.aload_n 0, 1) := by decide +kernel
theorem dX10_odds_49 : decode cX10_odds 49 = .ok (.bipush (-2), 2) := by decide +kernel
theorem dX10_odds_51 : decode cX10_odds 51 = .ok (.invokevirtual 219, 3) := by decide +kernel
theorem dX10_odds_54 : decode cX10_odds 54 = .ok (.lreturn, 1) := by decide +kernel
theorem dX10_odds_55 : decode cX10_odds 55 = .ok (.lconst 1, 1) := by decide +kernel
theorem dX10_odds_56 : decode cX10_odds 56 = .ok (.lstore 4, 2) := by decide +kernel
theorem dX10_odds_58 : decode cX10_odds 58 = .ok (.iconst 0, 1) := by decide +kernel
theorem dX10_odds_59 : decode cX10_odds 59 = .ok (.istore 6, 2) := by decide +kernel
theorem dX10_odds_61 : decode cX10_odds 61 = .ok (.iload 6, 2) := by decide +kernel
theorem dX10_odds_63 : decode cX10_odds 63 = .ok (.aload_n 0, 1) := by decide +kernel
theorem dX10_odds_64 : decode cX10_odds 64 = .ok (.getfield 82, 3) := by decide +kernel
theorem dX10_odds_67 : decode cX10_odds 67 = .ok (.if_icmp .ge 18, 3) := by decide +kernel
theorem dX10_odds_70 : decode cX10_odds 70 = .ok (.lload 4, 2) := by decide +kernel
theorem dX10_odds_72 : decode cX10_odds 72 = .ok (.iload_n 2, 1) := by decide +kernel
theorem dX10_odds_73 : decode cX10_odds 73 = .ok (.i2l, 1) := by decide +kernel
theorem dX10_odds_74 : decode cX10_odds 74 = .ok (.lconst 1, 1) := by decide +kernel
theorem dX10_odds_75 : decode cX10_odds 75 = .ok (.ladd, 1) := by decide +kernel
theorem dX10_odds_76 : decode cX10_odds 76 = .ok (.lmul, 1) := by decide +kernel
theorem dX10_odds_77 : decode cX10_odds 77 = .ok (.lstore 4, 2) := by decide +kernel
theorem dX10_odds_79 : decode cX10_odds 79 = .ok (.iinc 6 1, 3) := by decide +kernel
theorem dX10_odds_82 : decode cX10_odds 82 = .ok (.goto (-21), 3) := by decide +kernel
theorem dX10_odds_85 : decode cX10_odds 85 = .ok (.aload_n 0, 1) := by decide +kernel
theorem dX10_odds_86 : decode cX10_odds 86 = .ok (.iload_n 1, 1) := by decide +kernel
theorem dX10_odds_87 : decode cX10_odds 87 = .ok (.iload_n 2, 1) := by decide +kernel
theorem dX10_odds_88 : decode cX10_odds 88 = .ok (.iconst (-1), 1) := by decide +kernel
theorem dX10_odds_89 : decode cX10_odds 89 = .ok (.invokevirtual 174, 3) := by decide +kernel
theorem dX10_odds_92 : decode cX10_odds 92 = .ok (.i2l, 1) := by decide +kernel
theorem dX10_odds_93 : decode cX10_odds 93 = .ok (.lload 4, 2) := by decide +kernel
theorem dX10_odds_95 : decode cX10_odds 95 = .ok (.iload_n 3, 1) := by decide +kernel
theorem dX10_odds_96 : decode cX10_odds 96 = .ok (.invokestatic 223, 3) := by decide +kernel
theorem dX10_odds_99 : decode cX10_odds 99 = .ok (.lreturn, 1) := by decide +kernel
theorem dX10_lots_0 : decode cX10_lots 0 = .ok (.iload_n 1, 1) := by decide +kernel
theorem dX10_lots_1 : decode cX10_lots 1 = .ok (.iconst 0, 1) := by decide +kernel
theorem dX10_lots_2 : decode cX10_lots 2 = .ok (.iconst 5, 1) := by decide +kernel
theorem dX10_lots_3 : decode cX10_lots 3 = .ok (.invokestatic 78, 3) := by decide +kernel
theorem dX10_lots_6 : decode cX10_lots 6 = .ok (.ifCond .ne 10, 3) := by decide +kernel
theorem dX10_lots_9 : decode cX10_lots 9 = .ok (.aload_n 0, 1) := by decide +kernel
theorem dX10_lots_10 : decode cX10_lots 10 = .ok (.bipush (-2), 2) := by decide +kernel
theorem dX10_lots_12 : decode cX10_lots 12 = .ok (.invokevirtual 87, 3) := by decide +kernel
theorem dX10_lots_15 : decode cX10_lots 15 = .ok (.ireturn, 1) := by decide +kernel
theorem dX10_lots_16 : decode cX10_lots 16 = .ok (.iload_n 2, 1) := by decide +kernel
theorem dX10_lots_17 : decode cX10_lots 17 = .ok (.iconst 1, 1) := by decide +kernel
theorem dX10_lots_18 : decode cX10_lots 18 = .ok (.if_icmp .ge 10, 3) := by decide +kernel
theorem dX10_lots_21 : decode cX10_lots 21 = .ok (.aload_n 0, 1) := by decide +kernel
theorem dX10_lots_22 : decode cX10_lots 22 = .ok (.bipush (-4), 2) := by decide +kernel
theorem dX10_lots_24 : decode cX10_lots 24 = .ok (.invokevirtual 87, 3) := by decide +kernel
theorem dX10_lots_27 : decode cX10_lots 27 = .ok (.ireturn, 1) := by decide +kernel
theorem dX10_lots_28 : decode cX10_lots 28 = .ok (.iload_n 2, 1) := by decide +kernel
theorem dX10_lots_29 : decode cX10_lots 29 = .ok (.bipush 50, 2) := by decide +kernel
theorem dX10_lots_31 : decode cX10_lots 31 = .ok (.if_icmp .le 10, 3) := by decide +kernel
theorem dX10_lots_34 : decode cX10_lots 34 = .ok (.aload_n 0, 1) := by decide +kernel
theorem dX10_lots_35 : decode cX10_lots 35 = .ok (.bipush (-6), 2) := by decide +kernel
theorem dX10_lots_37 : decode cX10_lots 37 = .ok (.invokevirtual 87, 3) := by decide +kernel
theorem dX10_lots_40 : decode cX10_lots 40 = .ok (.ireturn, 1) := by decide +kernel
theorem dX10_lots_41 : decode cX10_lots 41 = .ok (.iload 4, 2) := by decide +kernel
theorem dX10_lots_43 : decode cX10_lots 43 = .ok (.iconst 0, 1) := by decide +kernel
theorem dX10_lots_44 : decode cX10_lots 44 = .ok (.iconst 1, 1) := by decide +kernel
theorem dX10_lots_45 : decode cX10_lots 45 = .ok (.invokestatic 78, 3) := by decide +kernel
theorem dX10_lots_48 : decode cX10_lots 48 = .ok (.ifCond .ne 10, 3) := by decide +kernel
theorem dX10_lots_51 : decode cX10_lots 51 = .ok (.aload_n 0, 1) := by decide +kernel
theorem dX10_lots_52 : decode cX10_lots 52 = .ok (.bipush (-2), 2) := by decide +kernel
theorem dX10_lots_54 : decode cX10_lots 54 = .ok (.invokevirtual 87, 3) := by decide +kernel
theorem dX10_lots_57 : decode cX10_lots 57 = .ok (.ireturn, 1) := by decide +kernel
theorem dX10_lots_58 : decode cX10_lots 58 = .ok (.iload_n 3, 1) := by decide +kernel
theorem dX10_lots_59 : decode cX10_lots 59 = .ok (.istore 5, 2) := by decide +kernel
theorem dX10_lots_61 : decode cX10_lots 61 = .ok (.iconst 0, 1) := by decide +kernel
theorem dX10_lots_62 : decode cX10_lots 62 = .ok (.istore 6, 2) := by decide +kernel
theorem dX10_lots_64 : decode cX10_lots 64 = .ok (.iconst 0, 1) := by decide +kernel
theorem dX10_lots_65 : decode cX10_lots 65 = .ok (.istore 7, 2) := by decide +kernel
theorem dX10_lots_67 : decode cX10_lots 67 = .ok (.aload_n 0, 1) := by decide +kernel
theorem dX10_lots_68 : decode cX10_lots 68 = .ok (.invokevirtual 141, 3) := by decide +kernel
theorem dX10_lots_71 : decode cX10_lots 71 = .ok (.iconst 0, 1) := by decide +kernel
theorem dX10_lots_72 : decode cX10_lots 72 = .ok (.istore 8, 2) := by decide +kernel
theorem dX10_lots_74 : decode cX10_lots 74 = .ok (.iload 8, 2) := by decide +kernel
theorem dX10_lots_76 : decode cX10_lots 76 = .ok (.iload_n 2, 1) := by decide +kernel
theorem dX10_lots_77 : decode cX10_lots 77 = .ok (.if_icmp .ge 94, 3) := by decide +kernel
theorem dX10_lots_80 : decode cX10_lots 80 = .ok (.iconst 0, 1) := by decide +kernel
theorem dX10_lots_81 : decode cX10_lots 81 = .ok (.istore 9, 2) := by decide +kernel
theorem dX10_lots_83 : decode cX10_lots 83 = .ok (.iload 9, 2) := by decide +kernel
theorem dX10_lots_85 : decode cX10_lots 85 = .ok (.aload_n 0, 1) := by decide +kernel
theorem dX10_lots_86 : decode cX10_lots 86 = .ok (.getfield 82, 3) := by decide +kernel
theorem dX10_lots_89 : decode cX10_lots 89 = .ok (.if_icmp .ge 38, 3) := by decide +kernel
theorem dX10_lots_92 : decode cX10_lots 92 = .ok (.iload 5, 2) := by decide +kernel
theorem dX10_lots_94 : decode cX10_lots 94 = .ok (.ldc 227, 2) := by decide +kernel
theorem dX10_lots_96 : decode cX10_lots 96 = .ok (.imul, 1) := by decide +kernel
theorem dX10_lots_97 : decode cX10_lots 97 = .ok (.ldc 228, 2) := by decide +kernel
theorem dX10_lots_99 : decode cX10_lots 99 = .ok (.iadd, 1) := by decide +kernel
theorem dX10_lots_100 : decode cX10_lots 100 = .ok (.istore 5, 2) := by decide +kernel
theorem dX10_lots_102 : decode cX10_lots 102 = .ok (.aload_n 0, 1) := by decide +kernel
theorem dX10_lots_103 : decode cX10_lots 103 = .ok (.getfield 50, 3) := by decide +kernel
theorem dX10_lots_106 : decode cX10_lots 106 = .ok (.iload 9, 2) := by decide +kernel
theorem dX10_lots_108 : decode cX10_lots 108 = .ok (.iload 5, 2) := by decide +kernel
theorem dX10_lots_110 : decode cX10_lots 110 = .ok (.ldc 229, 2) := by decide +kernel
theorem dX10_lots_112 : decode cX10_lots 112 = .ok (.iand, 1) := by decide +kernel
theorem dX10_lots_113 : decode cX10_lots 113 = .ok (.sipush 256, 3) := by decide +kernel
theorem dX10_lots_116 : decode cX10_lots 116 = .ok (.idiv, 1) := by decide +kernel
theorem dX10_lots_117 : decode cX10_lots 117 = .ok (.bipush 10, 2) := by decide +kernel
theorem dX10_lots_119 : decode cX10_lots 119 = .ok (.irem, 1) := by decide +kernel
theorem dX10_lots_120 : decode cX10_lots 120 = .ok (.iastore, 1) := by decide +kernel
theorem dX10_lots_121 : decode cX10_lots 121 = .ok (.iinc 9 1, 3) := by decide +kernel
theorem dX10_lots_124 : decode cX10_lots 124 = .ok (.goto (-41), 3) := by decide +kernel
theorem dX10_lots_127 : decode cX10_lots 127 = .ok (.aload_n 0, 1) := by decide +kernel
theorem dX10_lots_128 : decode cX10_lots 128 = .ok (.invokevirtual 144, 3) := by decide +kernel
theorem dX10_lots_131 : decode cX10_lots 131 = .ok (.iload 6, 2) := by decide +kernel
theorem dX10_lots_133 : decode cX10_lots 133 = .ok (.iload_n 1, 1) := by decide +kernel
theorem dX10_lots_134 : decode cX10_lots 134 = .ok (.aload_n 0, 1) := by decide +kernel
theorem dX10_lots_135 : decode cX10_lots 135 = .ok (.getfield 53, 3) := by decide +kernel
theorem dX10_lots_138 : decode cX10_lots 138 = .ok (.aload_n 0, 1) := by decide +kernel
theorem dX10_lots_139 : decode cX10_lots 139 = .ok (.getfield 7, 3) := by decide +kernel
theorem dX10_lots_142 : decode cX10_lots 142 = .ok (.invokestatic 164, 3) := by decide +kernel
theorem dX10_lots_145 : decode cX10_lots 145 = .ok (.ifCond .eq 7, 3) := by decide +kernel
theorem dX10_lots_148 : decode cX10_lots 148 = .ok (.iconst 1, 1) := by decide +kernel
theorem dX10_lots_149 : decode cX10_lots 149 = .ok (.goto 4, 3) := by decide +kernel
theorem dX10_lots_152 : decode cX10_lots 152 = .ok (.iconst 0, 1) := by decide +kernel
theorem dX10_lots_153 : decode cX10_lots 153 = .ok (.iadd, 1) := by decide +kernel
theorem dX10_lots_154 : decode cX10_lots 154 = .ok (.istore 6, 2) := by decide +kernel
theorem dX10_lots_156 : decode cX10_lots 156 = .ok (.iload 7, 2) := by decide +kernel
theorem dX10_lots_158 : decode cX10_lots 158 = .ok (.aload_n 0, 1) := by decide +kernel
theorem dX10_lots_159 : decode cX10_lots 159 = .ok (.invokevirtual 161, 3) := by decide +kernel
theorem dX10_lots_162 : decode cX10_lots 162 = .ok (.iadd, 1) := by decide +kernel
theorem dX10_lots_163 : decode cX10_lots 163 = .ok (.istore 7, 2) := by decide +kernel
theorem dX10_lots_165 : decode cX10_lots 165 = .ok (.iinc 8 1, 3) := by decide +kernel
theorem dX10_lots_168 : decode cX10_lots 168 = .ok (.goto (-94), 3) := by decide +kernel
theorem dX10_lots_171 : decode cX10_lots 171 = .ok (.iload 4, 2) := by decide +kernel
theorem dX10_lots_173 : decode cX10_lots 173 = .ok (.ifCond .ne 8, 3) := by decide +kernel
theorem dX10_lots_176 : decode cX10_lots 176 = .ok (.iload 6, 2) := by decide +kernel
theorem dX10_lots_178 : decode cX10_lots 178 = .ok (.goto 5, 3) := by decide +kernel
theorem dX10_lots_181 : decode cX10_lots 181 = .ok (.iload 7, 2) := by decide +kernel
theorem dX10_lots_183 : decode cX10_lots 183 = .ok (.ireturn, 1) := by decide +kernel
theorem dX10_rankNow_0 : decode cX10_rankNow 0 = .ok (.iconst 0, 1) := by decide +kernel
theorem dX10_rankNow_1 : decode cX10_rankNow 1 = .ok (.istore_n 1, 1) := by decide +kernel
theorem dX10_rankNow_2 : decode cX10_rankNow 2 = .ok (.iload_n 1, 1) := by decide +kernel
theorem dX10_rankNow_3 : decode cX10_rankNow 3 = .ok (.aload_n 0, 1) := by decide +kernel
theorem dX10_rankNow_4 : decode cX10_rankNow 4 = .ok (.getfield 7, 3) := by decide +kernel
theorem dX10_rankNow_7 : decode cX10_rankNow 7 = .ok (.if_icmp .ge 43, 3) := by decide +kernel
theorem dX10_rankNow_10 : decode cX10_rankNow 10 = .ok (.iconst 0, 1) := by decide +kernel
theorem dX10_rankNow_11 : decode cX10_rankNow 11 = .ok (.istore_n 2, 1) := by decide +kernel
theorem dX10_rankNow_12 : decode cX10_rankNow 12 = .ok (.iload_n 2, 1) := by decide +kernel
theorem dX10_rankNow_13 : decode cX10_rankNow 13 = .ok (.aload_n 0, 1) := by decide +kernel
theorem dX10_rankNow_14 : decode cX10_rankNow 14 = .ok (.getfield 82, 3) := by decide +kernel
theorem dX10_rankNow_17 : decode cX10_rankNow 17 = .ok (.if_icmp .ge 27, 3) := by decide +kernel
theorem dX10_rankNow_20 : decode cX10_rankNow 20 = .ok (.aload_n 0, 1) := by decide +kernel
theorem dX10_rankNow_21 : decode cX10_rankNow 21 = .ok (.getfield 62, 3) := by decide +kernel
theorem dX10_rankNow_24 : decode cX10_rankNow 24 = .ok (.bipush 8, 2) := by decide +kernel
theorem dX10_rankNow_26 : decode cX10_rankNow 26 = .ok (.iload_n 1, 1) := by decide +kernel
theorem dX10_rankNow_27 : decode cX10_rankNow 27 = .ok (.imul, 1) := by decide +kernel
theorem dX10_rankNow_28 : decode cX10_rankNow 28 = .ok (.iload_n 2, 1) := by decide +kernel
theorem dX10_rankNow_29 : decode cX10_rankNow 29 = .ok (.iadd, 1) := by decide +kernel
theorem dX10_rankNow_30 : decode cX10_rankNow 30 = .ok (.aload_n 0, 1) := by decide +kernel
theorem dX10_rankNow_31 : decode cX10_rankNow 31 = .ok (.iload_n 1, 1) := by decide +kernel
theorem dX10_rankNow_32 : decode cX10_rankNow 32 = .ok (.iload_n 2, 1) := by decide +kernel
theorem dX10_rankNow_33 : decode cX10_rankNow 33 = .ok (.invokevirtual 137, 3) := by decide +kernel
theorem dX10_rankNow_36 : decode cX10_rankNow 36 = .ok (.i2l, 1) := by decide +kernel
theorem dX10_rankNow_37 : decode cX10_rankNow 37 = .ok (.lastore, 1) := by decide +kernel
theorem dX10_rankNow_38 : decode cX10_rankNow 38 = .ok (.iinc 2 1, 3) := by decide +kernel
theorem dX10_rankNow_41 : decode cX10_rankNow 41 = .ok (.goto (-29), 3) := by decide +kernel
theorem dX10_rankNow_44 : decode cX10_rankNow 44 = .ok (.iinc 1 1, 3) := by decide +kernel
theorem dX10_rankNow_47 : decode cX10_rankNow 47 = .ok (.goto (-45), 3) := by decide +kernel
theorem dX10_rankNow_50 : decode cX10_rankNow 50 = .ok (.iconst 0, 1) := by decide +kernel
theorem dX10_rankNow_51 : decode cX10_rankNow 51 = .ok (.istore_n 1, 1) := by decide +kernel
theorem dX10_rankNow_52 : decode cX10_rankNow 52 = .ok (.lconst 1, 1) := by decide +kernel
theorem dX10_rankNow_53 : decode cX10_rankNow 53 = .ok (.lstore_n 2, 1) := by decide +kernel
theorem dX10_rankNow_54 : decode cX10_rankNow 54 = .ok (.iconst 0, 1) := by decide +kernel
theorem dX10_rankNow_55 : decode cX10_rankNow 55 = .ok (.istore 4, 2) := by decide +kernel
theorem dX10_rankNow_57 : decode cX10_rankNow 57 = .ok (.iload 4, 2) := by decide +kernel
theorem dX10_rankNow_59 : decode cX10_rankNow 59 = .ok (.aload_n 0, 1) := by decide +kernel
theorem dX10_rankNow_60 : decode cX10_rankNow 60 = .ok (.getfield 82, 3) := by decide +kernel
theorem dX10_rankNow_63 : decode cX10_rankNow 63 = .ok (.if_icmp .ge 257, 3) := by decide +kernel
theorem dX10_rankNow_66 : decode cX10_rankNow 66 = .ok (.iload_n 1, 1) := by decide +kernel
theorem dX10_rankNow_67 : decode cX10_rankNow 67 = .ok (.aload_n 0, 1) := by decide +kernel
theorem dX10_rankNow_68 : decode cX10_rankNow 68 = .ok (.getfield 7, 3) := by decide +kernel
theorem dX10_rankNow_71 : decode cX10_rankNow 71 = .ok (.if_icmp .ge 249, 3) := by decide +kernel
theorem dX10_rankNow_74 : decode cX10_rankNow 74 = .ok (.iload_n 1, 1) := by decide +kernel
theorem dX10_rankNow_75 : decode cX10_rankNow 75 = .ok (.istore 5, 2) := by decide +kernel
theorem dX10_rankNow_77 : decode cX10_rankNow 77 = .ok (.iload 5, 2) := by decide +kernel
theorem dX10_rankNow_79 : decode cX10_rankNow 79 = .ok (.aload_n 0, 1) := by decide +kernel
theorem dX10_rankNow_80 : decode cX10_rankNow 80 = .ok (.getfield 7, 3) := by decide +kernel
theorem dX10_rankNow_83 : decode cX10_rankNow 83 = .ok (.if_icmp .ge 27, 3) := by decide +kernel
theorem dX10_rankNow_86 : decode cX10_rankNow 86 = .ok (.aload_n 0, 1) := by decide +kernel
theorem dX10_rankNow_87 : decode cX10_rankNow 87 = .ok (.getfield 62, 3) := by decide +kernel
theorem dX10_rankNow_90 : decode cX10_rankNow 90 = .ok (.bipush 8, 2) := by decide +kernel
theorem dX10_rankNow_92 : decode cX10_rankNow 92 = .ok (.iload 5, 2) := by decide +kernel
theorem dX10_rankNow_94 : decode cX10_rankNow 94 = .ok (.imul, 1) := by decide +kernel
theorem dX10_rankNow_95 : decode cX10_rankNow 95 = .ok (.iload 4, 2) := by decide +kernel
theorem dX10_rankNow_97 : decode cX10_rankNow 97 = .ok (.iadd, 1) := by decide +kernel
theorem dX10_rankNow_98 : decode cX10_rankNow 98 = .ok (.laload, 1) := by decide +kernel
theorem dX10_rankNow_99 : decode cX10_rankNow 99 = .ok (.lconst 0, 1) := by decide +kernel
theorem dX10_rankNow_100 : decode cX10_rankNow 100 = .ok (.lcmp, 1) := by decide +kernel
theorem dX10_rankNow_101 : decode cX10_rankNow 101 = .ok (.ifCond .ne 9, 3) := by decide +kernel
theorem dX10_rankNow_104 : decode cX10_rankNow 104 = .ok (.iinc 5 1, 3) := by decide +kernel
theorem dX10_rankNow_107 : decode cX10_rankNow 107 = .ok (.goto (-30), 3) := by decide +kernel
theorem dX10_rankNow_110 : decode cX10_rankNow 110 = .ok (.iload 5, 2) := by decide +kernel
theorem dX10_rankNow_112 : decode cX10_rankNow 112 = .ok (.aload_n 0, 1) := by decide +kernel
theorem dX10_rankNow_113 : decode cX10_rankNow 113 = .ok (.getfield 7, 3) := by decide +kernel
theorem dX10_rankNow_116 : decode cX10_rankNow 116 = .ok (.if_icmp .ne 6, 3) := by decide +kernel
theorem dX10_rankNow_119 : decode cX10_rankNow 119 = .ok (.goto 195, 3) := by decide +kernel
theorem dX10_rankNow_122 : decode cX10_rankNow 122 = .ok (.iconst 0, 1) := by decide +kernel
theorem dX10_rankNow_123 : decode cX10_rankNow 123 = .ok (.istore 6, 2) := by decide +kernel
theorem dX10_rankNow_125 : decode cX10_rankNow 125 = .ok (.iload 6, 2) := by decide +kernel
theorem dX10_rankNow_127 : decode cX10_rankNow 127 = .ok (.aload_n 0, 1) := by decide +kernel
theorem dX10_rankNow_128 : decode cX10_rankNow 128 = .ok (.getfield 82, 3) := by decide +kernel
theorem dX10_rankNow_131 : decode cX10_rankNow 131 = .ok (.if_icmp .ge 63, 3) := by decide +kernel
theorem dX10_rankNow_134 : decode cX10_rankNow 134 = .ok (.aload_n 0, 1) := by decide +kernel
theorem dX10_rankNow_135 : decode cX10_rankNow 135 = .ok (.getfield 62, 3) := by decide +kernel
theorem dX10_rankNow_138 : decode cX10_rankNow 138 = .ok (.bipush 8, 2) := by decide +kernel
theorem dX10_rankNow_140 : decode cX10_rankNow 140 = .ok (.iload 5, 2) := by decide +kernel
theorem dX10_rankNow_142 : decode cX10_rankNow 142 = .ok (.imul, 1) := by decide +kernel
theorem dX10_rankNow_143 : decode cX10_rankNow 143 = .ok (.iload 6, 2) := by decide +kernel
theorem dX10_rankNow_145 : decode cX10_rankNow 145 = .ok (.iadd, 1) := by decide +kernel
theorem dX10_rankNow_146 : decode cX10_rankNow 146 = .ok (.laload, 1) := by decide +kernel
theorem dX10_rankNow_147 : decode cX10_rankNow 147 = .ok (.lstore 7, 2) := by decide +kernel
theorem dX10_rankNow_149 : decode cX10_rankNow 149 = .ok (.aload_n 0, 1) := by decide +kernel
theorem dX10_rankNow_150 : decode cX10_rankNow 150 = .ok (.getfield 62, 3) := by decide +kernel
theorem dX10_rankNow_153 : decode cX10_rankNow 153 = .ok (.bipush 8, 2) := by decide +kernel
theorem dX10_rankNow_155 : decode cX10_rankNow 155 = .ok (.iload 5, 2) := by decide +kernel
theorem dX10_rankNow_157 : decode cX10_rankNow 157 = .ok (.imul, 1) := by decide +kernel
theorem dX10_rankNow_158 : decode cX10_rankNow 158 = .ok (.iload 6, 2) := by decide +kernel
theorem dX10_rankNow_160 : decode cX10_rankNow 160 = .ok (.iadd, 1) := by decide +kernel
theorem dX10_rankNow_161 : decode cX10_rankNow 161 = .ok (.aload_n 0, 1) := by decide +kernel
theorem dX10_rankNow_162 : decode cX10_rankNow 162 = .ok (.getfield 62, 3) := by decide +kernel
theorem dX10_rankNow_165 : decode cX10_rankNow 165 = .ok (.bipush 8, 2) := by decide +kernel
theorem dX10_rankNow_167 : decode cX10_rankNow 167 = .ok (.iload_n 1, 1) := by decide +kernel
theorem dX10_rankNow_168 : decode cX10_rankNow 168 = .ok (.imul, 1) := by decide +kernel
theorem dX10_rankNow_169 : decode cX10_rankNow 169 = .ok (.iload 6, 2) := by decide +kernel
theorem dX10_rankNow_171 : decode cX10_rankNow 171 = .ok (.iadd, 1) := by decide +kernel
theorem dX10_rankNow_172 : decode cX10_rankNow 172 = .ok (.laload, 1) := by decide +kernel
theorem dX10_rankNow_173 : decode cX10_rankNow 173 = .ok (.lastore, 1) := by decide +kernel
theorem dX10_rankNow_174 : decode cX10_rankNow 174 = .ok (.aload_n 0, 1) := by decide +kernel
theorem dX10_rankNow_175 : decode cX10_rankNow 175 = .ok (.getfield 62, 3) := by decide +kernel
theorem dX10_rankNow_178 : decode cX10_rankNow 178 = .ok (.bipush 8, 2) := by decide +kernel
theorem dX10_rankNow_180 : decode cX10_rankNow 180 = .ok (.iload_n 1, 1) := by decide +kernel
theorem dX10_rankNow_181 : decode cX10_rankNow 181 = .ok (.imul, 1) := by decide +kernel
theorem dX10_rankNow_182 : decode cX10_rankNow 182 = .ok (.iload 6, 2) := by decide +kernel
theorem dX10_rankNow_184 : decode cX10_rankNow 184 = .ok (.iadd, 1) := by decide +kernel
theorem dX10_rankNow_185 : decode cX10_rankNow 185 = .ok (.lload 7, 2) := by decide +kernel
theorem dX10_rankNow_187 : decode cX10_rankNow 187 = .ok (.lastore, 1) := by decide +kernel
theorem dX10_rankNow_188 : decode cX10_rankNow 188 = .ok (.iinc 6 1, 3) := by decide +kernel
theorem dX10_rankNow_191 : decode cX10_rankNow 191 = .ok (.goto (-66), 3) := by decide +kernel
theorem dX10_rankNow_194 : decode cX10_rankNow 194 = .ok (.aload_n 0, 1) := by decide +kernel
theorem dX10_rankNow_195 : decode cX10_rankNow 195 = .ok (.getfield 62, 3) := by decide +kernel
theorem dX10_rankNow_198 : decode cX10_rankNow 198 = .ok (.bipush 8, 2) := by decide +kernel
theorem dX10_rankNow_200 : decode cX10_rankNow 200 = .ok (.iload_n 1, 1) := by decide +kernel
theorem dX10_rankNow_201 : decode cX10_rankNow 201 = .ok (.imul, 1) := by decide +kernel
theorem dX10_rankNow_202 : decode cX10_rankNow 202 = .ok (.iload 4, 2) := by decide +kernel
theorem dX10_rankNow_204 : decode cX10_rankNow 204 = .ok (.iadd, 1) := by decide +kernel
theorem dX10_rankNow_205 : decode cX10_rankNow 205 = .ok (.laload, 1) := by decide +kernel
theorem dX10_rankNow_206 : decode cX10_rankNow 206 = .ok (.lstore 6, 2) := by decide +kernel
theorem dX10_rankNow_208 : decode cX10_rankNow 208 = .ok (.iload_n 1, 1) := by decide +kernel
theorem dX10_rankNow_209 : decode cX10_rankNow 209 = .ok (.iconst 1, 1) := by decide +kernel
theorem dX10_rankNow_210 : decode cX10_rankNow 210 = .ok (.iadd, 1) := by decide +kernel
theorem dX10_rankNow_211 : decode cX10_rankNow 211 = .ok (.istore 8, 2) := by decide +kernel
theorem dX10_rankNow_213 : decode cX10_rankNow 213 = .ok (.iload 8, 2) := by decide +kernel
theorem dX10_rankNow_215 : decode cX10_rankNow 215 = .ok (.aload_n 0, 1) := by decide +kernel
theorem dX10_rankNow_216 : decode cX10_rankNow 216 = .ok (.getfield 7, 3) := by decide +kernel
theorem dX10_rankNow_219 : decode cX10_rankNow 219 = .ok (.if_icmp .ge 89, 3) := by decide +kernel
theorem dX10_rankNow_222 : decode cX10_rankNow 222 = .ok (.aload_n 0, 1) := by decide +kernel
theorem dX10_rankNow_223 : decode cX10_rankNow 223 = .ok (.getfield 62, 3) := by decide +kernel
theorem dX10_rankNow_226 : decode cX10_rankNow 226 = .ok (.bipush 8, 2) := by decide +kernel
theorem dX10_rankNow_228 : decode cX10_rankNow 228 = .ok (.iload 8, 2) := by decide +kernel
theorem dX10_rankNow_230 : decode cX10_rankNow 230 = .ok (.imul, 1) := by decide +kernel
theorem dX10_rankNow_231 : decode cX10_rankNow 231 = .ok (.iload 4, 2) := by decide +kernel
theorem dX10_rankNow_233 : decode cX10_rankNow 233 = .ok (.iadd, 1) := by decide +kernel
theorem dX10_rankNow_234 : decode cX10_rankNow 234 = .ok (.laload, 1) := by decide +kernel
theorem dX10_rankNow_235 : decode cX10_rankNow 235 = .ok (.lstore 9, 2) := by decide +kernel
theorem dX10_rankNow_237 : decode cX10_rankNow 237 = .ok (.iconst 0, 1) := by decide +kernel
theorem dX10_rankNow_238 : decode cX10_rankNow 238 = .ok (.istore 11, 2) := by decide +kernel
theorem dX10_rankNow_240 : decode cX10_rankNow 240 = .ok (.iload 11, 2) := by decide +kernel
theorem dX10_rankNow_242 : decode cX10_rankNow 242 = .ok (.aload_n 0, 1) := by decide +kernel
theorem dX10_rankNow_243 : decode cX10_rankNow 243 = .ok (.getfield 82, 3) := by decide +kernel
theorem dX10_rankNow_246 : decode cX10_rankNow 246 = .ok (.if_icmp .ge 56, 3) := by decide +kernel
theorem dX10_rankNow_249 : decode cX10_rankNow 249 = .ok (.aload_n 0, 1) := by decide +kernel
theorem dX10_rankNow_250 : decode cX10_rankNow 250 = .ok (.getfield 62, 3) := by decide +kernel
theorem dX10_rankNow_253 : decode cX10_rankNow 253 = .ok (.bipush 8, 2) := by decide +kernel
theorem dX10_rankNow_255 : decode cX10_rankNow 255 = .ok (.iload 8, 2) := by decide +kernel
theorem dX10_rankNow_257 : decode cX10_rankNow 257 = .ok (.imul, 1) := by decide +kernel
theorem dX10_rankNow_258 : decode cX10_rankNow 258 = .ok (.iload 11, 2) := by decide +kernel
theorem dX10_rankNow_260 : decode cX10_rankNow 260 = .ok (.iadd, 1) := by decide +kernel
theorem dX10_rankNow_261 : decode cX10_rankNow 261 = .ok (.aload_n 0, 1) := by decide +kernel
theorem dX10_rankNow_262 : decode cX10_rankNow 262 = .ok (.getfield 62, 3) := by decide +kernel
theorem dX10_rankNow_265 : decode cX10_rankNow 265 = .ok (.bipush 8, 2) := by decide +kernel
theorem dX10_rankNow_267 : decode cX10_rankNow 267 = .ok (.iload 8, 2) := by decide +kernel
theorem dX10_rankNow_269 : decode cX10_rankNow 269 = .ok (.imul, 1) := by decide +kernel
theorem dX10_rankNow_270 : decode cX10_rankNow 270 = .ok (.iload 11, 2) := by decide +kernel
theorem dX10_rankNow_272 : decode cX10_rankNow 272 = .ok (.iadd, 1) := by decide +kernel
theorem dX10_rankNow_273 : decode cX10_rankNow 273 = .ok (.laload, 1) := by decide +kernel
theorem dX10_rankNow_274 : decode cX10_rankNow 274 = .ok (.lload 6, 2) := by decide +kernel
theorem dX10_rankNow_276 : decode cX10_rankNow 276 = .ok (.lmul, 1) := by decide +kernel
theorem dX10_rankNow_277 : decode cX10_rankNow 277 = .ok (.aload_n 0, 1) := by decide +kernel
theorem dX10_rankNow_278 : decode cX10_rankNow 278 = .ok (.getfield 62, 3) := by decide +kernel
theorem dX10_rankNow_281 : decode cX10_rankNow 281 = .ok (.bipush 8, 2) := by decide +kernel
theorem dX10_rankNow_283 : decode cX10_rankNow 283 = .ok (.iload_n 1, 1) := by decide +kernel
theorem dX10_rankNow_284 : decode cX10_rankNow 284 = .ok (.imul, 1) := by decide +kernel
theorem dX10_rankNow_285 : decode cX10_rankNow 285 = .ok (.iload 11, 2) := by decide +kernel
theorem dX10_rankNow_287 : decode cX10_rankNow 287 = .ok (.iadd, 1) := by decide +kernel
theorem dX10_rankNow_288 : decode cX10_rankNow 288 = .ok (.laload, 1) := by decide +kernel
theorem dX10_rankNow_289 : decode cX10_rankNow 289 = .ok (.lload 9, 2) := by decide +kernel
theorem dX10_rankNow_291 : decode cX10_rankNow 291 = .ok (.lmul, 1) := by decide +kernel
theorem dX10_rankNow_292 : decode cX10_rankNow 292 = .ok (.lsub, 1) := by decide +kernel
theorem dX10_rankNow_293 : decode cX10_rankNow 293 = .ok (.lload_n 2, 1) := by decide +kernel
theorem dX10_rankNow_294 : decode cX10_rankNow 294 = .ok (.ldiv, 1) := by decide +kernel
theorem dX10_rankNow_295 : decode cX10_rankNow 295 = .ok (.lastore, 1) := by decide +kernel
theorem dX10_rankNow_296 : decode cX10_rankNow 296 = .ok (.iinc 11 1, 3) := by decide +kernel
theorem dX10_rankNow_299 : decode cX10_rankNow 299 = .ok (.goto (-59), 3) := by decide +kernel
theorem dX10_rankNow_302 : decode cX10_rankNow 302 = .ok (.iinc 8 1, 3) := by decide +kernel
theorem dX10_rankNow_305 : decode cX10_rankNow 305 = .ok (.goto (-92), 3) := by decide +kernel
theorem dX10_rankNow_308 : decode cX10_rankNow 308 = .ok (.lload 6, 2) := by decide +kernel
theorem dX10_rankNow_310 : decode cX10_rankNow 310 = .ok (.lstore_n 2, 1) := by decide +kernel
theorem dX10_rankNow_311 : decode cX10_rankNow 311 = .ok (.iinc 1 1, 3) := by decide +kernel
theorem dX10_rankNow_314 : decode cX10_rankNow 314 = .ok (.iinc 4 1, 3) := by decide +kernel
theorem dX10_rankNow_317 : decode cX10_rankNow 317 = .ok (.goto (-260), 3) := by decide +kernel
theorem dX10_rankNow_320 : decode cX10_rankNow 320 = .ok (.iload_n 1, 1) := by decide +kernel
theorem dX10_rankNow_321 : decode cX10_rankNow 321 = .ok (.ireturn, 1) := by decide +kernel
theorem dX10_rank_0 : decode cX10_rank 0 = .ok (.iload_n 1, 1) := by decide +kernel
theorem dX10_rank_1 : decode cX10_rank 1 = .ok (.iconst 0, 1) := by decide +kernel
theorem dX10_rank_2 : decode cX10_rank 2 = .ok (.iconst 1, 1) := by decide +kernel
theorem dX10_rank_3 : decode cX10_rank 3 = .ok (.invokestatic 78, 3) := by decide +kernel
theorem dX10_rank_6 : decode cX10_rank 6 = .ok (.ifCond .ne 12, 3) := by decide +kernel
theorem dX10_rank_9 : decode cX10_rank 9 = .ok (.aload_n 0, 1) := by decide +kernel
theorem dX10_rank_10 : decode cX10_rank 10 = .ok (.bipush (-2), 2) := by decide +kernel
theorem dX10_rank_12 : decode cX10_rank 12 = .ok (.invokevirtual 87, 3) := by decide +kernel
theorem dX10_rank_15 : decode cX10_rank 15 = .ok (.goto 23, 3) := by decide +kernel
theorem dX10_rank_18 : decode cX10_rank 18 = .ok (.iload_n 1, 1) := by decide +kernel
theorem dX10_rank_19 : decode cX10_rank 19 = .ok (.ifCond .ne 10, 3) := by decide +kernel
theorem dX10_rank_22 : decode cX10_rank 22 = .ok (.aload_n 0, 1) := by decide +kernel
theorem dX10_rank_23 : decode cX10_rank 23 = .ok (.invokevirtual 230, 3) := by decide +kernel
theorem dX10_rank_26 : decode cX10_rank 26 = .ok (.goto 12, 3) := by decide +kernel
theorem dX10_rank_29 : decode cX10_rank 29 = .ok (.aload_n 0, 1) := by decide +kernel
theorem dX10_rank_30 : decode cX10_rank 30 = .ok (.getfield 82, 3) := by decide +kernel
theorem dX10_rank_33 : decode cX10_rank 33 = .ok (.aload_n 0, 1) := by decide +kernel
theorem dX10_rank_34 : decode cX10_rank 34 = .ok (.invokevirtual 230, 3) := by decide +kernel
theorem dX10_rank_37 : decode cX10_rank 37 = .ok (.isub, 1) := by decide +kernel
theorem dX10_rank_38 : decode cX10_rank 38 = .ok (.ireturn, 1) := by decide +kernel
theorem dX10_partOf_0 : decode cX10_partOf 0 = .ok (.iconst 1, 1) := by decide +kernel
theorem dX10_partOf_1 : decode cX10_partOf 1 = .ok (.iload_n 1, 1) := by decide +kernel
theorem dX10_partOf_2 : decode cX10_partOf 2 = .ok (.ishl, 1) := by decide +kernel
theorem dX10_partOf_3 : decode cX10_partOf 3 = .ok (.istore_n 2, 1) := by decide +kernel
theorem dX10_partOf_4 : decode cX10_partOf 4 = .ok (.iconst 0, 1) := by decide +kernel
theorem dX10_partOf_5 : decode cX10_partOf 5 = .ok (.istore_n 3, 1) := by decide +kernel
theorem dX10_partOf_6 : decode cX10_partOf 6 = .ok (.iload_n 2, 1) := by decide +kernel
theorem dX10_partOf_7 : decode cX10_partOf 7 = .ok (.iload_n 3, 1) := by decide +kernel
theorem dX10_partOf_8 : decode cX10_partOf 8 = .ok (.if_icmp .eq 63, 3) := by decide +kernel
theorem dX10_partOf_11 : decode cX10_partOf 11 = .ok (.iload_n 2, 1) := by decide +kernel
theorem dX10_partOf_12 : decode cX10_partOf 12 = .ok (.istore_n 3, 1) := by decide +kernel
theorem dX10_partOf_13 : decode cX10_partOf 13 = .ok (.iconst 0, 1) := by decide +kernel
theorem dX10_partOf_14 : decode cX10_partOf 14 = .ok (.istore 4, 2) := by decide +kernel
theorem dX10_partOf_16 : decode cX10_partOf 16 = .ok (.iload 4, 2) := by decide +kernel
theorem dX10_partOf_18 : decode cX10_partOf 18 = .ok (.aload_n 0, 1) := by decide +kernel
theorem dX10_partOf_19 : decode cX10_partOf 19 = .ok (.getfield 82, 3) := by decide +kernel
theorem dX10_partOf_22 : decode cX10_partOf 22 = .ok (.if_icmp .ge 46, 3) := by decide +kernel
theorem dX10_partOf_25 : decode cX10_partOf 25 = .ok (.iconst 1, 1) := by decide +kernel
theorem dX10_partOf_26 : decode cX10_partOf 26 = .ok (.aload_n 0, 1) := by decide +kernel
theorem dX10_partOf_27 : decode cX10_partOf 27 = .ok (.getfield 20, 3) := by decide +kernel
theorem dX10_partOf_30 : decode cX10_partOf 30 = .ok (.iload 4, 2) := by decide +kernel
theorem dX10_partOf_32 : decode cX10_partOf 32 = .ok (.iaload, 1) := by decide +kernel
theorem dX10_partOf_33 : decode cX10_partOf 33 = .ok (.ishl, 1) := by decide +kernel
theorem dX10_partOf_34 : decode cX10_partOf 34 = .ok (.iconst 1, 1) := by decide +kernel
theorem dX10_partOf_35 : decode cX10_partOf 35 = .ok (.aload_n 0, 1) := by decide +kernel
theorem dX10_partOf_36 : decode cX10_partOf 36 = .ok (.getfield 23, 3) := by decide +kernel
theorem dX10_partOf_39 : decode cX10_partOf 39 = .ok (.iload 4, 2) := by decide +kernel
theorem dX10_partOf_41 : decode cX10_partOf 41 = .ok (.iaload, 1) := by decide +kernel
theorem dX10_partOf_42 : decode cX10_partOf 42 = .ok (.ishl, 1) := by decide +kernel
theorem dX10_partOf_43 : decode cX10_partOf 43 = .ok (.ior, 1) := by decide +kernel
theorem dX10_partOf_44 : decode cX10_partOf 44 = .ok (.istore 5, 2) := by decide +kernel
theorem dX10_partOf_46 : decode cX10_partOf 46 = .ok (.iload_n 2, 1) := by decide +kernel
theorem dX10_partOf_47 : decode cX10_partOf 47 = .ok (.iload_n 2, 1) := by decide +kernel
theorem dX10_partOf_48 : decode cX10_partOf 48 = .ok (.iload 5, 2) := by decide +kernel
theorem dX10_partOf_50 : decode cX10_partOf 50 = .ok (.iand, 1) := by decide +kernel
theorem dX10_partOf_51 : decode cX10_partOf 51 = .ok (.ifCond .eq 8, 3) := by decide +kernel
theorem dX10_partOf_54 : decode cX10_partOf 54 = .ok (.iload 5, 2) := by decide +kernel
theorem dX10_partOf_56 : decode cX10_partOf 56 = .ok (.goto 4, 3) := by decide +kernel
theorem dX10_partOf_59 : decode cX10_partOf 59 = .ok (.iconst 0, 1) := by decide +kernel
theorem dX10_partOf_60 : decode cX10_partOf 60 = .ok (.ior, 1) := by decide +kernel
theorem dX10_partOf_61 : decode cX10_partOf 61 = .ok (.istore_n 2, 1) := by decide +kernel
theorem dX10_partOf_62 : decode cX10_partOf 62 = .ok (.iinc 4 1, 3) := by decide +kernel
theorem dX10_partOf_65 : decode cX10_partOf 65 = .ok (.goto (-49), 3) := by decide +kernel
theorem dX10_partOf_68 : decode cX10_partOf 68 = .ok (.goto (-62), 3) := by decide +kernel
theorem dX10_partOf_71 : decode cX10_partOf 71 = .ok (.iload_n 2, 1) := by decide +kernel
theorem dX10_partOf_72 : decode cX10_partOf 72 = .ok (.ireturn, 1) := by decide +kernel
theorem dX10_parts_0 : decode cX10_parts 0 = .ok (.iload_n 1, 1) := by decide +kernel
theorem dX10_parts_1 : decode cX10_parts 1 = .ok (.iconst (-1), 1) := by decide +kernel
theorem dX10_parts_2 : decode cX10_parts 2 = .ok (.if_icmp .eq 17, 3) := by decide +kernel
theorem dX10_parts_5 : decode cX10_parts 5 = .ok (.aload_n 0, 1) := by decide +kernel
theorem dX10_parts_6 : decode cX10_parts 6 = .ok (.iload_n 1, 1) := by decide +kernel
theorem dX10_parts_7 : decode cX10_parts 7 = .ok (.invokevirtual 100, 3) := by decide +kernel
theorem dX10_parts_10 : decode cX10_parts 10 = .ok (.ifCond .ne 9, 3) := by decide +kernel
theorem dX10_parts_13 : decode cX10_parts 13 = .ok (.aload_n 0, 1) := by decide +kernel
theorem dX10_parts_14 : decode cX10_parts 14 = .ok (.iconst (-1), 1) := by decide +kernel
theorem dX10_parts_15 : decode cX10_parts 15 = .ok (.invokevirtual 87, 3) := by decide +kernel
theorem dX10_parts_18 : decode cX10_parts 18 = .ok (.ireturn, 1) := by decide +kernel
theorem dX10_parts_19 : decode cX10_parts 19 = .ok (.iload_n 1, 1) := by decide +kernel
theorem dX10_parts_20 : decode cX10_parts 20 = .ok (.ifCond .lt 9, 3) := by decide +kernel
theorem dX10_parts_23 : decode cX10_parts 23 = .ok (.aload_n 0, 1) := by decide +kernel
theorem dX10_parts_24 : decode cX10_parts 24 = .ok (.iload_n 1, 1) := by decide +kernel
theorem dX10_parts_25 : decode cX10_parts 25 = .ok (.invokevirtual 233, 3) := by decide +kernel
theorem dX10_parts_28 : decode cX10_parts 28 = .ok (.ireturn, 1) := by decide +kernel
theorem dX10_parts_29 : decode cX10_parts 29 = .ok (.iconst 0, 1) := by decide +kernel
theorem dX10_parts_30 : decode cX10_parts 30 = .ok (.istore_n 2, 1) := by decide +kernel
theorem dX10_parts_31 : decode cX10_parts 31 = .ok (.iconst 0, 1) := by decide +kernel
theorem dX10_parts_32 : decode cX10_parts 32 = .ok (.istore_n 3, 1) := by decide +kernel
theorem dX10_parts_33 : decode cX10_parts 33 = .ok (.iload_n 3, 1) := by decide +kernel
theorem dX10_parts_34 : decode cX10_parts 34 = .ok (.aload_n 0, 1) := by decide +kernel
theorem dX10_parts_35 : decode cX10_parts 35 = .ok (.getfield 7, 3) := by decide +kernel
theorem dX10_parts_38 : decode cX10_parts 38 = .ok (.if_icmp .ge 29, 3) := by decide +kernel
theorem dX10_parts_41 : decode cX10_parts 41 = .ok (.iload_n 2, 1) := by decide +kernel
theorem dX10_parts_42 : decode cX10_parts 42 = .ok (.aload_n 0, 1) := by decide +kernel
theorem dX10_parts_43 : decode cX10_parts 43 = .ok (.iload_n 3, 1) := by decide +kernel
theorem dX10_parts_44 : decode cX10_parts 44 = .ok (.invokevirtual 233, 3) := by decide +kernel
theorem dX10_parts_47 : decode cX10_parts 47 = .ok (.iconst 1, 1) := by decide +kernel
theorem dX10_parts_48 : decode cX10_parts 48 = .ok (.iload_n 3, 1) := by decide +kernel
theorem dX10_parts_49 : decode cX10_parts 49 = .ok (.ishl, 1) := by decide +kernel
theorem dX10_parts_50 : decode cX10_parts 50 = .ok (.irem, 1) := by decide +kernel
theorem dX10_parts_51 : decode cX10_parts 51 = .ok (.ifCond .ne 7, 3) := by decide +kernel
theorem dX10_parts_54 : decode cX10_parts 54 = .ok (.iconst 1, 1) := by decide +kernel
theorem dX10_parts_55 : decode cX10_parts 55 = .ok (.goto 4, 3) := by decide +kernel
theorem dX10_parts_58 : decode cX10_parts 58 = .ok (.iconst 0, 1) := by decide +kernel
theorem dX10_parts_59 : decode cX10_parts 59 = .ok (.iadd, 1) := by decide +kernel
theorem dX10_parts_60 : decode cX10_parts 60 = .ok (.istore_n 2, 1) := by decide +kernel
theorem dX10_parts_61 : decode cX10_parts 61 = .ok (.iinc 3 1, 3) := by decide +kernel
theorem dX10_parts_64 : decode cX10_parts 64 = .ok (.goto (-31), 3) := by decide +kernel
theorem dX10_parts_67 : decode cX10_parts 67 = .ok (.iload_n 2, 1) := by decide +kernel
theorem dX10_parts_68 : decode cX10_parts 68 = .ok (.ireturn, 1) := by decide +kernel
theorem dX10_haveSides_0 : decode cX10_haveSides 0 = .ok (.aload_n 0, 1) := by decide +kernel
theorem dX10_haveSides_1 : decode cX10_haveSides 1 = .ok (.iconst 0, 1) := by decide +kernel
theorem dX10_haveSides_2 : decode cX10_haveSides 2 = .ok (.putfield 236, 3) := by decide +kernel
theorem dX10_haveSides_5 : decode cX10_haveSides 5 = .ok (.iconst 0, 1) := by decide +kernel
theorem dX10_haveSides_6 : decode cX10_haveSides 6 = .ok (.istore_n 1, 1) := by decide +kernel
theorem dX10_haveSides_7 : decode cX10_haveSides 7 = .ok (.iconst 0, 1) := by decide +kernel
theorem dX10_haveSides_8 : decode cX10_haveSides 8 = .ok (.istore_n 2, 1) := by decide +kernel
theorem dX10_haveSides_9 : decode cX10_haveSides 9 = .ok (.iload_n 2, 1) := by decide +kernel
theorem dX10_haveSides_10 : decode cX10_haveSides 10 = .ok (.aload_n 0, 1) := by decide +kernel
theorem dX10_haveSides_11 : decode cX10_haveSides 11 = .ok (.getfield 7, 3) := by decide +kernel
theorem dX10_haveSides_14 : decode cX10_haveSides 14 = .ok (.if_icmp .ge 31, 3) := by decide +kernel
theorem dX10_haveSides_17 : decode cX10_haveSides 17 = .ok (.iload_n 1, 1) := by decide +kernel
theorem dX10_haveSides_18 : decode cX10_haveSides 18 = .ok (.aload_n 0, 1) := by decide +kernel
theorem dX10_haveSides_19 : decode cX10_haveSides 19 = .ok (.iload_n 2, 1) := by decide +kernel
theorem dX10_haveSides_20 : decode cX10_haveSides 20 = .ok (.invokevirtual 233, 3) := by decide +kernel
theorem dX10_haveSides_23 : decode cX10_haveSides 23 = .ok (.iconst 1, 1) := by decide +kernel
theorem dX10_haveSides_24 : decode cX10_haveSides 24 = .ok (.iload_n 2, 1) := by decide +kernel
theorem dX10_haveSides_25 : decode cX10_haveSides 25 = .ok (.ishl, 1) := by decide +kernel
theorem dX10_haveSides_26 : decode cX10_haveSides 26 = .ok (.irem, 1) := by decide +kernel
theorem dX10_haveSides_27 : decode cX10_haveSides 27 = .ok (.ifCond .ne 9, 3) := by decide +kernel
theorem dX10_haveSides_30 : decode cX10_haveSides 30 = .ok (.iconst 1, 1) := by decide +kernel
theorem dX10_haveSides_31 : decode cX10_haveSides 31 = .ok (.iload_n 2, 1) := by decide +kernel
theorem dX10_haveSides_32 : decode cX10_haveSides 32 = .ok (.ishl, 1) := by decide +kernel
theorem dX10_haveSides_33 : decode cX10_haveSides 33 = .ok (.goto 4, 3) := by decide +kernel
theorem dX10_haveSides_36 : decode cX10_haveSides 36 = .ok (.iconst 0, 1) := by decide +kernel
theorem dX10_haveSides_37 : decode cX10_haveSides 37 = .ok (.ior, 1) := by decide +kernel
theorem dX10_haveSides_38 : decode cX10_haveSides 38 = .ok (.istore_n 1, 1) := by decide +kernel
theorem dX10_haveSides_39 : decode cX10_haveSides 39 = .ok (.iinc 2 1, 3) := by decide +kernel
theorem dX10_haveSides_42 : decode cX10_haveSides 42 = .ok (.goto (-33), 3) := by decide +kernel
theorem dX10_haveSides_45 : decode cX10_haveSides 45 = .ok (.iconst 0, 1) := by decide +kernel
theorem dX10_haveSides_46 : decode cX10_haveSides 46 = .ok (.istore_n 2, 1) := by decide +kernel
theorem dX10_haveSides_47 : decode cX10_haveSides 47 = .ok (.iload_n 2, 1) := by decide +kernel
theorem dX10_haveSides_48 : decode cX10_haveSides 48 = .ok (.aload_n 0, 1) := by decide +kernel
theorem dX10_haveSides_49 : decode cX10_haveSides 49 = .ok (.getfield 7, 3) := by decide +kernel
theorem dX10_haveSides_52 : decode cX10_haveSides 52 = .ok (.if_icmp .ge 186, 3) := by decide +kernel
theorem dX10_haveSides_55 : decode cX10_haveSides 55 = .ok (.iconst 0, 1) := by decide +kernel
theorem dX10_haveSides_56 : decode cX10_haveSides 56 = .ok (.istore_n 3, 1) := by decide +kernel
theorem dX10_haveSides_57 : decode cX10_haveSides 57 = .ok (.iload_n 3, 1) := by decide +kernel
theorem dX10_haveSides_58 : decode cX10_haveSides 58 = .ok (.aload_n 0, 1) := by decide +kernel
theorem dX10_haveSides_59 : decode cX10_haveSides 59 = .ok (.getfield 82, 3) := by decide +kernel
theorem dX10_haveSides_62 : decode cX10_haveSides 62 = .ok (.if_icmp .ge 170, 3) := by decide +kernel
theorem dX10_haveSides_65 : decode cX10_haveSides 65 = .ok (.iload_n 1, 1) := by decide +kernel
theorem dX10_haveSides_66 : decode cX10_haveSides 66 = .ok (.aload_n 0, 1) := by decide +kernel
theorem dX10_haveSides_67 : decode cX10_haveSides 67 = .ok (.getfield 20, 3) := by decide +kernel
theorem dX10_haveSides_70 : decode cX10_haveSides 70 = .ok (.iload_n 3, 1) := by decide +kernel
theorem dX10_haveSides_71 : decode cX10_haveSides 71 = .ok (.iaload, 1) := by decide +kernel
theorem dX10_haveSides_72 : decode cX10_haveSides 72 = .ok (.ishr, 1) := by decide +kernel
theorem dX10_haveSides_73 : decode cX10_haveSides 73 = .ok (.iconst 1, 1) := by decide +kernel
theorem dX10_haveSides_74 : decode cX10_haveSides 74 = .ok (.iand, 1) := by decide +kernel
theorem dX10_haveSides_75 : decode cX10_haveSides 75 = .ok (.iconst 1, 1) := by decide +kernel
theorem dX10_haveSides_76 : decode cX10_haveSides 76 = .ok (.if_icmp .ne 7, 3) := by decide +kernel
theorem dX10_haveSides_79 : decode cX10_haveSides 79 = .ok (.iconst 1, 1) := by decide +kernel
theorem dX10_haveSides_80 : decode cX10_haveSides 80 = .ok (.goto 4, 3) := by decide +kernel
theorem dX10_haveSides_83 : decode cX10_haveSides 83 = .ok (.iconst 0, 1) := by decide +kernel
theorem dX10_haveSides_84 : decode cX10_haveSides 84 = .ok (.istore 4, 2) := by decide +kernel
theorem dX10_haveSides_86 : decode cX10_haveSides 86 = .ok (.iload_n 1, 1) := by decide +kernel
theorem dX10_haveSides_87 : decode cX10_haveSides 87 = .ok (.aload_n 0, 1) := by decide +kernel
theorem dX10_haveSides_88 : decode cX10_haveSides 88 = .ok (.getfield 23, 3) := by decide +kernel
theorem dX10_haveSides_91 : decode cX10_haveSides 91 = .ok (.iload_n 3, 1) := by decide +kernel
theorem dX10_haveSides_92 : decode cX10_haveSides 92 = .ok (.iaload, 1) := by decide +kernel
theorem dX10_haveSides_93 : decode cX10_haveSides 93 = .ok (.ishr, 1) := by decide +kernel
theorem dX10_haveSides_94 : decode cX10_haveSides 94 = .ok (.iconst 1, 1) := by decide +kernel
theorem dX10_haveSides_95 : decode cX10_haveSides 95 = .ok (.iand, 1) := by decide +kernel
theorem dX10_haveSides_96 : decode cX10_haveSides 96 = .ok (.iconst 1, 1) := by decide +kernel
theorem dX10_haveSides_97 : decode cX10_haveSides 97 = .ok (.if_icmp .ne 7, 3) := by decide +kernel
theorem dX10_haveSides_100 : decode cX10_haveSides 100 = .ok (.iconst 1, 1) := by decide +kernel
theorem dX10_haveSides_101 : decode cX10_haveSides 101 = .ok (.goto 4, 3) := by decide +kernel
theorem dX10_haveSides_104 : decode cX10_haveSides 104 = .ok (.iconst 0, 1) := by decide +kernel
theorem dX10_haveSides_105 : decode cX10_haveSides 105 = .ok (.istore 5, 2) := by decide +kernel
theorem dX10_haveSides_107 : decode cX10_haveSides 107 = .ok (.iload 4, 2) := by decide +kernel
theorem dX10_haveSides_109 : decode cX10_haveSides 109 = .ok (.ifCond .eq 59, 3) := by decide +kernel
theorem dX10_haveSides_112 : decode cX10_haveSides 112 = .ok (.iload 5, 2) := by decide +kernel
theorem dX10_haveSides_114 : decode cX10_haveSides 114 = .ok (.ifCond .ne 54, 3) := by decide +kernel
theorem dX10_haveSides_117 : decode cX10_haveSides 117 = .ok (.aload_n 0, 1) := by decide +kernel
theorem dX10_haveSides_118 : decode cX10_haveSides 118 = .ok (.dup, 1) := by decide +kernel
theorem dX10_haveSides_119 : decode cX10_haveSides 119 = .ok (.getfield 236, 3) := by decide +kernel
theorem dX10_haveSides_122 : decode cX10_haveSides 122 = .ok (.aload_n 0, 1) := by decide +kernel
theorem dX10_haveSides_123 : decode cX10_haveSides 123 = .ok (.getfield 236, 3) := by decide +kernel
theorem dX10_haveSides_126 : decode cX10_haveSides 126 = .ok (.aload_n 0, 1) := by decide +kernel
theorem dX10_haveSides_127 : decode cX10_haveSides 127 = .ok (.getfield 20, 3) := by decide +kernel
theorem dX10_haveSides_130 : decode cX10_haveSides 130 = .ok (.iload_n 3, 1) := by decide +kernel
theorem dX10_haveSides_131 : decode cX10_haveSides 131 = .ok (.iaload, 1) := by decide +kernel
theorem dX10_haveSides_132 : decode cX10_haveSides 132 = .ok (.ishr, 1) := by decide +kernel
theorem dX10_haveSides_133 : decode cX10_haveSides 133 = .ok (.iconst 1, 1) := by decide +kernel
theorem dX10_haveSides_134 : decode cX10_haveSides 134 = .ok (.iand, 1) := by decide +kernel
theorem dX10_haveSides_135 : decode cX10_haveSides 135 = .ok (.ifCond .ne 14, 3) := by decide +kernel
theorem dX10_haveSides_138 : decode cX10_haveSides 138 = .ok (.iconst 1, 1) := by decide +kernel
theorem dX10_haveSides_139 : decode cX10_haveSides 139 = .ok (.aload_n 0, 1) := by decide +kernel
theorem dX10_haveSides_140 : decode cX10_haveSides 140 = .ok (.getfield 23, 3) := by decide +kernel
theorem dX10_haveSides_143 : decode cX10_haveSides 143 = .ok (.iload_n 3, 1) := by decide +kernel
theorem dX10_haveSides_144 : decode cX10_haveSides 144 = .ok (.iaload, 1) := by decide +kernel
theorem dX10_haveSides_145 : decode cX10_haveSides 145 = .ok (.ishl, 1) := by decide +kernel
theorem dX10_haveSides_146 : decode cX10_haveSides 146 = .ok (.goto 4, 3) := by decide +kernel
theorem dX10_haveSides_149 : decode cX10_haveSides 149 = .ok (.iconst 0, 1) := by decide +kernel
theorem dX10_haveSides_150 : decode cX10_haveSides 150 = .ok (.ior, 1) := by decide +kernel
theorem dX10_haveSides_151 : decode cX10_haveSides 151 = .ok (.putfield 236, 3) := by decide +kernel
theorem dX10_haveSides_154 : decode cX10_haveSides 154 = .ok (.iload_n 1, 1) := by decide +kernel
theorem dX10_haveSides_155 : decode cX10_haveSides 155 = .ok (.iconst 1, 1) := by decide +kernel
theorem dX10_haveSides_156 : decode cX10_haveSides 156 = .ok (.aload_n 0, 1) := by decide +kernel
theorem dX10_haveSides_157 : decode cX10_haveSides 157 = .ok (.getfield 23, 3) := by decide +kernel
theorem dX10_haveSides_160 : decode cX10_haveSides 160 = .ok (.iload_n 3, 1) := by decide +kernel
theorem dX10_haveSides_161 : decode cX10_haveSides 161 = .ok (.iaload, 1) := by decide +kernel
theorem dX10_haveSides_162 : decode cX10_haveSides 162 = .ok (.ishl, 1) := by decide +kernel
theorem dX10_haveSides_163 : decode cX10_haveSides 163 = .ok (.ior, 1) := by decide +kernel
theorem dX10_haveSides_164 : decode cX10_haveSides 164 = .ok (.istore_n 1, 1) := by decide +kernel
theorem dX10_haveSides_165 : decode cX10_haveSides 165 = .ok (.goto 61, 3) := by decide +kernel
theorem dX10_haveSides_168 : decode cX10_haveSides 168 = .ok (.iload 5, 2) := by decide +kernel
theorem dX10_haveSides_170 : decode cX10_haveSides 170 = .ok (.ifCond .eq 56, 3) := by decide +kernel
theorem dX10_haveSides_173 : decode cX10_haveSides 173 = .ok (.iload 4, 2) := by decide +kernel
theorem dX10_haveSides_175 : decode cX10_haveSides 175 = .ok (.ifCond .ne 51, 3) := by decide +kernel
theorem dX10_haveSides_178 : decode cX10_haveSides 178 = .ok (.aload_n 0, 1) := by decide +kernel
theorem dX10_haveSides_179 : decode cX10_haveSides 179 = .ok (.dup, 1) := by decide +kernel
theorem dX10_haveSides_180 : decode cX10_haveSides 180 = .ok (.getfield 236, 3) := by decide +kernel
theorem dX10_haveSides_183 : decode cX10_haveSides 183 = .ok (.aload_n 0, 1) := by decide +kernel
theorem dX10_haveSides_184 : decode cX10_haveSides 184 = .ok (.getfield 236, 3) := by decide +kernel
theorem dX10_haveSides_187 : decode cX10_haveSides 187 = .ok (.aload_n 0, 1) := by decide +kernel
theorem dX10_haveSides_188 : decode cX10_haveSides 188 = .ok (.getfield 23, 3) := by decide +kernel
theorem dX10_haveSides_191 : decode cX10_haveSides 191 = .ok (.iload_n 3, 1) := by decide +kernel
theorem dX10_haveSides_192 : decode cX10_haveSides 192 = .ok (.iaload, 1) := by decide +kernel
theorem dX10_haveSides_193 : decode cX10_haveSides 193 = .ok (.ishr, 1) := by decide +kernel
theorem dX10_haveSides_194 : decode cX10_haveSides 194 = .ok (.iconst 1, 1) := by decide +kernel
theorem dX10_haveSides_195 : decode cX10_haveSides 195 = .ok (.iand, 1) := by decide +kernel
theorem dX10_haveSides_196 : decode cX10_haveSides 196 = .ok (.ifCond .ne 14, 3) := by decide +kernel
theorem dX10_haveSides_199 : decode cX10_haveSides 199 = .ok (.iconst 1, 1) := by decide +kernel
theorem dX10_haveSides_200 : decode cX10_haveSides 200 = .ok (.aload_n 0, 1) := by decide +kernel
theorem dX10_haveSides_201 : decode cX10_haveSides 201 = .ok (.getfield 20, 3) := by decide +kernel
theorem dX10_haveSides_204 : decode cX10_haveSides 204 = .ok (.iload_n 3, 1) := by decide +kernel
theorem dX10_haveSides_205 : decode cX10_haveSides 205 = .ok (.iaload, 1) := by decide +kernel
theorem dX10_haveSides_206 : decode cX10_haveSides 206 = .ok (.ishl, 1) := by decide +kernel
theorem dX10_haveSides_207 : decode cX10_haveSides 207 = .ok (.goto 4, 3) := by decide +kernel
theorem dX10_haveSides_210 : decode cX10_haveSides 210 = .ok (.iconst 0, 1) := by decide +kernel
theorem dX10_haveSides_211 : decode cX10_haveSides 211 = .ok (.ior, 1) := by decide +kernel
theorem dX10_haveSides_212 : decode cX10_haveSides 212 = .ok (.putfield 236, 3) := by decide +kernel
theorem dX10_haveSides_215 : decode cX10_haveSides 215 = .ok (.iload_n 1, 1) := by decide +kernel
theorem dX10_haveSides_216 : decode cX10_haveSides 216 = .ok (.iconst 1, 1) := by decide +kernel
theorem dX10_haveSides_217 : decode cX10_haveSides 217 = .ok (.aload_n 0, 1) := by decide +kernel
theorem dX10_haveSides_218 : decode cX10_haveSides 218 = .ok (.getfield 20, 3) := by decide +kernel
theorem dX10_haveSides_221 : decode cX10_haveSides 221 = .ok (.iload_n 3, 1) := by decide +kernel
theorem dX10_haveSides_222 : decode cX10_haveSides 222 = .ok (.iaload, 1) := by decide +kernel
theorem dX10_haveSides_223 : decode cX10_haveSides 223 = .ok (.ishl, 1) := by decide +kernel
theorem dX10_haveSides_224 : decode cX10_haveSides 224 = .ok (.ior, 1) := by decide +kernel
theorem dX10_haveSides_225 : decode cX10_haveSides 225 = .ok (.istore_n 1, 1) := by decide +kernel
theorem dX10_haveSides_226 : decode cX10_haveSides 226 = .ok (.iinc 3 1, 3) := by decide +kernel
theorem dX10_haveSides_229 : decode cX10_haveSides 229 = .ok (.goto (-172), 3) := by decide +kernel
theorem dX10_haveSides_232 : decode cX10_haveSides 232 = .ok (.iinc 2 1, 3) := by decide +kernel
theorem dX10_haveSides_235 : decode cX10_haveSides 235 = .ok (.goto (-188), 3) := by decide +kernel
theorem dX10_haveSides_238 : decode cX10_haveSides 238 = .ok (.iconst 0, 1) := by decide +kernel
theorem dX10_haveSides_239 : decode cX10_haveSides 239 = .ok (.istore_n 2, 1) := by decide +kernel
theorem dX10_haveSides_240 : decode cX10_haveSides 240 = .ok (.iload_n 2, 1) := by decide +kernel
theorem dX10_haveSides_241 : decode cX10_haveSides 241 = .ok (.aload_n 0, 1) := by decide +kernel
theorem dX10_haveSides_242 : decode cX10_haveSides 242 = .ok (.getfield 82, 3) := by decide +kernel
theorem dX10_haveSides_245 : decode cX10_haveSides 245 = .ok (.if_icmp .ge 40, 3) := by decide +kernel
theorem dX10_haveSides_248 : decode cX10_haveSides 248 = .ok (.aload_n 0, 1) := by decide +kernel
theorem dX10_haveSides_249 : decode cX10_haveSides 249 = .ok (.getfield 236, 3) := by decide +kernel
theorem dX10_haveSides_252 : decode cX10_haveSides 252 = .ok (.aload_n 0, 1) := by decide +kernel
theorem dX10_haveSides_253 : decode cX10_haveSides 253 = .ok (.getfield 20, 3) := by decide +kernel
theorem dX10_haveSides_256 : decode cX10_haveSides 256 = .ok (.iload_n 2, 1) := by decide +kernel
theorem dX10_haveSides_257 : decode cX10_haveSides 257 = .ok (.iaload, 1) := by decide +kernel
theorem dX10_haveSides_258 : decode cX10_haveSides 258 = .ok (.ishr, 1) := by decide +kernel
theorem dX10_haveSides_259 : decode cX10_haveSides 259 = .ok (.iconst 1, 1) := by decide +kernel
theorem dX10_haveSides_260 : decode cX10_haveSides 260 = .ok (.iand, 1) := by decide +kernel
theorem dX10_haveSides_261 : decode cX10_haveSides 261 = .ok (.aload_n 0, 1) := by decide +kernel
theorem dX10_haveSides_262 : decode cX10_haveSides 262 = .ok (.getfield 236, 3) := by decide +kernel
theorem dX10_haveSides_265 : decode cX10_haveSides 265 = .ok (.aload_n 0, 1) := by decide +kernel
theorem dX10_haveSides_266 : decode cX10_haveSides 266 = .ok (.getfield 23, 3) := by decide +kernel
theorem dX10_haveSides_269 : decode cX10_haveSides 269 = .ok (.iload_n 2, 1) := by decide +kernel
theorem dX10_haveSides_270 : decode cX10_haveSides 270 = .ok (.iaload, 1) := by decide +kernel
theorem dX10_haveSides_271 : decode cX10_haveSides 271 = .ok (.ishr, 1) := by decide +kernel
theorem dX10_haveSides_272 : decode cX10_haveSides 272 = .ok (.iconst 1, 1) := by decide +kernel
theorem dX10_haveSides_273 : decode cX10_haveSides 273 = .ok (.iand, 1) := by decide +kernel
theorem dX10_haveSides_274 : decode cX10_haveSides 274 = .ok (.if_icmp .ne 5, 3) := by decide +kernel
theorem dX10_haveSides_277 : decode cX10_haveSides 277 = .ok (.iconst 0, 1) := by decide +kernel
theorem dX10_haveSides_278 : decode cX10_haveSides 278 = .ok (.ireturn, 1) := by decide +kernel
theorem dX10_haveSides_279 : decode cX10_haveSides 279 = .ok (.iinc 2 1, 3) := by decide +kernel
theorem dX10_haveSides_282 : decode cX10_haveSides 282 = .ok (.goto (-42), 3) := by decide +kernel
theorem dX10_haveSides_285 : decode cX10_haveSides 285 = .ok (.iconst 1, 1) := by decide +kernel
theorem dX10_haveSides_286 : decode cX10_haveSides 286 = .ok (.ireturn, 1) := by decide +kernel
theorem dX10_sides_0 : decode cX10_sides 0 = .ok (.iload_n 1, 1) := by decide +kernel
theorem dX10_sides_1 : decode cX10_sides 1 = .ok (.iconst (-1), 1) := by decide +kernel
theorem dX10_sides_2 : decode cX10_sides 2 = .ok (.if_icmp .eq 17, 3) := by decide +kernel
theorem dX10_sides_5 : decode cX10_sides 5 = .ok (.aload_n 0, 1) := by decide +kernel
theorem dX10_sides_6 : decode cX10_sides 6 = .ok (.iload_n 1, 1) := by decide +kernel
theorem dX10_sides_7 : decode cX10_sides 7 = .ok (.invokevirtual 100, 3) := by decide +kernel
theorem dX10_sides_10 : decode cX10_sides 10 = .ok (.ifCond .ne 9, 3) := by decide +kernel
theorem dX10_sides_13 : decode cX10_sides 13 = .ok (.aload_n 0, 1) := by decide +kernel
theorem dX10_sides_14 : decode cX10_sides 14 = .ok (.iconst (-1), 1) := by decide +kernel
theorem dX10_sides_15 : decode cX10_sides 15 = .ok (.invokevirtual 87, 3) := by decide +kernel
theorem dX10_sides_18 : decode cX10_sides 18 = .ok (.ireturn, 1) := by decide +kernel
theorem dX10_sides_19 : decode cX10_sides 19 = .ok (.aload_n 0, 1) := by decide +kernel
theorem dX10_sides_20 : decode cX10_sides 20 = .ok (.invokevirtual 239, 3) := by decide +kernel
theorem dX10_sides_23 : decode cX10_sides 23 = .ok (.istore_n 2, 1) := by decide +kernel
theorem dX10_sides_24 : decode cX10_sides 24 = .ok (.iload_n 1, 1) := by decide +kernel
theorem dX10_sides_25 : decode cX10_sides 25 = .ok (.iconst (-1), 1) := by decide +kernel
theorem dX10_sides_26 : decode cX10_sides 26 = .ok (.if_icmp .ne 13, 3) := by decide +kernel
theorem dX10_sides_29 : decode cX10_sides 29 = .ok (.iload_n 2, 1) := by decide +kernel
theorem dX10_sides_30 : decode cX10_sides 30 = .ok (.ifCond .eq 7, 3) := by decide +kernel
theorem dX10_sides_33 : decode cX10_sides 33 = .ok (.iconst 1, 1) := by decide +kernel
theorem dX10_sides_34 : decode cX10_sides 34 = .ok (.goto 4, 3) := by decide +kernel
theorem dX10_sides_37 : decode cX10_sides 37 = .ok (.iconst 0, 1) := by decide +kernel
theorem dX10_sides_38 : decode cX10_sides 38 = .ok (.ireturn, 1) := by decide +kernel
theorem dX10_sides_39 : decode cX10_sides 39 = .ok (.iload_n 2, 1) := by decide +kernel
theorem dX10_sides_40 : decode cX10_sides 40 = .ok (.ifCond .eq 14, 3) := by decide +kernel
theorem dX10_sides_43 : decode cX10_sides 43 = .ok (.aload_n 0, 1) := by decide +kernel
theorem dX10_sides_44 : decode cX10_sides 44 = .ok (.getfield 236, 3) := by decide +kernel
theorem dX10_sides_47 : decode cX10_sides 47 = .ok (.iload_n 1, 1) := by decide +kernel
theorem dX10_sides_48 : decode cX10_sides 48 = .ok (.ishr, 1) := by decide +kernel
theorem dX10_sides_49 : decode cX10_sides 49 = .ok (.iconst 1, 1) := by decide +kernel
theorem dX10_sides_50 : decode cX10_sides 50 = .ok (.iand, 1) := by decide +kernel
theorem dX10_sides_51 : decode cX10_sides 51 = .ok (.goto 5, 3) := by decide +kernel
theorem dX10_sides_54 : decode cX10_sides 54 = .ok (.bipush (-9), 2) := by decide +kernel
theorem dX10_sides_56 : decode cX10_sides 56 = .ok (.ireturn, 1) := by decide +kernel
theorem dX10_writes_0 : decode cX10_writes 0 = .ok (.aload_n 0, 1) := by decide +kernel
theorem dX10_writes_1 : decode cX10_writes 1 = .ok (.getfield 66, 3) := by decide +kernel
theorem dX10_writes_4 : decode cX10_writes 4 = .ok (.aload_n 0, 1) := by decide +kernel
theorem dX10_writes_5 : decode cX10_writes 5 = .ok (.getfield 242, 3) := by decide +kernel
theorem dX10_writes_8 : decode cX10_writes 8 = .ok (.iload_n 1, 1) := by decide +kernel
theorem dX10_writes_9 : decode cX10_writes 9 = .ok (.iastore, 1) := by decide +kernel
theorem dX10_writes_10 : decode cX10_writes 10 = .ok (.aload_n 0, 1) := by decide +kernel
theorem dX10_writes_11 : decode cX10_writes 11 = .ok (.dup, 1) := by decide +kernel
theorem dX10_writes_12 : decode cX10_writes 12 = .ok (.getfield 242, 3) := by decide +kernel
theorem dX10_writes_15 : decode cX10_writes 15 = .ok (.iconst 1, 1) := by decide +kernel
theorem dX10_writes_16 : decode cX10_writes 16 = .ok (.iadd, 1) := by decide +kernel
theorem dX10_writes_17 : decode cX10_writes 17 = .ok (.putfield 242, 3) := by decide +kernel
theorem dX10_writes_20 : decode cX10_writes 20 = .ok (.return_, 1) := by decide +kernel
theorem dX10_writesAll_0 : decode cX10_writesAll 0 = .ok (.aload_n 0, 1) := by decide +kernel
theorem dX10_writesAll_1 : decode cX10_writesAll 1 = .ok (.iconst 0, 1) := by decide +kernel
theorem dX10_writesAll_2 : decode cX10_writesAll 2 = .ok (.putfield 242, 3) := by decide +kernel
theorem dX10_writesAll_5 : decode cX10_writesAll 5 = .ok (.aload_n 0, 1) := by decide +kernel
theorem dX10_writesAll_6 : decode cX10_writesAll 6 = .ok (.bipush 110, 2) := by decide +kernel
theorem dX10_writesAll_8 : decode cX10_writesAll 8 = .ok (.invokevirtual 245, 3) := by decide +kernel
theorem dX10_writesAll_11 : decode cX10_writesAll 11 = .ok (.aload_n 0, 1) := by decide +kernel
theorem dX10_writesAll_12 : decode cX10_writesAll 12 = .ok (.bipush 48, 2) := by decide +kernel
theorem dX10_writesAll_14 : decode cX10_writesAll 14 = .ok (.aload_n 0, 1) := by decide +kernel
theorem dX10_writesAll_15 : decode cX10_writesAll 15 = .ok (.getfield 7, 3) := by decide +kernel
theorem dX10_writesAll_18 : decode cX10_writesAll 18 = .ok (.iadd, 1) := by decide +kernel
theorem dX10_writesAll_19 : decode cX10_writesAll 19 = .ok (.invokevirtual 245, 3) := by decide +kernel
theorem dX10_writesAll_22 : decode cX10_writesAll 22 = .ok (.aload_n 0, 1) := by decide +kernel
theorem dX10_writesAll_23 : decode cX10_writesAll 23 = .ok (.bipush 59, 2) := by decide +kernel
theorem dX10_writesAll_25 : decode cX10_writesAll 25 = .ok (.invokevirtual 245, 3) := by decide +kernel
theorem dX10_writesAll_28 : decode cX10_writesAll 28 = .ok (.iconst 0, 1) := by decide +kernel
theorem dX10_writesAll_29 : decode cX10_writesAll 29 = .ok (.istore_n 1, 1) := by decide +kernel
theorem dX10_writesAll_30 : decode cX10_writesAll 30 = .ok (.iload_n 1, 1) := by decide +kernel
theorem dX10_writesAll_31 : decode cX10_writesAll 31 = .ok (.aload_n 0, 1) := by decide +kernel
theorem dX10_writesAll_32 : decode cX10_writesAll 32 = .ok (.getfield 82, 3) := by decide +kernel
theorem dX10_writesAll_35 : decode cX10_writesAll 35 = .ok (.if_icmp .ge 163, 3) := by decide +kernel
theorem dX10_writesAll_38 : decode cX10_writesAll 38 = .ok (.aload_n 0, 1) := by decide +kernel
theorem dX10_writesAll_39 : decode cX10_writesAll 39 = .ok (.bipush 108, 2) := by decide +kernel
theorem dX10_writesAll_41 : decode cX10_writesAll 41 = .ok (.invokevirtual 245, 3) := by decide +kernel
theorem dX10_writesAll_44 : decode cX10_writesAll 44 = .ok (.aload_n 0, 1) := by decide +kernel
theorem dX10_writesAll_45 : decode cX10_writesAll 45 = .ok (.bipush 48, 2) := by decide +kernel
theorem dX10_writesAll_47 : decode cX10_writesAll 47 = .ok (.aload_n 0, 1) := by decide +kernel
theorem dX10_writesAll_48 : decode cX10_writesAll 48 = .ok (.getfield 13, 3) := by decide +kernel
theorem dX10_writesAll_51 : decode cX10_writesAll 51 = .ok (.iload_n 1, 1) := by decide +kernel
theorem dX10_writesAll_52 : decode cX10_writesAll 52 = .ok (.iaload, 1) := by decide +kernel
theorem dX10_writesAll_53 : decode cX10_writesAll 53 = .ok (.iadd, 1) := by decide +kernel
theorem dX10_writesAll_54 : decode cX10_writesAll 54 = .ok (.invokevirtual 245, 3) := by decide +kernel
theorem dX10_writesAll_57 : decode cX10_writesAll 57 = .ok (.aload_n 0, 1) := by decide +kernel
theorem dX10_writesAll_58 : decode cX10_writesAll 58 = .ok (.bipush 48, 2) := by decide +kernel
theorem dX10_writesAll_60 : decode cX10_writesAll 60 = .ok (.aload_n 0, 1) := by decide +kernel
theorem dX10_writesAll_61 : decode cX10_writesAll 61 = .ok (.getfield 20, 3) := by decide +kernel
theorem dX10_writesAll_64 : decode cX10_writesAll 64 = .ok (.iload_n 1, 1) := by decide +kernel
theorem dX10_writesAll_65 : decode cX10_writesAll 65 = .ok (.iaload, 1) := by decide +kernel
theorem dX10_writesAll_66 : decode cX10_writesAll 66 = .ok (.iadd, 1) := by decide +kernel
theorem dX10_writesAll_67 : decode cX10_writesAll 67 = .ok (.invokevirtual 245, 3) := by decide +kernel
theorem dX10_writesAll_70 : decode cX10_writesAll 70 = .ok (.aload_n 0, 1) := by decide +kernel
theorem dX10_writesAll_71 : decode cX10_writesAll 71 = .ok (.bipush 48, 2) := by decide +kernel
theorem dX10_writesAll_73 : decode cX10_writesAll 73 = .ok (.aload_n 0, 1) := by decide +kernel
theorem dX10_writesAll_74 : decode cX10_writesAll 74 = .ok (.getfield 23, 3) := by decide +kernel
theorem dX10_writesAll_77 : decode cX10_writesAll 77 = .ok (.iload_n 1, 1) := by decide +kernel
theorem dX10_writesAll_78 : decode cX10_writesAll 78 = .ok (.iaload, 1) := by decide +kernel
theorem dX10_writesAll_79 : decode cX10_writesAll 79 = .ok (.iadd, 1) := by decide +kernel
theorem dX10_writesAll_80 : decode cX10_writesAll 80 = .ok (.invokevirtual 245, 3) := by decide +kernel
theorem dX10_writesAll_83 : decode cX10_writesAll 83 = .ok (.aload_n 0, 1) := by decide +kernel
theorem dX10_writesAll_84 : decode cX10_writesAll 84 = .ok (.bipush 59, 2) := by decide +kernel
theorem dX10_writesAll_86 : decode cX10_writesAll 86 = .ok (.invokevirtual 245, 3) := by decide +kernel
theorem dX10_writesAll_89 : decode cX10_writesAll 89 = .ok (.aload_n 0, 1) := by decide +kernel
theorem dX10_writesAll_90 : decode cX10_writesAll 90 = .ok (.getfield 17, 3) := by decide +kernel
theorem dX10_writesAll_93 : decode cX10_writesAll 93 = .ok (.iload_n 1, 1) := by decide +kernel
theorem dX10_writesAll_94 : decode cX10_writesAll 94 = .ok (.iaload, 1) := by decide +kernel
theorem dX10_writesAll_95 : decode cX10_writesAll 95 = .ok (.ifCond .eq 36, 3) := by decide +kernel
theorem dX10_writesAll_98 : decode cX10_writesAll 98 = .ok (.aload_n 0, 1) := by decide +kernel
theorem dX10_writesAll_99 : decode cX10_writesAll 99 = .ok (.bipush 102, 2) := by decide +kernel
theorem dX10_writesAll_101 : decode cX10_writesAll 101 = .ok (.invokevirtual 245, 3) := by decide +kernel
theorem dX10_writesAll_104 : decode cX10_writesAll 104 = .ok (.aload_n 0, 1) := by decide +kernel
theorem dX10_writesAll_105 : decode cX10_writesAll 105 = .ok (.bipush 48, 2) := by decide +kernel
theorem dX10_writesAll_107 : decode cX10_writesAll 107 = .ok (.iload_n 1, 1) := by decide +kernel
theorem dX10_writesAll_108 : decode cX10_writesAll 108 = .ok (.iadd, 1) := by decide +kernel
theorem dX10_writesAll_109 : decode cX10_writesAll 109 = .ok (.invokevirtual 245, 3) := by decide +kernel
theorem dX10_writesAll_112 : decode cX10_writesAll 112 = .ok (.aload_n 0, 1) := by decide +kernel
theorem dX10_writesAll_113 : decode cX10_writesAll 113 = .ok (.bipush 48, 2) := by decide +kernel
theorem dX10_writesAll_115 : decode cX10_writesAll 115 = .ok (.aload_n 0, 1) := by decide +kernel
theorem dX10_writesAll_116 : decode cX10_writesAll 116 = .ok (.getfield 17, 3) := by decide +kernel
theorem dX10_writesAll_119 : decode cX10_writesAll 119 = .ok (.iload_n 1, 1) := by decide +kernel
theorem dX10_writesAll_120 : decode cX10_writesAll 120 = .ok (.iaload, 1) := by decide +kernel
theorem dX10_writesAll_121 : decode cX10_writesAll 121 = .ok (.iadd, 1) := by decide +kernel
theorem dX10_writesAll_122 : decode cX10_writesAll 122 = .ok (.invokevirtual 245, 3) := by decide +kernel
theorem dX10_writesAll_125 : decode cX10_writesAll 125 = .ok (.aload_n 0, 1) := by decide +kernel
theorem dX10_writesAll_126 : decode cX10_writesAll 126 = .ok (.bipush 59, 2) := by decide +kernel
theorem dX10_writesAll_128 : decode cX10_writesAll 128 = .ok (.invokevirtual 245, 3) := by decide +kernel
theorem dX10_writesAll_131 : decode cX10_writesAll 131 = .ok (.aload_n 0, 1) := by decide +kernel
theorem dX10_writesAll_132 : decode cX10_writesAll 132 = .ok (.getfield 26, 3) := by decide +kernel
theorem dX10_writesAll_135 : decode cX10_writesAll 135 = .ok (.iload_n 1, 1) := by decide +kernel
theorem dX10_writesAll_136 : decode cX10_writesAll 136 = .ok (.iaload, 1) := by decide +kernel
theorem dX10_writesAll_137 : decode cX10_writesAll 137 = .ok (.ifCond .eq 55, 3) := by decide +kernel
theorem dX10_writesAll_140 : decode cX10_writesAll 140 = .ok (.aload_n 0, 1) := by decide +kernel
theorem dX10_writesAll_141 : decode cX10_writesAll 141 = .ok (.bipush 118, 2) := by decide +kernel
theorem dX10_writesAll_143 : decode cX10_writesAll 143 = .ok (.invokevirtual 245, 3) := by decide +kernel
theorem dX10_writesAll_146 : decode cX10_writesAll 146 = .ok (.aload_n 0, 1) := by decide +kernel
theorem dX10_writesAll_147 : decode cX10_writesAll 147 = .ok (.bipush 48, 2) := by decide +kernel
theorem dX10_writesAll_149 : decode cX10_writesAll 149 = .ok (.iload_n 1, 1) := by decide +kernel
theorem dX10_writesAll_150 : decode cX10_writesAll 150 = .ok (.iadd, 1) := by decide +kernel
theorem dX10_writesAll_151 : decode cX10_writesAll 151 = .ok (.invokevirtual 245, 3) := by decide +kernel
theorem dX10_writesAll_154 : decode cX10_writesAll 154 = .ok (.aload_n 0, 1) := by decide +kernel
theorem dX10_writesAll_155 : decode cX10_writesAll 155 = .ok (.bipush 48, 2) := by decide +kernel
theorem dX10_writesAll_157 : decode cX10_writesAll 157 = .ok (.aload_n 0, 1) := by decide +kernel
theorem dX10_writesAll_158 : decode cX10_writesAll 158 = .ok (.getfield 26, 3) := by decide +kernel
theorem dX10_writesAll_161 : decode cX10_writesAll 161 = .ok (.iload_n 1, 1) := by decide +kernel
theorem dX10_writesAll_162 : decode cX10_writesAll 162 = .ok (.iaload, 1) := by decide +kernel
theorem dX10_writesAll_163 : decode cX10_writesAll 163 = .ok (.bipush 10, 2) := by decide +kernel
theorem dX10_writesAll_165 : decode cX10_writesAll 165 = .ok (.idiv, 1) := by decide +kernel
theorem dX10_writesAll_166 : decode cX10_writesAll 166 = .ok (.iadd, 1) := by decide +kernel
theorem dX10_writesAll_167 : decode cX10_writesAll 167 = .ok (.invokevirtual 245, 3) := by decide +kernel
theorem dX10_writesAll_170 : decode cX10_writesAll 170 = .ok (.aload_n 0, 1) := by decide +kernel
theorem dX10_writesAll_171 : decode cX10_writesAll 171 = .ok (.bipush 48, 2) := by decide +kernel
theorem dX10_writesAll_173 : decode cX10_writesAll 173 = .ok (.aload_n 0, 1) := by decide +kernel
theorem dX10_writesAll_174 : decode cX10_writesAll 174 = .ok (.getfield 26, 3) := by decide +kernel
theorem dX10_writesAll_177 : decode cX10_writesAll 177 = .ok (.iload_n 1, 1) := by decide +kernel
theorem dX10_writesAll_178 : decode cX10_writesAll 178 = .ok (.iaload, 1) := by decide +kernel
theorem dX10_writesAll_179 : decode cX10_writesAll 179 = .ok (.bipush 10, 2) := by decide +kernel
theorem dX10_writesAll_181 : decode cX10_writesAll 181 = .ok (.irem, 1) := by decide +kernel
theorem dX10_writesAll_182 : decode cX10_writesAll 182 = .ok (.iadd, 1) := by decide +kernel
theorem dX10_writesAll_183 : decode cX10_writesAll 183 = .ok (.invokevirtual 245, 3) := by decide +kernel
theorem dX10_writesAll_186 : decode cX10_writesAll 186 = .ok (.aload_n 0, 1) := by decide +kernel
theorem dX10_writesAll_187 : decode cX10_writesAll 187 = .ok (.bipush 59, 2) := by decide +kernel
theorem dX10_writesAll_189 : decode cX10_writesAll 189 = .ok (.invokevirtual 245, 3) := by decide +kernel
theorem dX10_writesAll_192 : decode cX10_writesAll 192 = .ok (.iinc 1 1, 3) := by decide +kernel
theorem dX10_writesAll_195 : decode cX10_writesAll 195 = .ok (.goto (-165), 3) := by decide +kernel
theorem dX10_writesAll_198 : decode cX10_writesAll 198 = .ok (.return_, 1) := by decide +kernel
theorem dX10_written_0 : decode cX10_written 0 = .ok (.iload_n 1, 1) := by decide +kernel
theorem dX10_written_1 : decode cX10_written 1 = .ok (.iconst (-1), 1) := by decide +kernel
theorem dX10_written_2 : decode cX10_written 2 = .ok (.if_icmp .ge 10, 3) := by decide +kernel
theorem dX10_written_5 : decode cX10_written 5 = .ok (.aload_n 0, 1) := by decide +kernel
theorem dX10_written_6 : decode cX10_written 6 = .ok (.bipush (-4), 2) := by decide +kernel
theorem dX10_written_8 : decode cX10_written 8 = .ok (.invokevirtual 87, 3) := by decide +kernel
theorem dX10_written_11 : decode cX10_written 11 = .ok (.ireturn, 1) := by decide +kernel
theorem dX10_written_12 : decode cX10_written 12 = .ok (.aload_n 0, 1) := by decide +kernel
theorem dX10_written_13 : decode cX10_written 13 = .ok (.invokevirtual 248, 3) := by decide +kernel
theorem dX10_written_16 : decode cX10_written 16 = .ok (.iload_n 1, 1) := by decide +kernel
theorem dX10_written_17 : decode cX10_written 17 = .ok (.ifCond .ge 10, 3) := by decide +kernel
theorem dX10_written_20 : decode cX10_written 20 = .ok (.aload_n 0, 1) := by decide +kernel
theorem dX10_written_21 : decode cX10_written 21 = .ok (.getfield 242, 3) := by decide +kernel
theorem dX10_written_24 : decode cX10_written 24 = .ok (.goto 22, 3) := by decide +kernel
theorem dX10_written_27 : decode cX10_written 27 = .ok (.iload_n 1, 1) := by decide +kernel
theorem dX10_written_28 : decode cX10_written 28 = .ok (.aload_n 0, 1) := by decide +kernel
theorem dX10_written_29 : decode cX10_written 29 = .ok (.getfield 242, 3) := by decide +kernel
theorem dX10_written_32 : decode cX10_written 32 = .ok (.if_icmp .ge 12, 3) := by decide +kernel
theorem dX10_written_35 : decode cX10_written 35 = .ok (.aload_n 0, 1) := by decide +kernel
theorem dX10_written_36 : decode cX10_written 36 = .ok (.getfield 66, 3) := by decide +kernel
theorem dX10_written_39 : decode cX10_written 39 = .ok (.iload_n 1, 1) := by decide +kernel
theorem dX10_written_40 : decode cX10_written 40 = .ok (.iaload, 1) := by decide +kernel
theorem dX10_written_41 : decode cX10_written 41 = .ok (.goto 5, 3) := by decide +kernel
theorem dX10_written_44 : decode cX10_written 44 = .ok (.bipush (-9), 2) := by decide +kernel
theorem dX10_written_46 : decode cX10_written 46 = .ok (.ireturn, 1) := by decide +kernel
theorem dX10_isList_0 : decode cX10_isList 0 = .ok (.iload_n 0, 1) := by decide +kernel
theorem dX10_isList_1 : decode cX10_isList 1 = .ok (.iconst 0, 1) := by decide +kernel
theorem dX10_isList_2 : decode cX10_isList 2 = .ok (.iconst 2, 1) := by decide +kernel
theorem dX10_isList_3 : decode cX10_isList 3 = .ok (.invokestatic 78, 3) := by decide +kernel
theorem dX10_isList_6 : decode cX10_isList 6 = .ok (.ireturn, 1) := by decide +kernel
theorem dX10_list_0 : decode cX10_list 0 = .ok (.iload_n 1, 1) := by decide +kernel
theorem dX10_list_1 : decode cX10_list 1 = .ok (.invokestatic 251, 3) := by decide +kernel
theorem dX10_list_4 : decode cX10_list 4 = .ok (.ifCond .ne 9, 3) := by decide +kernel
theorem dX10_list_7 : decode cX10_list 7 = .ok (.aload_n 0, 1) := by decide +kernel
theorem dX10_list_8 : decode cX10_list 8 = .ok (.iconst (-1), 1) := by decide +kernel
theorem dX10_list_9 : decode cX10_list 9 = .ok (.invokevirtual 87, 3) := by decide +kernel
theorem dX10_list_12 : decode cX10_list 12 = .ok (.ireturn, 1) := by decide +kernel
theorem dX10_list_13 : decode cX10_list 13 = .ok (.iload_n 2, 1) := by decide +kernel
theorem dX10_list_14 : decode cX10_list 14 = .ok (.bipush 40, 2) := by decide +kernel
theorem dX10_list_16 : decode cX10_list 16 = .ok (.if_icmp .le 10, 3) := by decide +kernel
theorem dX10_list_19 : decode cX10_list 19 = .ok (.aload_n 0, 1) := by decide +kernel
theorem dX10_list_20 : decode cX10_list 20 = .ok (.bipush (-6), 2) := by decide +kernel
theorem dX10_list_22 : decode cX10_list 22 = .ok (.invokevirtual 87, 3) := by decide +kernel
theorem dX10_list_25 : decode cX10_list 25 = .ok (.ireturn, 1) := by decide +kernel
theorem dX10_list_26 : decode cX10_list 26 = .ok (.iload_n 2, 1) := by decide +kernel
theorem dX10_list_27 : decode cX10_list 27 = .ok (.ifCond .ge 6, 3) := by decide +kernel
theorem dX10_list_30 : decode cX10_list 30 = .ok (.bipush (-14), 2) := by decide +kernel
theorem dX10_list_32 : decode cX10_list 32 = .ok (.ireturn, 1) := by decide +kernel
theorem dX10_list_33 : decode cX10_list 33 = .ok (.aload_n 0, 1) := by decide +kernel
theorem dX10_list_34 : decode cX10_list 34 = .ok (.getfield 41, 3) := by decide +kernel
theorem dX10_list_37 : decode cX10_list 37 = .ok (.iload_n 1, 1) := by decide +kernel
theorem dX10_list_38 : decode cX10_list 38 = .ok (.iload_n 2, 1) := by decide +kernel
theorem dX10_list_39 : decode cX10_list 39 = .ok (.iastore, 1) := by decide +kernel
theorem dX10_list_40 : decode cX10_list 40 = .ok (.iconst 0, 1) := by decide +kernel
theorem dX10_list_41 : decode cX10_list 41 = .ok (.istore_n 3, 1) := by decide +kernel
theorem dX10_list_42 : decode cX10_list 42 = .ok (.iload_n 3, 1) := by decide +kernel
theorem dX10_list_43 : decode cX10_list 43 = .ok (.iload_n 2, 1) := by decide +kernel
theorem dX10_list_44 : decode cX10_list 44 = .ok (.if_icmp .ge 21, 3) := by decide +kernel
theorem dX10_list_47 : decode cX10_list 47 = .ok (.aload_n 0, 1) := by decide +kernel
theorem dX10_list_48 : decode cX10_list 48 = .ok (.getfield 44, 3) := by decide +kernel
theorem dX10_list_51 : decode cX10_list 51 = .ok (.bipush 40, 2) := by decide +kernel
theorem dX10_list_53 : decode cX10_list 53 = .ok (.iload_n 1, 1) := by decide +kernel
theorem dX10_list_54 : decode cX10_list 54 = .ok (.imul, 1) := by decide +kernel
theorem dX10_list_55 : decode cX10_list 55 = .ok (.iload_n 3, 1) := by decide +kernel
theorem dX10_list_56 : decode cX10_list 56 = .ok (.iadd, 1) := by decide +kernel
theorem dX10_list_57 : decode cX10_list 57 = .ok (.iconst 0, 1) := by decide +kernel
theorem dX10_list_58 : decode cX10_list 58 = .ok (.iastore, 1) := by decide +kernel
theorem dX10_list_59 : decode cX10_list 59 = .ok (.iinc 3 1, 3) := by decide +kernel
theorem dX10_list_62 : decode cX10_list 62 = .ok (.goto (-20), 3) := by decide +kernel
theorem dX10_list_65 : decode cX10_list 65 = .ok (.iconst 1, 1) := by decide +kernel
theorem dX10_list_66 : decode cX10_list 66 = .ok (.ireturn, 1) := by decide +kernel
theorem dX10_put_0 : decode cX10_put 0 = .ok (.iload_n 1, 1) := by decide +kernel
theorem dX10_put_1 : decode cX10_put 1 = .ok (.invokestatic 251, 3) := by decide +kernel
theorem dX10_put_4 : decode cX10_put 4 = .ok (.ifCond .ne 9, 3) := by decide +kernel
theorem dX10_put_7 : decode cX10_put 7 = .ok (.aload_n 0, 1) := by decide +kernel
theorem dX10_put_8 : decode cX10_put 8 = .ok (.iconst (-1), 1) := by decide +kernel
theorem dX10_put_9 : decode cX10_put 9 = .ok (.invokevirtual 87, 3) := by decide +kernel
theorem dX10_put_12 : decode cX10_put 12 = .ok (.ireturn, 1) := by decide +kernel
theorem dX10_put_13 : decode cX10_put 13 = .ok (.aload_n 0, 1) := by decide +kernel
theorem dX10_put_14 : decode cX10_put 14 = .ok (.getfield 41, 3) := by decide +kernel
theorem dX10_put_17 : decode cX10_put 17 = .ok (.iload_n 1, 1) := by decide +kernel
theorem dX10_put_18 : decode cX10_put 18 = .ok (.iaload, 1) := by decide +kernel
theorem dX10_put_19 : decode cX10_put 19 = .ok (.ifCond .ge 6, 3) := by decide +kernel
theorem dX10_put_22 : decode cX10_put 22 = .ok (.bipush (-11), 2) := by decide +kernel
theorem dX10_put_24 : decode cX10_put 24 = .ok (.ireturn, 1) := by decide +kernel
theorem dX10_put_25 : decode cX10_put 25 = .ok (.iload_n 2, 1) := by decide +kernel
theorem dX10_put_26 : decode cX10_put 26 = .ok (.iconst 0, 1) := by decide +kernel
theorem dX10_put_27 : decode cX10_put 27 = .ok (.aload_n 0, 1) := by decide +kernel
theorem dX10_put_28 : decode cX10_put 28 = .ok (.getfield 41, 3) := by decide +kernel
theorem dX10_put_31 : decode cX10_put 31 = .ok (.iload_n 1, 1) := by decide +kernel
theorem dX10_put_32 : decode cX10_put 32 = .ok (.iaload, 1) := by decide +kernel
theorem dX10_put_33 : decode cX10_put 33 = .ok (.iconst 1, 1) := by decide +kernel
theorem dX10_put_34 : decode cX10_put 34 = .ok (.isub, 1) := by decide +kernel
theorem dX10_put_35 : decode cX10_put 35 = .ok (.invokestatic 78, 3) := by decide +kernel
theorem dX10_put_38 : decode cX10_put 38 = .ok (.ifCond .ne 6, 3) := by decide +kernel
theorem dX10_put_41 : decode cX10_put 41 = .ok (.bipush (-13), 2) := by decide +kernel
theorem dX10_put_43 : decode cX10_put 43 = .ok (.ireturn, 1) := by decide +kernel
theorem dX10_put_44 : decode cX10_put 44 = .ok (.aload_n 0, 1) := by decide +kernel
theorem dX10_put_45 : decode cX10_put 45 = .ok (.getfield 44, 3) := by decide +kernel
theorem dX10_put_48 : decode cX10_put 48 = .ok (.bipush 40, 2) := by decide +kernel
theorem dX10_put_50 : decode cX10_put 50 = .ok (.iload_n 1, 1) := by decide +kernel
theorem dX10_put_51 : decode cX10_put 51 = .ok (.imul, 1) := by decide +kernel
theorem dX10_put_52 : decode cX10_put 52 = .ok (.iload_n 2, 1) := by decide +kernel
theorem dX10_put_53 : decode cX10_put 53 = .ok (.iadd, 1) := by decide +kernel
theorem dX10_put_54 : decode cX10_put 54 = .ok (.iload_n 3, 1) := by decide +kernel
theorem dX10_put_55 : decode cX10_put 55 = .ok (.iastore, 1) := by decide +kernel
theorem dX10_put_56 : decode cX10_put 56 = .ok (.iconst 1, 1) := by decide +kernel
theorem dX10_put_57 : decode cX10_put 57 = .ok (.ireturn, 1) := by decide +kernel
theorem dX10_look_0 : decode cX10_look 0 = .ok (.iload_n 1, 1) := by decide +kernel
theorem dX10_look_1 : decode cX10_look 1 = .ok (.invokestatic 251, 3) := by decide +kernel
theorem dX10_look_4 : decode cX10_look 4 = .ok (.ifCond .ne 9, 3) := by decide +kernel
theorem dX10_look_7 : decode cX10_look 7 = .ok (.aload_n 0, 1) := by decide +kernel
theorem dX10_look_8 : decode cX10_look 8 = .ok (.iconst (-1), 1) := by decide +kernel
theorem dX10_look_9 : decode cX10_look 9 = .ok (.invokevirtual 219, 3) := by decide +kernel
theorem dX10_look_12 : decode cX10_look 12 = .ok (.lreturn, 1) := by decide +kernel
theorem dX10_look_13 : decode cX10_look 13 = .ok (.aload_n 0, 1) := by decide +kernel
theorem dX10_look_14 : decode cX10_look 14 = .ok (.getfield 41, 3) := by decide +kernel
theorem dX10_look_17 : decode cX10_look 17 = .ok (.iload_n 1, 1) := by decide +kernel
theorem dX10_look_18 : decode cX10_look 18 = .ok (.iaload, 1) := by decide +kernel
theorem dX10_look_19 : decode cX10_look 19 = .ok (.ifCond .ge 7, 3) := by decide +kernel
theorem dX10_look_22 : decode cX10_look 22 = .ok (.ldc2_w 254, 3) := by decide +kernel
theorem dX10_look_25 : decode cX10_look 25 = .ok (.lreturn, 1) := by decide +kernel
theorem dX10_look_26 : decode cX10_look 26 = .ok (.iload_n 2, 1) := by decide +kernel
theorem dX10_look_27 : decode cX10_look 27 = .ok (.iconst 0, 1) := by decide +kernel
theorem dX10_look_28 : decode cX10_look 28 = .ok (.aload_n 0, 1) := by decide +kernel
theorem dX10_look_29 : decode cX10_look 29 = .ok (.getfield 41, 3) := by decide +kernel
theorem dX10_look_32 : decode cX10_look 32 = .ok (.iload_n 1, 1) := by decide +kernel
theorem dX10_look_33 : decode cX10_look 33 = .ok (.iaload, 1) := by decide +kernel
theorem dX10_look_34 : decode cX10_look 34 = .ok (.iconst 1, 1) := by decide +kernel
theorem dX10_look_35 : decode cX10_look 35 = .ok (.isub, 1) := by decide +kernel
theorem dX10_look_36 : decode cX10_look 36 = .ok (.invokestatic 78, 3) := by decide +kernel
theorem dX10_look_39 : decode cX10_look 39 = .ok (.ifCond .eq 18, 3) := by decide +kernel
theorem dX10_look_42 : decode cX10_look 42 = .ok (.aload_n 0, 1) := by decide +kernel
theorem dX10_look_43 : decode cX10_look 43 = .ok (.getfield 44, 3) := by decide +kernel
theorem dX10_look_46 : decode cX10_look 46 = .ok (.bipush 40, 2) := by decide +kernel
theorem dX10_look_48 : decode cX10_look 48 = .ok (.iload_n 1, 1) := by decide +kernel
theorem dX10_look_49 : decode cX10_look 49 = .ok (.imul, 1) := by decide +kernel
theorem dX10_look_50 : decode cX10_look 50 = .ok (.iload_n 2, 1) := by decide +kernel
theorem dX10_look_51 : decode cX10_look 51 = .ok (.iadd, 1) := by decide +kernel
theorem dX10_look_52 : decode cX10_look 52 = .ok (.iaload, 1) := by decide +kernel
theorem dX10_look_53 : decode cX10_look 53 = .ok (.i2l, 1) := by decide +kernel
theorem dX10_look_54 : decode cX10_look 54 = .ok (.goto 6, 3) := by decide +kernel
theorem dX10_look_57 : decode cX10_look 57 = .ok (.ldc2_w 256, 3) := by decide +kernel
theorem dX10_look_60 : decode cX10_look 60 = .ok (.lreturn, 1) := by decide +kernel
theorem dX10_lays_0 : decode cX10_lays 0 = .ok (.iload_n 1, 1) := by decide +kernel
theorem dX10_lays_1 : decode cX10_lays 1 = .ok (.invokestatic 251, 3) := by decide +kernel
theorem dX10_lays_4 : decode cX10_lays 4 = .ok (.ifCond .ne 9, 3) := by decide +kernel
theorem dX10_lays_7 : decode cX10_lays 7 = .ok (.aload_n 0, 1) := by decide +kernel
theorem dX10_lays_8 : decode cX10_lays 8 = .ok (.iconst (-1), 1) := by decide +kernel
theorem dX10_lays_9 : decode cX10_lays 9 = .ok (.invokevirtual 87, 3) := by decide +kernel
theorem dX10_lays_12 : decode cX10_lays 12 = .ok (.ireturn, 1) := by decide +kernel
theorem dX10_lays_13 : decode cX10_lays 13 = .ok (.aload_n 0, 1) := by decide +kernel
theorem dX10_lays_14 : decode cX10_lays 14 = .ok (.getfield 41, 3) := by decide +kernel
theorem dX10_lays_17 : decode cX10_lays 17 = .ok (.iload_n 1, 1) := by decide +kernel
theorem dX10_lays_18 : decode cX10_lays 18 = .ok (.iaload, 1) := by decide +kernel
theorem dX10_lays_19 : decode cX10_lays 19 = .ok (.ifCond .ge 6, 3) := by decide +kernel
theorem dX10_lays_22 : decode cX10_lays 22 = .ok (.bipush (-11), 2) := by decide +kernel
theorem dX10_lays_24 : decode cX10_lays 24 = .ok (.ireturn, 1) := by decide +kernel
theorem dX10_lays_25 : decode cX10_lays 25 = .ok (.iload_n 2, 1) := by decide +kernel
theorem dX10_lays_26 : decode cX10_lays 26 = .ok (.ifCond .lt 18, 3) := by decide +kernel
theorem dX10_lays_29 : decode cX10_lays 29 = .ok (.iload_n 2, 1) := by decide +kernel
theorem dX10_lays_30 : decode cX10_lays 30 = .ok (.aload_n 0, 1) := by decide +kernel
theorem dX10_lays_31 : decode cX10_lays 31 = .ok (.getfield 41, 3) := by decide +kernel
theorem dX10_lays_34 : decode cX10_lays 34 = .ok (.iload_n 1, 1) := by decide +kernel
theorem dX10_lays_35 : decode cX10_lays 35 = .ok (.iaload, 1) := by decide +kernel
theorem dX10_lays_36 : decode cX10_lays 36 = .ok (.aload_n 0, 1) := by decide +kernel
theorem dX10_lays_37 : decode cX10_lays 37 = .ok (.getfield 7, 3) := by decide +kernel
theorem dX10_lays_40 : decode cX10_lays 40 = .ok (.isub, 1) := by decide +kernel
theorem dX10_lays_41 : decode cX10_lays 41 = .ok (.if_icmp .le 6, 3) := by decide +kernel
theorem dX10_lays_44 : decode cX10_lays 44 = .ok (.bipush (-13), 2) := by decide +kernel
theorem dX10_lays_46 : decode cX10_lays 46 = .ok (.ireturn, 1) := by decide +kernel
theorem dX10_lays_47 : decode cX10_lays 47 = .ok (.aload_n 0, 1) := by decide +kernel
theorem dX10_lays_48 : decode cX10_lays 48 = .ok (.invokevirtual 158, 3) := by decide +kernel
theorem dX10_lays_51 : decode cX10_lays 51 = .ok (.iconst 0, 1) := by decide +kernel
theorem dX10_lays_52 : decode cX10_lays 52 = .ok (.istore_n 3, 1) := by decide +kernel
theorem dX10_lays_53 : decode cX10_lays 53 = .ok (.iload_n 3, 1) := by decide +kernel
theorem dX10_lays_54 : decode cX10_lays 54 = .ok (.aload_n 0, 1) := by decide +kernel
theorem dX10_lays_55 : decode cX10_lays 55 = .ok (.getfield 7, 3) := by decide +kernel
theorem dX10_lays_58 : decode cX10_lays 58 = .ok (.if_icmp .ge 28, 3) := by decide +kernel
theorem dX10_lays_61 : decode cX10_lays 61 = .ok (.aload_n 0, 1) := by decide +kernel
theorem dX10_lays_62 : decode cX10_lays 62 = .ok (.getfield 44, 3) := by decide +kernel
theorem dX10_lays_65 : decode cX10_lays 65 = .ok (.bipush 40, 2) := by decide +kernel
theorem dX10_lays_67 : decode cX10_lays 67 = .ok (.iload_n 1, 1) := by decide +kernel
theorem dX10_lays_68 : decode cX10_lays 68 = .ok (.imul, 1) := by decide +kernel
theorem dX10_lays_69 : decode cX10_lays 69 = .ok (.iload_n 2, 1) := by decide +kernel
theorem dX10_lays_70 : decode cX10_lays 70 = .ok (.iadd, 1) := by decide +kernel
theorem dX10_lays_71 : decode cX10_lays 71 = .ok (.iload_n 3, 1) := by decide +kernel
theorem dX10_lays_72 : decode cX10_lays 72 = .ok (.iadd, 1) := by decide +kernel
theorem dX10_lays_73 : decode cX10_lays 73 = .ok (.aload_n 0, 1) := by decide +kernel
theorem dX10_lays_74 : decode cX10_lays 74 = .ok (.getfield 53, 3) := by decide +kernel
theorem dX10_lays_77 : decode cX10_lays 77 = .ok (.iload_n 3, 1) := by decide +kernel
theorem dX10_lays_78 : decode cX10_lays 78 = .ok (.iaload, 1) := by decide +kernel
theorem dX10_lays_79 : decode cX10_lays 79 = .ok (.iastore, 1) := by decide +kernel
theorem dX10_lays_80 : decode cX10_lays 80 = .ok (.iinc 3 1, 3) := by decide +kernel
theorem dX10_lays_83 : decode cX10_lays 83 = .ok (.goto (-30), 3) := by decide +kernel
theorem dX10_lays_86 : decode cX10_lays 86 = .ok (.aload_n 0, 1) := by decide +kernel
theorem dX10_lays_87 : decode cX10_lays 87 = .ok (.getfield 7, 3) := by decide +kernel
theorem dX10_lays_90 : decode cX10_lays 90 = .ok (.ireturn, 1) := by decide +kernel
theorem dX10_judge_0 : decode cX10_judge 0 = .ok (.iload_n 1, 1) := by decide +kernel
theorem dX10_judge_1 : decode cX10_judge 1 = .ok (.invokestatic 251, 3) := by decide +kernel
theorem dX10_judge_4 : decode cX10_judge 4 = .ok (.ifCond .ne 9, 3) := by decide +kernel
theorem dX10_judge_7 : decode cX10_judge 7 = .ok (.aload_n 0, 1) := by decide +kernel
theorem dX10_judge_8 : decode cX10_judge 8 = .ok (.iconst (-1), 1) := by decide +kernel
theorem dX10_judge_9 : decode cX10_judge 9 = .ok (.invokevirtual 87, 3) := by decide +kernel
theorem dX10_judge_12 : decode cX10_judge 12 = .ok (.ireturn, 1) := by decide +kernel
theorem dX10_judge_13 : decode cX10_judge 13 = .ok (.aload_n 0, 1) := by decide +kernel
theorem dX10_judge_14 : decode cX10_judge 14 = .ok (.getfield 41, 3) := by decide +kernel
theorem dX10_judge_17 : decode cX10_judge 17 = .ok (.iload_n 1, 1) := by decide +kernel
theorem dX10_judge_18 : decode cX10_judge 18 = .ok (.iaload, 1) := by decide +kernel
theorem dX10_judge_19 : decode cX10_judge 19 = .ok (.ifCond .ge 6, 3) := by decide +kernel
theorem dX10_judge_22 : decode cX10_judge 22 = .ok (.bipush (-11), 2) := by decide +kernel
theorem dX10_judge_24 : decode cX10_judge 24 = .ok (.ireturn, 1) := by decide +kernel
theorem dX10_judge_25 : decode cX10_judge 25 = .ok (.aload_n 0, 1) := by decide +kernel
theorem dX10_judge_26 : decode cX10_judge 26 = .ok (.invokevirtual 158, 3) := by decide +kernel
theorem dX10_judge_29 : decode cX10_judge 29 = .ok (.iconst 0, 1) := by decide +kernel
theorem dX10_judge_30 : decode cX10_judge 30 = .ok (.istore_n 2, 1) := by decide +kernel
theorem dX10_judge_31 : decode cX10_judge 31 = .ok (.iload_n 2, 1) := by decide +kernel
theorem dX10_judge_32 : decode cX10_judge 32 = .ok (.aload_n 0, 1) := by decide +kernel
theorem dX10_judge_33 : decode cX10_judge 33 = .ok (.getfield 41, 3) := by decide +kernel
theorem dX10_judge_36 : decode cX10_judge 36 = .ok (.iload_n 1, 1) := by decide +kernel
theorem dX10_judge_37 : decode cX10_judge 37 = .ok (.iaload, 1) := by decide +kernel
theorem dX10_judge_38 : decode cX10_judge 38 = .ok (.if_icmp .ge 39, 3) := by decide +kernel
theorem dX10_judge_41 : decode cX10_judge 41 = .ok (.iload_n 2, 1) := by decide +kernel
theorem dX10_judge_42 : decode cX10_judge 42 = .ok (.aload_n 0, 1) := by decide +kernel
theorem dX10_judge_43 : decode cX10_judge 43 = .ok (.getfield 7, 3) := by decide +kernel
theorem dX10_judge_46 : decode cX10_judge 46 = .ok (.if_icmp .eq 23, 3) := by decide +kernel
theorem dX10_judge_49 : decode cX10_judge 49 = .ok (.aload_n 0, 1) := by decide +kernel
theorem dX10_judge_50 : decode cX10_judge 50 = .ok (.getfield 44, 3) := by decide +kernel
theorem dX10_judge_53 : decode cX10_judge 53 = .ok (.bipush 40, 2) := by decide +kernel
theorem dX10_judge_55 : decode cX10_judge 55 = .ok (.iload_n 1, 1) := by decide +kernel
theorem dX10_judge_56 : decode cX10_judge 56 = .ok (.imul, 1) := by decide +kernel
theorem dX10_judge_57 : decode cX10_judge 57 = .ok (.iload_n 2, 1) := by decide +kernel
theorem dX10_judge_58 : decode cX10_judge 58 = .ok (.iadd, 1) := by decide +kernel
theorem dX10_judge_59 : decode cX10_judge 59 = .ok (.iaload, 1) := by decide +kernel
theorem dX10_judge_60 : decode cX10_judge 60 = .ok (.aload_n 0, 1) := by decide +kernel
theorem dX10_judge_61 : decode cX10_judge 61 = .ok (.getfield 53, 3) := by decide +kernel
theorem dX10_judge_64 : decode cX10_judge 64 = .ok (.iload_n 2, 1) := by decide +kernel
theorem dX10_judge_65 : decode cX10_judge 65 = .ok (.iaload, 1) := by decide +kernel
theorem dX10_judge_66 : decode cX10_judge 66 = .ok (.if_icmp .eq 5, 3) := by decide +kernel
theorem dX10_judge_69 : decode cX10_judge 69 = .ok (.iload_n 2, 1) := by decide +kernel
theorem dX10_judge_70 : decode cX10_judge 70 = .ok (.ireturn, 1) := by decide +kernel
theorem dX10_judge_71 : decode cX10_judge 71 = .ok (.iinc 2 1, 3) := by decide +kernel
theorem dX10_judge_74 : decode cX10_judge 74 = .ok (.goto (-43), 3) := by decide +kernel
theorem dX10_judge_77 : decode cX10_judge 77 = .ok (.bipush (-9), 2) := by decide +kernel
theorem dX10_judge_79 : decode cX10_judge 79 = .ok (.ireturn, 1) := by decide +kernel
theorem dX10_gives_0 : decode cX10_gives 0 = .ok (.iload_n 1, 1) := by decide +kernel
theorem dX10_gives_1 : decode cX10_gives 1 = .ok (.invokestatic 251, 3) := by decide +kernel
theorem dX10_gives_4 : decode cX10_gives 4 = .ok (.ifCond .ne 9, 3) := by decide +kernel
theorem dX10_gives_7 : decode cX10_gives 7 = .ok (.aload_n 0, 1) := by decide +kernel
theorem dX10_gives_8 : decode cX10_gives 8 = .ok (.iconst (-1), 1) := by decide +kernel
theorem dX10_gives_9 : decode cX10_gives 9 = .ok (.invokevirtual 87, 3) := by decide +kernel
theorem dX10_gives_12 : decode cX10_gives 12 = .ok (.ireturn, 1) := by decide +kernel
theorem dX10_gives_13 : decode cX10_gives 13 = .ok (.aload_n 0, 1) := by decide +kernel
theorem dX10_gives_14 : decode cX10_gives 14 = .ok (.getfield 41, 3) := by decide +kernel
theorem dX10_gives_17 : decode cX10_gives 17 = .ok (.iload_n 1, 1) := by decide +kernel
theorem dX10_gives_18 : decode cX10_gives 18 = .ok (.iaload, 1) := by decide +kernel
theorem dX10_gives_19 : decode cX10_gives 19 = .ok (.ifCond .ge 6, 3) := by decide +kernel
theorem dX10_gives_22 : decode cX10_gives 22 = .ok (.bipush (-11), 2) := by decide +kernel
theorem dX10_gives_24 : decode cX10_gives 24 = .ok (.ireturn, 1) := by decide +kernel
theorem dX10_gives_25 : decode cX10_gives 25 = .ok (.aload_n 0, 1) := by decide +kernel
theorem dX10_gives_26 : decode cX10_gives 26 = .ok (.getfield 41, 3) := by decide +kernel
theorem dX10_gives_29 : decode cX10_gives 29 = .ok (.iload_n 1, 1) := by decide +kernel
theorem dX10_gives_30 : decode cX10_gives 30 = .ok (.iaload, 1) := by decide +kernel
theorem dX10_gives_31 : decode cX10_gives 31 = .ok (.aload_n 0, 1) := by decide +kernel
theorem dX10_gives_32 : decode cX10_gives 32 = .ok (.getfield 82, 3) := by decide +kernel
theorem dX10_gives_35 : decode cX10_gives 35 = .ok (.if_icmp .ne 7, 3) := by decide +kernel
theorem dX10_gives_38 : decode cX10_gives 38 = .ok (.iconst 1, 1) := by decide +kernel
theorem dX10_gives_39 : decode cX10_gives 39 = .ok (.goto 4, 3) := by decide +kernel
theorem dX10_gives_42 : decode cX10_gives 42 = .ok (.iconst 0, 1) := by decide +kernel
theorem dX10_gives_43 : decode cX10_gives 43 = .ok (.istore_n 2, 1) := by decide +kernel
theorem dX10_gives_44 : decode cX10_gives 44 = .ok (.iconst 0, 1) := by decide +kernel
theorem dX10_gives_45 : decode cX10_gives 45 = .ok (.istore_n 3, 1) := by decide +kernel
theorem dX10_gives_46 : decode cX10_gives 46 = .ok (.iload_n 3, 1) := by decide +kernel
theorem dX10_gives_47 : decode cX10_gives 47 = .ok (.aload_n 0, 1) := by decide +kernel
theorem dX10_gives_48 : decode cX10_gives 48 = .ok (.getfield 82, 3) := by decide +kernel
theorem dX10_gives_51 : decode cX10_gives 51 = .ok (.if_icmp .ge 31, 3) := by decide +kernel
theorem dX10_gives_54 : decode cX10_gives 54 = .ok (.iload_n 2, 1) := by decide +kernel
theorem dX10_gives_55 : decode cX10_gives 55 = .ok (.ifCond .eq 27, 3) := by decide +kernel
theorem dX10_gives_58 : decode cX10_gives 58 = .ok (.aload_n 0, 1) := by decide +kernel
theorem dX10_gives_59 : decode cX10_gives 59 = .ok (.getfield 44, 3) := by decide +kernel
theorem dX10_gives_62 : decode cX10_gives 62 = .ok (.bipush 40, 2) := by decide +kernel
theorem dX10_gives_64 : decode cX10_gives 64 = .ok (.iload_n 1, 1) := by decide +kernel
theorem dX10_gives_65 : decode cX10_gives 65 = .ok (.imul, 1) := by decide +kernel
theorem dX10_gives_66 : decode cX10_gives 66 = .ok (.iload_n 3, 1) := by decide +kernel
theorem dX10_gives_67 : decode cX10_gives 67 = .ok (.iadd, 1) := by decide +kernel
theorem dX10_gives_68 : decode cX10_gives 68 = .ok (.iaload, 1) := by decide +kernel
theorem dX10_gives_69 : decode cX10_gives 69 = .ok (.iconst 0, 1) := by decide +kernel
theorem dX10_gives_70 : decode cX10_gives 70 = .ok (.bipush 99, 2) := by decide +kernel
theorem dX10_gives_72 : decode cX10_gives 72 = .ok (.invokestatic 78, 3) := by decide +kernel
theorem dX10_gives_75 : decode cX10_gives 75 = .ok (.istore_n 2, 1) := by decide +kernel
theorem dX10_gives_76 : decode cX10_gives 76 = .ok (.iinc 3 1, 3) := by decide +kernel
theorem dX10_gives_79 : decode cX10_gives 79 = .ok (.goto (-33), 3) := by decide +kernel
theorem dX10_gives_82 : decode cX10_gives 82 = .ok (.iload_n 2, 1) := by decide +kernel
theorem dX10_gives_83 : decode cX10_gives 83 = .ok (.ifCond .ne 10, 3) := by decide +kernel
theorem dX10_gives_86 : decode cX10_gives 86 = .ok (.aload_n 0, 1) := by decide +kernel
theorem dX10_gives_87 : decode cX10_gives 87 = .ok (.bipush (-3), 2) := by decide +kernel
theorem dX10_gives_89 : decode cX10_gives 89 = .ok (.invokevirtual 87, 3) := by decide +kernel
theorem dX10_gives_92 : decode cX10_gives 92 = .ok (.ireturn, 1) := by decide +kernel
theorem dX10_gives_93 : decode cX10_gives 93 = .ok (.aload_n 0, 1) := by decide +kernel
theorem dX10_gives_94 : decode cX10_gives 94 = .ok (.invokevirtual 128, 3) := by decide +kernel
theorem dX10_gives_97 : decode cX10_gives 97 = .ok (.iconst 0, 1) := by decide +kernel
theorem dX10_gives_98 : decode cX10_gives 98 = .ok (.istore_n 3, 1) := by decide +kernel
theorem dX10_gives_99 : decode cX10_gives 99 = .ok (.iload_n 3, 1) := by decide +kernel
theorem dX10_gives_100 : decode cX10_gives 100 = .ok (.aload_n 0, 1) := by decide +kernel
theorem dX10_gives_101 : decode cX10_gives 101 = .ok (.getfield 82, 3) := by decide +kernel
theorem dX10_gives_104 : decode cX10_gives 104 = .ok (.if_icmp .ge 26, 3) := by decide +kernel
theorem dX10_gives_107 : decode cX10_gives 107 = .ok (.aload_n 0, 1) := by decide +kernel
theorem dX10_gives_108 : decode cX10_gives 108 = .ok (.getfield 26, 3) := by decide +kernel
theorem dX10_gives_111 : decode cX10_gives 111 = .ok (.iload_n 3, 1) := by decide +kernel
theorem dX10_gives_112 : decode cX10_gives 112 = .ok (.aload_n 0, 1) := by decide +kernel
theorem dX10_gives_113 : decode cX10_gives 113 = .ok (.getfield 44, 3) := by decide +kernel
theorem dX10_gives_116 : decode cX10_gives 116 = .ok (.bipush 40, 2) := by decide +kernel
theorem dX10_gives_118 : decode cX10_gives 118 = .ok (.iload_n 1, 1) := by decide +kernel
theorem dX10_gives_119 : decode cX10_gives 119 = .ok (.imul, 1) := by decide +kernel
theorem dX10_gives_120 : decode cX10_gives 120 = .ok (.iload_n 3, 1) := by decide +kernel
theorem dX10_gives_121 : decode cX10_gives 121 = .ok (.iadd, 1) := by decide +kernel
theorem dX10_gives_122 : decode cX10_gives 122 = .ok (.iaload, 1) := by decide +kernel
theorem dX10_gives_123 : decode cX10_gives 123 = .ok (.iastore, 1) := by decide +kernel
theorem dX10_gives_124 : decode cX10_gives 124 = .ok (.iinc 3 1, 3) := by decide +kernel
theorem dX10_gives_127 : decode cX10_gives 127 = .ok (.goto (-28), 3) := by decide +kernel
theorem dX10_gives_130 : decode cX10_gives 130 = .ok (.aload_n 0, 1) := by decide +kernel
theorem dX10_gives_131 : decode cX10_gives 131 = .ok (.getfield 82, 3) := by decide +kernel
theorem dX10_gives_134 : decode cX10_gives 134 = .ok (.ireturn, 1) := by decide +kernel
theorem dX10_rules_0 : decode cX10_rules 0 = .ok (.iload_n 1, 1) := by decide +kernel
theorem dX10_rules_1 : decode cX10_rules 1 = .ok (.invokestatic 251, 3) := by decide +kernel
theorem dX10_rules_4 : decode cX10_rules 4 = .ok (.ifCond .ne 9, 3) := by decide +kernel
theorem dX10_rules_7 : decode cX10_rules 7 = .ok (.aload_n 0, 1) := by decide +kernel
theorem dX10_rules_8 : decode cX10_rules 8 = .ok (.iconst (-1), 1) := by decide +kernel
theorem dX10_rules_9 : decode cX10_rules 9 = .ok (.invokevirtual 87, 3) := by decide +kernel
theorem dX10_rules_12 : decode cX10_rules 12 = .ok (.ireturn, 1) := by decide +kernel
theorem dX10_rules_13 : decode cX10_rules 13 = .ok (.aload_n 0, 1) := by decide +kernel
theorem dX10_rules_14 : decode cX10_rules 14 = .ok (.getfield 41, 3) := by decide +kernel
theorem dX10_rules_17 : decode cX10_rules 17 = .ok (.iload_n 1, 1) := by decide +kernel
theorem dX10_rules_18 : decode cX10_rules 18 = .ok (.iaload, 1) := by decide +kernel
theorem dX10_rules_19 : decode cX10_rules 19 = .ok (.ifCond .ge 6, 3) := by decide +kernel
theorem dX10_rules_22 : decode cX10_rules 22 = .ok (.bipush (-11), 2) := by decide +kernel
theorem dX10_rules_24 : decode cX10_rules 24 = .ok (.ireturn, 1) := by decide +kernel
theorem dX10_rules_25 : decode cX10_rules 25 = .ok (.aload_n 0, 1) := by decide +kernel
theorem dX10_rules_26 : decode cX10_rules 26 = .ok (.getfield 41, 3) := by decide +kernel
theorem dX10_rules_29 : decode cX10_rules 29 = .ok (.iload_n 1, 1) := by decide +kernel
theorem dX10_rules_30 : decode cX10_rules 30 = .ok (.iaload, 1) := by decide +kernel
theorem dX10_rules_31 : decode cX10_rules 31 = .ok (.iconst 1, 1) := by decide +kernel
theorem dX10_rules_32 : decode cX10_rules 32 = .ok (.bipush 7, 2) := by decide +kernel
theorem dX10_rules_34 : decode cX10_rules 34 = .ok (.invokestatic 78, 3) := by decide +kernel
theorem dX10_rules_37 : decode cX10_rules 37 = .ok (.ifCond .ne 10, 3) := by decide +kernel
theorem dX10_rules_40 : decode cX10_rules 40 = .ok (.aload_n 0, 1) := by decide +kernel
theorem dX10_rules_41 : decode cX10_rules 41 = .ok (.bipush (-3), 2) := by decide +kernel
theorem dX10_rules_43 : decode cX10_rules 43 = .ok (.invokevirtual 87, 3) := by decide +kernel
theorem dX10_rules_46 : decode cX10_rules 46 = .ok (.ireturn, 1) := by decide +kernel
theorem dX10_rules_47 : decode cX10_rules 47 = .ok (.iconst 0, 1) := by decide +kernel
theorem dX10_rules_48 : decode cX10_rules 48 = .ok (.istore_n 2, 1) := by decide +kernel
theorem dX10_rules_49 : decode cX10_rules 49 = .ok (.iload_n 2, 1) := by decide +kernel
theorem dX10_rules_50 : decode cX10_rules 50 = .ok (.aload_n 0, 1) := by decide +kernel
theorem dX10_rules_51 : decode cX10_rules 51 = .ok (.getfield 41, 3) := by decide +kernel
theorem dX10_rules_54 : decode cX10_rules 54 = .ok (.iload_n 1, 1) := by decide +kernel
theorem dX10_rules_55 : decode cX10_rules 55 = .ok (.iaload, 1) := by decide +kernel
theorem dX10_rules_56 : decode cX10_rules 56 = .ok (.if_icmp .ge 26, 3) := by decide +kernel
theorem dX10_rules_59 : decode cX10_rules 59 = .ok (.aload_n 0, 1) := by decide +kernel
theorem dX10_rules_60 : decode cX10_rules 60 = .ok (.getfield 69, 3) := by decide +kernel
theorem dX10_rules_63 : decode cX10_rules 63 = .ok (.iload_n 2, 1) := by decide +kernel
theorem dX10_rules_64 : decode cX10_rules 64 = .ok (.aload_n 0, 1) := by decide +kernel
theorem dX10_rules_65 : decode cX10_rules 65 = .ok (.getfield 44, 3) := by decide +kernel
theorem dX10_rules_68 : decode cX10_rules 68 = .ok (.bipush 40, 2) := by decide +kernel
theorem dX10_rules_70 : decode cX10_rules 70 = .ok (.iload_n 1, 1) := by decide +kernel
theorem dX10_rules_71 : decode cX10_rules 71 = .ok (.imul, 1) := by decide +kernel
theorem dX10_rules_72 : decode cX10_rules 72 = .ok (.iload_n 2, 1) := by decide +kernel
theorem dX10_rules_73 : decode cX10_rules 73 = .ok (.iadd, 1) := by decide +kernel
theorem dX10_rules_74 : decode cX10_rules 74 = .ok (.iaload, 1) := by decide +kernel
theorem dX10_rules_75 : decode cX10_rules 75 = .ok (.iastore, 1) := by decide +kernel
theorem dX10_rules_76 : decode cX10_rules 76 = .ok (.iinc 2 1, 3) := by decide +kernel
theorem dX10_rules_79 : decode cX10_rules 79 = .ok (.goto (-30), 3) := by decide +kernel
theorem dX10_rules_82 : decode cX10_rules 82 = .ok (.iconst 0, 1) := by decide +kernel
theorem dX10_rules_83 : decode cX10_rules 83 = .ok (.istore_n 2, 1) := by decide +kernel
theorem dX10_rules_84 : decode cX10_rules 84 = .ok (.iconst 0, 1) := by decide +kernel
theorem dX10_rules_85 : decode cX10_rules 85 = .ok (.istore_n 3, 1) := by decide +kernel
theorem dX10_rules_86 : decode cX10_rules 86 = .ok (.iload_n 3, 1) := by decide +kernel
theorem dX10_rules_87 : decode cX10_rules 87 = .ok (.bipush 6, 2) := by decide +kernel
theorem dX10_rules_89 : decode cX10_rules 89 = .ok (.if_icmp .ge 36, 3) := by decide +kernel
theorem dX10_rules_92 : decode cX10_rules 92 = .ok (.iload_n 2, 1) := by decide +kernel
theorem dX10_rules_93 : decode cX10_rules 93 = .ok (.iload_n 3, 1) := by decide +kernel
theorem dX10_rules_94 : decode cX10_rules 94 = .ok (.aload_n 0, 1) := by decide +kernel
theorem dX10_rules_95 : decode cX10_rules 95 = .ok (.getfield 69, 3) := by decide +kernel
theorem dX10_rules_98 : decode cX10_rules 98 = .ok (.aload_n 0, 1) := by decide +kernel
theorem dX10_rules_99 : decode cX10_rules 99 = .ok (.getfield 41, 3) := by decide +kernel
theorem dX10_rules_102 : decode cX10_rules 102 = .ok (.iload_n 1, 1) := by decide +kernel
theorem dX10_rules_103 : decode cX10_rules 103 = .ok (.iaload, 1) := by decide +kernel
theorem dX10_rules_104 : decode cX10_rules 104 = .ok (.invokestatic 164, 3) := by decide +kernel
theorem dX10_rules_107 : decode cX10_rules 107 = .ok (.ifCond .eq 9, 3) := by decide +kernel
theorem dX10_rules_110 : decode cX10_rules 110 = .ok (.iconst 1, 1) := by decide +kernel
theorem dX10_rules_111 : decode cX10_rules 111 = .ok (.iload_n 3, 1) := by decide +kernel
theorem dX10_rules_112 : decode cX10_rules 112 = .ok (.ishl, 1) := by decide +kernel
theorem dX10_rules_113 : decode cX10_rules 113 = .ok (.goto 4, 3) := by decide +kernel
theorem dX10_rules_116 : decode cX10_rules 116 = .ok (.iconst 0, 1) := by decide +kernel
theorem dX10_rules_117 : decode cX10_rules 117 = .ok (.ior, 1) := by decide +kernel
theorem dX10_rules_118 : decode cX10_rules 118 = .ok (.istore_n 2, 1) := by decide +kernel
theorem dX10_rules_119 : decode cX10_rules 119 = .ok (.iinc 3 1, 3) := by decide +kernel
theorem dX10_rules_122 : decode cX10_rules 122 = .ok (.goto (-36), 3) := by decide +kernel
theorem dX10_rules_125 : decode cX10_rules 125 = .ok (.iload_n 2, 1) := by decide +kernel
theorem dX10_rules_126 : decode cX10_rules 126 = .ok (.ireturn, 1) := by decide +kernel
theorem dX10_undo_0 : decode cX10_undo 0 = .ok (.aload_n 0, 1) := by decide +kernel
theorem dX10_undo_1 : decode cX10_undo 1 = .ok (.getfield 125, 3) := by decide +kernel
theorem dX10_undo_4 : decode cX10_undo 4 = .ok (.ifCond .ne 10, 3) := by decide +kernel
theorem dX10_undo_7 : decode cX10_undo 7 = .ok (.aload_n 0, 1) := by decide +kernel
theorem dX10_undo_8 : decode cX10_undo 8 = .ok (.bipush (-3), 2) := by decide +kernel
theorem dX10_undo_10 : decode cX10_undo 10 = .ok (.invokevirtual 87, 3) := by decide +kernel
theorem dX10_undo_13 : decode cX10_undo 13 = .ok (.ireturn, 1) := by decide +kernel
theorem dX10_undo_14 : decode cX10_undo 14 = .ok (.aload_n 0, 1) := by decide +kernel
theorem dX10_undo_15 : decode cX10_undo 15 = .ok (.dup, 1) := by decide +kernel
theorem dX10_undo_16 : decode cX10_undo 16 = .ok (.getfield 125, 3) := by decide +kernel
theorem dX10_undo_19 : decode cX10_undo 19 = .ok (.iconst 1, 1) := by decide +kernel
theorem dX10_undo_20 : decode cX10_undo 20 = .ok (.isub, 1) := by decide +kernel
theorem dX10_undo_21 : decode cX10_undo 21 = .ok (.putfield 125, 3) := by decide +kernel
theorem dX10_undo_24 : decode cX10_undo 24 = .ok (.iconst 0, 1) := by decide +kernel
theorem dX10_undo_25 : decode cX10_undo 25 = .ok (.istore_n 1, 1) := by decide +kernel
theorem dX10_undo_26 : decode cX10_undo 26 = .ok (.iload_n 1, 1) := by decide +kernel
theorem dX10_undo_27 : decode cX10_undo 27 = .ok (.bipush 8, 2) := by decide +kernel
theorem dX10_undo_29 : decode cX10_undo 29 = .ok (.if_icmp .ge 69, 3) := by decide +kernel
theorem dX10_undo_32 : decode cX10_undo 32 = .ok (.aload_n 0, 1) := by decide +kernel
theorem dX10_undo_33 : decode cX10_undo 33 = .ok (.getfield 13, 3) := by decide +kernel
theorem dX10_undo_36 : decode cX10_undo 36 = .ok (.iload_n 1, 1) := by decide +kernel
theorem dX10_undo_37 : decode cX10_undo 37 = .ok (.aload_n 0, 1) := by decide +kernel
theorem dX10_undo_38 : decode cX10_undo 38 = .ok (.getfield 29, 3) := by decide +kernel
theorem dX10_undo_41 : decode cX10_undo 41 = .ok (.bipush 8, 2) := by decide +kernel
theorem dX10_undo_43 : decode cX10_undo 43 = .ok (.aload_n 0, 1) := by decide +kernel
theorem dX10_undo_44 : decode cX10_undo 44 = .ok (.getfield 125, 3) := by decide +kernel
theorem dX10_undo_47 : decode cX10_undo 47 = .ok (.imul, 1) := by decide +kernel
theorem dX10_undo_48 : decode cX10_undo 48 = .ok (.iload_n 1, 1) := by decide +kernel
theorem dX10_undo_49 : decode cX10_undo 49 = .ok (.iadd, 1) := by decide +kernel
theorem dX10_undo_50 : decode cX10_undo 50 = .ok (.iaload, 1) := by decide +kernel
theorem dX10_undo_51 : decode cX10_undo 51 = .ok (.iastore, 1) := by decide +kernel
theorem dX10_undo_52 : decode cX10_undo 52 = .ok (.aload_n 0, 1) := by decide +kernel
theorem dX10_undo_53 : decode cX10_undo 53 = .ok (.getfield 17, 3) := by decide +kernel
theorem dX10_undo_56 : decode cX10_undo 56 = .ok (.iload_n 1, 1) := by decide +kernel
theorem dX10_undo_57 : decode cX10_undo 57 = .ok (.aload_n 0, 1) := by decide +kernel
theorem dX10_undo_58 : decode cX10_undo 58 = .ok (.getfield 32, 3) := by decide +kernel
theorem dX10_undo_61 : decode cX10_undo 61 = .ok (.bipush 8, 2) := by decide +kernel
theorem dX10_undo_63 : decode cX10_undo 63 = .ok (.aload_n 0, 1) := by decide +kernel
theorem dX10_undo_64 : decode cX10_undo 64 = .ok (.getfield 125, 3) := by decide +kernel
theorem dX10_undo_67 : decode cX10_undo 67 = .ok (.imul, 1) := by decide +kernel
theorem dX10_undo_68 : decode cX10_undo 68 = .ok (.iload_n 1, 1) := by decide +kernel
theorem dX10_undo_69 : decode cX10_undo 69 = .ok (.iadd, 1) := by decide +kernel
theorem dX10_undo_70 : decode cX10_undo 70 = .ok (.iaload, 1) := by decide +kernel
theorem dX10_undo_71 : decode cX10_undo 71 = .ok (.iastore, 1) := by decide +kernel
theorem dX10_undo_72 : decode cX10_undo 72 = .ok (.aload_n 0, 1) := by decide +kernel
theorem dX10_undo_73 : decode cX10_undo 73 = .ok (.getfield 26, 3) := by decide +kernel
theorem dX10_undo_76 : decode cX10_undo 76 = .ok (.iload_n 1, 1) := by decide +kernel
theorem dX10_undo_77 : decode cX10_undo 77 = .ok (.aload_n 0, 1) := by decide +kernel
theorem dX10_undo_78 : decode cX10_undo 78 = .ok (.getfield 35, 3) := by decide +kernel
theorem dX10_undo_81 : decode cX10_undo 81 = .ok (.bipush 8, 2) := by decide +kernel
theorem dX10_undo_83 : decode cX10_undo 83 = .ok (.aload_n 0, 1) := by decide +kernel
theorem dX10_undo_84 : decode cX10_undo 84 = .ok (.getfield 125, 3) := by decide +kernel
theorem dX10_undo_87 : decode cX10_undo 87 = .ok (.imul, 1) := by decide +kernel
theorem dX10_undo_88 : decode cX10_undo 88 = .ok (.iload_n 1, 1) := by decide +kernel
theorem dX10_undo_89 : decode cX10_undo 89 = .ok (.iadd, 1) := by decide +kernel
theorem dX10_undo_90 : decode cX10_undo 90 = .ok (.iaload, 1) := by decide +kernel
theorem dX10_undo_91 : decode cX10_undo 91 = .ok (.iastore, 1) := by decide +kernel
theorem dX10_undo_92 : decode cX10_undo 92 = .ok (.iinc 1 1, 3) := by decide +kernel
theorem dX10_undo_95 : decode cX10_undo 95 = .ok (.goto (-69), 3) := by decide +kernel
theorem dX10_undo_98 : decode cX10_undo 98 = .ok (.aload_n 0, 1) := by decide +kernel
theorem dX10_undo_99 : decode cX10_undo 99 = .ok (.getfield 125, 3) := by decide +kernel
theorem dX10_undo_102 : decode cX10_undo 102 = .ok (.ireturn, 1) := by decide +kernel
theorem dX10_keeps_0 : decode cX10_keeps 0 = .ok (.iconst 0, 1) := by decide +kernel
theorem dX10_keeps_1 : decode cX10_keeps 1 = .ok (.istore_n 2, 1) := by decide +kernel
theorem dX10_keeps_2 : decode cX10_keeps 2 = .ok (.iload_n 2, 1) := by decide +kernel
theorem dX10_keeps_3 : decode cX10_keeps 3 = .ok (.bipush 8, 2) := by decide +kernel
theorem dX10_keeps_5 : decode cX10_keeps 5 = .ok (.if_icmp .ge 66, 3) := by decide +kernel
theorem dX10_keeps_8 : decode cX10_keeps 8 = .ok (.aload_n 1, 1) := by decide +kernel
theorem dX10_keeps_9 : decode cX10_keeps 9 = .ok (.iload_n 2, 1) := by decide +kernel
theorem dX10_keeps_10 : decode cX10_keeps 10 = .ok (.aload_n 0, 1) := by decide +kernel
theorem dX10_keeps_11 : decode cX10_keeps 11 = .ok (.getfield 13, 3) := by decide +kernel
theorem dX10_keeps_14 : decode cX10_keeps 14 = .ok (.iload_n 2, 1) := by decide +kernel
theorem dX10_keeps_15 : decode cX10_keeps 15 = .ok (.iaload, 1) := by decide +kernel
theorem dX10_keeps_16 : decode cX10_keeps 16 = .ok (.iastore, 1) := by decide +kernel
theorem dX10_keeps_17 : decode cX10_keeps 17 = .ok (.aload_n 1, 1) := by decide +kernel
theorem dX10_keeps_18 : decode cX10_keeps 18 = .ok (.bipush 8, 2) := by decide +kernel
theorem dX10_keeps_20 : decode cX10_keeps 20 = .ok (.iload_n 2, 1) := by decide +kernel
theorem dX10_keeps_21 : decode cX10_keeps 21 = .ok (.iadd, 1) := by decide +kernel
theorem dX10_keeps_22 : decode cX10_keeps 22 = .ok (.aload_n 0, 1) := by decide +kernel
theorem dX10_keeps_23 : decode cX10_keeps 23 = .ok (.getfield 17, 3) := by decide +kernel
theorem dX10_keeps_26 : decode cX10_keeps 26 = .ok (.iload_n 2, 1) := by decide +kernel
theorem dX10_keeps_27 : decode cX10_keeps 27 = .ok (.iaload, 1) := by decide +kernel
theorem dX10_keeps_28 : decode cX10_keeps 28 = .ok (.iastore, 1) := by decide +kernel
theorem dX10_keeps_29 : decode cX10_keeps 29 = .ok (.aload_n 1, 1) := by decide +kernel
theorem dX10_keeps_30 : decode cX10_keeps 30 = .ok (.bipush 16, 2) := by decide +kernel
theorem dX10_keeps_32 : decode cX10_keeps 32 = .ok (.iload_n 2, 1) := by decide +kernel
theorem dX10_keeps_33 : decode cX10_keeps 33 = .ok (.iadd, 1) := by decide +kernel
theorem dX10_keeps_34 : decode cX10_keeps 34 = .ok (.aload_n 0, 1) := by decide +kernel
theorem dX10_keeps_35 : decode cX10_keeps 35 = .ok (.getfield 20, 3) := by decide +kernel
theorem dX10_keeps_38 : decode cX10_keeps 38 = .ok (.iload_n 2, 1) := by decide +kernel
theorem dX10_keeps_39 : decode cX10_keeps 39 = .ok (.iaload, 1) := by decide +kernel
theorem dX10_keeps_40 : decode cX10_keeps 40 = .ok (.iastore, 1) := by decide +kernel
theorem dX10_keeps_41 : decode cX10_keeps 41 = .ok (.aload_n 1, 1) := by decide +kernel
theorem dX10_keeps_42 : decode cX10_keeps 42 = .ok (.bipush 24, 2) := by decide +kernel
theorem dX10_keeps_44 : decode cX10_keeps 44 = .ok (.iload_n 2, 1) := by decide +kernel
theorem dX10_keeps_45 : decode cX10_keeps 45 = .ok (.iadd, 1) := by decide +kernel
theorem dX10_keeps_46 : decode cX10_keeps 46 = .ok (.aload_n 0, 1) := by decide +kernel
theorem dX10_keeps_47 : decode cX10_keeps 47 = .ok (.getfield 23, 3) := by decide +kernel
theorem dX10_keeps_50 : decode cX10_keeps 50 = .ok (.iload_n 2, 1) := by decide +kernel
theorem dX10_keeps_51 : decode cX10_keeps 51 = .ok (.iaload, 1) := by decide +kernel
theorem dX10_keeps_52 : decode cX10_keeps 52 = .ok (.iastore, 1) := by decide +kernel
theorem dX10_keeps_53 : decode cX10_keeps 53 = .ok (.aload_n 1, 1) := by decide +kernel
theorem dX10_keeps_54 : decode cX10_keeps 54 = .ok (.bipush 32, 2) := by decide +kernel
theorem dX10_keeps_56 : decode cX10_keeps 56 = .ok (.iload_n 2, 1) := by decide +kernel
theorem dX10_keeps_57 : decode cX10_keeps 57 = .ok (.iadd, 1) := by decide +kernel
theorem dX10_keeps_58 : decode cX10_keeps 58 = .ok (.aload_n 0, 1) := by decide +kernel
theorem dX10_keeps_59 : decode cX10_keeps 59 = .ok (.getfield 26, 3) := by decide +kernel
theorem dX10_keeps_62 : decode cX10_keeps 62 = .ok (.iload_n 2, 1) := by decide +kernel
theorem dX10_keeps_63 : decode cX10_keeps 63 = .ok (.iaload, 1) := by decide +kernel
theorem dX10_keeps_64 : decode cX10_keeps 64 = .ok (.iastore, 1) := by decide +kernel
theorem dX10_keeps_65 : decode cX10_keeps 65 = .ok (.iinc 2 1, 3) := by decide +kernel
theorem dX10_keeps_68 : decode cX10_keeps 68 = .ok (.goto (-66), 3) := by decide +kernel
theorem dX10_keeps_71 : decode cX10_keeps 71 = .ok (.aload_n 1, 1) := by decide +kernel
theorem dX10_keeps_72 : decode cX10_keeps 72 = .ok (.bipush 40, 2) := by decide +kernel
theorem dX10_keeps_74 : decode cX10_keeps 74 = .ok (.aload_n 0, 1) := by decide +kernel
theorem dX10_keeps_75 : decode cX10_keeps 75 = .ok (.getfield 7, 3) := by decide +kernel
theorem dX10_keeps_78 : decode cX10_keeps 78 = .ok (.iastore, 1) := by decide +kernel
theorem dX10_keeps_79 : decode cX10_keeps 79 = .ok (.aload_n 1, 1) := by decide +kernel
theorem dX10_keeps_80 : decode cX10_keeps 80 = .ok (.bipush 41, 2) := by decide +kernel
theorem dX10_keeps_82 : decode cX10_keeps 82 = .ok (.aload_n 0, 1) := by decide +kernel
theorem dX10_keeps_83 : decode cX10_keeps 83 = .ok (.getfield 82, 3) := by decide +kernel
theorem dX10_keeps_86 : decode cX10_keeps 86 = .ok (.iastore, 1) := by decide +kernel
theorem dX10_keeps_87 : decode cX10_keeps 87 = .ok (.return_, 1) := by decide +kernel
theorem dX10_laysBack_0 : decode cX10_laysBack 0 = .ok (.iconst 0, 1) := by decide +kernel
theorem dX10_laysBack_1 : decode cX10_laysBack 1 = .ok (.istore_n 2, 1) := by decide +kernel
theorem dX10_laysBack_2 : decode cX10_laysBack 2 = .ok (.iload_n 2, 1) := by decide +kernel
theorem dX10_laysBack_3 : decode cX10_laysBack 3 = .ok (.bipush 8, 2) := by decide +kernel
theorem dX10_laysBack_5 : decode cX10_laysBack 5 = .ok (.if_icmp .ge 66, 3) := by decide +kernel
theorem dX10_laysBack_8 : decode cX10_laysBack 8 = .ok (.aload_n 0, 1) := by decide +kernel
theorem dX10_laysBack_9 : decode cX10_laysBack 9 = .ok (.getfield 13, 3) := by decide +kernel
theorem dX10_laysBack_12 : decode cX10_laysBack 12 = .ok (.iload_n 2, 1) := by decide +kernel
theorem dX10_laysBack_13 : decode cX10_laysBack 13 = .ok (.aload_n 1, 1) := by decide +kernel
theorem dX10_laysBack_14 : decode cX10_laysBack 14 = .ok (.iload_n 2, 1) := by decide +kernel
theorem dX10_laysBack_15 : decode cX10_laysBack 15 = .ok (.iaload, 1) := by decide +kernel
theorem dX10_laysBack_16 : decode cX10_laysBack 16 = .ok (.iastore, 1) := by decide +kernel
theorem dX10_laysBack_17 : decode cX10_laysBack 17 = .ok (.aload_n 0, 1) := by decide +kernel
theorem dX10_laysBack_18 : decode cX10_laysBack 18 = .ok (.getfield 17, 3) := by decide +kernel
theorem dX10_laysBack_21 : decode cX10_laysBack 21 = .ok (.iload_n 2, 1) := by decide +kernel
theorem dX10_laysBack_22 : decode cX10_laysBack 22 = .ok (.aload_n 1, 1) := by decide +kernel
theorem dX10_laysBack_23 : decode cX10_laysBack 23 = .ok (.bipush 8, 2) := by decide +kernel
theorem dX10_laysBack_25 : decode cX10_laysBack 25 = .ok (.iload_n 2, 1) := by decide +kernel
theorem dX10_laysBack_26 : decode cX10_laysBack 26 = .ok (.iadd, 1) := by decide +kernel
theorem dX10_laysBack_27 : decode cX10_laysBack 27 = .ok (.iaload, 1) := by decide +kernel
theorem dX10_laysBack_28 : decode cX10_laysBack 28 = .ok (.iastore, 1) := by decide +kernel
theorem dX10_laysBack_29 : decode cX10_laysBack 29 = .ok (.aload_n 0, 1) := by decide +kernel
theorem dX10_laysBack_30 : decode cX10_laysBack 30 = .ok (.getfield 20, 3) := by decide +kernel
theorem dX10_laysBack_33 : decode cX10_laysBack 33 = .ok (.iload_n 2, 1) := by decide +kernel
theorem dX10_laysBack_34 : decode cX10_laysBack 34 = .ok (.aload_n 1, 1) := by decide +kernel
theorem dX10_laysBack_35 : decode cX10_laysBack 35 = .ok (.bipush 16, 2) := by decide +kernel
theorem dX10_laysBack_37 : decode cX10_laysBack 37 = .ok (.iload_n 2, 1) := by decide +kernel
theorem dX10_laysBack_38 : decode cX10_laysBack 38 = .ok (.iadd, 1) := by decide +kernel
theorem dX10_laysBack_39 : decode cX10_laysBack 39 = .ok (.iaload, 1) := by decide +kernel
theorem dX10_laysBack_40 : decode cX10_laysBack 40 = .ok (.iastore, 1) := by decide +kernel
theorem dX10_laysBack_41 : decode cX10_laysBack 41 = .ok (.aload_n 0, 1) := by decide +kernel
theorem dX10_laysBack_42 : decode cX10_laysBack 42 = .ok (.getfield 23, 3) := by decide +kernel
theorem dX10_laysBack_45 : decode cX10_laysBack 45 = .ok (.iload_n 2, 1) := by decide +kernel
theorem dX10_laysBack_46 : decode cX10_laysBack 46 = .ok (.aload_n 1, 1) := by decide +kernel
theorem dX10_laysBack_47 : decode cX10_laysBack 47 = .ok (.bipush 24, 2) := by decide +kernel
theorem dX10_laysBack_49 : decode cX10_laysBack 49 = .ok (.iload_n 2, 1) := by decide +kernel
theorem dX10_laysBack_50 : decode cX10_laysBack 50 = .ok (.iadd, 1) := by decide +kernel
theorem dX10_laysBack_51 : decode cX10_laysBack 51 = .ok (.iaload, 1) := by decide +kernel
theorem dX10_laysBack_52 : decode cX10_laysBack 52 = .ok (.iastore, 1) := by decide +kernel
theorem dX10_laysBack_53 : decode cX10_laysBack 53 = .ok (.aload_n 0, 1) := by decide +kernel
theorem dX10_laysBack_54 : decode cX10_laysBack 54 = .ok (.getfield 26, 3) := by decide +kernel
theorem dX10_laysBack_57 : decode cX10_laysBack 57 = .ok (.iload_n 2, 1) := by decide +kernel
theorem dX10_laysBack_58 : decode cX10_laysBack 58 = .ok (.aload_n 1, 1) := by decide +kernel
theorem dX10_laysBack_59 : decode cX10_laysBack 59 = .ok (.bipush 32, 2) := by decide +kernel
theorem dX10_laysBack_61 : decode cX10_laysBack 61 = .ok (.iload_n 2, 1) := by decide +kernel
theorem dX10_laysBack_62 : decode cX10_laysBack 62 = .ok (.iadd, 1) := by decide +kernel
theorem dX10_laysBack_63 : decode cX10_laysBack 63 = .ok (.iaload, 1) := by decide +kernel
theorem dX10_laysBack_64 : decode cX10_laysBack 64 = .ok (.iastore, 1) := by decide +kernel
theorem dX10_laysBack_65 : decode cX10_laysBack 65 = .ok (.iinc 2 1, 3) := by decide +kernel
theorem dX10_laysBack_68 : decode cX10_laysBack 68 = .ok (.goto (-66), 3) := by decide +kernel
theorem dX10_laysBack_71 : decode cX10_laysBack 71 = .ok (.aload_n 0, 1) := by decide +kernel
theorem dX10_laysBack_72 : decode cX10_laysBack 72 = .ok (.aload_n 1, 1) := by decide +kernel
theorem dX10_laysBack_73 : decode cX10_laysBack 73 = .ok (.bipush 40, 2) := by decide +kernel
theorem dX10_laysBack_75 : decode cX10_laysBack 75 = .ok (.iaload, 1) := by decide +kernel
theorem dX10_laysBack_76 : decode cX10_laysBack 76 = .ok (.putfield 7, 3) := by decide +kernel
theorem dX10_laysBack_79 : decode cX10_laysBack 79 = .ok (.aload_n 0, 1) := by decide +kernel
theorem dX10_laysBack_80 : decode cX10_laysBack 80 = .ok (.aload_n 1, 1) := by decide +kernel
theorem dX10_laysBack_81 : decode cX10_laysBack 81 = .ok (.bipush 41, 2) := by decide +kernel
theorem dX10_laysBack_83 : decode cX10_laysBack 83 = .ok (.iaload, 1) := by decide +kernel
theorem dX10_laysBack_84 : decode cX10_laysBack 84 = .ok (.putfield 82, 3) := by decide +kernel
theorem dX10_laysBack_87 : decode cX10_laysBack 87 = .ok (.return_, 1) := by decide +kernel
theorem dX10_image_0 : decode cX10_image 0 = .ok (.aload_n 0, 1) := by decide +kernel
theorem dX10_image_1 : decode cX10_image 1 = .ok (.iconst 1, 1) := by decide +kernel
theorem dX10_image_2 : decode cX10_image 2 = .ok (.putfield 258, 3) := by decide +kernel
theorem dX10_image_5 : decode cX10_image 5 = .ok (.aload_n 0, 1) := by decide +kernel
theorem dX10_image_6 : decode cX10_image 6 = .ok (.aload_n 0, 1) := by decide +kernel
theorem dX10_image_7 : decode cX10_image 7 = .ok (.getfield 72, 3) := by decide +kernel
theorem dX10_image_10 : decode cX10_image 10 = .ok (.invokevirtual 115, 3) := by decide +kernel
theorem dX10_image_13 : decode cX10_image 13 = .ok (.aload_n 0, 1) := by decide +kernel
theorem dX10_image_14 : decode cX10_image 14 = .ok (.getfield 82, 3) := by decide +kernel
theorem dX10_image_17 : decode cX10_image 17 = .ok (.ireturn, 1) := by decide +kernel
theorem dX10_on_0 : decode cX10_on 0 = .ok (.aload_n 0, 1) := by decide +kernel
theorem dX10_on_1 : decode cX10_on 1 = .ok (.getfield 258, 3) := by decide +kernel
theorem dX10_on_4 : decode cX10_on 4 = .ok (.ifCond .ne 10, 3) := by decide +kernel
theorem dX10_on_7 : decode cX10_on 7 = .ok (.aload_n 0, 1) := by decide +kernel
theorem dX10_on_8 : decode cX10_on 8 = .ok (.bipush (-3), 2) := by decide +kernel
theorem dX10_on_10 : decode cX10_on 10 = .ok (.invokevirtual 87, 3) := by decide +kernel
theorem dX10_on_13 : decode cX10_on 13 = .ok (.ireturn, 1) := by decide +kernel
theorem dX10_on_14 : decode cX10_on 14 = .ok (.aload_n 0, 1) := by decide +kernel
theorem dX10_on_15 : decode cX10_on 15 = .ok (.aload_n 0, 1) := by decide +kernel
theorem dX10_on_16 : decode cX10_on 16 = .ok (.getfield 72, 3) := by decide +kernel
theorem dX10_on_19 : decode cX10_on 19 = .ok (.invokevirtual 122, 3) := by decide +kernel
theorem dX10_on_22 : decode cX10_on 22 = .ok (.aload_n 0, 1) := by decide +kernel
theorem dX10_on_23 : decode cX10_on 23 = .ok (.iconst 0, 1) := by decide +kernel
theorem dX10_on_24 : decode cX10_on 24 = .ok (.putfield 125, 3) := by decide +kernel
theorem dX10_on_27 : decode cX10_on 27 = .ok (.aload_n 0, 1) := by decide +kernel
theorem dX10_on_28 : decode cX10_on 28 = .ok (.getfield 82, 3) := by decide +kernel
theorem dX10_on_31 : decode cX10_on 31 = .ok (.ireturn, 1) := by decide +kernel
theorem dX10_count_0 : decode cX10_count 0 = .ok (.iload_n 1, 1) := by decide +kernel
theorem dX10_count_1 : decode cX10_count 1 = .ok (.bipush 11, 2) := by decide +kernel
theorem dX10_count_3 : decode cX10_count 3 = .ok (.bipush 16, 2) := by decide +kernel
theorem dX10_count_5 : decode cX10_count 5 = .ok (.invokestatic 78, 3) := by decide +kernel
theorem dX10_count_8 : decode cX10_count 8 = .ok (.ifCond .eq 13, 3) := by decide +kernel
theorem dX10_count_11 : decode cX10_count 11 = .ok (.aload_n 0, 1) := by decide +kernel
theorem dX10_count_12 : decode cX10_count 12 = .ok (.getfield 47, 3) := by decide +kernel
theorem dX10_count_15 : decode cX10_count 15 = .ok (.iload_n 1, 1) := by decide +kernel
theorem dX10_count_16 : decode cX10_count 16 = .ok (.bipush 10, 2) := by decide +kernel
theorem dX10_count_18 : decode cX10_count 18 = .ok (.isub, 1) := by decide +kernel
theorem dX10_count_19 : decode cX10_count 19 = .ok (.iaload, 1) := by decide +kernel
theorem dX10_count_20 : decode cX10_count 20 = .ok (.ireturn, 1) := by decide +kernel
theorem dX10_count_21 : decode cX10_count 21 = .ok (.iconst 0, 1) := by decide +kernel
theorem dX10_count_22 : decode cX10_count 22 = .ok (.istore_n 2, 1) := by decide +kernel
theorem dX10_count_23 : decode cX10_count 23 = .ok (.iload_n 1, 1) := by decide +kernel
theorem dX10_count_24 : decode cX10_count 24 = .ok (.tableswitch 83 0 4 #[36, 41, 46, 51, 56], 36) := by decide +kernel
theorem dX10_count_60 : decode cX10_count 60 = .ok (.aload_n 0, 1) := by decide +kernel
theorem dX10_count_61 : decode cX10_count 61 = .ok (.getfield 7, 3) := by decide +kernel
theorem dX10_count_64 : decode cX10_count 64 = .ok (.ireturn, 1) := by decide +kernel
theorem dX10_count_65 : decode cX10_count 65 = .ok (.aload_n 0, 1) := by decide +kernel
theorem dX10_count_66 : decode cX10_count 66 = .ok (.getfield 82, 3) := by decide +kernel
theorem dX10_count_69 : decode cX10_count 69 = .ok (.ireturn, 1) := by decide +kernel
theorem dX10_count_70 : decode cX10_count 70 = .ok (.aload_n 0, 1) := by decide +kernel
theorem dX10_count_71 : decode cX10_count 71 = .ok (.getfield 91, 3) := by decide +kernel
theorem dX10_count_74 : decode cX10_count 74 = .ok (.ireturn, 1) := by decide +kernel
theorem dX10_count_75 : decode cX10_count 75 = .ok (.aload_n 0, 1) := by decide +kernel
theorem dX10_count_76 : decode cX10_count 76 = .ok (.getfield 125, 3) := by decide +kernel
theorem dX10_count_79 : decode cX10_count 79 = .ok (.ireturn, 1) := by decide +kernel
theorem dX10_count_80 : decode cX10_count 80 = .ok (.iconst 0, 1) := by decide +kernel
theorem dX10_count_81 : decode cX10_count 81 = .ok (.istore_n 3, 1) := by decide +kernel
theorem dX10_count_82 : decode cX10_count 82 = .ok (.iload_n 3, 1) := by decide +kernel
theorem dX10_count_83 : decode cX10_count 83 = .ok (.aload_n 0, 1) := by decide +kernel
theorem dX10_count_84 : decode cX10_count 84 = .ok (.getfield 82, 3) := by decide +kernel
theorem dX10_count_87 : decode cX10_count 87 = .ok (.if_icmp .ge 18, 3) := by decide +kernel
theorem dX10_count_90 : decode cX10_count 90 = .ok (.iload_n 2, 1) := by decide +kernel
theorem dX10_count_91 : decode cX10_count 91 = .ok (.aload_n 0, 1) := by decide +kernel
theorem dX10_count_92 : decode cX10_count 92 = .ok (.getfield 26, 3) := by decide +kernel
theorem dX10_count_95 : decode cX10_count 95 = .ok (.iload_n 3, 1) := by decide +kernel
theorem dX10_count_96 : decode cX10_count 96 = .ok (.iaload, 1) := by decide +kernel
theorem dX10_count_97 : decode cX10_count 97 = .ok (.iadd, 1) := by decide +kernel
theorem dX10_count_98 : decode cX10_count 98 = .ok (.istore_n 2, 1) := by decide +kernel
theorem dX10_count_99 : decode cX10_count 99 = .ok (.iinc 3 1, 3) := by decide +kernel
theorem dX10_count_102 : decode cX10_count 102 = .ok (.goto (-20), 3) := by decide +kernel
theorem dX10_count_105 : decode cX10_count 105 = .ok (.iload_n 2, 1) := by decide +kernel
theorem dX10_count_106 : decode cX10_count 106 = .ok (.ireturn, 1) := by decide +kernel
theorem dX10_count_107 : decode cX10_count 107 = .ok (.bipush (-9), 2) := by decide +kernel
theorem dX10_count_109 : decode cX10_count 109 = .ok (.ireturn, 1) := by decide +kernel
