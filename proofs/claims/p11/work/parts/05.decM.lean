/-! DECODE ROWS, by program -/
theorem d_Mod_init_0 : decode b_Mod_init 0 = .ok (.aload_n 0, 1) := by decide +kernel
theorem d_Mod_init_1 : decode b_Mod_init 1 = .ok (.invokespecial 1, 3) := by decide +kernel
theorem d_Mod_init_4 : decode b_Mod_init 4 = .ok (.aload_n 0, 1) := by decide +kernel
theorem d_Mod_init_5 : decode b_Mod_init 5 = .ok (.bipush 41, 2) := by decide +kernel
theorem d_Mod_init_7 : decode b_Mod_init 7 = .ok (.newarray .int, 2) := by decide +kernel
theorem d_Mod_init_9 : decode b_Mod_init 9 = .ok (.putfield 7, 3) := by decide +kernel
theorem d_Mod_init_12 : decode b_Mod_init 12 = .ok (.aload_n 0, 1) := by decide +kernel
theorem d_Mod_init_13 : decode b_Mod_init 13 = .ok (.bipush 41, 2) := by decide +kernel
theorem d_Mod_init_15 : decode b_Mod_init 15 = .ok (.newarray .int, 2) := by decide +kernel
theorem d_Mod_init_17 : decode b_Mod_init 17 = .ok (.putfield 13, 3) := by decide +kernel
theorem d_Mod_init_20 : decode b_Mod_init 20 = .ok (.aload_n 0, 1) := by decide +kernel
theorem d_Mod_init_21 : decode b_Mod_init 21 = .ok (.bipush 41, 2) := by decide +kernel
theorem d_Mod_init_23 : decode b_Mod_init 23 = .ok (.newarray .int, 2) := by decide +kernel
theorem d_Mod_init_25 : decode b_Mod_init 25 = .ok (.putfield 16, 3) := by decide +kernel
theorem d_Mod_init_28 : decode b_Mod_init 28 = .ok (.aload_n 0, 1) := by decide +kernel
theorem d_Mod_init_29 : decode b_Mod_init 29 = .ok (.bipush 41, 2) := by decide +kernel
theorem d_Mod_init_31 : decode b_Mod_init 31 = .ok (.newarray .long, 2) := by decide +kernel
theorem d_Mod_init_33 : decode b_Mod_init 33 = .ok (.putfield 19, 3) := by decide +kernel
theorem d_Mod_init_36 : decode b_Mod_init 36 = .ok (.aload_n 0, 1) := by decide +kernel
theorem d_Mod_init_37 : decode b_Mod_init 37 = .ok (.bipush 41, 2) := by decide +kernel
theorem d_Mod_init_39 : decode b_Mod_init 39 = .ok (.newarray .boolean, 2) := by decide +kernel
theorem d_Mod_init_41 : decode b_Mod_init 41 = .ok (.putfield 23, 3) := by decide +kernel
theorem d_Mod_init_44 : decode b_Mod_init 44 = .ok (.aload_n 0, 1) := by decide +kernel
theorem d_Mod_init_45 : decode b_Mod_init 45 = .ok (.sipush 200, 3) := by decide +kernel
theorem d_Mod_init_48 : decode b_Mod_init 48 = .ok (.newarray .int, 2) := by decide +kernel
theorem d_Mod_init_50 : decode b_Mod_init 50 = .ok (.putfield 27, 3) := by decide +kernel
theorem d_Mod_init_53 : decode b_Mod_init 53 = .ok (.aload_n 0, 1) := by decide +kernel
theorem d_Mod_init_54 : decode b_Mod_init 54 = .ok (.sipush 200, 3) := by decide +kernel
theorem d_Mod_init_57 : decode b_Mod_init 57 = .ok (.newarray .long, 2) := by decide +kernel
theorem d_Mod_init_59 : decode b_Mod_init 59 = .ok (.putfield 30, 3) := by decide +kernel
theorem d_Mod_init_62 : decode b_Mod_init 62 = .ok (.aload_n 0, 1) := by decide +kernel
theorem d_Mod_init_63 : decode b_Mod_init 63 = .ok (.sipush 200, 3) := by decide +kernel
theorem d_Mod_init_66 : decode b_Mod_init 66 = .ok (.newarray .long, 2) := by decide +kernel
theorem d_Mod_init_68 : decode b_Mod_init 68 = .ok (.putfield 33, 3) := by decide +kernel
theorem d_Mod_init_71 : decode b_Mod_init 71 = .ok (.aload_n 0, 1) := by decide +kernel
theorem d_Mod_init_72 : decode b_Mod_init 72 = .ok (.sipush 200, 3) := by decide +kernel
theorem d_Mod_init_75 : decode b_Mod_init 75 = .ok (.newarray .int, 2) := by decide +kernel
theorem d_Mod_init_77 : decode b_Mod_init 77 = .ok (.putfield 36, 3) := by decide +kernel
theorem d_Mod_init_80 : decode b_Mod_init 80 = .ok (.aload_n 0, 1) := by decide +kernel
theorem d_Mod_init_81 : decode b_Mod_init 81 = .ok (.sipush 200, 3) := by decide +kernel
theorem d_Mod_init_84 : decode b_Mod_init 84 = .ok (.newarray .int, 2) := by decide +kernel
theorem d_Mod_init_86 : decode b_Mod_init 86 = .ok (.putfield 39, 3) := by decide +kernel
theorem d_Mod_init_89 : decode b_Mod_init 89 = .ok (.aload_n 0, 1) := by decide +kernel
theorem d_Mod_init_90 : decode b_Mod_init 90 = .ok (.sipush 200, 3) := by decide +kernel
theorem d_Mod_init_93 : decode b_Mod_init 93 = .ok (.newarray .long, 2) := by decide +kernel
theorem d_Mod_init_95 : decode b_Mod_init 95 = .ok (.putfield 42, 3) := by decide +kernel
theorem d_Mod_init_98 : decode b_Mod_init 98 = .ok (.aload_n 0, 1) := by decide +kernel
theorem d_Mod_init_99 : decode b_Mod_init 99 = .ok (.sipush 200, 3) := by decide +kernel
theorem d_Mod_init_102 : decode b_Mod_init 102 = .ok (.newarray .boolean, 2) := by decide +kernel
theorem d_Mod_init_104 : decode b_Mod_init 104 = .ok (.putfield 45, 3) := by decide +kernel
theorem d_Mod_init_107 : decode b_Mod_init 107 = .ok (.aload_n 0, 1) := by decide +kernel
theorem d_Mod_init_108 : decode b_Mod_init 108 = .ok (.sipush 200, 3) := by decide +kernel
theorem d_Mod_init_111 : decode b_Mod_init 111 = .ok (.newarray .boolean, 2) := by decide +kernel
theorem d_Mod_init_113 : decode b_Mod_init 113 = .ok (.putfield 48, 3) := by decide +kernel
theorem d_Mod_init_116 : decode b_Mod_init 116 = .ok (.aload_n 0, 1) := by decide +kernel
theorem d_Mod_init_117 : decode b_Mod_init 117 = .ok (.sipush 20001, 3) := by decide +kernel
theorem d_Mod_init_120 : decode b_Mod_init 120 = .ok (.newarray .boolean, 2) := by decide +kernel
theorem d_Mod_init_122 : decode b_Mod_init 122 = .ok (.putfield 51, 3) := by decide +kernel
theorem d_Mod_init_125 : decode b_Mod_init 125 = .ok (.aload_n 0, 1) := by decide +kernel
theorem d_Mod_init_126 : decode b_Mod_init 126 = .ok (.sipush 2000, 3) := by decide +kernel
theorem d_Mod_init_129 : decode b_Mod_init 129 = .ok (.newarray .long, 2) := by decide +kernel
theorem d_Mod_init_131 : decode b_Mod_init 131 = .ok (.putfield 54, 3) := by decide +kernel
theorem d_Mod_init_134 : decode b_Mod_init 134 = .ok (.aload_n 0, 1) := by decide +kernel
theorem d_Mod_init_135 : decode b_Mod_init 135 = .ok (.bipush 50, 2) := by decide +kernel
theorem d_Mod_init_137 : decode b_Mod_init 137 = .ok (.newarray .int, 2) := by decide +kernel
theorem d_Mod_init_139 : decode b_Mod_init 139 = .ok (.putfield 57, 3) := by decide +kernel
theorem d_Mod_init_142 : decode b_Mod_init 142 = .ok (.aload_n 0, 1) := by decide +kernel
theorem d_Mod_init_143 : decode b_Mod_init 143 = .ok (.bipush 50, 2) := by decide +kernel
theorem d_Mod_init_145 : decode b_Mod_init 145 = .ok (.newarray .int, 2) := by decide +kernel
theorem d_Mod_init_147 : decode b_Mod_init 147 = .ok (.putfield 60, 3) := by decide +kernel
theorem d_Mod_init_150 : decode b_Mod_init 150 = .ok (.aload_n 0, 1) := by decide +kernel
theorem d_Mod_init_151 : decode b_Mod_init 151 = .ok (.iconst 5, 1) := by decide +kernel
theorem d_Mod_init_152 : decode b_Mod_init 152 = .ok (.newarray .int, 2) := by decide +kernel
theorem d_Mod_init_154 : decode b_Mod_init 154 = .ok (.putfield 63, 3) := by decide +kernel
theorem d_Mod_init_157 : decode b_Mod_init 157 = .ok (.aload_n 0, 1) := by decide +kernel
theorem d_Mod_init_158 : decode b_Mod_init 158 = .ok (.sipush 21000, 3) := by decide +kernel
theorem d_Mod_init_161 : decode b_Mod_init 161 = .ok (.newarray .int, 2) := by decide +kernel
theorem d_Mod_init_163 : decode b_Mod_init 163 = .ok (.putfield 66, 3) := by decide +kernel
theorem d_Mod_init_166 : decode b_Mod_init 166 = .ok (.aload_n 0, 1) := by decide +kernel
theorem d_Mod_init_167 : decode b_Mod_init 167 = .ok (.bipush 40, 2) := by decide +kernel
theorem d_Mod_init_169 : decode b_Mod_init 169 = .ok (.newarray .int, 2) := by decide +kernel
theorem d_Mod_init_171 : decode b_Mod_init 171 = .ok (.putfield 69, 3) := by decide +kernel
theorem d_Mod_init_174 : decode b_Mod_init 174 = .ok (.iconst 0, 1) := by decide +kernel
theorem d_Mod_init_175 : decode b_Mod_init 175 = .ok (.istore_n 1, 1) := by decide +kernel
theorem d_Mod_init_176 : decode b_Mod_init 176 = .ok (.iload_n 1, 1) := by decide +kernel
theorem d_Mod_init_177 : decode b_Mod_init 177 = .ok (.sipush 200, 3) := by decide +kernel
theorem d_Mod_init_180 : decode b_Mod_init 180 = .ok (.if_icmp .ge 16, 3) := by decide +kernel
theorem d_Mod_init_183 : decode b_Mod_init 183 = .ok (.aload_n 0, 1) := by decide +kernel
theorem d_Mod_init_184 : decode b_Mod_init 184 = .ok (.getfield 27, 3) := by decide +kernel
theorem d_Mod_init_187 : decode b_Mod_init 187 = .ok (.iload_n 1, 1) := by decide +kernel
theorem d_Mod_init_188 : decode b_Mod_init 188 = .ok (.iconst (-1), 1) := by decide +kernel
theorem d_Mod_init_189 : decode b_Mod_init 189 = .ok (.iastore, 1) := by decide +kernel
theorem d_Mod_init_190 : decode b_Mod_init 190 = .ok (.iinc 1 1, 3) := by decide +kernel
theorem d_Mod_init_193 : decode b_Mod_init 193 = .ok (.goto (-17), 3) := by decide +kernel
theorem d_Mod_init_196 : decode b_Mod_init 196 = .ok (.return_, 1) := by decide +kernel
theorem d_Mod_rule_0 : decode b_Mod_rule 0 = .ok (.aload_n 0, 1) := by decide +kernel
theorem d_Mod_rule_1 : decode b_Mod_rule 1 = .ok (.iconst 0, 1) := by decide +kernel
theorem d_Mod_rule_2 : decode b_Mod_rule 2 = .ok (.putfield 72, 3) := by decide +kernel
theorem d_Mod_rule_5 : decode b_Mod_rule 5 = .ok (.iload_n 1, 1) := by decide +kernel
theorem d_Mod_rule_6 : decode b_Mod_rule 6 = .ok (.i2l, 1) := by decide +kernel
theorem d_Mod_rule_7 : decode b_Mod_rule 7 = .ok (.lconst 0, 1) := by decide +kernel
theorem d_Mod_rule_8 : decode b_Mod_rule 8 = .ok (.ldc2_w 76, 3) := by decide +kernel
theorem d_Mod_rule_11 : decode b_Mod_rule 11 = .ok (.invokestatic 78, 3) := by decide +kernel
theorem d_Mod_rule_14 : decode b_Mod_rule 14 = .ok (.ifCond .eq 43, 3) := by decide +kernel
theorem d_Mod_rule_17 : decode b_Mod_rule 17 = .ok (.iload_n 2, 1) := by decide +kernel
theorem d_Mod_rule_18 : decode b_Mod_rule 18 = .ok (.i2l, 1) := by decide +kernel
theorem d_Mod_rule_19 : decode b_Mod_rule 19 = .ok (.ldc2_w 82, 3) := by decide +kernel
theorem d_Mod_rule_22 : decode b_Mod_rule 22 = .ok (.ldc2_w 84, 3) := by decide +kernel
theorem d_Mod_rule_25 : decode b_Mod_rule 25 = .ok (.invokestatic 78, 3) := by decide +kernel
theorem d_Mod_rule_28 : decode b_Mod_rule 28 = .ok (.ifCond .eq 29, 3) := by decide +kernel
theorem d_Mod_rule_31 : decode b_Mod_rule 31 = .ok (.iload_n 3, 1) := by decide +kernel
theorem d_Mod_rule_32 : decode b_Mod_rule 32 = .ok (.i2l, 1) := by decide +kernel
theorem d_Mod_rule_33 : decode b_Mod_rule 33 = .ok (.ldc2_w 82, 3) := by decide +kernel
theorem d_Mod_rule_36 : decode b_Mod_rule 36 = .ok (.ldc2_w 86, 3) := by decide +kernel
theorem d_Mod_rule_39 : decode b_Mod_rule 39 = .ok (.invokestatic 78, 3) := by decide +kernel
theorem d_Mod_rule_42 : decode b_Mod_rule 42 = .ok (.ifCond .eq 15, 3) := by decide +kernel
theorem d_Mod_rule_45 : decode b_Mod_rule 45 = .ok (.lload 4, 2) := by decide +kernel
theorem d_Mod_rule_47 : decode b_Mod_rule 47 = .ok (.lconst 0, 1) := by decide +kernel
theorem d_Mod_rule_48 : decode b_Mod_rule 48 = .ok (.ldc2_w 88, 3) := by decide +kernel
theorem d_Mod_rule_51 : decode b_Mod_rule 51 = .ok (.invokestatic 78, 3) := by decide +kernel
theorem d_Mod_rule_54 : decode b_Mod_rule 54 = .ok (.ifCond .ne 6, 3) := by decide +kernel
theorem d_Mod_rule_57 : decode b_Mod_rule 57 = .ok (.bipush (-102), 2) := by decide +kernel
theorem d_Mod_rule_59 : decode b_Mod_rule 59 = .ok (.ireturn, 1) := by decide +kernel
theorem d_Mod_rule_60 : decode b_Mod_rule 60 = .ok (.aload_n 0, 1) := by decide +kernel
theorem d_Mod_rule_61 : decode b_Mod_rule 61 = .ok (.getfield 90, 3) := by decide +kernel
theorem d_Mod_rule_64 : decode b_Mod_rule 64 = .ok (.bipush 40, 2) := by decide +kernel
theorem d_Mod_rule_66 : decode b_Mod_rule 66 = .ok (.if_icmp .ne 6, 3) := by decide +kernel
theorem d_Mod_rule_69 : decode b_Mod_rule 69 = .ok (.bipush (-104), 2) := by decide +kernel
theorem d_Mod_rule_71 : decode b_Mod_rule 71 = .ok (.ireturn, 1) := by decide +kernel
theorem d_Mod_rule_72 : decode b_Mod_rule 72 = .ok (.aload_n 0, 1) := by decide +kernel
theorem d_Mod_rule_73 : decode b_Mod_rule 73 = .ok (.dup, 1) := by decide +kernel
theorem d_Mod_rule_74 : decode b_Mod_rule 74 = .ok (.getfield 90, 3) := by decide +kernel
theorem d_Mod_rule_77 : decode b_Mod_rule 77 = .ok (.iconst 1, 1) := by decide +kernel
theorem d_Mod_rule_78 : decode b_Mod_rule 78 = .ok (.iadd, 1) := by decide +kernel
theorem d_Mod_rule_79 : decode b_Mod_rule 79 = .ok (.putfield 90, 3) := by decide +kernel
theorem d_Mod_rule_82 : decode b_Mod_rule 82 = .ok (.aload_n 0, 1) := by decide +kernel
theorem d_Mod_rule_83 : decode b_Mod_rule 83 = .ok (.getfield 7, 3) := by decide +kernel
theorem d_Mod_rule_86 : decode b_Mod_rule 86 = .ok (.aload_n 0, 1) := by decide +kernel
theorem d_Mod_rule_87 : decode b_Mod_rule 87 = .ok (.getfield 90, 3) := by decide +kernel
theorem d_Mod_rule_90 : decode b_Mod_rule 90 = .ok (.iload_n 1, 1) := by decide +kernel
theorem d_Mod_rule_91 : decode b_Mod_rule 91 = .ok (.iastore, 1) := by decide +kernel
theorem d_Mod_rule_92 : decode b_Mod_rule 92 = .ok (.aload_n 0, 1) := by decide +kernel
theorem d_Mod_rule_93 : decode b_Mod_rule 93 = .ok (.getfield 13, 3) := by decide +kernel
theorem d_Mod_rule_96 : decode b_Mod_rule 96 = .ok (.aload_n 0, 1) := by decide +kernel
theorem d_Mod_rule_97 : decode b_Mod_rule 97 = .ok (.getfield 90, 3) := by decide +kernel
theorem d_Mod_rule_100 : decode b_Mod_rule 100 = .ok (.iload_n 2, 1) := by decide +kernel
theorem d_Mod_rule_101 : decode b_Mod_rule 101 = .ok (.iastore, 1) := by decide +kernel
theorem d_Mod_rule_102 : decode b_Mod_rule 102 = .ok (.aload_n 0, 1) := by decide +kernel
theorem d_Mod_rule_103 : decode b_Mod_rule 103 = .ok (.getfield 16, 3) := by decide +kernel
theorem d_Mod_rule_106 : decode b_Mod_rule 106 = .ok (.aload_n 0, 1) := by decide +kernel
theorem d_Mod_rule_107 : decode b_Mod_rule 107 = .ok (.getfield 90, 3) := by decide +kernel
theorem d_Mod_rule_110 : decode b_Mod_rule 110 = .ok (.iload_n 3, 1) := by decide +kernel
theorem d_Mod_rule_111 : decode b_Mod_rule 111 = .ok (.iastore, 1) := by decide +kernel
theorem d_Mod_rule_112 : decode b_Mod_rule 112 = .ok (.aload_n 0, 1) := by decide +kernel
theorem d_Mod_rule_113 : decode b_Mod_rule 113 = .ok (.getfield 19, 3) := by decide +kernel
theorem d_Mod_rule_116 : decode b_Mod_rule 116 = .ok (.aload_n 0, 1) := by decide +kernel
theorem d_Mod_rule_117 : decode b_Mod_rule 117 = .ok (.getfield 90, 3) := by decide +kernel
theorem d_Mod_rule_120 : decode b_Mod_rule 120 = .ok (.lload 4, 2) := by decide +kernel
theorem d_Mod_rule_122 : decode b_Mod_rule 122 = .ok (.lastore, 1) := by decide +kernel
theorem d_Mod_rule_123 : decode b_Mod_rule 123 = .ok (.aload_n 0, 1) := by decide +kernel
theorem d_Mod_rule_124 : decode b_Mod_rule 124 = .ok (.getfield 23, 3) := by decide +kernel
theorem d_Mod_rule_127 : decode b_Mod_rule 127 = .ok (.aload_n 0, 1) := by decide +kernel
theorem d_Mod_rule_128 : decode b_Mod_rule 128 = .ok (.getfield 90, 3) := by decide +kernel
theorem d_Mod_rule_131 : decode b_Mod_rule 131 = .ok (.iload 6, 2) := by decide +kernel
theorem d_Mod_rule_133 : decode b_Mod_rule 133 = .ok (.bastore, 1) := by decide +kernel
theorem d_Mod_rule_134 : decode b_Mod_rule 134 = .ok (.aload_n 0, 1) := by decide +kernel
theorem d_Mod_rule_135 : decode b_Mod_rule 135 = .ok (.getfield 90, 3) := by decide +kernel
theorem d_Mod_rule_138 : decode b_Mod_rule 138 = .ok (.ireturn, 1) := by decide +kernel
theorem d_Mod_isIn_0 : decode b_Mod_isIn 0 = .ok (.lload_n 0, 1) := by decide +kernel
theorem d_Mod_isIn_1 : decode b_Mod_isIn 1 = .ok (.lload_n 2, 1) := by decide +kernel
theorem d_Mod_isIn_2 : decode b_Mod_isIn 2 = .ok (.lcmp, 1) := by decide +kernel
theorem d_Mod_isIn_3 : decode b_Mod_isIn 3 = .ok (.ifCond .lt 14, 3) := by decide +kernel
theorem d_Mod_isIn_6 : decode b_Mod_isIn 6 = .ok (.lload_n 0, 1) := by decide +kernel
theorem d_Mod_isIn_7 : decode b_Mod_isIn 7 = .ok (.lload 4, 2) := by decide +kernel
theorem d_Mod_isIn_9 : decode b_Mod_isIn 9 = .ok (.lcmp, 1) := by decide +kernel
theorem d_Mod_isIn_10 : decode b_Mod_isIn 10 = .ok (.ifCond .gt 7, 3) := by decide +kernel
theorem d_Mod_isIn_13 : decode b_Mod_isIn 13 = .ok (.iconst 1, 1) := by decide +kernel
theorem d_Mod_isIn_14 : decode b_Mod_isIn 14 = .ok (.goto 4, 3) := by decide +kernel
theorem d_Mod_isIn_17 : decode b_Mod_isIn 17 = .ok (.iconst 0, 1) := by decide +kernel
theorem d_Mod_isIn_18 : decode b_Mod_isIn 18 = .ok (.ireturn, 1) := by decide +kernel
theorem d_Mod_event_0 : decode b_Mod_event 0 = .ok (.aload_n 0, 1) := by decide +kernel
theorem d_Mod_event_1 : decode b_Mod_event 1 = .ok (.iconst 0, 1) := by decide +kernel
theorem d_Mod_event_2 : decode b_Mod_event 2 = .ok (.putfield 72, 3) := by decide +kernel
theorem d_Mod_event_5 : decode b_Mod_event 5 = .ok (.iload_n 1, 1) := by decide +kernel
theorem d_Mod_event_6 : decode b_Mod_event 6 = .ok (.i2l, 1) := by decide +kernel
theorem d_Mod_event_7 : decode b_Mod_event 7 = .ok (.lconst 0, 1) := by decide +kernel
theorem d_Mod_event_8 : decode b_Mod_event 8 = .ok (.ldc2_w 102, 3) := by decide +kernel
theorem d_Mod_event_11 : decode b_Mod_event 11 = .ok (.invokestatic 78, 3) := by decide +kernel
theorem d_Mod_event_14 : decode b_Mod_event 14 = .ok (.ifCond .eq 15, 3) := by decide +kernel
theorem d_Mod_event_17 : decode b_Mod_event 17 = .ok (.iload_n 3, 1) := by decide +kernel
theorem d_Mod_event_18 : decode b_Mod_event 18 = .ok (.i2l, 1) := by decide +kernel
theorem d_Mod_event_19 : decode b_Mod_event 19 = .ok (.lconst 0, 1) := by decide +kernel
theorem d_Mod_event_20 : decode b_Mod_event 20 = .ok (.ldc2_w 84, 3) := by decide +kernel
theorem d_Mod_event_23 : decode b_Mod_event 23 = .ok (.invokestatic 78, 3) := by decide +kernel
theorem d_Mod_event_26 : decode b_Mod_event 26 = .ok (.ifCond .ne 6, 3) := by decide +kernel
theorem d_Mod_event_29 : decode b_Mod_event 29 = .ok (.bipush (-101), 2) := by decide +kernel
theorem d_Mod_event_31 : decode b_Mod_event 31 = .ok (.ireturn, 1) := by decide +kernel
theorem d_Mod_event_32 : decode b_Mod_event 32 = .ok (.iload_n 2, 1) := by decide +kernel
theorem d_Mod_event_33 : decode b_Mod_event 33 = .ok (.i2l, 1) := by decide +kernel
theorem d_Mod_event_34 : decode b_Mod_event 34 = .ok (.lconst 0, 1) := by decide +kernel
theorem d_Mod_event_35 : decode b_Mod_event 35 = .ok (.ldc2_w 104, 3) := by decide +kernel
theorem d_Mod_event_38 : decode b_Mod_event 38 = .ok (.invokestatic 78, 3) := by decide +kernel
theorem d_Mod_event_41 : decode b_Mod_event 41 = .ok (.ifCond .eq 26, 3) := by decide +kernel
theorem d_Mod_event_44 : decode b_Mod_event 44 = .ok (.iload 4, 2) := by decide +kernel
theorem d_Mod_event_46 : decode b_Mod_event 46 = .ok (.i2l, 1) := by decide +kernel
theorem d_Mod_event_47 : decode b_Mod_event 47 = .ok (.lconst 0, 1) := by decide +kernel
theorem d_Mod_event_48 : decode b_Mod_event 48 = .ok (.ldc2_w 86, 3) := by decide +kernel
theorem d_Mod_event_51 : decode b_Mod_event 51 = .ok (.invokestatic 78, 3) := by decide +kernel
theorem d_Mod_event_54 : decode b_Mod_event 54 = .ok (.ifCond .eq 13, 3) := by decide +kernel
theorem d_Mod_event_57 : decode b_Mod_event 57 = .ok (.aload_n 0, 1) := by decide +kernel
theorem d_Mod_event_58 : decode b_Mod_event 58 = .ok (.iload_n 1, 1) := by decide +kernel
theorem d_Mod_event_59 : decode b_Mod_event 59 = .ok (.lload 5, 2) := by decide +kernel
theorem d_Mod_event_61 : decode b_Mod_event 61 = .ok (.invokevirtual 106, 3) := by decide +kernel
theorem d_Mod_event_64 : decode b_Mod_event 64 = .ok (.ifCond .ne 6, 3) := by decide +kernel
theorem d_Mod_event_67 : decode b_Mod_event 67 = .ok (.bipush (-102), 2) := by decide +kernel
theorem d_Mod_event_69 : decode b_Mod_event 69 = .ok (.ireturn, 1) := by decide +kernel
theorem d_Mod_event_70 : decode b_Mod_event 70 = .ok (.aload_n 0, 1) := by decide +kernel
theorem d_Mod_event_71 : decode b_Mod_event 71 = .ok (.getfield 30, 3) := by decide +kernel
theorem d_Mod_event_74 : decode b_Mod_event 74 = .ok (.iload_n 1, 1) := by decide +kernel
theorem d_Mod_event_75 : decode b_Mod_event 75 = .ok (.aload_n 0, 1) := by decide +kernel
theorem d_Mod_event_76 : decode b_Mod_event 76 = .ok (.getfield 27, 3) := by decide +kernel
theorem d_Mod_event_79 : decode b_Mod_event 79 = .ok (.iload_n 1, 1) := by decide +kernel
theorem d_Mod_event_80 : decode b_Mod_event 80 = .ok (.iaload, 1) := by decide +kernel
theorem d_Mod_event_81 : decode b_Mod_event 81 = .ok (.ifCond .ge 8, 3) := by decide +kernel
theorem d_Mod_event_84 : decode b_Mod_event 84 = .ok (.lload 5, 2) := by decide +kernel
theorem d_Mod_event_86 : decode b_Mod_event 86 = .ok (.goto 9, 3) := by decide +kernel
theorem d_Mod_event_89 : decode b_Mod_event 89 = .ok (.aload_n 0, 1) := by decide +kernel
theorem d_Mod_event_90 : decode b_Mod_event 90 = .ok (.getfield 30, 3) := by decide +kernel
theorem d_Mod_event_93 : decode b_Mod_event 93 = .ok (.iload_n 1, 1) := by decide +kernel
theorem d_Mod_event_94 : decode b_Mod_event 94 = .ok (.laload, 1) := by decide +kernel
theorem d_Mod_event_95 : decode b_Mod_event 95 = .ok (.lastore, 1) := by decide +kernel
theorem d_Mod_event_96 : decode b_Mod_event 96 = .ok (.aload_n 0, 1) := by decide +kernel
theorem d_Mod_event_97 : decode b_Mod_event 97 = .ok (.getfield 33, 3) := by decide +kernel
theorem d_Mod_event_100 : decode b_Mod_event 100 = .ok (.iload_n 1, 1) := by decide +kernel
theorem d_Mod_event_101 : decode b_Mod_event 101 = .ok (.lload 5, 2) := by decide +kernel
theorem d_Mod_event_103 : decode b_Mod_event 103 = .ok (.lastore, 1) := by decide +kernel
theorem d_Mod_event_104 : decode b_Mod_event 104 = .ok (.aload_n 0, 1) := by decide +kernel
theorem d_Mod_event_105 : decode b_Mod_event 105 = .ok (.iload_n 1, 1) := by decide +kernel
theorem d_Mod_event_106 : decode b_Mod_event 106 = .ok (.invokevirtual 110, 3) := by decide +kernel
theorem d_Mod_event_109 : decode b_Mod_event 109 = .ok (.iload_n 2, 1) := by decide +kernel
theorem d_Mod_event_110 : decode b_Mod_event 110 = .ok (.bipush 9, 2) := by decide +kernel
theorem d_Mod_event_112 : decode b_Mod_event 112 = .ok (.if_icmp .ne 56, 3) := by decide +kernel
theorem d_Mod_event_115 : decode b_Mod_event 115 = .ok (.aload_n 0, 1) := by decide +kernel
theorem d_Mod_event_116 : decode b_Mod_event 116 = .ok (.getfield 66, 3) := by decide +kernel
theorem d_Mod_event_119 : decode b_Mod_event 119 = .ok (.sipush 4200, 3) := by decide +kernel
theorem d_Mod_event_122 : decode b_Mod_event 122 = .ok (.iload 4, 2) := by decide +kernel
theorem d_Mod_event_124 : decode b_Mod_event 124 = .ok (.imul, 1) := by decide +kernel
theorem d_Mod_event_125 : decode b_Mod_event 125 = .ok (.aload_n 0, 1) := by decide +kernel
theorem d_Mod_event_126 : decode b_Mod_event 126 = .ok (.getfield 63, 3) := by decide +kernel
theorem d_Mod_event_129 : decode b_Mod_event 129 = .ok (.iload 4, 2) := by decide +kernel
theorem d_Mod_event_131 : decode b_Mod_event 131 = .ok (.iaload, 1) := by decide +kernel
theorem d_Mod_event_132 : decode b_Mod_event 132 = .ok (.iadd, 1) := by decide +kernel
theorem d_Mod_event_133 : decode b_Mod_event 133 = .ok (.lload 5, 2) := by decide +kernel
theorem d_Mod_event_135 : decode b_Mod_event 135 = .ok (.aload_n 0, 1) := by decide +kernel
theorem d_Mod_event_136 : decode b_Mod_event 136 = .ok (.getfield 30, 3) := by decide +kernel
theorem d_Mod_event_139 : decode b_Mod_event 139 = .ok (.iload_n 1, 1) := by decide +kernel
theorem d_Mod_event_140 : decode b_Mod_event 140 = .ok (.laload, 1) := by decide +kernel
theorem d_Mod_event_141 : decode b_Mod_event 141 = .ok (.lsub, 1) := by decide +kernel
theorem d_Mod_event_142 : decode b_Mod_event 142 = .ok (.ldc2_w 93, 3) := by decide +kernel
theorem d_Mod_event_145 : decode b_Mod_event 145 = .ok (.ldiv, 1) := by decide +kernel
theorem d_Mod_event_146 : decode b_Mod_event 146 = .ok (.l2i, 1) := by decide +kernel
theorem d_Mod_event_147 : decode b_Mod_event 147 = .ok (.iastore, 1) := by decide +kernel
theorem d_Mod_event_148 : decode b_Mod_event 148 = .ok (.aload_n 0, 1) := by decide +kernel
theorem d_Mod_event_149 : decode b_Mod_event 149 = .ok (.getfield 63, 3) := by decide +kernel
theorem d_Mod_event_152 : decode b_Mod_event 152 = .ok (.iload 4, 2) := by decide +kernel
theorem d_Mod_event_154 : decode b_Mod_event 154 = .ok (.dup2, 1) := by decide +kernel
theorem d_Mod_event_155 : decode b_Mod_event 155 = .ok (.iaload, 1) := by decide +kernel
theorem d_Mod_event_156 : decode b_Mod_event 156 = .ok (.iconst 1, 1) := by decide +kernel
theorem d_Mod_event_157 : decode b_Mod_event 157 = .ok (.iadd, 1) := by decide +kernel
theorem d_Mod_event_158 : decode b_Mod_event 158 = .ok (.iastore, 1) := by decide +kernel
theorem d_Mod_event_159 : decode b_Mod_event 159 = .ok (.aload_n 0, 1) := by decide +kernel
theorem d_Mod_event_160 : decode b_Mod_event 160 = .ok (.getfield 27, 3) := by decide +kernel
theorem d_Mod_event_163 : decode b_Mod_event 163 = .ok (.iload_n 1, 1) := by decide +kernel
theorem d_Mod_event_164 : decode b_Mod_event 164 = .ok (.iconst (-1), 1) := by decide +kernel
theorem d_Mod_event_165 : decode b_Mod_event 165 = .ok (.iastore, 1) := by decide +kernel
theorem d_Mod_event_166 : decode b_Mod_event 166 = .ok (.iconst 0, 1) := by decide +kernel
theorem d_Mod_event_167 : decode b_Mod_event 167 = .ok (.ireturn, 1) := by decide +kernel
theorem d_Mod_event_168 : decode b_Mod_event 168 = .ok (.aload_n 0, 1) := by decide +kernel
theorem d_Mod_event_169 : decode b_Mod_event 169 = .ok (.getfield 27, 3) := by decide +kernel
theorem d_Mod_event_172 : decode b_Mod_event 172 = .ok (.iload_n 1, 1) := by decide +kernel
theorem d_Mod_event_173 : decode b_Mod_event 173 = .ok (.iload_n 2, 1) := by decide +kernel
theorem d_Mod_event_174 : decode b_Mod_event 174 = .ok (.iastore, 1) := by decide +kernel
theorem d_Mod_event_175 : decode b_Mod_event 175 = .ok (.aload_n 0, 1) := by decide +kernel
theorem d_Mod_event_176 : decode b_Mod_event 176 = .ok (.iload_n 2, 1) := by decide +kernel
theorem d_Mod_event_177 : decode b_Mod_event 177 = .ok (.iload_n 3, 1) := by decide +kernel
theorem d_Mod_event_178 : decode b_Mod_event 178 = .ok (.iload 4, 2) := by decide +kernel
theorem d_Mod_event_180 : decode b_Mod_event 180 = .ok (.invokevirtual 114, 3) := by decide +kernel
theorem d_Mod_event_183 : decode b_Mod_event 183 = .ok (.istore 7, 2) := by decide +kernel
theorem d_Mod_event_185 : decode b_Mod_event 185 = .ok (.iload 7, 2) := by decide +kernel
theorem d_Mod_event_187 : decode b_Mod_event 187 = .ok (.ifCond .le 23, 3) := by decide +kernel
theorem d_Mod_event_190 : decode b_Mod_event 190 = .ok (.aload_n 0, 1) := by decide +kernel
theorem d_Mod_event_191 : decode b_Mod_event 191 = .ok (.getfield 23, 3) := by decide +kernel
theorem d_Mod_event_194 : decode b_Mod_event 194 = .ok (.iload 7, 2) := by decide +kernel
theorem d_Mod_event_196 : decode b_Mod_event 196 = .ok (.baload, 1) := by decide +kernel
theorem d_Mod_event_197 : decode b_Mod_event 197 = .ok (.ifCond .eq 13, 3) := by decide +kernel
theorem d_Mod_event_200 : decode b_Mod_event 200 = .ok (.aload_n 0, 1) := by decide +kernel
theorem d_Mod_event_201 : decode b_Mod_event 201 = .ok (.iload 7, 2) := by decide +kernel
theorem d_Mod_event_203 : decode b_Mod_event 203 = .ok (.invokevirtual 118, 3) := by decide +kernel
theorem d_Mod_event_206 : decode b_Mod_event 206 = .ok (.iload 7, 2) := by decide +kernel
theorem d_Mod_event_208 : decode b_Mod_event 208 = .ok (.ineg, 1) := by decide +kernel
theorem d_Mod_event_209 : decode b_Mod_event 209 = .ok (.ireturn, 1) := by decide +kernel
theorem d_Mod_event_210 : decode b_Mod_event 210 = .ok (.iload 7, 2) := by decide +kernel
theorem d_Mod_event_212 : decode b_Mod_event 212 = .ok (.ifCond .le 47, 3) := by decide +kernel
theorem d_Mod_event_215 : decode b_Mod_event 215 = .ok (.aload_n 0, 1) := by decide +kernel
theorem d_Mod_event_216 : decode b_Mod_event 216 = .ok (.getfield 36, 3) := by decide +kernel
theorem d_Mod_event_219 : decode b_Mod_event 219 = .ok (.iload_n 1, 1) := by decide +kernel
theorem d_Mod_event_220 : decode b_Mod_event 220 = .ok (.iload 7, 2) := by decide +kernel
theorem d_Mod_event_222 : decode b_Mod_event 222 = .ok (.iastore, 1) := by decide +kernel
theorem d_Mod_event_223 : decode b_Mod_event 223 = .ok (.aload_n 0, 1) := by decide +kernel
theorem d_Mod_event_224 : decode b_Mod_event 224 = .ok (.getfield 39, 3) := by decide +kernel
theorem d_Mod_event_227 : decode b_Mod_event 227 = .ok (.iload_n 1, 1) := by decide +kernel
theorem d_Mod_event_228 : decode b_Mod_event 228 = .ok (.iload_n 3, 1) := by decide +kernel
theorem d_Mod_event_229 : decode b_Mod_event 229 = .ok (.iastore, 1) := by decide +kernel
theorem d_Mod_event_230 : decode b_Mod_event 230 = .ok (.aload_n 0, 1) := by decide +kernel
theorem d_Mod_event_231 : decode b_Mod_event 231 = .ok (.getfield 42, 3) := by decide +kernel
theorem d_Mod_event_234 : decode b_Mod_event 234 = .ok (.iload_n 1, 1) := by decide +kernel
theorem d_Mod_event_235 : decode b_Mod_event 235 = .ok (.aload_n 0, 1) := by decide +kernel
theorem d_Mod_event_236 : decode b_Mod_event 236 = .ok (.lload 5, 2) := by decide +kernel
theorem d_Mod_event_238 : decode b_Mod_event 238 = .ok (.aload_n 0, 1) := by decide +kernel
theorem d_Mod_event_239 : decode b_Mod_event 239 = .ok (.getfield 19, 3) := by decide +kernel
theorem d_Mod_event_242 : decode b_Mod_event 242 = .ok (.iload 7, 2) := by decide +kernel
theorem d_Mod_event_244 : decode b_Mod_event 244 = .ok (.laload, 1) := by decide +kernel
theorem d_Mod_event_245 : decode b_Mod_event 245 = .ok (.invokevirtual 121, 3) := by decide +kernel
theorem d_Mod_event_248 : decode b_Mod_event 248 = .ok (.lastore, 1) := by decide +kernel
theorem d_Mod_event_249 : decode b_Mod_event 249 = .ok (.aload_n 0, 1) := by decide +kernel
theorem d_Mod_event_250 : decode b_Mod_event 250 = .ok (.getfield 57, 3) := by decide +kernel
theorem d_Mod_event_253 : decode b_Mod_event 253 = .ok (.iload_n 3, 1) := by decide +kernel
theorem d_Mod_event_254 : decode b_Mod_event 254 = .ok (.dup2, 1) := by decide +kernel
theorem d_Mod_event_255 : decode b_Mod_event 255 = .ok (.iaload, 1) := by decide +kernel
theorem d_Mod_event_256 : decode b_Mod_event 256 = .ok (.iconst 1, 1) := by decide +kernel
theorem d_Mod_event_257 : decode b_Mod_event 257 = .ok (.iadd, 1) := by decide +kernel
theorem d_Mod_event_258 : decode b_Mod_event 258 = .ok (.iastore, 1) := by decide +kernel
theorem d_Mod_event_259 : decode b_Mod_event 259 = .ok (.iload 7, 2) := by decide +kernel
theorem d_Mod_event_261 : decode b_Mod_event 261 = .ok (.ireturn, 1) := by decide +kernel
theorem d_Mod_isTime_0 : decode b_Mod_isTime 0 = .ok (.lload_n 2, 1) := by decide +kernel
theorem d_Mod_isTime_1 : decode b_Mod_isTime 1 = .ok (.aload_n 0, 1) := by decide +kernel
theorem d_Mod_isTime_2 : decode b_Mod_isTime 2 = .ok (.getfield 27, 3) := by decide +kernel
theorem d_Mod_isTime_5 : decode b_Mod_isTime 5 = .ok (.iload_n 1, 1) := by decide +kernel
theorem d_Mod_isTime_6 : decode b_Mod_isTime 6 = .ok (.iaload, 1) := by decide +kernel
theorem d_Mod_isTime_7 : decode b_Mod_isTime 7 = .ok (.ifCond .ge 7, 3) := by decide +kernel
theorem d_Mod_isTime_10 : decode b_Mod_isTime 10 = .ok (.lconst 0, 1) := by decide +kernel
theorem d_Mod_isTime_11 : decode b_Mod_isTime 11 = .ok (.goto 9, 3) := by decide +kernel
theorem d_Mod_isTime_14 : decode b_Mod_isTime 14 = .ok (.aload_n 0, 1) := by decide +kernel
theorem d_Mod_isTime_15 : decode b_Mod_isTime 15 = .ok (.getfield 33, 3) := by decide +kernel
theorem d_Mod_isTime_18 : decode b_Mod_isTime 18 = .ok (.iload_n 1, 1) := by decide +kernel
theorem d_Mod_isTime_19 : decode b_Mod_isTime 19 = .ok (.laload, 1) := by decide +kernel
theorem d_Mod_isTime_20 : decode b_Mod_isTime 20 = .ok (.ldc2_w 97, 3) := by decide +kernel
theorem d_Mod_isTime_23 : decode b_Mod_isTime 23 = .ok (.invokestatic 78, 3) := by decide +kernel
theorem d_Mod_isTime_26 : decode b_Mod_isTime 26 = .ok (.ireturn, 1) := by decide +kernel
theorem d_Mod_end_0 : decode b_Mod_end 0 = .ok (.aload_n 0, 1) := by decide +kernel
theorem d_Mod_end_1 : decode b_Mod_end 1 = .ok (.getfield 36, 3) := by decide +kernel
theorem d_Mod_end_4 : decode b_Mod_end 4 = .ok (.iload_n 1, 1) := by decide +kernel
theorem d_Mod_end_5 : decode b_Mod_end 5 = .ok (.iconst 0, 1) := by decide +kernel
theorem d_Mod_end_6 : decode b_Mod_end 6 = .ok (.iastore, 1) := by decide +kernel
theorem d_Mod_end_7 : decode b_Mod_end 7 = .ok (.aload_n 0, 1) := by decide +kernel
theorem d_Mod_end_8 : decode b_Mod_end 8 = .ok (.getfield 45, 3) := by decide +kernel
theorem d_Mod_end_11 : decode b_Mod_end 11 = .ok (.iload_n 1, 1) := by decide +kernel
theorem d_Mod_end_12 : decode b_Mod_end 12 = .ok (.iconst 0, 1) := by decide +kernel
theorem d_Mod_end_13 : decode b_Mod_end 13 = .ok (.bastore, 1) := by decide +kernel
theorem d_Mod_end_14 : decode b_Mod_end 14 = .ok (.aload_n 0, 1) := by decide +kernel
theorem d_Mod_end_15 : decode b_Mod_end 15 = .ok (.getfield 48, 3) := by decide +kernel
theorem d_Mod_end_18 : decode b_Mod_end 18 = .ok (.iload_n 1, 1) := by decide +kernel
theorem d_Mod_end_19 : decode b_Mod_end 19 = .ok (.iconst 0, 1) := by decide +kernel
theorem d_Mod_end_20 : decode b_Mod_end 20 = .ok (.bastore, 1) := by decide +kernel
theorem d_Mod_end_21 : decode b_Mod_end 21 = .ok (.return_, 1) := by decide +kernel
theorem d_Mod_rowFor_0 : decode b_Mod_rowFor 0 = .ok (.iconst 1, 1) := by decide +kernel
theorem d_Mod_rowFor_1 : decode b_Mod_rowFor 1 = .ok (.istore 4, 2) := by decide +kernel
theorem d_Mod_rowFor_3 : decode b_Mod_rowFor 3 = .ok (.iload 4, 2) := by decide +kernel
theorem d_Mod_rowFor_5 : decode b_Mod_rowFor 5 = .ok (.aload_n 0, 1) := by decide +kernel
theorem d_Mod_rowFor_6 : decode b_Mod_rowFor 6 = .ok (.getfield 90, 3) := by decide +kernel
theorem d_Mod_rowFor_9 : decode b_Mod_rowFor 9 = .ok (.if_icmp .gt 62, 3) := by decide +kernel
theorem d_Mod_rowFor_12 : decode b_Mod_rowFor 12 = .ok (.aload_n 0, 1) := by decide +kernel
theorem d_Mod_rowFor_13 : decode b_Mod_rowFor 13 = .ok (.getfield 7, 3) := by decide +kernel
theorem d_Mod_rowFor_16 : decode b_Mod_rowFor 16 = .ok (.iload 4, 2) := by decide +kernel
theorem d_Mod_rowFor_18 : decode b_Mod_rowFor 18 = .ok (.iaload, 1) := by decide +kernel
theorem d_Mod_rowFor_19 : decode b_Mod_rowFor 19 = .ok (.iload_n 1, 1) := by decide +kernel
theorem d_Mod_rowFor_20 : decode b_Mod_rowFor 20 = .ok (.if_icmp .ne 45, 3) := by decide +kernel
theorem d_Mod_rowFor_23 : decode b_Mod_rowFor 23 = .ok (.aload_n 0, 1) := by decide +kernel
theorem d_Mod_rowFor_24 : decode b_Mod_rowFor 24 = .ok (.getfield 13, 3) := by decide +kernel
theorem d_Mod_rowFor_27 : decode b_Mod_rowFor 27 = .ok (.iload 4, 2) := by decide +kernel
theorem d_Mod_rowFor_29 : decode b_Mod_rowFor 29 = .ok (.iaload, 1) := by decide +kernel
theorem d_Mod_rowFor_30 : decode b_Mod_rowFor 30 = .ok (.ifCond .lt 14, 3) := by decide +kernel
theorem d_Mod_rowFor_33 : decode b_Mod_rowFor 33 = .ok (.aload_n 0, 1) := by decide +kernel
theorem d_Mod_rowFor_34 : decode b_Mod_rowFor 34 = .ok (.getfield 13, 3) := by decide +kernel
theorem d_Mod_rowFor_37 : decode b_Mod_rowFor 37 = .ok (.iload 4, 2) := by decide +kernel
theorem d_Mod_rowFor_39 : decode b_Mod_rowFor 39 = .ok (.iaload, 1) := by decide +kernel
theorem d_Mod_rowFor_40 : decode b_Mod_rowFor 40 = .ok (.iload_n 2, 1) := by decide +kernel
theorem d_Mod_rowFor_41 : decode b_Mod_rowFor 41 = .ok (.if_icmp .ne 24, 3) := by decide +kernel
theorem d_Mod_rowFor_44 : decode b_Mod_rowFor 44 = .ok (.aload_n 0, 1) := by decide +kernel
theorem d_Mod_rowFor_45 : decode b_Mod_rowFor 45 = .ok (.getfield 16, 3) := by decide +kernel
theorem d_Mod_rowFor_48 : decode b_Mod_rowFor 48 = .ok (.iload 4, 2) := by decide +kernel
theorem d_Mod_rowFor_50 : decode b_Mod_rowFor 50 = .ok (.iaload, 1) := by decide +kernel
theorem d_Mod_rowFor_51 : decode b_Mod_rowFor 51 = .ok (.ifCond .lt 20, 3) := by decide +kernel
theorem d_Mod_rowFor_54 : decode b_Mod_rowFor 54 = .ok (.aload_n 0, 1) := by decide +kernel
theorem d_Mod_rowFor_55 : decode b_Mod_rowFor 55 = .ok (.getfield 16, 3) := by decide +kernel
theorem d_Mod_rowFor_58 : decode b_Mod_rowFor 58 = .ok (.iload 4, 2) := by decide +kernel
theorem d_Mod_rowFor_60 : decode b_Mod_rowFor 60 = .ok (.iaload, 1) := by decide +kernel
theorem d_Mod_rowFor_61 : decode b_Mod_rowFor 61 = .ok (.iload_n 3, 1) := by decide +kernel
theorem d_Mod_rowFor_62 : decode b_Mod_rowFor 62 = .ok (.if_icmp .eq 9, 3) := by decide +kernel
theorem d_Mod_rowFor_65 : decode b_Mod_rowFor 65 = .ok (.iinc 4 1, 3) := by decide +kernel
theorem d_Mod_rowFor_68 : decode b_Mod_rowFor 68 = .ok (.goto (-65), 3) := by decide +kernel
theorem d_Mod_rowFor_71 : decode b_Mod_rowFor 71 = .ok (.iload 4, 2) := by decide +kernel
theorem d_Mod_rowFor_73 : decode b_Mod_rowFor 73 = .ok (.aload_n 0, 1) := by decide +kernel
theorem d_Mod_rowFor_74 : decode b_Mod_rowFor 74 = .ok (.getfield 90, 3) := by decide +kernel
theorem d_Mod_rowFor_77 : decode b_Mod_rowFor 77 = .ok (.if_icmp .gt 8, 3) := by decide +kernel
theorem d_Mod_rowFor_80 : decode b_Mod_rowFor 80 = .ok (.iload 4, 2) := by decide +kernel
theorem d_Mod_rowFor_82 : decode b_Mod_rowFor 82 = .ok (.goto 4, 3) := by decide +kernel
theorem d_Mod_rowFor_85 : decode b_Mod_rowFor 85 = .ok (.iconst 0, 1) := by decide +kernel
theorem d_Mod_rowFor_86 : decode b_Mod_rowFor 86 = .ok (.ireturn, 1) := by decide +kernel
theorem d_Mod_fails_0 : decode b_Mod_fails 0 = .ok (.iconst 0, 1) := by decide +kernel
theorem d_Mod_fails_1 : decode b_Mod_fails 1 = .ok (.istore_n 2, 1) := by decide +kernel
theorem d_Mod_fails_2 : decode b_Mod_fails 2 = .ok (.iconst 0, 1) := by decide +kernel
theorem d_Mod_fails_3 : decode b_Mod_fails 3 = .ok (.istore_n 3, 1) := by decide +kernel
theorem d_Mod_fails_4 : decode b_Mod_fails 4 = .ok (.iload_n 3, 1) := by decide +kernel
theorem d_Mod_fails_5 : decode b_Mod_fails 5 = .ok (.aload_n 0, 1) := by decide +kernel
theorem d_Mod_fails_6 : decode b_Mod_fails 6 = .ok (.getfield 99, 3) := by decide +kernel
theorem d_Mod_fails_9 : decode b_Mod_fails 9 = .ok (.if_icmp .ge 29, 3) := by decide +kernel
theorem d_Mod_fails_12 : decode b_Mod_fails 12 = .ok (.iload_n 2, 1) := by decide +kernel
theorem d_Mod_fails_13 : decode b_Mod_fails 13 = .ok (.ifCond .ne 13, 3) := by decide +kernel
theorem d_Mod_fails_16 : decode b_Mod_fails 16 = .ok (.aload_n 0, 1) := by decide +kernel
theorem d_Mod_fails_17 : decode b_Mod_fails 17 = .ok (.getfield 69, 3) := by decide +kernel
theorem d_Mod_fails_20 : decode b_Mod_fails 20 = .ok (.iload_n 3, 1) := by decide +kernel
theorem d_Mod_fails_21 : decode b_Mod_fails 21 = .ok (.iaload, 1) := by decide +kernel
theorem d_Mod_fails_22 : decode b_Mod_fails 22 = .ok (.iload_n 1, 1) := by decide +kernel
theorem d_Mod_fails_23 : decode b_Mod_fails 23 = .ok (.if_icmp .ne 7, 3) := by decide +kernel
theorem d_Mod_fails_26 : decode b_Mod_fails 26 = .ok (.iconst 1, 1) := by decide +kernel
theorem d_Mod_fails_27 : decode b_Mod_fails 27 = .ok (.goto 4, 3) := by decide +kernel
theorem d_Mod_fails_30 : decode b_Mod_fails 30 = .ok (.iconst 0, 1) := by decide +kernel
theorem d_Mod_fails_31 : decode b_Mod_fails 31 = .ok (.istore_n 2, 1) := by decide +kernel
theorem d_Mod_fails_32 : decode b_Mod_fails 32 = .ok (.iinc 3 1, 3) := by decide +kernel
theorem d_Mod_fails_35 : decode b_Mod_fails 35 = .ok (.goto (-31), 3) := by decide +kernel
theorem d_Mod_fails_38 : decode b_Mod_fails 38 = .ok (.iload_n 2, 1) := by decide +kernel
theorem d_Mod_fails_39 : decode b_Mod_fails 39 = .ok (.ifCond .ne 23, 3) := by decide +kernel
theorem d_Mod_fails_42 : decode b_Mod_fails 42 = .ok (.aload_n 0, 1) := by decide +kernel
theorem d_Mod_fails_43 : decode b_Mod_fails 43 = .ok (.getfield 69, 3) := by decide +kernel
theorem d_Mod_fails_46 : decode b_Mod_fails 46 = .ok (.aload_n 0, 1) := by decide +kernel
theorem d_Mod_fails_47 : decode b_Mod_fails 47 = .ok (.getfield 99, 3) := by decide +kernel
theorem d_Mod_fails_50 : decode b_Mod_fails 50 = .ok (.iload_n 1, 1) := by decide +kernel
theorem d_Mod_fails_51 : decode b_Mod_fails 51 = .ok (.iastore, 1) := by decide +kernel
theorem d_Mod_fails_52 : decode b_Mod_fails 52 = .ok (.aload_n 0, 1) := by decide +kernel
theorem d_Mod_fails_53 : decode b_Mod_fails 53 = .ok (.dup, 1) := by decide +kernel
theorem d_Mod_fails_54 : decode b_Mod_fails 54 = .ok (.getfield 99, 3) := by decide +kernel
theorem d_Mod_fails_57 : decode b_Mod_fails 57 = .ok (.iconst 1, 1) := by decide +kernel
theorem d_Mod_fails_58 : decode b_Mod_fails 58 = .ok (.iadd, 1) := by decide +kernel
theorem d_Mod_fails_59 : decode b_Mod_fails 59 = .ok (.putfield 99, 3) := by decide +kernel
theorem d_Mod_fails_62 : decode b_Mod_fails 62 = .ok (.return_, 1) := by decide +kernel
theorem d_Mod_behind_0 : decode b_Mod_behind 0 = .ok (.lload_n 1, 1) := by decide +kernel
theorem d_Mod_behind_1 : decode b_Mod_behind 1 = .ok (.lstore 5, 2) := by decide +kernel
theorem d_Mod_behind_3 : decode b_Mod_behind 3 = .ok (.lload_n 3, 1) := by decide +kernel
theorem d_Mod_behind_4 : decode b_Mod_behind 4 = .ok (.lstore 7, 2) := by decide +kernel
theorem d_Mod_behind_6 : decode b_Mod_behind 6 = .ok (.lload 7, 2) := by decide +kernel
theorem d_Mod_behind_8 : decode b_Mod_behind 8 = .ok (.lconst 0, 1) := by decide +kernel
theorem d_Mod_behind_9 : decode b_Mod_behind 9 = .ok (.lcmp, 1) := by decide +kernel
theorem d_Mod_behind_10 : decode b_Mod_behind 10 = .ok (.ifCond .le 88, 3) := by decide +kernel
theorem d_Mod_behind_13 : decode b_Mod_behind 13 = .ok (.lload 5, 2) := by decide +kernel
theorem d_Mod_behind_15 : decode b_Mod_behind 15 = .ok (.ldc2_w 93, 3) := by decide +kernel
theorem d_Mod_behind_18 : decode b_Mod_behind 18 = .ok (.ldiv, 1) := by decide +kernel
theorem d_Mod_behind_19 : decode b_Mod_behind 19 = .ok (.lstore 9, 2) := by decide +kernel
theorem d_Mod_behind_21 : decode b_Mod_behind 21 = .ok (.ldc2_w 93, 3) := by decide +kernel
theorem d_Mod_behind_24 : decode b_Mod_behind 24 = .ok (.lload 9, 2) := by decide +kernel
theorem d_Mod_behind_26 : decode b_Mod_behind 26 = .ok (.lconst 1, 1) := by decide +kernel
theorem d_Mod_behind_27 : decode b_Mod_behind 27 = .ok (.ladd, 1) := by decide +kernel
theorem d_Mod_behind_28 : decode b_Mod_behind 28 = .ok (.lmul, 1) := by decide +kernel
theorem d_Mod_behind_29 : decode b_Mod_behind 29 = .ok (.lload 5, 2) := by decide +kernel
theorem d_Mod_behind_31 : decode b_Mod_behind 31 = .ok (.lsub, 1) := by decide +kernel
theorem d_Mod_behind_32 : decode b_Mod_behind 32 = .ok (.lstore 11, 2) := by decide +kernel
theorem d_Mod_behind_34 : decode b_Mod_behind 34 = .ok (.lload 9, 2) := by decide +kernel
theorem d_Mod_behind_36 : decode b_Mod_behind 36 = .ok (.ldc2_w 95, 3) := by decide +kernel
theorem d_Mod_behind_39 : decode b_Mod_behind 39 = .ok (.lcmp, 1) := by decide +kernel
theorem d_Mod_behind_40 : decode b_Mod_behind 40 = .ok (.ifCond .gt 24, 3) := by decide +kernel
theorem d_Mod_behind_43 : decode b_Mod_behind 43 = .ok (.aload_n 0, 1) := by decide +kernel
theorem d_Mod_behind_44 : decode b_Mod_behind 44 = .ok (.getfield 51, 3) := by decide +kernel
theorem d_Mod_behind_47 : decode b_Mod_behind 47 = .ok (.lload 9, 2) := by decide +kernel
theorem d_Mod_behind_49 : decode b_Mod_behind 49 = .ok (.l2i, 1) := by decide +kernel
theorem d_Mod_behind_50 : decode b_Mod_behind 50 = .ok (.baload, 1) := by decide +kernel
theorem d_Mod_behind_51 : decode b_Mod_behind 51 = .ok (.ifCond .eq 13, 3) := by decide +kernel
theorem d_Mod_behind_54 : decode b_Mod_behind 54 = .ok (.lload 5, 2) := by decide +kernel
theorem d_Mod_behind_56 : decode b_Mod_behind 56 = .ok (.lload 11, 2) := by decide +kernel
theorem d_Mod_behind_58 : decode b_Mod_behind 58 = .ok (.ladd, 1) := by decide +kernel
theorem d_Mod_behind_59 : decode b_Mod_behind 59 = .ok (.lstore 5, 2) := by decide +kernel
theorem d_Mod_behind_61 : decode b_Mod_behind 61 = .ok (.goto 34, 3) := by decide +kernel
theorem d_Mod_behind_64 : decode b_Mod_behind 64 = .ok (.lload 11, 2) := by decide +kernel
theorem d_Mod_behind_66 : decode b_Mod_behind 66 = .ok (.lload 7, 2) := by decide +kernel
theorem d_Mod_behind_68 : decode b_Mod_behind 68 = .ok (.lcmp, 1) := by decide +kernel
theorem d_Mod_behind_69 : decode b_Mod_behind 69 = .ok (.ifCond .ge 8, 3) := by decide +kernel
theorem d_Mod_behind_72 : decode b_Mod_behind 72 = .ok (.lload 11, 2) := by decide +kernel
theorem d_Mod_behind_74 : decode b_Mod_behind 74 = .ok (.goto 5, 3) := by decide +kernel
theorem d_Mod_behind_77 : decode b_Mod_behind 77 = .ok (.lload 7, 2) := by decide +kernel
theorem d_Mod_behind_79 : decode b_Mod_behind 79 = .ok (.lstore 13, 2) := by decide +kernel
theorem d_Mod_behind_81 : decode b_Mod_behind 81 = .ok (.lload 5, 2) := by decide +kernel
theorem d_Mod_behind_83 : decode b_Mod_behind 83 = .ok (.lload 13, 2) := by decide +kernel
theorem d_Mod_behind_85 : decode b_Mod_behind 85 = .ok (.ladd, 1) := by decide +kernel
theorem d_Mod_behind_86 : decode b_Mod_behind 86 = .ok (.lstore 5, 2) := by decide +kernel
theorem d_Mod_behind_88 : decode b_Mod_behind 88 = .ok (.lload 7, 2) := by decide +kernel
theorem d_Mod_behind_90 : decode b_Mod_behind 90 = .ok (.lload 13, 2) := by decide +kernel
theorem d_Mod_behind_92 : decode b_Mod_behind 92 = .ok (.lsub, 1) := by decide +kernel
theorem d_Mod_behind_93 : decode b_Mod_behind 93 = .ok (.lstore 7, 2) := by decide +kernel
theorem d_Mod_behind_95 : decode b_Mod_behind 95 = .ok (.goto (-89), 3) := by decide +kernel
theorem d_Mod_behind_98 : decode b_Mod_behind 98 = .ok (.lload 5, 2) := by decide +kernel
theorem d_Mod_behind_100 : decode b_Mod_behind 100 = .ok (.lreturn, 1) := by decide +kernel
theorem d_Mod_tick_0 : decode b_Mod_tick 0 = .ok (.aload_n 0, 1) := by decide +kernel
theorem d_Mod_tick_1 : decode b_Mod_tick 1 = .ok (.iconst 0, 1) := by decide +kernel
theorem d_Mod_tick_2 : decode b_Mod_tick 2 = .ok (.putfield 72, 3) := by decide +kernel
theorem d_Mod_tick_5 : decode b_Mod_tick 5 = .ok (.lload_n 1, 1) := by decide +kernel
theorem d_Mod_tick_6 : decode b_Mod_tick 6 = .ok (.aload_n 0, 1) := by decide +kernel
theorem d_Mod_tick_7 : decode b_Mod_tick 7 = .ok (.getfield 128, 3) := by decide +kernel
theorem d_Mod_tick_10 : decode b_Mod_tick 10 = .ok (.ldc2_w 132, 3) := by decide +kernel
theorem d_Mod_tick_13 : decode b_Mod_tick 13 = .ok (.invokestatic 78, 3) := by decide +kernel
theorem d_Mod_tick_16 : decode b_Mod_tick 16 = .ok (.ifCond .ne 6, 3) := by decide +kernel
theorem d_Mod_tick_19 : decode b_Mod_tick 19 = .ok (.bipush (-102), 2) := by decide +kernel
theorem d_Mod_tick_21 : decode b_Mod_tick 21 = .ok (.ireturn, 1) := by decide +kernel
theorem d_Mod_tick_22 : decode b_Mod_tick 22 = .ok (.aload_n 0, 1) := by decide +kernel
theorem d_Mod_tick_23 : decode b_Mod_tick 23 = .ok (.lload_n 1, 1) := by decide +kernel
theorem d_Mod_tick_24 : decode b_Mod_tick 24 = .ok (.putfield 128, 3) := by decide +kernel
theorem d_Mod_tick_27 : decode b_Mod_tick 27 = .ok (.aload_n 0, 1) := by decide +kernel
theorem d_Mod_tick_28 : decode b_Mod_tick 28 = .ok (.getfield 125, 3) := by decide +kernel
theorem d_Mod_tick_31 : decode b_Mod_tick 31 = .ok (.istore_n 3, 1) := by decide +kernel
theorem d_Mod_tick_32 : decode b_Mod_tick 32 = .ok (.iconst 0, 1) := by decide +kernel
theorem d_Mod_tick_33 : decode b_Mod_tick 33 = .ok (.istore 4, 2) := by decide +kernel
theorem d_Mod_tick_35 : decode b_Mod_tick 35 = .ok (.iload 4, 2) := by decide +kernel
theorem d_Mod_tick_37 : decode b_Mod_tick 37 = .ok (.sipush 200, 3) := by decide +kernel
theorem d_Mod_tick_40 : decode b_Mod_tick 40 = .ok (.if_icmp .ge 129, 3) := by decide +kernel
theorem d_Mod_tick_43 : decode b_Mod_tick 43 = .ok (.aload_n 0, 1) := by decide +kernel
theorem d_Mod_tick_44 : decode b_Mod_tick 44 = .ok (.getfield 36, 3) := by decide +kernel
theorem d_Mod_tick_47 : decode b_Mod_tick 47 = .ok (.iload 4, 2) := by decide +kernel
theorem d_Mod_tick_49 : decode b_Mod_tick 49 = .ok (.iaload, 1) := by decide +kernel
theorem d_Mod_tick_50 : decode b_Mod_tick 50 = .ok (.ifCond .le 59, 3) := by decide +kernel
theorem d_Mod_tick_53 : decode b_Mod_tick 53 = .ok (.aload_n 0, 1) := by decide +kernel
theorem d_Mod_tick_54 : decode b_Mod_tick 54 = .ok (.getfield 42, 3) := by decide +kernel
theorem d_Mod_tick_57 : decode b_Mod_tick 57 = .ok (.iload 4, 2) := by decide +kernel
theorem d_Mod_tick_59 : decode b_Mod_tick 59 = .ok (.laload, 1) := by decide +kernel
theorem d_Mod_tick_60 : decode b_Mod_tick 60 = .ok (.aload_n 0, 1) := by decide +kernel
theorem d_Mod_tick_61 : decode b_Mod_tick 61 = .ok (.getfield 128, 3) := by decide +kernel
theorem d_Mod_tick_64 : decode b_Mod_tick 64 = .ok (.lcmp, 1) := by decide +kernel
theorem d_Mod_tick_65 : decode b_Mod_tick 65 = .ok (.ifCond .ge 44, 3) := by decide +kernel
theorem d_Mod_tick_68 : decode b_Mod_tick 68 = .ok (.aload_n 0, 1) := by decide +kernel
theorem d_Mod_tick_69 : decode b_Mod_tick 69 = .ok (.getfield 45, 3) := by decide +kernel
theorem d_Mod_tick_72 : decode b_Mod_tick 72 = .ok (.iload 4, 2) := by decide +kernel
theorem d_Mod_tick_74 : decode b_Mod_tick 74 = .ok (.baload, 1) := by decide +kernel
theorem d_Mod_tick_75 : decode b_Mod_tick 75 = .ok (.ifCond .ne 34, 3) := by decide +kernel
theorem d_Mod_tick_78 : decode b_Mod_tick 78 = .ok (.aload_n 0, 1) := by decide +kernel
theorem d_Mod_tick_79 : decode b_Mod_tick 79 = .ok (.getfield 45, 3) := by decide +kernel
theorem d_Mod_tick_82 : decode b_Mod_tick 82 = .ok (.iload 4, 2) := by decide +kernel
theorem d_Mod_tick_84 : decode b_Mod_tick 84 = .ok (.iconst 1, 1) := by decide +kernel
theorem d_Mod_tick_85 : decode b_Mod_tick 85 = .ok (.bastore, 1) := by decide +kernel
theorem d_Mod_tick_86 : decode b_Mod_tick 86 = .ok (.aload_n 0, 1) := by decide +kernel
theorem d_Mod_tick_87 : decode b_Mod_tick 87 = .ok (.getfield 60, 3) := by decide +kernel
theorem d_Mod_tick_90 : decode b_Mod_tick 90 = .ok (.aload_n 0, 1) := by decide +kernel
theorem d_Mod_tick_91 : decode b_Mod_tick 91 = .ok (.getfield 39, 3) := by decide +kernel
theorem d_Mod_tick_94 : decode b_Mod_tick 94 = .ok (.iload 4, 2) := by decide +kernel
theorem d_Mod_tick_96 : decode b_Mod_tick 96 = .ok (.iaload, 1) := by decide +kernel
theorem d_Mod_tick_97 : decode b_Mod_tick 97 = .ok (.dup2, 1) := by decide +kernel
theorem d_Mod_tick_98 : decode b_Mod_tick 98 = .ok (.iaload, 1) := by decide +kernel
theorem d_Mod_tick_99 : decode b_Mod_tick 99 = .ok (.iconst 1, 1) := by decide +kernel
theorem d_Mod_tick_100 : decode b_Mod_tick 100 = .ok (.iadd, 1) := by decide +kernel
theorem d_Mod_tick_101 : decode b_Mod_tick 101 = .ok (.iastore, 1) := by decide +kernel
theorem d_Mod_tick_102 : decode b_Mod_tick 102 = .ok (.aload_n 0, 1) := by decide +kernel
theorem d_Mod_tick_103 : decode b_Mod_tick 103 = .ok (.iload 4, 2) := by decide +kernel
theorem d_Mod_tick_105 : decode b_Mod_tick 105 = .ok (.iconst 1, 1) := by decide +kernel
theorem d_Mod_tick_106 : decode b_Mod_tick 106 = .ok (.invokevirtual 134, 3) := by decide +kernel
theorem d_Mod_tick_109 : decode b_Mod_tick 109 = .ok (.aload_n 0, 1) := by decide +kernel
theorem d_Mod_tick_110 : decode b_Mod_tick 110 = .ok (.getfield 36, 3) := by decide +kernel
theorem d_Mod_tick_113 : decode b_Mod_tick 113 = .ok (.iload 4, 2) := by decide +kernel
theorem d_Mod_tick_115 : decode b_Mod_tick 115 = .ok (.iaload, 1) := by decide +kernel
theorem d_Mod_tick_116 : decode b_Mod_tick 116 = .ok (.ifCond .le 47, 3) := by decide +kernel
theorem d_Mod_tick_119 : decode b_Mod_tick 119 = .ok (.aload_n 0, 1) := by decide +kernel
theorem d_Mod_tick_120 : decode b_Mod_tick 120 = .ok (.getfield 42, 3) := by decide +kernel
theorem d_Mod_tick_123 : decode b_Mod_tick 123 = .ok (.iload 4, 2) := by decide +kernel
theorem d_Mod_tick_125 : decode b_Mod_tick 125 = .ok (.laload, 1) := by decide +kernel
theorem d_Mod_tick_126 : decode b_Mod_tick 126 = .ok (.ldc2_w 138, 3) := by decide +kernel
theorem d_Mod_tick_129 : decode b_Mod_tick 129 = .ok (.ladd, 1) := by decide +kernel
theorem d_Mod_tick_130 : decode b_Mod_tick 130 = .ok (.aload_n 0, 1) := by decide +kernel
theorem d_Mod_tick_131 : decode b_Mod_tick 131 = .ok (.getfield 128, 3) := by decide +kernel
theorem d_Mod_tick_134 : decode b_Mod_tick 134 = .ok (.lcmp, 1) := by decide +kernel
theorem d_Mod_tick_135 : decode b_Mod_tick 135 = .ok (.ifCond .ge 28, 3) := by decide +kernel
theorem d_Mod_tick_138 : decode b_Mod_tick 138 = .ok (.aload_n 0, 1) := by decide +kernel
theorem d_Mod_tick_139 : decode b_Mod_tick 139 = .ok (.getfield 48, 3) := by decide +kernel
theorem d_Mod_tick_142 : decode b_Mod_tick 142 = .ok (.iload 4, 2) := by decide +kernel
theorem d_Mod_tick_144 : decode b_Mod_tick 144 = .ok (.baload, 1) := by decide +kernel
theorem d_Mod_tick_145 : decode b_Mod_tick 145 = .ok (.ifCond .ne 18, 3) := by decide +kernel
theorem d_Mod_tick_148 : decode b_Mod_tick 148 = .ok (.aload_n 0, 1) := by decide +kernel
theorem d_Mod_tick_149 : decode b_Mod_tick 149 = .ok (.getfield 48, 3) := by decide +kernel
theorem d_Mod_tick_152 : decode b_Mod_tick 152 = .ok (.iload 4, 2) := by decide +kernel
theorem d_Mod_tick_154 : decode b_Mod_tick 154 = .ok (.iconst 1, 1) := by decide +kernel
theorem d_Mod_tick_155 : decode b_Mod_tick 155 = .ok (.bastore, 1) := by decide +kernel
theorem d_Mod_tick_156 : decode b_Mod_tick 156 = .ok (.aload_n 0, 1) := by decide +kernel
theorem d_Mod_tick_157 : decode b_Mod_tick 157 = .ok (.iload 4, 2) := by decide +kernel
theorem d_Mod_tick_159 : decode b_Mod_tick 159 = .ok (.iconst 2, 1) := by decide +kernel
theorem d_Mod_tick_160 : decode b_Mod_tick 160 = .ok (.invokevirtual 134, 3) := by decide +kernel
theorem d_Mod_tick_163 : decode b_Mod_tick 163 = .ok (.iinc 4 1, 3) := by decide +kernel
theorem d_Mod_tick_166 : decode b_Mod_tick 166 = .ok (.goto (-131), 3) := by decide +kernel
theorem d_Mod_tick_169 : decode b_Mod_tick 169 = .ok (.aload_n 0, 1) := by decide +kernel
theorem d_Mod_tick_170 : decode b_Mod_tick 170 = .ok (.getfield 125, 3) := by decide +kernel
theorem d_Mod_tick_173 : decode b_Mod_tick 173 = .ok (.iload_n 3, 1) := by decide +kernel
theorem d_Mod_tick_174 : decode b_Mod_tick 174 = .ok (.isub, 1) := by decide +kernel
theorem d_Mod_tick_175 : decode b_Mod_tick 175 = .ok (.ireturn, 1) := by decide +kernel
theorem d_Mod_tell_0 : decode b_Mod_tell 0 = .ok (.aload_n 0, 1) := by decide +kernel
theorem d_Mod_tell_1 : decode b_Mod_tell 1 = .ok (.getfield 125, 3) := by decide +kernel
theorem d_Mod_tell_4 : decode b_Mod_tell 4 = .ok (.sipush 400, 3) := by decide +kernel
theorem d_Mod_tell_7 : decode b_Mod_tell 7 = .ok (.if_icmp .ge 90, 3) := by decide +kernel
theorem d_Mod_tell_10 : decode b_Mod_tell 10 = .ok (.aload_n 0, 1) := by decide +kernel
theorem d_Mod_tell_11 : decode b_Mod_tell 11 = .ok (.getfield 54, 3) := by decide +kernel
theorem d_Mod_tell_14 : decode b_Mod_tell 14 = .ok (.iconst 5, 1) := by decide +kernel
theorem d_Mod_tell_15 : decode b_Mod_tell 15 = .ok (.aload_n 0, 1) := by decide +kernel
theorem d_Mod_tell_16 : decode b_Mod_tell 16 = .ok (.getfield 125, 3) := by decide +kernel
theorem d_Mod_tell_19 : decode b_Mod_tell 19 = .ok (.imul, 1) := by decide +kernel
theorem d_Mod_tell_20 : decode b_Mod_tell 20 = .ok (.iload_n 1, 1) := by decide +kernel
theorem d_Mod_tell_21 : decode b_Mod_tell 21 = .ok (.i2l, 1) := by decide +kernel
theorem d_Mod_tell_22 : decode b_Mod_tell 22 = .ok (.lastore, 1) := by decide +kernel
theorem d_Mod_tell_23 : decode b_Mod_tell 23 = .ok (.aload_n 0, 1) := by decide +kernel
theorem d_Mod_tell_24 : decode b_Mod_tell 24 = .ok (.getfield 54, 3) := by decide +kernel
theorem d_Mod_tell_27 : decode b_Mod_tell 27 = .ok (.iconst 5, 1) := by decide +kernel
theorem d_Mod_tell_28 : decode b_Mod_tell 28 = .ok (.aload_n 0, 1) := by decide +kernel
theorem d_Mod_tell_29 : decode b_Mod_tell 29 = .ok (.getfield 125, 3) := by decide +kernel
theorem d_Mod_tell_32 : decode b_Mod_tell 32 = .ok (.imul, 1) := by decide +kernel
theorem d_Mod_tell_33 : decode b_Mod_tell 33 = .ok (.iconst 1, 1) := by decide +kernel
theorem d_Mod_tell_34 : decode b_Mod_tell 34 = .ok (.iadd, 1) := by decide +kernel
theorem d_Mod_tell_35 : decode b_Mod_tell 35 = .ok (.iload_n 2, 1) := by decide +kernel
theorem d_Mod_tell_36 : decode b_Mod_tell 36 = .ok (.i2l, 1) := by decide +kernel
theorem d_Mod_tell_37 : decode b_Mod_tell 37 = .ok (.lastore, 1) := by decide +kernel
theorem d_Mod_tell_38 : decode b_Mod_tell 38 = .ok (.aload_n 0, 1) := by decide +kernel
theorem d_Mod_tell_39 : decode b_Mod_tell 39 = .ok (.getfield 54, 3) := by decide +kernel
theorem d_Mod_tell_42 : decode b_Mod_tell 42 = .ok (.iconst 5, 1) := by decide +kernel
theorem d_Mod_tell_43 : decode b_Mod_tell 43 = .ok (.aload_n 0, 1) := by decide +kernel
theorem d_Mod_tell_44 : decode b_Mod_tell 44 = .ok (.getfield 125, 3) := by decide +kernel
theorem d_Mod_tell_47 : decode b_Mod_tell 47 = .ok (.imul, 1) := by decide +kernel
theorem d_Mod_tell_48 : decode b_Mod_tell 48 = .ok (.iconst 2, 1) := by decide +kernel
theorem d_Mod_tell_49 : decode b_Mod_tell 49 = .ok (.iadd, 1) := by decide +kernel
theorem d_Mod_tell_50 : decode b_Mod_tell 50 = .ok (.aload_n 0, 1) := by decide +kernel
theorem d_Mod_tell_51 : decode b_Mod_tell 51 = .ok (.getfield 36, 3) := by decide +kernel
theorem d_Mod_tell_54 : decode b_Mod_tell 54 = .ok (.iload_n 1, 1) := by decide +kernel
theorem d_Mod_tell_55 : decode b_Mod_tell 55 = .ok (.iaload, 1) := by decide +kernel
theorem d_Mod_tell_56 : decode b_Mod_tell 56 = .ok (.i2l, 1) := by decide +kernel
theorem d_Mod_tell_57 : decode b_Mod_tell 57 = .ok (.lastore, 1) := by decide +kernel
theorem d_Mod_tell_58 : decode b_Mod_tell 58 = .ok (.aload_n 0, 1) := by decide +kernel
theorem d_Mod_tell_59 : decode b_Mod_tell 59 = .ok (.getfield 54, 3) := by decide +kernel
theorem d_Mod_tell_62 : decode b_Mod_tell 62 = .ok (.iconst 5, 1) := by decide +kernel
theorem d_Mod_tell_63 : decode b_Mod_tell 63 = .ok (.aload_n 0, 1) := by decide +kernel
theorem d_Mod_tell_64 : decode b_Mod_tell 64 = .ok (.getfield 125, 3) := by decide +kernel
theorem d_Mod_tell_67 : decode b_Mod_tell 67 = .ok (.imul, 1) := by decide +kernel
theorem d_Mod_tell_68 : decode b_Mod_tell 68 = .ok (.iconst 3, 1) := by decide +kernel
theorem d_Mod_tell_69 : decode b_Mod_tell 69 = .ok (.iadd, 1) := by decide +kernel
theorem d_Mod_tell_70 : decode b_Mod_tell 70 = .ok (.aload_n 0, 1) := by decide +kernel
theorem d_Mod_tell_71 : decode b_Mod_tell 71 = .ok (.getfield 39, 3) := by decide +kernel
theorem d_Mod_tell_74 : decode b_Mod_tell 74 = .ok (.iload_n 1, 1) := by decide +kernel
theorem d_Mod_tell_75 : decode b_Mod_tell 75 = .ok (.iaload, 1) := by decide +kernel
theorem d_Mod_tell_76 : decode b_Mod_tell 76 = .ok (.i2l, 1) := by decide +kernel
theorem d_Mod_tell_77 : decode b_Mod_tell 77 = .ok (.lastore, 1) := by decide +kernel
theorem d_Mod_tell_78 : decode b_Mod_tell 78 = .ok (.aload_n 0, 1) := by decide +kernel
theorem d_Mod_tell_79 : decode b_Mod_tell 79 = .ok (.getfield 54, 3) := by decide +kernel
theorem d_Mod_tell_82 : decode b_Mod_tell 82 = .ok (.iconst 5, 1) := by decide +kernel
theorem d_Mod_tell_83 : decode b_Mod_tell 83 = .ok (.aload_n 0, 1) := by decide +kernel
theorem d_Mod_tell_84 : decode b_Mod_tell 84 = .ok (.getfield 125, 3) := by decide +kernel
theorem d_Mod_tell_87 : decode b_Mod_tell 87 = .ok (.imul, 1) := by decide +kernel
theorem d_Mod_tell_88 : decode b_Mod_tell 88 = .ok (.iconst 4, 1) := by decide +kernel
theorem d_Mod_tell_89 : decode b_Mod_tell 89 = .ok (.iadd, 1) := by decide +kernel
theorem d_Mod_tell_90 : decode b_Mod_tell 90 = .ok (.aload_n 0, 1) := by decide +kernel
theorem d_Mod_tell_91 : decode b_Mod_tell 91 = .ok (.getfield 42, 3) := by decide +kernel
theorem d_Mod_tell_94 : decode b_Mod_tell 94 = .ok (.iload_n 1, 1) := by decide +kernel
theorem d_Mod_tell_95 : decode b_Mod_tell 95 = .ok (.laload, 1) := by decide +kernel
theorem d_Mod_tell_96 : decode b_Mod_tell 96 = .ok (.lastore, 1) := by decide +kernel
theorem d_Mod_tell_97 : decode b_Mod_tell 97 = .ok (.aload_n 0, 1) := by decide +kernel
theorem d_Mod_tell_98 : decode b_Mod_tell 98 = .ok (.dup, 1) := by decide +kernel
theorem d_Mod_tell_99 : decode b_Mod_tell 99 = .ok (.getfield 125, 3) := by decide +kernel
theorem d_Mod_tell_102 : decode b_Mod_tell 102 = .ok (.iconst 1, 1) := by decide +kernel
theorem d_Mod_tell_103 : decode b_Mod_tell 103 = .ok (.iadd, 1) := by decide +kernel
theorem d_Mod_tell_104 : decode b_Mod_tell 104 = .ok (.putfield 125, 3) := by decide +kernel
theorem d_Mod_tell_107 : decode b_Mod_tell 107 = .ok (.return_, 1) := by decide +kernel
theorem d_Mod_alarm_0 : decode b_Mod_alarm 0 = .ok (.aload_n 0, 1) := by decide +kernel
theorem d_Mod_alarm_1 : decode b_Mod_alarm 1 = .ok (.iconst 0, 1) := by decide +kernel
theorem d_Mod_alarm_2 : decode b_Mod_alarm 2 = .ok (.putfield 72, 3) := by decide +kernel
theorem d_Mod_alarm_5 : decode b_Mod_alarm 5 = .ok (.iload_n 1, 1) := by decide +kernel
theorem d_Mod_alarm_6 : decode b_Mod_alarm 6 = .ok (.ifCond .lt 27, 3) := by decide +kernel
theorem d_Mod_alarm_9 : decode b_Mod_alarm 9 = .ok (.iload_n 1, 1) := by decide +kernel
theorem d_Mod_alarm_10 : decode b_Mod_alarm 10 = .ok (.aload_n 0, 1) := by decide +kernel
theorem d_Mod_alarm_11 : decode b_Mod_alarm 11 = .ok (.getfield 125, 3) := by decide +kernel
theorem d_Mod_alarm_14 : decode b_Mod_alarm 14 = .ok (.if_icmp .ge 19, 3) := by decide +kernel
theorem d_Mod_alarm_17 : decode b_Mod_alarm 17 = .ok (.iload_n 1, 1) := by decide +kernel
theorem d_Mod_alarm_18 : decode b_Mod_alarm 18 = .ok (.sipush 399, 3) := by decide +kernel
theorem d_Mod_alarm_21 : decode b_Mod_alarm 21 = .ok (.if_icmp .gt 12, 3) := by decide +kernel
theorem d_Mod_alarm_24 : decode b_Mod_alarm 24 = .ok (.iload_n 2, 1) := by decide +kernel
theorem d_Mod_alarm_25 : decode b_Mod_alarm 25 = .ok (.ifCond .lt 8, 3) := by decide +kernel
theorem d_Mod_alarm_28 : decode b_Mod_alarm 28 = .ok (.iload_n 2, 1) := by decide +kernel
theorem d_Mod_alarm_29 : decode b_Mod_alarm 29 = .ok (.iconst 4, 1) := by decide +kernel
theorem d_Mod_alarm_30 : decode b_Mod_alarm 30 = .ok (.if_icmp .le 7, 3) := by decide +kernel
theorem d_Mod_alarm_33 : decode b_Mod_alarm 33 = .ok (.iconst (-1), 1) := by decide +kernel
theorem d_Mod_alarm_34 : decode b_Mod_alarm 34 = .ok (.goto 14, 3) := by decide +kernel
theorem d_Mod_alarm_37 : decode b_Mod_alarm 37 = .ok (.aload_n 0, 1) := by decide +kernel
theorem d_Mod_alarm_38 : decode b_Mod_alarm 38 = .ok (.getfield 54, 3) := by decide +kernel
theorem d_Mod_alarm_41 : decode b_Mod_alarm 41 = .ok (.iconst 5, 1) := by decide +kernel
theorem d_Mod_alarm_42 : decode b_Mod_alarm 42 = .ok (.iload_n 1, 1) := by decide +kernel
theorem d_Mod_alarm_43 : decode b_Mod_alarm 43 = .ok (.imul, 1) := by decide +kernel
theorem d_Mod_alarm_44 : decode b_Mod_alarm 44 = .ok (.iload_n 2, 1) := by decide +kernel
theorem d_Mod_alarm_45 : decode b_Mod_alarm 45 = .ok (.iadd, 1) := by decide +kernel
theorem d_Mod_alarm_46 : decode b_Mod_alarm 46 = .ok (.laload, 1) := by decide +kernel
theorem d_Mod_alarm_47 : decode b_Mod_alarm 47 = .ok (.l2i, 1) := by decide +kernel
theorem d_Mod_alarm_48 : decode b_Mod_alarm 48 = .ok (.ireturn, 1) := by decide +kernel
theorem d_Mod_state_0 : decode b_Mod_state 0 = .ok (.aload_n 0, 1) := by decide +kernel
theorem d_Mod_state_1 : decode b_Mod_state 1 = .ok (.iconst 0, 1) := by decide +kernel
theorem d_Mod_state_2 : decode b_Mod_state 2 = .ok (.putfield 72, 3) := by decide +kernel
theorem d_Mod_state_5 : decode b_Mod_state 5 = .ok (.iload_n 1, 1) := by decide +kernel
theorem d_Mod_state_6 : decode b_Mod_state 6 = .ok (.i2l, 1) := by decide +kernel
theorem d_Mod_state_7 : decode b_Mod_state 7 = .ok (.lconst 0, 1) := by decide +kernel
theorem d_Mod_state_8 : decode b_Mod_state 8 = .ok (.ldc2_w 102, 3) := by decide +kernel
theorem d_Mod_state_11 : decode b_Mod_state 11 = .ok (.invokestatic 78, 3) := by decide +kernel
theorem d_Mod_state_14 : decode b_Mod_state 14 = .ok (.ifCond .ne 6, 3) := by decide +kernel
theorem d_Mod_state_17 : decode b_Mod_state 17 = .ok (.bipush (-101), 2) := by decide +kernel
theorem d_Mod_state_19 : decode b_Mod_state 19 = .ok (.ireturn, 1) := by decide +kernel
theorem d_Mod_state_20 : decode b_Mod_state 20 = .ok (.aload_n 0, 1) := by decide +kernel
theorem d_Mod_state_21 : decode b_Mod_state 21 = .ok (.getfield 27, 3) := by decide +kernel
theorem d_Mod_state_24 : decode b_Mod_state 24 = .ok (.iload_n 1, 1) := by decide +kernel
theorem d_Mod_state_25 : decode b_Mod_state 25 = .ok (.iaload, 1) := by decide +kernel
theorem d_Mod_state_26 : decode b_Mod_state 26 = .ok (.aload_n 0, 1) := by decide +kernel
theorem d_Mod_state_27 : decode b_Mod_state 27 = .ok (.getfield 48, 3) := by decide +kernel
theorem d_Mod_state_30 : decode b_Mod_state 30 = .ok (.iload_n 1, 1) := by decide +kernel
theorem d_Mod_state_31 : decode b_Mod_state 31 = .ok (.baload, 1) := by decide +kernel
theorem d_Mod_state_32 : decode b_Mod_state 32 = .ok (.ifCond .eq 9, 3) := by decide +kernel
theorem d_Mod_state_35 : decode b_Mod_state 35 = .ok (.sipush 200, 3) := by decide +kernel
theorem d_Mod_state_38 : decode b_Mod_state 38 = .ok (.goto 18, 3) := by decide +kernel
theorem d_Mod_state_41 : decode b_Mod_state 41 = .ok (.aload_n 0, 1) := by decide +kernel
theorem d_Mod_state_42 : decode b_Mod_state 42 = .ok (.getfield 45, 3) := by decide +kernel
theorem d_Mod_state_45 : decode b_Mod_state 45 = .ok (.iload_n 1, 1) := by decide +kernel
theorem d_Mod_state_46 : decode b_Mod_state 46 = .ok (.baload, 1) := by decide +kernel
theorem d_Mod_state_47 : decode b_Mod_state 47 = .ok (.ifCond .eq 8, 3) := by decide +kernel
theorem d_Mod_state_50 : decode b_Mod_state 50 = .ok (.bipush 100, 2) := by decide +kernel
theorem d_Mod_state_52 : decode b_Mod_state 52 = .ok (.goto 4, 3) := by decide +kernel
theorem d_Mod_state_55 : decode b_Mod_state 55 = .ok (.iconst 0, 1) := by decide +kernel
theorem d_Mod_state_56 : decode b_Mod_state 56 = .ok (.iadd, 1) := by decide +kernel
theorem d_Mod_state_57 : decode b_Mod_state 57 = .ok (.ireturn, 1) := by decide +kernel
theorem d_Mod_holiday_0 : decode b_Mod_holiday 0 = .ok (.aload_n 0, 1) := by decide +kernel
theorem d_Mod_holiday_1 : decode b_Mod_holiday 1 = .ok (.iconst 0, 1) := by decide +kernel
theorem d_Mod_holiday_2 : decode b_Mod_holiday 2 = .ok (.putfield 72, 3) := by decide +kernel
theorem d_Mod_holiday_5 : decode b_Mod_holiday 5 = .ok (.lload_n 1, 1) := by decide +kernel
theorem d_Mod_holiday_6 : decode b_Mod_holiday 6 = .ok (.lconst 0, 1) := by decide +kernel
theorem d_Mod_holiday_7 : decode b_Mod_holiday 7 = .ok (.ldc2_w 95, 3) := by decide +kernel
theorem d_Mod_holiday_10 : decode b_Mod_holiday 10 = .ok (.invokestatic 78, 3) := by decide +kernel
theorem d_Mod_holiday_13 : decode b_Mod_holiday 13 = .ok (.ifCond .ne 6, 3) := by decide +kernel
theorem d_Mod_holiday_16 : decode b_Mod_holiday 16 = .ok (.bipush (-102), 2) := by decide +kernel
theorem d_Mod_holiday_18 : decode b_Mod_holiday 18 = .ok (.ireturn, 1) := by decide +kernel
theorem d_Mod_holiday_19 : decode b_Mod_holiday 19 = .ok (.aload_n 0, 1) := by decide +kernel
theorem d_Mod_holiday_20 : decode b_Mod_holiday 20 = .ok (.getfield 51, 3) := by decide +kernel
theorem d_Mod_holiday_23 : decode b_Mod_holiday 23 = .ok (.lload_n 1, 1) := by decide +kernel
theorem d_Mod_holiday_24 : decode b_Mod_holiday 24 = .ok (.l2i, 1) := by decide +kernel
theorem d_Mod_holiday_25 : decode b_Mod_holiday 25 = .ok (.baload, 1) := by decide +kernel
theorem d_Mod_holiday_26 : decode b_Mod_holiday 26 = .ok (.ifCond .eq 5, 3) := by decide +kernel
theorem d_Mod_holiday_29 : decode b_Mod_holiday 29 = .ok (.iconst 0, 1) := by decide +kernel
theorem d_Mod_holiday_30 : decode b_Mod_holiday 30 = .ok (.ireturn, 1) := by decide +kernel
theorem d_Mod_holiday_31 : decode b_Mod_holiday 31 = .ok (.aload_n 0, 1) := by decide +kernel
theorem d_Mod_holiday_32 : decode b_Mod_holiday 32 = .ok (.getfield 140, 3) := by decide +kernel
theorem d_Mod_holiday_35 : decode b_Mod_holiday 35 = .ok (.bipush 100, 2) := by decide +kernel
theorem d_Mod_holiday_37 : decode b_Mod_holiday 37 = .ok (.if_icmp .ne 6, 3) := by decide +kernel
theorem d_Mod_holiday_40 : decode b_Mod_holiday 40 = .ok (.bipush (-104), 2) := by decide +kernel
theorem d_Mod_holiday_42 : decode b_Mod_holiday 42 = .ok (.ireturn, 1) := by decide +kernel
theorem d_Mod_holiday_43 : decode b_Mod_holiday 43 = .ok (.aload_n 0, 1) := by decide +kernel
theorem d_Mod_holiday_44 : decode b_Mod_holiday 44 = .ok (.getfield 51, 3) := by decide +kernel
theorem d_Mod_holiday_47 : decode b_Mod_holiday 47 = .ok (.lload_n 1, 1) := by decide +kernel
theorem d_Mod_holiday_48 : decode b_Mod_holiday 48 = .ok (.l2i, 1) := by decide +kernel
theorem d_Mod_holiday_49 : decode b_Mod_holiday 49 = .ok (.iconst 1, 1) := by decide +kernel
theorem d_Mod_holiday_50 : decode b_Mod_holiday 50 = .ok (.bastore, 1) := by decide +kernel
theorem d_Mod_holiday_51 : decode b_Mod_holiday 51 = .ok (.aload_n 0, 1) := by decide +kernel
theorem d_Mod_holiday_52 : decode b_Mod_holiday 52 = .ok (.dup, 1) := by decide +kernel
theorem d_Mod_holiday_53 : decode b_Mod_holiday 53 = .ok (.getfield 140, 3) := by decide +kernel
theorem d_Mod_holiday_56 : decode b_Mod_holiday 56 = .ok (.iconst 1, 1) := by decide +kernel
theorem d_Mod_holiday_57 : decode b_Mod_holiday 57 = .ok (.iadd, 1) := by decide +kernel
theorem d_Mod_holiday_58 : decode b_Mod_holiday 58 = .ok (.putfield 140, 3) := by decide +kernel
theorem d_Mod_holiday_61 : decode b_Mod_holiday 61 = .ok (.iconst 1, 1) := by decide +kernel
theorem d_Mod_holiday_62 : decode b_Mod_holiday 62 = .ok (.ireturn, 1) := by decide +kernel
theorem d_Mod_share_0 : decode b_Mod_share 0 = .ok (.aload_n 0, 1) := by decide +kernel
theorem d_Mod_share_1 : decode b_Mod_share 1 = .ok (.iconst 0, 1) := by decide +kernel
theorem d_Mod_share_2 : decode b_Mod_share 2 = .ok (.putfield 72, 3) := by decide +kernel
theorem d_Mod_share_5 : decode b_Mod_share 5 = .ok (.iload_n 1, 1) := by decide +kernel
theorem d_Mod_share_6 : decode b_Mod_share 6 = .ok (.i2l, 1) := by decide +kernel
theorem d_Mod_share_7 : decode b_Mod_share 7 = .ok (.lconst 0, 1) := by decide +kernel
theorem d_Mod_share_8 : decode b_Mod_share 8 = .ok (.ldc2_w 84, 3) := by decide +kernel
theorem d_Mod_share_11 : decode b_Mod_share 11 = .ok (.invokestatic 78, 3) := by decide +kernel
theorem d_Mod_share_14 : decode b_Mod_share 14 = .ok (.ifCond .ne 7, 3) := by decide +kernel
theorem d_Mod_share_17 : decode b_Mod_share 17 = .ok (.ldc2_w 143, 3) := by decide +kernel
theorem d_Mod_share_20 : decode b_Mod_share 20 = .ok (.lreturn, 1) := by decide +kernel
theorem d_Mod_share_21 : decode b_Mod_share 21 = .ok (.iload_n 2, 1) := by decide +kernel
theorem d_Mod_share_22 : decode b_Mod_share 22 = .ok (.ifCond .lt 8, 3) := by decide +kernel
theorem d_Mod_share_25 : decode b_Mod_share 25 = .ok (.iload_n 2, 1) := by decide +kernel
theorem d_Mod_share_26 : decode b_Mod_share 26 = .ok (.iconst 1, 1) := by decide +kernel
theorem d_Mod_share_27 : decode b_Mod_share 27 = .ok (.if_icmp .le 7, 3) := by decide +kernel
theorem d_Mod_share_30 : decode b_Mod_share 30 = .ok (.ldc2_w 145, 3) := by decide +kernel
theorem d_Mod_share_33 : decode b_Mod_share 33 = .ok (.lreturn, 1) := by decide +kernel
theorem d_Mod_share_34 : decode b_Mod_share 34 = .ok (.aload_n 0, 1) := by decide +kernel
theorem d_Mod_share_35 : decode b_Mod_share 35 = .ok (.getfield 57, 3) := by decide +kernel
theorem d_Mod_share_38 : decode b_Mod_share 38 = .ok (.iload_n 1, 1) := by decide +kernel
theorem d_Mod_share_39 : decode b_Mod_share 39 = .ok (.iaload, 1) := by decide +kernel
theorem d_Mod_share_40 : decode b_Mod_share 40 = .ok (.ifCond .ne 10, 3) := by decide +kernel
theorem d_Mod_share_43 : decode b_Mod_share 43 = .ok (.aload_n 0, 1) := by decide +kernel
theorem d_Mod_share_44 : decode b_Mod_share 44 = .ok (.iconst 1, 1) := by decide +kernel
theorem d_Mod_share_45 : decode b_Mod_share 45 = .ok (.putfield 72, 3) := by decide +kernel
theorem d_Mod_share_48 : decode b_Mod_share 48 = .ok (.lconst 0, 1) := by decide +kernel
theorem d_Mod_share_49 : decode b_Mod_share 49 = .ok (.lreturn, 1) := by decide +kernel
theorem d_Mod_share_50 : decode b_Mod_share 50 = .ok (.aload_n 0, 1) := by decide +kernel
theorem d_Mod_share_51 : decode b_Mod_share 51 = .ok (.getfield 57, 3) := by decide +kernel
theorem d_Mod_share_54 : decode b_Mod_share 54 = .ok (.iload_n 1, 1) := by decide +kernel
theorem d_Mod_share_55 : decode b_Mod_share 55 = .ok (.iaload, 1) := by decide +kernel
theorem d_Mod_share_56 : decode b_Mod_share 56 = .ok (.istore_n 3, 1) := by decide +kernel
theorem d_Mod_share_57 : decode b_Mod_share 57 = .ok (.aload_n 0, 1) := by decide +kernel
theorem d_Mod_share_58 : decode b_Mod_share 58 = .ok (.getfield 57, 3) := by decide +kernel
theorem d_Mod_share_61 : decode b_Mod_share 61 = .ok (.iload_n 1, 1) := by decide +kernel
theorem d_Mod_share_62 : decode b_Mod_share 62 = .ok (.iaload, 1) := by decide +kernel
theorem d_Mod_share_63 : decode b_Mod_share 63 = .ok (.iload_n 3, 1) := by decide +kernel
theorem d_Mod_share_64 : decode b_Mod_share 64 = .ok (.irem, 1) := by decide +kernel
theorem d_Mod_share_65 : decode b_Mod_share 65 = .ok (.ifCond .ne 14, 3) := by decide +kernel
theorem d_Mod_share_68 : decode b_Mod_share 68 = .ok (.aload_n 0, 1) := by decide +kernel
theorem d_Mod_share_69 : decode b_Mod_share 69 = .ok (.getfield 60, 3) := by decide +kernel
theorem d_Mod_share_72 : decode b_Mod_share 72 = .ok (.iload_n 1, 1) := by decide +kernel
theorem d_Mod_share_73 : decode b_Mod_share 73 = .ok (.iaload, 1) := by decide +kernel
theorem d_Mod_share_74 : decode b_Mod_share 74 = .ok (.iload_n 3, 1) := by decide +kernel
theorem d_Mod_share_75 : decode b_Mod_share 75 = .ok (.irem, 1) := by decide +kernel
theorem d_Mod_share_76 : decode b_Mod_share 76 = .ok (.ifCond .eq 9, 3) := by decide +kernel
theorem d_Mod_share_79 : decode b_Mod_share 79 = .ok (.iinc 3 (-1), 3) := by decide +kernel
theorem d_Mod_share_82 : decode b_Mod_share 82 = .ok (.goto (-25), 3) := by decide +kernel
theorem d_Mod_share_85 : decode b_Mod_share 85 = .ok (.iload_n 2, 1) := by decide +kernel
theorem d_Mod_share_86 : decode b_Mod_share 86 = .ok (.ifCond .ne 12, 3) := by decide +kernel
theorem d_Mod_share_89 : decode b_Mod_share 89 = .ok (.aload_n 0, 1) := by decide +kernel
theorem d_Mod_share_90 : decode b_Mod_share 90 = .ok (.getfield 60, 3) := by decide +kernel
theorem d_Mod_share_93 : decode b_Mod_share 93 = .ok (.iload_n 1, 1) := by decide +kernel
theorem d_Mod_share_94 : decode b_Mod_share 94 = .ok (.iaload, 1) := by decide +kernel
theorem d_Mod_share_95 : decode b_Mod_share 95 = .ok (.goto 9, 3) := by decide +kernel
theorem d_Mod_share_98 : decode b_Mod_share 98 = .ok (.aload_n 0, 1) := by decide +kernel
theorem d_Mod_share_99 : decode b_Mod_share 99 = .ok (.getfield 57, 3) := by decide +kernel
theorem d_Mod_share_102 : decode b_Mod_share 102 = .ok (.iload_n 1, 1) := by decide +kernel
theorem d_Mod_share_103 : decode b_Mod_share 103 = .ok (.iaload, 1) := by decide +kernel
theorem d_Mod_share_104 : decode b_Mod_share 104 = .ok (.iload_n 3, 1) := by decide +kernel
theorem d_Mod_share_105 : decode b_Mod_share 105 = .ok (.idiv, 1) := by decide +kernel
theorem d_Mod_share_106 : decode b_Mod_share 106 = .ok (.i2l, 1) := by decide +kernel
theorem d_Mod_share_107 : decode b_Mod_share 107 = .ok (.lreturn, 1) := by decide +kernel
theorem d_Mod_percentile_0 : decode b_Mod_percentile 0 = .ok (.aload_n 0, 1) := by decide +kernel
theorem d_Mod_percentile_1 : decode b_Mod_percentile 1 = .ok (.iconst 0, 1) := by decide +kernel
theorem d_Mod_percentile_2 : decode b_Mod_percentile 2 = .ok (.putfield 72, 3) := by decide +kernel
theorem d_Mod_percentile_5 : decode b_Mod_percentile 5 = .ok (.iload_n 1, 1) := by decide +kernel
theorem d_Mod_percentile_6 : decode b_Mod_percentile 6 = .ok (.i2l, 1) := by decide +kernel
theorem d_Mod_percentile_7 : decode b_Mod_percentile 7 = .ok (.lconst 0, 1) := by decide +kernel
theorem d_Mod_percentile_8 : decode b_Mod_percentile 8 = .ok (.ldc2_w 86, 3) := by decide +kernel
theorem d_Mod_percentile_11 : decode b_Mod_percentile 11 = .ok (.invokestatic 78, 3) := by decide +kernel
theorem d_Mod_percentile_14 : decode b_Mod_percentile 14 = .ok (.ifCond .eq 15, 3) := by decide +kernel
theorem d_Mod_percentile_17 : decode b_Mod_percentile 17 = .ok (.iload_n 2, 1) := by decide +kernel
theorem d_Mod_percentile_18 : decode b_Mod_percentile 18 = .ok (.i2l, 1) := by decide +kernel
theorem d_Mod_percentile_19 : decode b_Mod_percentile 19 = .ok (.lconst 0, 1) := by decide +kernel
theorem d_Mod_percentile_20 : decode b_Mod_percentile 20 = .ok (.ldc2_w 147, 3) := by decide +kernel
theorem d_Mod_percentile_23 : decode b_Mod_percentile 23 = .ok (.invokestatic 78, 3) := by decide +kernel
theorem d_Mod_percentile_26 : decode b_Mod_percentile 26 = .ok (.ifCond .ne 7, 3) := by decide +kernel
theorem d_Mod_percentile_29 : decode b_Mod_percentile 29 = .ok (.ldc2_w 145, 3) := by decide +kernel
theorem d_Mod_percentile_32 : decode b_Mod_percentile 32 = .ok (.lreturn, 1) := by decide +kernel
theorem d_Mod_percentile_33 : decode b_Mod_percentile 33 = .ok (.aload_n 0, 1) := by decide +kernel
theorem d_Mod_percentile_34 : decode b_Mod_percentile 34 = .ok (.getfield 63, 3) := by decide +kernel
theorem d_Mod_percentile_37 : decode b_Mod_percentile 37 = .ok (.iload_n 1, 1) := by decide +kernel
theorem d_Mod_percentile_38 : decode b_Mod_percentile 38 = .ok (.iaload, 1) := by decide +kernel
theorem d_Mod_percentile_39 : decode b_Mod_percentile 39 = .ok (.istore_n 3, 1) := by decide +kernel
theorem d_Mod_percentile_40 : decode b_Mod_percentile 40 = .ok (.iload_n 3, 1) := by decide +kernel
theorem d_Mod_percentile_41 : decode b_Mod_percentile 41 = .ok (.ifCond .ne 7, 3) := by decide +kernel
theorem d_Mod_percentile_44 : decode b_Mod_percentile 44 = .ok (.ldc2_w 82, 3) := by decide +kernel
theorem d_Mod_percentile_47 : decode b_Mod_percentile 47 = .ok (.lreturn, 1) := by decide +kernel
theorem d_Mod_percentile_48 : decode b_Mod_percentile 48 = .ok (.iload_n 3, 1) := by decide +kernel
theorem d_Mod_percentile_49 : decode b_Mod_percentile 49 = .ok (.iload_n 2, 1) := by decide +kernel
theorem d_Mod_percentile_50 : decode b_Mod_percentile 50 = .ok (.imul, 1) := by decide +kernel
theorem d_Mod_percentile_51 : decode b_Mod_percentile 51 = .ok (.sipush 999, 3) := by decide +kernel
theorem d_Mod_percentile_54 : decode b_Mod_percentile 54 = .ok (.iadd, 1) := by decide +kernel
theorem d_Mod_percentile_55 : decode b_Mod_percentile 55 = .ok (.sipush 1000, 3) := by decide +kernel
theorem d_Mod_percentile_58 : decode b_Mod_percentile 58 = .ok (.idiv, 1) := by decide +kernel
theorem d_Mod_percentile_59 : decode b_Mod_percentile 59 = .ok (.istore 4, 2) := by decide +kernel
theorem d_Mod_percentile_61 : decode b_Mod_percentile 61 = .ok (.iload 4, 2) := by decide +kernel
theorem d_Mod_percentile_63 : decode b_Mod_percentile 63 = .ok (.iconst 1, 1) := by decide +kernel
theorem d_Mod_percentile_64 : decode b_Mod_percentile 64 = .ok (.if_icmp .ge 7, 3) := by decide +kernel
theorem d_Mod_percentile_67 : decode b_Mod_percentile 67 = .ok (.iconst 1, 1) := by decide +kernel
theorem d_Mod_percentile_68 : decode b_Mod_percentile 68 = .ok (.goto 5, 3) := by decide +kernel
theorem d_Mod_percentile_71 : decode b_Mod_percentile 71 = .ok (.iload 4, 2) := by decide +kernel
theorem d_Mod_percentile_73 : decode b_Mod_percentile 73 = .ok (.istore 4, 2) := by decide +kernel
theorem d_Mod_percentile_75 : decode b_Mod_percentile 75 = .ok (.ldc 149, 2) := by decide +kernel
theorem d_Mod_percentile_77 : decode b_Mod_percentile 77 = .ok (.istore 5, 2) := by decide +kernel
theorem d_Mod_percentile_79 : decode b_Mod_percentile 79 = .ok (.iconst 0, 1) := by decide +kernel
theorem d_Mod_percentile_80 : decode b_Mod_percentile 80 = .ok (.istore 6, 2) := by decide +kernel
theorem d_Mod_percentile_82 : decode b_Mod_percentile 82 = .ok (.iload 6, 2) := by decide +kernel
theorem d_Mod_percentile_84 : decode b_Mod_percentile 84 = .ok (.iload_n 3, 1) := by decide +kernel
theorem d_Mod_percentile_85 : decode b_Mod_percentile 85 = .ok (.if_icmp .ge 94, 3) := by decide +kernel
theorem d_Mod_percentile_88 : decode b_Mod_percentile 88 = .ok (.aload_n 0, 1) := by decide +kernel
theorem d_Mod_percentile_89 : decode b_Mod_percentile 89 = .ok (.getfield 66, 3) := by decide +kernel
theorem d_Mod_percentile_92 : decode b_Mod_percentile 92 = .ok (.sipush 4200, 3) := by decide +kernel
theorem d_Mod_percentile_95 : decode b_Mod_percentile 95 = .ok (.iload_n 1, 1) := by decide +kernel
theorem d_Mod_percentile_96 : decode b_Mod_percentile 96 = .ok (.imul, 1) := by decide +kernel
theorem d_Mod_percentile_97 : decode b_Mod_percentile 97 = .ok (.iload 6, 2) := by decide +kernel
theorem d_Mod_percentile_99 : decode b_Mod_percentile 99 = .ok (.iadd, 1) := by decide +kernel
theorem d_Mod_percentile_100 : decode b_Mod_percentile 100 = .ok (.iaload, 1) := by decide +kernel
theorem d_Mod_percentile_101 : decode b_Mod_percentile 101 = .ok (.istore 7, 2) := by decide +kernel
theorem d_Mod_percentile_103 : decode b_Mod_percentile 103 = .ok (.iconst 0, 1) := by decide +kernel
theorem d_Mod_percentile_104 : decode b_Mod_percentile 104 = .ok (.istore 8, 2) := by decide +kernel
theorem d_Mod_percentile_106 : decode b_Mod_percentile 106 = .ok (.iconst 0, 1) := by decide +kernel
theorem d_Mod_percentile_107 : decode b_Mod_percentile 107 = .ok (.istore 9, 2) := by decide +kernel
theorem d_Mod_percentile_109 : decode b_Mod_percentile 109 = .ok (.iload 9, 2) := by decide +kernel
theorem d_Mod_percentile_111 : decode b_Mod_percentile 111 = .ok (.iload_n 3, 1) := by decide +kernel
theorem d_Mod_percentile_112 : decode b_Mod_percentile 112 = .ok (.if_icmp .ge 38, 3) := by decide +kernel
theorem d_Mod_percentile_115 : decode b_Mod_percentile 115 = .ok (.aload_n 0, 1) := by decide +kernel
theorem d_Mod_percentile_116 : decode b_Mod_percentile 116 = .ok (.getfield 66, 3) := by decide +kernel
theorem d_Mod_percentile_119 : decode b_Mod_percentile 119 = .ok (.sipush 4200, 3) := by decide +kernel
theorem d_Mod_percentile_122 : decode b_Mod_percentile 122 = .ok (.iload_n 1, 1) := by decide +kernel
theorem d_Mod_percentile_123 : decode b_Mod_percentile 123 = .ok (.imul, 1) := by decide +kernel
theorem d_Mod_percentile_124 : decode b_Mod_percentile 124 = .ok (.iload 9, 2) := by decide +kernel
theorem d_Mod_percentile_126 : decode b_Mod_percentile 126 = .ok (.iadd, 1) := by decide +kernel
theorem d_Mod_percentile_127 : decode b_Mod_percentile 127 = .ok (.iaload, 1) := by decide +kernel
theorem d_Mod_percentile_128 : decode b_Mod_percentile 128 = .ok (.iload 7, 2) := by decide +kernel
theorem d_Mod_percentile_130 : decode b_Mod_percentile 130 = .ok (.if_icmp .gt 10, 3) := by decide +kernel
theorem d_Mod_percentile_133 : decode b_Mod_percentile 133 = .ok (.iload 8, 2) := by decide +kernel
theorem d_Mod_percentile_135 : decode b_Mod_percentile 135 = .ok (.iconst 1, 1) := by decide +kernel
theorem d_Mod_percentile_136 : decode b_Mod_percentile 136 = .ok (.iadd, 1) := by decide +kernel
theorem d_Mod_percentile_137 : decode b_Mod_percentile 137 = .ok (.goto 5, 3) := by decide +kernel
theorem d_Mod_percentile_140 : decode b_Mod_percentile 140 = .ok (.iload 8, 2) := by decide +kernel
theorem d_Mod_percentile_142 : decode b_Mod_percentile 142 = .ok (.istore 8, 2) := by decide +kernel
theorem d_Mod_percentile_144 : decode b_Mod_percentile 144 = .ok (.iinc 9 1, 3) := by decide +kernel
theorem d_Mod_percentile_147 : decode b_Mod_percentile 147 = .ok (.goto (-38), 3) := by decide +kernel
theorem d_Mod_percentile_150 : decode b_Mod_percentile 150 = .ok (.iload 8, 2) := by decide +kernel
theorem d_Mod_percentile_152 : decode b_Mod_percentile 152 = .ok (.iload 4, 2) := by decide +kernel
theorem d_Mod_percentile_154 : decode b_Mod_percentile 154 = .ok (.if_icmp .lt 15, 3) := by decide +kernel
theorem d_Mod_percentile_157 : decode b_Mod_percentile 157 = .ok (.iload 7, 2) := by decide +kernel
theorem d_Mod_percentile_159 : decode b_Mod_percentile 159 = .ok (.iload 5, 2) := by decide +kernel
theorem d_Mod_percentile_161 : decode b_Mod_percentile 161 = .ok (.if_icmp .ge 8, 3) := by decide +kernel
theorem d_Mod_percentile_164 : decode b_Mod_percentile 164 = .ok (.iload 7, 2) := by decide +kernel
theorem d_Mod_percentile_166 : decode b_Mod_percentile 166 = .ok (.goto 5, 3) := by decide +kernel
theorem d_Mod_percentile_169 : decode b_Mod_percentile 169 = .ok (.iload 5, 2) := by decide +kernel
theorem d_Mod_percentile_171 : decode b_Mod_percentile 171 = .ok (.istore 5, 2) := by decide +kernel
theorem d_Mod_percentile_173 : decode b_Mod_percentile 173 = .ok (.iinc 6 1, 3) := by decide +kernel
theorem d_Mod_percentile_176 : decode b_Mod_percentile 176 = .ok (.goto (-94), 3) := by decide +kernel
theorem d_Mod_percentile_179 : decode b_Mod_percentile 179 = .ok (.iload 5, 2) := by decide +kernel
theorem d_Mod_percentile_181 : decode b_Mod_percentile 181 = .ok (.i2l, 1) := by decide +kernel
theorem d_Mod_percentile_182 : decode b_Mod_percentile 182 = .ok (.lreturn, 1) := by decide +kernel
theorem d_Mod_found_0 : decode b_Mod_found 0 = .ok (.aload_n 0, 1) := by decide +kernel
theorem d_Mod_found_1 : decode b_Mod_found 1 = .ok (.iconst 0, 1) := by decide +kernel
theorem d_Mod_found_2 : decode b_Mod_found 2 = .ok (.putfield 72, 3) := by decide +kernel
theorem d_Mod_found_5 : decode b_Mod_found 5 = .ok (.iload_n 1, 1) := by decide +kernel
theorem d_Mod_found_6 : decode b_Mod_found 6 = .ok (.i2l, 1) := by decide +kernel
theorem d_Mod_found_7 : decode b_Mod_found 7 = .ok (.lconst 0, 1) := by decide +kernel
theorem d_Mod_found_8 : decode b_Mod_found 8 = .ok (.ldc2_w 102, 3) := by decide +kernel
theorem d_Mod_found_11 : decode b_Mod_found 11 = .ok (.invokestatic 78, 3) := by decide +kernel
theorem d_Mod_found_14 : decode b_Mod_found 14 = .ok (.ifCond .ne 6, 3) := by decide +kernel
theorem d_Mod_found_17 : decode b_Mod_found 17 = .ok (.bipush (-101), 2) := by decide +kernel
theorem d_Mod_found_19 : decode b_Mod_found 19 = .ok (.ireturn, 1) := by decide +kernel
theorem d_Mod_found_20 : decode b_Mod_found 20 = .ok (.aload_n 0, 1) := by decide +kernel
theorem d_Mod_found_21 : decode b_Mod_found 21 = .ok (.iload_n 1, 1) := by decide +kernel
theorem d_Mod_found_22 : decode b_Mod_found 22 = .ok (.lload_n 2, 1) := by decide +kernel
theorem d_Mod_found_23 : decode b_Mod_found 23 = .ok (.invokevirtual 106, 3) := by decide +kernel
theorem d_Mod_found_26 : decode b_Mod_found 26 = .ok (.ifCond .ne 6, 3) := by decide +kernel
theorem d_Mod_found_29 : decode b_Mod_found 29 = .ok (.bipush (-102), 2) := by decide +kernel
theorem d_Mod_found_31 : decode b_Mod_found 31 = .ok (.ireturn, 1) := by decide +kernel
theorem d_Mod_found_32 : decode b_Mod_found 32 = .ok (.aload_n 0, 1) := by decide +kernel
theorem d_Mod_found_33 : decode b_Mod_found 33 = .ok (.getfield 48, 3) := by decide +kernel
theorem d_Mod_found_36 : decode b_Mod_found 36 = .ok (.iload_n 1, 1) := by decide +kernel
theorem d_Mod_found_37 : decode b_Mod_found 37 = .ok (.baload, 1) := by decide +kernel
theorem d_Mod_found_38 : decode b_Mod_found 38 = .ok (.ifCond .ne 5, 3) := by decide +kernel
theorem d_Mod_found_41 : decode b_Mod_found 41 = .ok (.iconst 0, 1) := by decide +kernel
theorem d_Mod_found_42 : decode b_Mod_found 42 = .ok (.ireturn, 1) := by decide +kernel
theorem d_Mod_found_43 : decode b_Mod_found 43 = .ok (.aload_n 0, 1) := by decide +kernel
theorem d_Mod_found_44 : decode b_Mod_found 44 = .ok (.iload_n 1, 1) := by decide +kernel
theorem d_Mod_found_45 : decode b_Mod_found 45 = .ok (.invokevirtual 110, 3) := by decide +kernel
theorem d_Mod_found_48 : decode b_Mod_found 48 = .ok (.aload_n 0, 1) := by decide +kernel
theorem d_Mod_found_49 : decode b_Mod_found 49 = .ok (.getfield 33, 3) := by decide +kernel
theorem d_Mod_found_52 : decode b_Mod_found 52 = .ok (.iload_n 1, 1) := by decide +kernel
theorem d_Mod_found_53 : decode b_Mod_found 53 = .ok (.lload_n 2, 1) := by decide +kernel
theorem d_Mod_found_54 : decode b_Mod_found 54 = .ok (.lastore, 1) := by decide +kernel
theorem d_Mod_found_55 : decode b_Mod_found 55 = .ok (.iconst 1, 1) := by decide +kernel
theorem d_Mod_found_56 : decode b_Mod_found 56 = .ok (.ireturn, 1) := by decide +kernel
theorem d_Mod_cluster_0 : decode b_Mod_cluster 0 = .ok (.aload_n 0, 1) := by decide +kernel
theorem d_Mod_cluster_1 : decode b_Mod_cluster 1 = .ok (.iconst 0, 1) := by decide +kernel
theorem d_Mod_cluster_2 : decode b_Mod_cluster 2 = .ok (.putfield 72, 3) := by decide +kernel
theorem d_Mod_cluster_5 : decode b_Mod_cluster 5 = .ok (.iconst (-1), 1) := by decide +kernel
theorem d_Mod_cluster_6 : decode b_Mod_cluster 6 = .ok (.istore_n 3, 1) := by decide +kernel
theorem d_Mod_cluster_7 : decode b_Mod_cluster 7 = .ok (.iconst 0, 1) := by decide +kernel
theorem d_Mod_cluster_8 : decode b_Mod_cluster 8 = .ok (.istore 4, 2) := by decide +kernel
theorem d_Mod_cluster_10 : decode b_Mod_cluster 10 = .ok (.iload 4, 2) := by decide +kernel
theorem d_Mod_cluster_12 : decode b_Mod_cluster 12 = .ok (.iload_n 1, 1) := by decide +kernel
theorem d_Mod_cluster_13 : decode b_Mod_cluster 13 = .ok (.if_icmp .gt 111, 3) := by decide +kernel
theorem d_Mod_cluster_16 : decode b_Mod_cluster 16 = .ok (.iload_n 2, 1) := by decide +kernel
theorem d_Mod_cluster_17 : decode b_Mod_cluster 17 = .ok (.ifCond .lt 107, 3) := by decide +kernel
theorem d_Mod_cluster_20 : decode b_Mod_cluster 20 = .ok (.iload_n 2, 1) := by decide +kernel
theorem d_Mod_cluster_21 : decode b_Mod_cluster 21 = .ok (.iconst 3, 1) := by decide +kernel
theorem d_Mod_cluster_22 : decode b_Mod_cluster 22 = .ok (.if_icmp .ge 102, 3) := by decide +kernel
theorem d_Mod_cluster_25 : decode b_Mod_cluster 25 = .ok (.iload 4, 2) := by decide +kernel
theorem d_Mod_cluster_27 : decode b_Mod_cluster 27 = .ok (.ifCond .eq 7, 3) := by decide +kernel
theorem d_Mod_cluster_30 : decode b_Mod_cluster 30 = .ok (.iload_n 3, 1) := by decide +kernel
theorem d_Mod_cluster_31 : decode b_Mod_cluster 31 = .ok (.ifCond .lt 93, 3) := by decide +kernel
theorem d_Mod_cluster_34 : decode b_Mod_cluster 34 = .ok (.iconst (-1), 1) := by decide +kernel
theorem d_Mod_cluster_35 : decode b_Mod_cluster 35 = .ok (.istore 5, 2) := by decide +kernel
theorem d_Mod_cluster_37 : decode b_Mod_cluster 37 = .ok (.iconst 0, 1) := by decide +kernel
theorem d_Mod_cluster_38 : decode b_Mod_cluster 38 = .ok (.istore 6, 2) := by decide +kernel
theorem d_Mod_cluster_40 : decode b_Mod_cluster 40 = .ok (.iload 6, 2) := by decide +kernel
theorem d_Mod_cluster_42 : decode b_Mod_cluster 42 = .ok (.bipush 50, 2) := by decide +kernel
theorem d_Mod_cluster_44 : decode b_Mod_cluster 44 = .ok (.if_icmp .ge 71, 3) := by decide +kernel
theorem d_Mod_cluster_47 : decode b_Mod_cluster 47 = .ok (.aload_n 0, 1) := by decide +kernel
theorem d_Mod_cluster_48 : decode b_Mod_cluster 48 = .ok (.getfield 60, 3) := by decide +kernel
theorem d_Mod_cluster_51 : decode b_Mod_cluster 51 = .ok (.iload 6, 2) := by decide +kernel
theorem d_Mod_cluster_53 : decode b_Mod_cluster 53 = .ok (.iaload, 1) := by decide +kernel
theorem d_Mod_cluster_54 : decode b_Mod_cluster 54 = .ok (.iconst 2, 1) := by decide +kernel
theorem d_Mod_cluster_55 : decode b_Mod_cluster 55 = .ok (.if_icmp .le 21, 3) := by decide +kernel
theorem d_Mod_cluster_58 : decode b_Mod_cluster 58 = .ok (.iload_n 3, 1) := by decide +kernel
theorem d_Mod_cluster_59 : decode b_Mod_cluster 59 = .ok (.ifCond .lt 13, 3) := by decide +kernel
theorem d_Mod_cluster_62 : decode b_Mod_cluster 62 = .ok (.aload_n 0, 1) := by decide +kernel
theorem d_Mod_cluster_63 : decode b_Mod_cluster 63 = .ok (.iload_n 3, 1) := by decide +kernel
theorem d_Mod_cluster_64 : decode b_Mod_cluster 64 = .ok (.iload 6, 2) := by decide +kernel
theorem d_Mod_cluster_66 : decode b_Mod_cluster 66 = .ok (.invokevirtual 150, 3) := by decide +kernel
theorem d_Mod_cluster_69 : decode b_Mod_cluster 69 = .ok (.ifCond .eq 7, 3) := by decide +kernel
theorem d_Mod_cluster_72 : decode b_Mod_cluster 72 = .ok (.iconst 1, 1) := by decide +kernel
theorem d_Mod_cluster_73 : decode b_Mod_cluster 73 = .ok (.goto 4, 3) := by decide +kernel
theorem d_Mod_cluster_76 : decode b_Mod_cluster 76 = .ok (.iconst 0, 1) := by decide +kernel
theorem d_Mod_cluster_77 : decode b_Mod_cluster 77 = .ok (.istore 7, 2) := by decide +kernel
theorem d_Mod_cluster_79 : decode b_Mod_cluster 79 = .ok (.iload 7, 2) := by decide +kernel
theorem d_Mod_cluster_81 : decode b_Mod_cluster 81 = .ok (.ifCond .eq 24, 3) := by decide +kernel
theorem d_Mod_cluster_84 : decode b_Mod_cluster 84 = .ok (.iload 5, 2) := by decide +kernel
theorem d_Mod_cluster_86 : decode b_Mod_cluster 86 = .ok (.ifCond .lt 14, 3) := by decide +kernel
theorem d_Mod_cluster_89 : decode b_Mod_cluster 89 = .ok (.aload_n 0, 1) := by decide +kernel
theorem d_Mod_cluster_90 : decode b_Mod_cluster 90 = .ok (.iload 6, 2) := by decide +kernel
theorem d_Mod_cluster_92 : decode b_Mod_cluster 92 = .ok (.iload 5, 2) := by decide +kernel
theorem d_Mod_cluster_94 : decode b_Mod_cluster 94 = .ok (.invokevirtual 150, 3) := by decide +kernel
theorem d_Mod_cluster_97 : decode b_Mod_cluster 97 = .ok (.ifCond .eq 8, 3) := by decide +kernel
theorem d_Mod_cluster_100 : decode b_Mod_cluster 100 = .ok (.iload 6, 2) := by decide +kernel
theorem d_Mod_cluster_102 : decode b_Mod_cluster 102 = .ok (.goto 5, 3) := by decide +kernel
theorem d_Mod_cluster_105 : decode b_Mod_cluster 105 = .ok (.iload 5, 2) := by decide +kernel
theorem d_Mod_cluster_107 : decode b_Mod_cluster 107 = .ok (.istore 5, 2) := by decide +kernel
theorem d_Mod_cluster_109 : decode b_Mod_cluster 109 = .ok (.iinc 6 1, 3) := by decide +kernel
theorem d_Mod_cluster_112 : decode b_Mod_cluster 112 = .ok (.goto (-72), 3) := by decide +kernel
theorem d_Mod_cluster_115 : decode b_Mod_cluster 115 = .ok (.iload 5, 2) := by decide +kernel
theorem d_Mod_cluster_117 : decode b_Mod_cluster 117 = .ok (.istore_n 3, 1) := by decide +kernel
theorem d_Mod_cluster_118 : decode b_Mod_cluster 118 = .ok (.iinc 4 1, 3) := by decide +kernel
theorem d_Mod_cluster_121 : decode b_Mod_cluster 121 = .ok (.goto (-111), 3) := by decide +kernel
theorem d_Mod_cluster_124 : decode b_Mod_cluster 124 = .ok (.iload_n 3, 1) := by decide +kernel
theorem d_Mod_cluster_125 : decode b_Mod_cluster 125 = .ok (.ifCond .ge 7, 3) := by decide +kernel
theorem d_Mod_cluster_128 : decode b_Mod_cluster 128 = .ok (.iconst (-1), 1) := by decide +kernel
theorem d_Mod_cluster_129 : decode b_Mod_cluster 129 = .ok (.goto 31, 3) := by decide +kernel
theorem d_Mod_cluster_132 : decode b_Mod_cluster 132 = .ok (.iload_n 2, 1) := by decide +kernel
theorem d_Mod_cluster_133 : decode b_Mod_cluster 133 = .ok (.ifCond .ne 7, 3) := by decide +kernel
theorem d_Mod_cluster_136 : decode b_Mod_cluster 136 = .ok (.iload_n 3, 1) := by decide +kernel
theorem d_Mod_cluster_137 : decode b_Mod_cluster 137 = .ok (.goto 23, 3) := by decide +kernel
theorem d_Mod_cluster_140 : decode b_Mod_cluster 140 = .ok (.iload_n 2, 1) := by decide +kernel
theorem d_Mod_cluster_141 : decode b_Mod_cluster 141 = .ok (.iconst 1, 1) := by decide +kernel
theorem d_Mod_cluster_142 : decode b_Mod_cluster 142 = .ok (.if_icmp .ne 12, 3) := by decide +kernel
theorem d_Mod_cluster_145 : decode b_Mod_cluster 145 = .ok (.aload_n 0, 1) := by decide +kernel
theorem d_Mod_cluster_146 : decode b_Mod_cluster 146 = .ok (.getfield 60, 3) := by decide +kernel
theorem d_Mod_cluster_149 : decode b_Mod_cluster 149 = .ok (.iload_n 3, 1) := by decide +kernel
theorem d_Mod_cluster_150 : decode b_Mod_cluster 150 = .ok (.iaload, 1) := by decide +kernel
theorem d_Mod_cluster_151 : decode b_Mod_cluster 151 = .ok (.goto 9, 3) := by decide +kernel
theorem d_Mod_cluster_154 : decode b_Mod_cluster 154 = .ok (.aload_n 0, 1) := by decide +kernel
theorem d_Mod_cluster_155 : decode b_Mod_cluster 155 = .ok (.getfield 57, 3) := by decide +kernel
theorem d_Mod_cluster_158 : decode b_Mod_cluster 158 = .ok (.iload_n 3, 1) := by decide +kernel
theorem d_Mod_cluster_159 : decode b_Mod_cluster 159 = .ok (.iaload, 1) := by decide +kernel
theorem d_Mod_cluster_160 : decode b_Mod_cluster 160 = .ok (.ireturn, 1) := by decide +kernel
theorem d_Mod_isBefore_0 : decode b_Mod_isBefore 0 = .ok (.aload_n 0, 1) := by decide +kernel
theorem d_Mod_isBefore_1 : decode b_Mod_isBefore 1 = .ok (.getfield 60, 3) := by decide +kernel
theorem d_Mod_isBefore_4 : decode b_Mod_isBefore 4 = .ok (.iload_n 1, 1) := by decide +kernel
theorem d_Mod_isBefore_5 : decode b_Mod_isBefore 5 = .ok (.iaload, 1) := by decide +kernel
theorem d_Mod_isBefore_6 : decode b_Mod_isBefore 6 = .ok (.i2l, 1) := by decide +kernel
theorem d_Mod_isBefore_7 : decode b_Mod_isBefore 7 = .ok (.aload_n 0, 1) := by decide +kernel
theorem d_Mod_isBefore_8 : decode b_Mod_isBefore 8 = .ok (.getfield 57, 3) := by decide +kernel
theorem d_Mod_isBefore_11 : decode b_Mod_isBefore 11 = .ok (.iload_n 2, 1) := by decide +kernel
theorem d_Mod_isBefore_12 : decode b_Mod_isBefore 12 = .ok (.iaload, 1) := by decide +kernel
theorem d_Mod_isBefore_13 : decode b_Mod_isBefore 13 = .ok (.i2l, 1) := by decide +kernel
theorem d_Mod_isBefore_14 : decode b_Mod_isBefore 14 = .ok (.lmul, 1) := by decide +kernel
theorem d_Mod_isBefore_15 : decode b_Mod_isBefore 15 = .ok (.lstore_n 3, 1) := by decide +kernel
theorem d_Mod_isBefore_16 : decode b_Mod_isBefore 16 = .ok (.aload_n 0, 1) := by decide +kernel
theorem d_Mod_isBefore_17 : decode b_Mod_isBefore 17 = .ok (.getfield 60, 3) := by decide +kernel
theorem d_Mod_isBefore_20 : decode b_Mod_isBefore 20 = .ok (.iload_n 2, 1) := by decide +kernel
theorem d_Mod_isBefore_21 : decode b_Mod_isBefore 21 = .ok (.iaload, 1) := by decide +kernel
theorem d_Mod_isBefore_22 : decode b_Mod_isBefore 22 = .ok (.i2l, 1) := by decide +kernel
theorem d_Mod_isBefore_23 : decode b_Mod_isBefore 23 = .ok (.aload_n 0, 1) := by decide +kernel
theorem d_Mod_isBefore_24 : decode b_Mod_isBefore 24 = .ok (.getfield 57, 3) := by decide +kernel
theorem d_Mod_isBefore_27 : decode b_Mod_isBefore 27 = .ok (.iload_n 1, 1) := by decide +kernel
theorem d_Mod_isBefore_28 : decode b_Mod_isBefore 28 = .ok (.iaload, 1) := by decide +kernel
theorem d_Mod_isBefore_29 : decode b_Mod_isBefore 29 = .ok (.i2l, 1) := by decide +kernel
theorem d_Mod_isBefore_30 : decode b_Mod_isBefore 30 = .ok (.lmul, 1) := by decide +kernel
theorem d_Mod_isBefore_31 : decode b_Mod_isBefore 31 = .ok (.lstore 5, 2) := by decide +kernel
theorem d_Mod_isBefore_33 : decode b_Mod_isBefore 33 = .ok (.lload_n 3, 1) := by decide +kernel
theorem d_Mod_isBefore_34 : decode b_Mod_isBefore 34 = .ok (.lload 5, 2) := by decide +kernel
theorem d_Mod_isBefore_36 : decode b_Mod_isBefore 36 = .ok (.lcmp, 1) := by decide +kernel
theorem d_Mod_isBefore_37 : decode b_Mod_isBefore 37 = .ok (.ifCond .gt 15, 3) := by decide +kernel
theorem d_Mod_isBefore_40 : decode b_Mod_isBefore 40 = .ok (.lload_n 3, 1) := by decide +kernel
theorem d_Mod_isBefore_41 : decode b_Mod_isBefore 41 = .ok (.lload 5, 2) := by decide +kernel
theorem d_Mod_isBefore_43 : decode b_Mod_isBefore 43 = .ok (.lcmp, 1) := by decide +kernel
theorem d_Mod_isBefore_44 : decode b_Mod_isBefore 44 = .ok (.ifCond .ne 12, 3) := by decide +kernel
theorem d_Mod_isBefore_47 : decode b_Mod_isBefore 47 = .ok (.iload_n 1, 1) := by decide +kernel
theorem d_Mod_isBefore_48 : decode b_Mod_isBefore 48 = .ok (.iload_n 2, 1) := by decide +kernel
theorem d_Mod_isBefore_49 : decode b_Mod_isBefore 49 = .ok (.if_icmp .ge 7, 3) := by decide +kernel
theorem d_Mod_isBefore_52 : decode b_Mod_isBefore 52 = .ok (.iconst 1, 1) := by decide +kernel
theorem d_Mod_isBefore_53 : decode b_Mod_isBefore 53 = .ok (.goto 4, 3) := by decide +kernel
theorem d_Mod_isBefore_56 : decode b_Mod_isBefore 56 = .ok (.iconst 0, 1) := by decide +kernel
theorem d_Mod_isBefore_57 : decode b_Mod_isBefore 57 = .ok (.ireturn, 1) := by decide +kernel
theorem d_Mod_failing_0 : decode b_Mod_failing 0 = .ok (.aload_n 0, 1) := by decide +kernel
theorem d_Mod_failing_1 : decode b_Mod_failing 1 = .ok (.iconst 0, 1) := by decide +kernel
theorem d_Mod_failing_2 : decode b_Mod_failing 2 = .ok (.putfield 72, 3) := by decide +kernel
theorem d_Mod_failing_5 : decode b_Mod_failing 5 = .ok (.iload_n 1, 1) := by decide +kernel
theorem d_Mod_failing_6 : decode b_Mod_failing 6 = .ok (.ifCond .lt 20, 3) := by decide +kernel
theorem d_Mod_failing_9 : decode b_Mod_failing 9 = .ok (.iload_n 1, 1) := by decide +kernel
theorem d_Mod_failing_10 : decode b_Mod_failing 10 = .ok (.aload_n 0, 1) := by decide +kernel
theorem d_Mod_failing_11 : decode b_Mod_failing 11 = .ok (.getfield 99, 3) := by decide +kernel
theorem d_Mod_failing_14 : decode b_Mod_failing 14 = .ok (.if_icmp .ge 12, 3) := by decide +kernel
theorem d_Mod_failing_17 : decode b_Mod_failing 17 = .ok (.aload_n 0, 1) := by decide +kernel
theorem d_Mod_failing_18 : decode b_Mod_failing 18 = .ok (.getfield 69, 3) := by decide +kernel
theorem d_Mod_failing_21 : decode b_Mod_failing 21 = .ok (.iload_n 1, 1) := by decide +kernel
theorem d_Mod_failing_22 : decode b_Mod_failing 22 = .ok (.iaload, 1) := by decide +kernel
theorem d_Mod_failing_23 : decode b_Mod_failing 23 = .ok (.goto 4, 3) := by decide +kernel
theorem d_Mod_failing_26 : decode b_Mod_failing 26 = .ok (.iconst 0, 1) := by decide +kernel
theorem d_Mod_failing_27 : decode b_Mod_failing 27 = .ok (.ireturn, 1) := by decide +kernel
