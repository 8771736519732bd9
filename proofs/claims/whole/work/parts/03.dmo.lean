theorem d_Mo_init_0 : decode b_Mo_init 0 = .ok (.aload_n 0, 1) := by decide +kernel
theorem d_Mo_init_1 : decode b_Mo_init 1 = .ok (.invokespecial 1, 3) := by decide +kernel
theorem d_Mo_init_4 : decode b_Mo_init 4 = .ok (.aload_n 0, 1) := by decide +kernel
theorem d_Mo_init_5 : decode b_Mo_init 5 = .ok (.bipush 8, 2) := by decide +kernel
theorem d_Mo_init_7 : decode b_Mo_init 7 = .ok (.newarray .int, 2) := by decide +kernel
theorem d_Mo_init_9 : decode b_Mo_init 9 = .ok (.putfield 7, 3) := by decide +kernel
theorem d_Mo_init_12 : decode b_Mo_init 12 = .ok (.aload_n 0, 1) := by decide +kernel
theorem d_Mo_init_13 : decode b_Mo_init 13 = .ok (.sipush 512, 3) := by decide +kernel
theorem d_Mo_init_16 : decode b_Mo_init 16 = .ok (.newarray .int, 2) := by decide +kernel
theorem d_Mo_init_18 : decode b_Mo_init 18 = .ok (.putfield 13, 3) := by decide +kernel
theorem d_Mo_init_21 : decode b_Mo_init 21 = .ok (.aload_n 0, 1) := by decide +kernel
theorem d_Mo_init_22 : decode b_Mo_init 22 = .ok (.sipush 512, 3) := by decide +kernel
theorem d_Mo_init_25 : decode b_Mo_init 25 = .ok (.newarray .int, 2) := by decide +kernel
theorem d_Mo_init_27 : decode b_Mo_init 27 = .ok (.putfield 16, 3) := by decide +kernel
theorem d_Mo_init_30 : decode b_Mo_init 30 = .ok (.aload_n 0, 1) := by decide +kernel
theorem d_Mo_init_31 : decode b_Mo_init 31 = .ok (.sipush 3072, 3) := by decide +kernel
theorem d_Mo_init_34 : decode b_Mo_init 34 = .ok (.newarray .int, 2) := by decide +kernel
theorem d_Mo_init_36 : decode b_Mo_init 36 = .ok (.putfield 19, 3) := by decide +kernel
theorem d_Mo_init_39 : decode b_Mo_init 39 = .ok (.aload_n 0, 1) := by decide +kernel
theorem d_Mo_init_40 : decode b_Mo_init 40 = .ok (.sipush 160, 3) := by decide +kernel
theorem d_Mo_init_43 : decode b_Mo_init 43 = .ok (.newarray .int, 2) := by decide +kernel
theorem d_Mo_init_45 : decode b_Mo_init 45 = .ok (.putfield 22, 3) := by decide +kernel
theorem d_Mo_init_48 : decode b_Mo_init 48 = .ok (.aload_n 0, 1) := by decide +kernel
theorem d_Mo_init_49 : decode b_Mo_init 49 = .ok (.bipush 12, 2) := by decide +kernel
theorem d_Mo_init_51 : decode b_Mo_init 51 = .ok (.newarray .int, 2) := by decide +kernel
theorem d_Mo_init_53 : decode b_Mo_init 53 = .ok (.putfield 25, 3) := by decide +kernel
theorem d_Mo_init_56 : decode b_Mo_init 56 = .ok (.aload_n 0, 1) := by decide +kernel
theorem d_Mo_init_57 : decode b_Mo_init 57 = .ok (.bipush 12, 2) := by decide +kernel
theorem d_Mo_init_59 : decode b_Mo_init 59 = .ok (.newarray .int, 2) := by decide +kernel
theorem d_Mo_init_61 : decode b_Mo_init 61 = .ok (.putfield 28, 3) := by decide +kernel
theorem d_Mo_init_64 : decode b_Mo_init 64 = .ok (.aload_n 0, 1) := by decide +kernel
theorem d_Mo_init_65 : decode b_Mo_init 65 = .ok (.bipush 64, 2) := by decide +kernel
theorem d_Mo_init_67 : decode b_Mo_init 67 = .ok (.newarray .long, 2) := by decide +kernel
theorem d_Mo_init_69 : decode b_Mo_init 69 = .ok (.putfield 31, 3) := by decide +kernel
theorem d_Mo_init_72 : decode b_Mo_init 72 = .ok (.aload_n 0, 1) := by decide +kernel
theorem d_Mo_init_73 : decode b_Mo_init 73 = .ok (.bipush 64, 2) := by decide +kernel
theorem d_Mo_init_75 : decode b_Mo_init 75 = .ok (.newarray .long, 2) := by decide +kernel
theorem d_Mo_init_77 : decode b_Mo_init 77 = .ok (.putfield 35, 3) := by decide +kernel
theorem d_Mo_init_80 : decode b_Mo_init 80 = .ok (.aload_n 0, 1) := by decide +kernel
theorem d_Mo_init_81 : decode b_Mo_init 81 = .ok (.bipush 64, 2) := by decide +kernel
theorem d_Mo_init_83 : decode b_Mo_init 83 = .ok (.newarray .long, 2) := by decide +kernel
theorem d_Mo_init_85 : decode b_Mo_init 85 = .ok (.putfield 38, 3) := by decide +kernel
theorem d_Mo_init_88 : decode b_Mo_init 88 = .ok (.aload_n 0, 1) := by decide +kernel
theorem d_Mo_init_89 : decode b_Mo_init 89 = .ok (.bipush 64, 2) := by decide +kernel
theorem d_Mo_init_91 : decode b_Mo_init 91 = .ok (.newarray .long, 2) := by decide +kernel
theorem d_Mo_init_93 : decode b_Mo_init 93 = .ok (.putfield 41, 3) := by decide +kernel
theorem d_Mo_init_96 : decode b_Mo_init 96 = .ok (.aload_n 0, 1) := by decide +kernel
theorem d_Mo_init_97 : decode b_Mo_init 97 = .ok (.bipush 64, 2) := by decide +kernel
theorem d_Mo_init_99 : decode b_Mo_init 99 = .ok (.newarray .long, 2) := by decide +kernel
theorem d_Mo_init_101 : decode b_Mo_init 101 = .ok (.putfield 44, 3) := by decide +kernel
theorem d_Mo_init_104 : decode b_Mo_init 104 = .ok (.aload_n 0, 1) := by decide +kernel
theorem d_Mo_init_105 : decode b_Mo_init 105 = .ok (.bipush 64, 2) := by decide +kernel
theorem d_Mo_init_107 : decode b_Mo_init 107 = .ok (.newarray .long, 2) := by decide +kernel
theorem d_Mo_init_109 : decode b_Mo_init 109 = .ok (.putfield 47, 3) := by decide +kernel
theorem d_Mo_init_112 : decode b_Mo_init 112 = .ok (.aload_n 0, 1) := by decide +kernel
theorem d_Mo_init_113 : decode b_Mo_init 113 = .ok (.bipush 64, 2) := by decide +kernel
theorem d_Mo_init_115 : decode b_Mo_init 115 = .ok (.newarray .long, 2) := by decide +kernel
theorem d_Mo_init_117 : decode b_Mo_init 117 = .ok (.putfield 50, 3) := by decide +kernel
theorem d_Mo_init_120 : decode b_Mo_init 120 = .ok (.aload_n 0, 1) := by decide +kernel
theorem d_Mo_init_121 : decode b_Mo_init 121 = .ok (.bipush 64, 2) := by decide +kernel
theorem d_Mo_init_123 : decode b_Mo_init 123 = .ok (.newarray .long, 2) := by decide +kernel
theorem d_Mo_init_125 : decode b_Mo_init 125 = .ok (.putfield 53, 3) := by decide +kernel
theorem d_Mo_init_128 : decode b_Mo_init 128 = .ok (.aload_n 0, 1) := by decide +kernel
theorem d_Mo_init_129 : decode b_Mo_init 129 = .ok (.sipush 700, 3) := by decide +kernel
theorem d_Mo_init_132 : decode b_Mo_init 132 = .ok (.newarray .int, 2) := by decide +kernel
theorem d_Mo_init_134 : decode b_Mo_init 134 = .ok (.putfield 56, 3) := by decide +kernel
theorem d_Mo_init_137 : decode b_Mo_init 137 = .ok (.aload_n 0, 1) := by decide +kernel
theorem d_Mo_init_138 : decode b_Mo_init 138 = .ok (.sipush 3375, 3) := by decide +kernel
theorem d_Mo_init_141 : decode b_Mo_init 141 = .ok (.newarray .boolean, 2) := by decide +kernel
theorem d_Mo_init_143 : decode b_Mo_init 143 = .ok (.putfield 59, 3) := by decide +kernel
theorem d_Mo_init_146 : decode b_Mo_init 146 = .ok (.aload_n 0, 1) := by decide +kernel
theorem d_Mo_init_147 : decode b_Mo_init 147 = .ok (.sipush 3375, 3) := by decide +kernel
theorem d_Mo_init_150 : decode b_Mo_init 150 = .ok (.newarray .boolean, 2) := by decide +kernel
theorem d_Mo_init_152 : decode b_Mo_init 152 = .ok (.putfield 63, 3) := by decide +kernel
theorem d_Mo_init_155 : decode b_Mo_init 155 = .ok (.aload_n 0, 1) := by decide +kernel
theorem d_Mo_init_156 : decode b_Mo_init 156 = .ok (.sipush 12288, 3) := by decide +kernel
theorem d_Mo_init_159 : decode b_Mo_init 159 = .ok (.newarray .int, 2) := by decide +kernel
theorem d_Mo_init_161 : decode b_Mo_init 161 = .ok (.putfield 66, 3) := by decide +kernel
theorem d_Mo_init_164 : decode b_Mo_init 164 = .ok (.aload_n 0, 1) := by decide +kernel
theorem d_Mo_init_165 : decode b_Mo_init 165 = .ok (.sipush 4096, 3) := by decide +kernel
theorem d_Mo_init_168 : decode b_Mo_init 168 = .ok (.newarray .boolean, 2) := by decide +kernel
theorem d_Mo_init_170 : decode b_Mo_init 170 = .ok (.putfield 69, 3) := by decide +kernel
theorem d_Mo_init_173 : decode b_Mo_init 173 = .ok (.aload_n 0, 1) := by decide +kernel
theorem d_Mo_init_174 : decode b_Mo_init 174 = .ok (.sipush 3375, 3) := by decide +kernel
theorem d_Mo_init_177 : decode b_Mo_init 177 = .ok (.newarray .int, 2) := by decide +kernel
theorem d_Mo_init_179 : decode b_Mo_init 179 = .ok (.putfield 72, 3) := by decide +kernel
theorem d_Mo_init_182 : decode b_Mo_init 182 = .ok (.aload_n 0, 1) := by decide +kernel
theorem d_Mo_init_183 : decode b_Mo_init 183 = .ok (.sipush 3375, 3) := by decide +kernel
theorem d_Mo_init_186 : decode b_Mo_init 186 = .ok (.newarray .int, 2) := by decide +kernel
theorem d_Mo_init_188 : decode b_Mo_init 188 = .ok (.putfield 75, 3) := by decide +kernel
theorem d_Mo_init_191 : decode b_Mo_init 191 = .ok (.aload_n 0, 1) := by decide +kernel
theorem d_Mo_init_192 : decode b_Mo_init 192 = .ok (.iconst 4, 1) := by decide +kernel
theorem d_Mo_init_193 : decode b_Mo_init 193 = .ok (.newarray .int, 2) := by decide +kernel
theorem d_Mo_init_195 : decode b_Mo_init 195 = .ok (.dup, 1) := by decide +kernel
theorem d_Mo_init_196 : decode b_Mo_init 196 = .ok (.iconst 0, 1) := by decide +kernel
theorem d_Mo_init_197 : decode b_Mo_init 197 = .ok (.bipush (-4), 2) := by decide +kernel
theorem d_Mo_init_199 : decode b_Mo_init 199 = .ok (.iastore, 1) := by decide +kernel
theorem d_Mo_init_200 : decode b_Mo_init 200 = .ok (.dup, 1) := by decide +kernel
theorem d_Mo_init_201 : decode b_Mo_init 201 = .ok (.iconst 1, 1) := by decide +kernel
theorem d_Mo_init_202 : decode b_Mo_init 202 = .ok (.bipush (-4), 2) := by decide +kernel
theorem d_Mo_init_204 : decode b_Mo_init 204 = .ok (.iastore, 1) := by decide +kernel
theorem d_Mo_init_205 : decode b_Mo_init 205 = .ok (.dup, 1) := by decide +kernel
theorem d_Mo_init_206 : decode b_Mo_init 206 = .ok (.iconst 2, 1) := by decide +kernel
theorem d_Mo_init_207 : decode b_Mo_init 207 = .ok (.bipush (-4), 2) := by decide +kernel
theorem d_Mo_init_209 : decode b_Mo_init 209 = .ok (.iastore, 1) := by decide +kernel
theorem d_Mo_init_210 : decode b_Mo_init 210 = .ok (.dup, 1) := by decide +kernel
theorem d_Mo_init_211 : decode b_Mo_init 211 = .ok (.iconst 3, 1) := by decide +kernel
theorem d_Mo_init_212 : decode b_Mo_init 212 = .ok (.bipush (-4), 2) := by decide +kernel
theorem d_Mo_init_214 : decode b_Mo_init 214 = .ok (.iastore, 1) := by decide +kernel
theorem d_Mo_init_215 : decode b_Mo_init 215 = .ok (.putfield 78, 3) := by decide +kernel
theorem d_Mo_init_218 : decode b_Mo_init 218 = .ok (.aload_n 0, 1) := by decide +kernel
theorem d_Mo_init_219 : decode b_Mo_init 219 = .ok (.iconst 4, 1) := by decide +kernel
theorem d_Mo_init_220 : decode b_Mo_init 220 = .ok (.newarray .int, 2) := by decide +kernel
theorem d_Mo_init_222 : decode b_Mo_init 222 = .ok (.putfield 81, 3) := by decide +kernel
theorem d_Mo_init_225 : decode b_Mo_init 225 = .ok (.aload_n 0, 1) := by decide +kernel
theorem d_Mo_init_226 : decode b_Mo_init 226 = .ok (.sipush 256, 3) := by decide +kernel
theorem d_Mo_init_229 : decode b_Mo_init 229 = .ok (.newarray .int, 2) := by decide +kernel
theorem d_Mo_init_231 : decode b_Mo_init 231 = .ok (.putfield 84, 3) := by decide +kernel
theorem d_Mo_init_234 : decode b_Mo_init 234 = .ok (.return_, 1) := by decide +kernel
theorem d_Mo_feed_0 : decode b_Mo_feed 0 = .ok (.aload_n 0, 1) := by decide +kernel
theorem d_Mo_feed_1 : decode b_Mo_feed 1 = .ok (.getfield 87, 3) := by decide +kernel
theorem d_Mo_feed_4 : decode b_Mo_feed 4 = .ok (.bipush 8, 2) := by decide +kernel
theorem d_Mo_feed_6 : decode b_Mo_feed 6 = .ok (.iadd, 1) := by decide +kernel
theorem d_Mo_feed_7 : decode b_Mo_feed 7 = .ok (.sipush 160, 3) := by decide +kernel
theorem d_Mo_feed_10 : decode b_Mo_feed 10 = .ok (.if_icmp .le 6, 3) := by decide +kernel
theorem d_Mo_feed_13 : decode b_Mo_feed 13 = .ok (.bipush (-3), 2) := by decide +kernel
theorem d_Mo_feed_15 : decode b_Mo_feed 15 = .ok (.ireturn, 1) := by decide +kernel
theorem d_Mo_feed_16 : decode b_Mo_feed 16 = .ok (.bipush 56, 2) := by decide +kernel
theorem d_Mo_feed_18 : decode b_Mo_feed 18 = .ok (.istore_n 3, 1) := by decide +kernel
theorem d_Mo_feed_19 : decode b_Mo_feed 19 = .ok (.iload_n 3, 1) := by decide +kernel
theorem d_Mo_feed_20 : decode b_Mo_feed 20 = .ok (.ifCond .lt 36, 3) := by decide +kernel
theorem d_Mo_feed_23 : decode b_Mo_feed 23 = .ok (.aload_n 0, 1) := by decide +kernel
theorem d_Mo_feed_24 : decode b_Mo_feed 24 = .ok (.getfield 22, 3) := by decide +kernel
theorem d_Mo_feed_27 : decode b_Mo_feed 27 = .ok (.aload_n 0, 1) := by decide +kernel
theorem d_Mo_feed_28 : decode b_Mo_feed 28 = .ok (.getfield 87, 3) := by decide +kernel
theorem d_Mo_feed_31 : decode b_Mo_feed 31 = .ok (.lload_n 1, 1) := by decide +kernel
theorem d_Mo_feed_32 : decode b_Mo_feed 32 = .ok (.iload_n 3, 1) := by decide +kernel
theorem d_Mo_feed_33 : decode b_Mo_feed 33 = .ok (.lshr, 1) := by decide +kernel
theorem d_Mo_feed_34 : decode b_Mo_feed 34 = .ok (.l2i, 1) := by decide +kernel
theorem d_Mo_feed_35 : decode b_Mo_feed 35 = .ok (.sipush 255, 3) := by decide +kernel
theorem d_Mo_feed_38 : decode b_Mo_feed 38 = .ok (.iand, 1) := by decide +kernel
theorem d_Mo_feed_39 : decode b_Mo_feed 39 = .ok (.iastore, 1) := by decide +kernel
theorem d_Mo_feed_40 : decode b_Mo_feed 40 = .ok (.aload_n 0, 1) := by decide +kernel
theorem d_Mo_feed_41 : decode b_Mo_feed 41 = .ok (.dup, 1) := by decide +kernel
theorem d_Mo_feed_42 : decode b_Mo_feed 42 = .ok (.getfield 87, 3) := by decide +kernel
theorem d_Mo_feed_45 : decode b_Mo_feed 45 = .ok (.iconst 1, 1) := by decide +kernel
theorem d_Mo_feed_46 : decode b_Mo_feed 46 = .ok (.iadd, 1) := by decide +kernel
theorem d_Mo_feed_47 : decode b_Mo_feed 47 = .ok (.putfield 87, 3) := by decide +kernel
theorem d_Mo_feed_50 : decode b_Mo_feed 50 = .ok (.iinc 3 (-8), 3) := by decide +kernel
theorem d_Mo_feed_53 : decode b_Mo_feed 53 = .ok (.goto (-34), 3) := by decide +kernel
theorem d_Mo_feed_56 : decode b_Mo_feed 56 = .ok (.aload_n 0, 1) := by decide +kernel
theorem d_Mo_feed_57 : decode b_Mo_feed 57 = .ok (.getfield 87, 3) := by decide +kernel
theorem d_Mo_feed_60 : decode b_Mo_feed 60 = .ok (.ireturn, 1) := by decide +kernel
theorem d_Mo_end_0 : decode b_Mo_end 0 = .ok (.iload_n 1, 1) := by decide +kernel
theorem d_Mo_end_1 : decode b_Mo_end 1 = .ok (.i2l, 1) := by decide +kernel
theorem d_Mo_end_2 : decode b_Mo_end 2 = .ok (.lconst 0, 1) := by decide +kernel
theorem d_Mo_end_3 : decode b_Mo_end 3 = .ok (.aload_n 0, 1) := by decide +kernel
theorem d_Mo_end_4 : decode b_Mo_end 4 = .ok (.getfield 87, 3) := by decide +kernel
theorem d_Mo_end_7 : decode b_Mo_end 7 = .ok (.i2l, 1) := by decide +kernel
theorem d_Mo_end_8 : decode b_Mo_end 8 = .ok (.invokestatic 91, 3) := by decide +kernel
theorem d_Mo_end_11 : decode b_Mo_end 11 = .ok (.ifCond .ne 5, 3) := by decide +kernel
theorem d_Mo_end_14 : decode b_Mo_end 14 = .ok (.iconst (-1), 1) := by decide +kernel
theorem d_Mo_end_15 : decode b_Mo_end 15 = .ok (.ireturn, 1) := by decide +kernel
theorem d_Mo_end_16 : decode b_Mo_end 16 = .ok (.aload_n 0, 1) := by decide +kernel
theorem d_Mo_end_17 : decode b_Mo_end 17 = .ok (.getfield 87, 3) := by decide +kernel
theorem d_Mo_end_20 : decode b_Mo_end 20 = .ok (.istore_n 2, 1) := by decide +kernel
theorem d_Mo_end_21 : decode b_Mo_end 21 = .ok (.aload_n 0, 1) := by decide +kernel
theorem d_Mo_end_22 : decode b_Mo_end 22 = .ok (.iload_n 1, 1) := by decide +kernel
theorem d_Mo_end_23 : decode b_Mo_end 23 = .ok (.putfield 87, 3) := by decide +kernel
theorem d_Mo_end_26 : decode b_Mo_end 26 = .ok (.iload_n 2, 1) := by decide +kernel
theorem d_Mo_end_27 : decode b_Mo_end 27 = .ok (.ireturn, 1) := by decide +kernel
theorem d_Mo_in_0 : decode b_Mo_in 0 = .ok (.lload_n 0, 1) := by decide +kernel
theorem d_Mo_in_1 : decode b_Mo_in 1 = .ok (.lload_n 2, 1) := by decide +kernel
theorem d_Mo_in_2 : decode b_Mo_in 2 = .ok (.lcmp, 1) := by decide +kernel
theorem d_Mo_in_3 : decode b_Mo_in 3 = .ok (.ifCond .lt 14, 3) := by decide +kernel
theorem d_Mo_in_6 : decode b_Mo_in 6 = .ok (.lload_n 0, 1) := by decide +kernel
theorem d_Mo_in_7 : decode b_Mo_in 7 = .ok (.lload 4, 2) := by decide +kernel
theorem d_Mo_in_9 : decode b_Mo_in 9 = .ok (.lcmp, 1) := by decide +kernel
theorem d_Mo_in_10 : decode b_Mo_in 10 = .ok (.ifCond .gt 7, 3) := by decide +kernel
theorem d_Mo_in_13 : decode b_Mo_in 13 = .ok (.iconst 1, 1) := by decide +kernel
theorem d_Mo_in_14 : decode b_Mo_in 14 = .ok (.goto 4, 3) := by decide +kernel
theorem d_Mo_in_17 : decode b_Mo_in 17 = .ok (.iconst 0, 1) := by decide +kernel
theorem d_Mo_in_18 : decode b_Mo_in 18 = .ok (.ireturn, 1) := by decide +kernel
theorem d_Mo_body_0 : decode b_Mo_body 0 = .ok (.aload_n 0, 1) := by decide +kernel
theorem d_Mo_body_1 : decode b_Mo_body 1 = .ok (.getfield 155, 3) := by decide +kernel
theorem d_Mo_body_4 : decode b_Mo_body 4 = .ok (.bipush 8, 2) := by decide +kernel
theorem d_Mo_body_6 : decode b_Mo_body 6 = .ok (.if_icmp .ne 6, 3) := by decide +kernel
theorem d_Mo_body_9 : decode b_Mo_body 9 = .ok (.bipush (-3), 2) := by decide +kernel
theorem d_Mo_body_11 : decode b_Mo_body 11 = .ok (.ireturn, 1) := by decide +kernel
theorem d_Mo_body_12 : decode b_Mo_body 12 = .ok (.aload_n 0, 1) := by decide +kernel
theorem d_Mo_body_13 : decode b_Mo_body 13 = .ok (.iconst 0, 1) := by decide +kernel
theorem d_Mo_body_14 : decode b_Mo_body 14 = .ok (.putfield 95, 3) := by decide +kernel
theorem d_Mo_body_17 : decode b_Mo_body 17 = .ok (.aload_n 0, 1) := by decide +kernel
theorem d_Mo_body_18 : decode b_Mo_body 18 = .ok (.iconst 0, 1) := by decide +kernel
theorem d_Mo_body_19 : decode b_Mo_body 19 = .ok (.putfield 124, 3) := by decide +kernel
theorem d_Mo_body_22 : decode b_Mo_body 22 = .ok (.aload_n 0, 1) := by decide +kernel
theorem d_Mo_body_23 : decode b_Mo_body 23 = .ok (.getfield 7, 3) := by decide +kernel
theorem d_Mo_body_26 : decode b_Mo_body 26 = .ok (.aload_n 0, 1) := by decide +kernel
theorem d_Mo_body_27 : decode b_Mo_body 27 = .ok (.getfield 155, 3) := by decide +kernel
theorem d_Mo_body_30 : decode b_Mo_body 30 = .ok (.iconst 0, 1) := by decide +kernel
theorem d_Mo_body_31 : decode b_Mo_body 31 = .ok (.iastore, 1) := by decide +kernel
theorem d_Mo_body_32 : decode b_Mo_body 32 = .ok (.iconst 1, 1) := by decide +kernel
theorem d_Mo_body_33 : decode b_Mo_body 33 = .ok (.istore_n 1, 1) := by decide +kernel
theorem d_Mo_body_34 : decode b_Mo_body 34 = .ok (.aload_n 0, 1) := by decide +kernel
theorem d_Mo_body_35 : decode b_Mo_body 35 = .ok (.getfield 25, 3) := by decide +kernel
theorem d_Mo_body_38 : decode b_Mo_body 38 = .ok (.iconst 1, 1) := by decide +kernel
theorem d_Mo_body_39 : decode b_Mo_body 39 = .ok (.iconst 1, 1) := by decide +kernel
theorem d_Mo_body_40 : decode b_Mo_body 40 = .ok (.iastore, 1) := by decide +kernel
theorem d_Mo_body_41 : decode b_Mo_body 41 = .ok (.aload_n 0, 1) := by decide +kernel
theorem d_Mo_body_42 : decode b_Mo_body 42 = .ok (.getfield 28, 3) := by decide +kernel
theorem d_Mo_body_45 : decode b_Mo_body 45 = .ok (.iconst 1, 1) := by decide +kernel
theorem d_Mo_body_46 : decode b_Mo_body 46 = .ok (.bipush (-4), 2) := by decide +kernel
theorem d_Mo_body_48 : decode b_Mo_body 48 = .ok (.iastore, 1) := by decide +kernel
theorem d_Mo_body_49 : decode b_Mo_body 49 = .ok (.aload_n 0, 1) := by decide +kernel
theorem d_Mo_body_50 : decode b_Mo_body 50 = .ok (.invokevirtual 158, 3) := by decide +kernel
theorem d_Mo_body_53 : decode b_Mo_body 53 = .ok (.aload_n 0, 1) := by decide +kernel
theorem d_Mo_body_54 : decode b_Mo_body 54 = .ok (.getfield 95, 3) := by decide +kernel
theorem d_Mo_body_57 : decode b_Mo_body 57 = .ok (.ifCond .ne 121, 3) := by decide +kernel
theorem d_Mo_body_60 : decode b_Mo_body 60 = .ok (.iload_n 1, 1) := by decide +kernel
theorem d_Mo_body_61 : decode b_Mo_body 61 = .ok (.ifCond .le 117, 3) := by decide +kernel
theorem d_Mo_body_64 : decode b_Mo_body 64 = .ok (.iload_n 1, 1) := by decide +kernel
theorem d_Mo_body_65 : decode b_Mo_body 65 = .ok (.bipush 10, 2) := by decide +kernel
theorem d_Mo_body_67 : decode b_Mo_body 67 = .ok (.if_icmp .le 11, 3) := by decide +kernel
theorem d_Mo_body_70 : decode b_Mo_body 70 = .ok (.aload_n 0, 1) := by decide +kernel
theorem d_Mo_body_71 : decode b_Mo_body 71 = .ok (.iconst 4, 1) := by decide +kernel
theorem d_Mo_body_72 : decode b_Mo_body 72 = .ok (.invokevirtual 145, 3) := by decide +kernel
theorem d_Mo_body_75 : decode b_Mo_body 75 = .ok (.goto 13, 3) := by decide +kernel
theorem d_Mo_body_78 : decode b_Mo_body 78 = .ok (.aload_n 0, 1) := by decide +kernel
theorem d_Mo_body_79 : decode b_Mo_body 79 = .ok (.aload_n 0, 1) := by decide +kernel
theorem d_Mo_body_80 : decode b_Mo_body 80 = .ok (.getfield 28, 3) := by decide +kernel
theorem d_Mo_body_83 : decode b_Mo_body 83 = .ok (.iload_n 1, 1) := by decide +kernel
theorem d_Mo_body_84 : decode b_Mo_body 84 = .ok (.iaload, 1) := by decide +kernel
theorem d_Mo_body_85 : decode b_Mo_body 85 = .ok (.invokevirtual 166, 3) := by decide +kernel
theorem d_Mo_body_88 : decode b_Mo_body 88 = .ok (.aload_n 0, 1) := by decide +kernel
theorem d_Mo_body_89 : decode b_Mo_body 89 = .ok (.getfield 95, 3) := by decide +kernel
theorem d_Mo_body_92 : decode b_Mo_body 92 = .ok (.ifCond .ne (-39), 3) := by decide +kernel
theorem d_Mo_body_95 : decode b_Mo_body 95 = .ok (.aload_n 0, 1) := by decide +kernel
theorem d_Mo_body_96 : decode b_Mo_body 96 = .ok (.getfield 25, 3) := by decide +kernel
theorem d_Mo_body_99 : decode b_Mo_body 99 = .ok (.iload_n 1, 1) := by decide +kernel
theorem d_Mo_body_100 : decode b_Mo_body 100 = .ok (.dup2, 1) := by decide +kernel
theorem d_Mo_body_101 : decode b_Mo_body 101 = .ok (.iaload, 1) := by decide +kernel
theorem d_Mo_body_102 : decode b_Mo_body 102 = .ok (.iconst 1, 1) := by decide +kernel
theorem d_Mo_body_103 : decode b_Mo_body 103 = .ok (.isub, 1) := by decide +kernel
theorem d_Mo_body_104 : decode b_Mo_body 104 = .ok (.iastore, 1) := by decide +kernel
theorem d_Mo_body_105 : decode b_Mo_body 105 = .ok (.aload_n 0, 1) := by decide +kernel
theorem d_Mo_body_106 : decode b_Mo_body 106 = .ok (.getfield 7, 3) := by decide +kernel
theorem d_Mo_body_109 : decode b_Mo_body 109 = .ok (.aload_n 0, 1) := by decide +kernel
theorem d_Mo_body_110 : decode b_Mo_body 110 = .ok (.getfield 155, 3) := by decide +kernel
theorem d_Mo_body_113 : decode b_Mo_body 113 = .ok (.iaload, 1) := by decide +kernel
theorem d_Mo_body_114 : decode b_Mo_body 114 = .ok (.iconst 1, 1) := by decide +kernel
theorem d_Mo_body_115 : decode b_Mo_body 115 = .ok (.isub, 1) := by decide +kernel
theorem d_Mo_body_116 : decode b_Mo_body 116 = .ok (.istore_n 2, 1) := by decide +kernel
theorem d_Mo_body_117 : decode b_Mo_body 117 = .ok (.aload_n 0, 1) := by decide +kernel
theorem d_Mo_body_118 : decode b_Mo_body 118 = .ok (.getfield 13, 3) := by decide +kernel
theorem d_Mo_body_121 : decode b_Mo_body 121 = .ok (.bipush 64, 2) := by decide +kernel
theorem d_Mo_body_123 : decode b_Mo_body 123 = .ok (.aload_n 0, 1) := by decide +kernel
theorem d_Mo_body_124 : decode b_Mo_body 124 = .ok (.getfield 155, 3) := by decide +kernel
theorem d_Mo_body_127 : decode b_Mo_body 127 = .ok (.imul, 1) := by decide +kernel
theorem d_Mo_body_128 : decode b_Mo_body 128 = .ok (.iload_n 2, 1) := by decide +kernel
theorem d_Mo_body_129 : decode b_Mo_body 129 = .ok (.iadd, 1) := by decide +kernel
theorem d_Mo_body_130 : decode b_Mo_body 130 = .ok (.iaload, 1) := by decide +kernel
theorem d_Mo_body_131 : decode b_Mo_body 131 = .ok (.invokestatic 169, 3) := by decide +kernel
theorem d_Mo_body_134 : decode b_Mo_body 134 = .ok (.istore_n 3, 1) := by decide +kernel
theorem d_Mo_body_135 : decode b_Mo_body 135 = .ok (.iload_n 3, 1) := by decide +kernel
theorem d_Mo_body_136 : decode b_Mo_body 136 = .ok (.ifCond .le 20, 3) := by decide +kernel
theorem d_Mo_body_139 : decode b_Mo_body 139 = .ok (.iinc 1 1, 3) := by decide +kernel
theorem d_Mo_body_142 : decode b_Mo_body 142 = .ok (.aload_n 0, 1) := by decide +kernel
theorem d_Mo_body_143 : decode b_Mo_body 143 = .ok (.getfield 25, 3) := by decide +kernel
theorem d_Mo_body_146 : decode b_Mo_body 146 = .ok (.iload_n 1, 1) := by decide +kernel
theorem d_Mo_body_147 : decode b_Mo_body 147 = .ok (.iload_n 3, 1) := by decide +kernel
theorem d_Mo_body_148 : decode b_Mo_body 148 = .ok (.iastore, 1) := by decide +kernel
theorem d_Mo_body_149 : decode b_Mo_body 149 = .ok (.aload_n 0, 1) := by decide +kernel
theorem d_Mo_body_150 : decode b_Mo_body 150 = .ok (.getfield 28, 3) := by decide +kernel
theorem d_Mo_body_153 : decode b_Mo_body 153 = .ok (.iload_n 1, 1) := by decide +kernel
theorem d_Mo_body_154 : decode b_Mo_body 154 = .ok (.iload_n 2, 1) := by decide +kernel
theorem d_Mo_body_155 : decode b_Mo_body 155 = .ok (.iastore, 1) := by decide +kernel
theorem d_Mo_body_156 : decode b_Mo_body 156 = .ok (.iload_n 1, 1) := by decide +kernel
theorem d_Mo_body_157 : decode b_Mo_body 157 = .ok (.ifCond .le 18, 3) := by decide +kernel
theorem d_Mo_body_160 : decode b_Mo_body 160 = .ok (.aload_n 0, 1) := by decide +kernel
theorem d_Mo_body_161 : decode b_Mo_body 161 = .ok (.getfield 25, 3) := by decide +kernel
theorem d_Mo_body_164 : decode b_Mo_body 164 = .ok (.iload_n 1, 1) := by decide +kernel
theorem d_Mo_body_165 : decode b_Mo_body 165 = .ok (.iaload, 1) := by decide +kernel
theorem d_Mo_body_166 : decode b_Mo_body 166 = .ok (.ifCond .ne 9, 3) := by decide +kernel
theorem d_Mo_body_169 : decode b_Mo_body 169 = .ok (.iinc 1 (-1), 3) := by decide +kernel
theorem d_Mo_body_172 : decode b_Mo_body 172 = .ok (.goto (-16), 3) := by decide +kernel
theorem d_Mo_body_175 : decode b_Mo_body 175 = .ok (.goto (-122), 3) := by decide +kernel
theorem d_Mo_body_178 : decode b_Mo_body 178 = .ok (.aload_n 0, 1) := by decide +kernel
theorem d_Mo_body_179 : decode b_Mo_body 179 = .ok (.getfield 95, 3) := by decide +kernel
theorem d_Mo_body_182 : decode b_Mo_body 182 = .ok (.ifCond .ne 15, 3) := by decide +kernel
theorem d_Mo_body_185 : decode b_Mo_body 185 = .ok (.aload_n 0, 1) := by decide +kernel
theorem d_Mo_body_186 : decode b_Mo_body 186 = .ok (.getfield 131, 3) := by decide +kernel
theorem d_Mo_body_189 : decode b_Mo_body 189 = .ok (.ifCond .eq 8, 3) := by decide +kernel
theorem d_Mo_body_192 : decode b_Mo_body 192 = .ok (.aload_n 0, 1) := by decide +kernel
theorem d_Mo_body_193 : decode b_Mo_body 193 = .ok (.iconst 2, 1) := by decide +kernel
theorem d_Mo_body_194 : decode b_Mo_body 194 = .ok (.invokevirtual 145, 3) := by decide +kernel
theorem d_Mo_body_197 : decode b_Mo_body 197 = .ok (.aload_n 0, 1) := by decide +kernel
theorem d_Mo_body_198 : decode b_Mo_body 198 = .ok (.iconst 0, 1) := by decide +kernel
theorem d_Mo_body_199 : decode b_Mo_body 199 = .ok (.putfield 87, 3) := by decide +kernel
theorem d_Mo_body_202 : decode b_Mo_body 202 = .ok (.aload_n 0, 1) := by decide +kernel
theorem d_Mo_body_203 : decode b_Mo_body 203 = .ok (.aload_n 0, 1) := by decide +kernel
theorem d_Mo_body_204 : decode b_Mo_body 204 = .ok (.getfield 95, 3) := by decide +kernel
theorem d_Mo_body_207 : decode b_Mo_body 207 = .ok (.putfield 172, 3) := by decide +kernel
theorem d_Mo_body_210 : decode b_Mo_body 210 = .ok (.aload_n 0, 1) := by decide +kernel
theorem d_Mo_body_211 : decode b_Mo_body 211 = .ok (.getfield 95, 3) := by decide +kernel
theorem d_Mo_body_214 : decode b_Mo_body 214 = .ok (.ifCond .le 11, 3) := by decide +kernel
theorem d_Mo_body_217 : decode b_Mo_body 217 = .ok (.bipush (-10), 2) := by decide +kernel
theorem d_Mo_body_219 : decode b_Mo_body 219 = .ok (.aload_n 0, 1) := by decide +kernel
theorem d_Mo_body_220 : decode b_Mo_body 220 = .ok (.getfield 101, 3) := by decide +kernel
theorem d_Mo_body_223 : decode b_Mo_body 223 = .ok (.isub, 1) := by decide +kernel
theorem d_Mo_body_224 : decode b_Mo_body 224 = .ok (.ireturn, 1) := by decide +kernel
theorem d_Mo_body_225 : decode b_Mo_body 225 = .ok (.aload_n 0, 1) := by decide +kernel
theorem d_Mo_body_226 : decode b_Mo_body 226 = .ok (.dup, 1) := by decide +kernel
theorem d_Mo_body_227 : decode b_Mo_body 227 = .ok (.getfield 155, 3) := by decide +kernel
theorem d_Mo_body_230 : decode b_Mo_body 230 = .ok (.iconst 1, 1) := by decide +kernel
theorem d_Mo_body_231 : decode b_Mo_body 231 = .ok (.iadd, 1) := by decide +kernel
theorem d_Mo_body_232 : decode b_Mo_body 232 = .ok (.putfield 155, 3) := by decide +kernel
theorem d_Mo_body_235 : decode b_Mo_body 235 = .ok (.aload_n 0, 1) := by decide +kernel
theorem d_Mo_body_236 : decode b_Mo_body 236 = .ok (.getfield 155, 3) := by decide +kernel
theorem d_Mo_body_239 : decode b_Mo_body 239 = .ok (.iconst 1, 1) := by decide +kernel
theorem d_Mo_body_240 : decode b_Mo_body 240 = .ok (.isub, 1) := by decide +kernel
theorem d_Mo_body_241 : decode b_Mo_body 241 = .ok (.ireturn, 1) := by decide +kernel
theorem d_Mo_next_0 : decode b_Mo_next 0 = .ok (.aload_n 0, 1) := by decide +kernel
theorem d_Mo_next_1 : decode b_Mo_next 1 = .ok (.getfield 95, 3) := by decide +kernel
theorem d_Mo_next_4 : decode b_Mo_next 4 = .ok (.ifCond .le 4, 3) := by decide +kernel
theorem d_Mo_next_7 : decode b_Mo_next 7 = .ok (.return_, 1) := by decide +kernel
theorem d_Mo_next_8 : decode b_Mo_next 8 = .ok (.aload_n 0, 1) := by decide +kernel
theorem d_Mo_next_9 : decode b_Mo_next 9 = .ok (.aload_n 0, 1) := by decide +kernel
theorem d_Mo_next_10 : decode b_Mo_next 10 = .ok (.getfield 124, 3) := by decide +kernel
theorem d_Mo_next_13 : decode b_Mo_next 13 = .ok (.invokevirtual 127, 3) := by decide +kernel
theorem d_Mo_next_16 : decode b_Mo_next 16 = .ok (.bipush 32, 2) := by decide +kernel
theorem d_Mo_next_18 : decode b_Mo_next 18 = .ok (.if_icmp .ne 16, 3) := by decide +kernel
theorem d_Mo_next_21 : decode b_Mo_next 21 = .ok (.aload_n 0, 1) := by decide +kernel
theorem d_Mo_next_22 : decode b_Mo_next 22 = .ok (.dup, 1) := by decide +kernel
theorem d_Mo_next_23 : decode b_Mo_next 23 = .ok (.getfield 124, 3) := by decide +kernel
theorem d_Mo_next_26 : decode b_Mo_next 26 = .ok (.iconst 1, 1) := by decide +kernel
theorem d_Mo_next_27 : decode b_Mo_next 27 = .ok (.iadd, 1) := by decide +kernel
theorem d_Mo_next_28 : decode b_Mo_next 28 = .ok (.putfield 124, 3) := by decide +kernel
theorem d_Mo_next_31 : decode b_Mo_next 31 = .ok (.goto (-23), 3) := by decide +kernel
theorem d_Mo_next_34 : decode b_Mo_next 34 = .ok (.aload_n 0, 1) := by decide +kernel
theorem d_Mo_next_35 : decode b_Mo_next 35 = .ok (.aload_n 0, 1) := by decide +kernel
theorem d_Mo_next_36 : decode b_Mo_next 36 = .ok (.getfield 124, 3) := by decide +kernel
theorem d_Mo_next_39 : decode b_Mo_next 39 = .ok (.putfield 98, 3) := by decide +kernel
theorem d_Mo_next_42 : decode b_Mo_next 42 = .ok (.aload_n 0, 1) := by decide +kernel
theorem d_Mo_next_43 : decode b_Mo_next 43 = .ok (.aload_n 0, 1) := by decide +kernel
theorem d_Mo_next_44 : decode b_Mo_next 44 = .ok (.getfield 124, 3) := by decide +kernel
theorem d_Mo_next_47 : decode b_Mo_next 47 = .ok (.invokevirtual 127, 3) := by decide +kernel
theorem d_Mo_next_50 : decode b_Mo_next 50 = .ok (.istore_n 1, 1) := by decide +kernel
theorem d_Mo_next_51 : decode b_Mo_next 51 = .ok (.iload_n 1, 1) := by decide +kernel
theorem d_Mo_next_52 : decode b_Mo_next 52 = .ok (.bipush (-4), 2) := by decide +kernel
theorem d_Mo_next_54 : decode b_Mo_next 54 = .ok (.if_icmp .ne 11, 3) := by decide +kernel
theorem d_Mo_next_57 : decode b_Mo_next 57 = .ok (.aload_n 0, 1) := by decide +kernel
theorem d_Mo_next_58 : decode b_Mo_next 58 = .ok (.iconst 0, 1) := by decide +kernel
theorem d_Mo_next_59 : decode b_Mo_next 59 = .ok (.putfield 131, 3) := by decide +kernel
theorem d_Mo_next_62 : decode b_Mo_next 62 = .ok (.goto 316, 3) := by decide +kernel
theorem d_Mo_next_65 : decode b_Mo_next 65 = .ok (.iload_n 1, 1) := by decide +kernel
theorem d_Mo_next_66 : decode b_Mo_next 66 = .ok (.i2l, 1) := by decide +kernel
theorem d_Mo_next_67 : decode b_Mo_next 67 = .ok (.ldc2_w 134, 3) := by decide +kernel
theorem d_Mo_next_70 : decode b_Mo_next 70 = .ok (.ldc2_w 136, 3) := by decide +kernel
theorem d_Mo_next_73 : decode b_Mo_next 73 = .ok (.invokestatic 91, 3) := by decide +kernel
theorem d_Mo_next_76 : decode b_Mo_next 76 = .ok (.ifCond .eq 121, 3) := by decide +kernel
theorem d_Mo_next_79 : decode b_Mo_next 79 = .ok (.lconst 0, 1) := by decide +kernel
theorem d_Mo_next_80 : decode b_Mo_next 80 = .ok (.lstore_n 2, 1) := by decide +kernel
theorem d_Mo_next_81 : decode b_Mo_next 81 = .ok (.aload_n 0, 1) := by decide +kernel
theorem d_Mo_next_82 : decode b_Mo_next 82 = .ok (.aload_n 0, 1) := by decide +kernel
theorem d_Mo_next_83 : decode b_Mo_next 83 = .ok (.getfield 124, 3) := by decide +kernel
theorem d_Mo_next_86 : decode b_Mo_next 86 = .ok (.invokevirtual 127, 3) := by decide +kernel
theorem d_Mo_next_89 : decode b_Mo_next 89 = .ok (.i2l, 1) := by decide +kernel
theorem d_Mo_next_90 : decode b_Mo_next 90 = .ok (.ldc2_w 134, 3) := by decide +kernel
theorem d_Mo_next_93 : decode b_Mo_next 93 = .ok (.ldc2_w 136, 3) := by decide +kernel
theorem d_Mo_next_96 : decode b_Mo_next 96 = .ok (.invokestatic 91, 3) := by decide +kernel
theorem d_Mo_next_99 : decode b_Mo_next 99 = .ok (.ifCond .eq 49, 3) := by decide +kernel
theorem d_Mo_next_102 : decode b_Mo_next 102 = .ok (.aload_n 0, 1) := by decide +kernel
theorem d_Mo_next_103 : decode b_Mo_next 103 = .ok (.getfield 124, 3) := by decide +kernel
theorem d_Mo_next_106 : decode b_Mo_next 106 = .ok (.aload_n 0, 1) := by decide +kernel
theorem d_Mo_next_107 : decode b_Mo_next 107 = .ok (.getfield 98, 3) := by decide +kernel
theorem d_Mo_next_110 : decode b_Mo_next 110 = .ok (.isub, 1) := by decide +kernel
theorem d_Mo_next_111 : decode b_Mo_next 111 = .ok (.bipush 6, 2) := by decide +kernel
theorem d_Mo_next_113 : decode b_Mo_next 113 = .ok (.if_icmp .ge 20, 3) := by decide +kernel
theorem d_Mo_next_116 : decode b_Mo_next 116 = .ok (.lload_n 2, 1) := by decide +kernel
theorem d_Mo_next_117 : decode b_Mo_next 117 = .ok (.bipush 8, 2) := by decide +kernel
theorem d_Mo_next_119 : decode b_Mo_next 119 = .ok (.lshl, 1) := by decide +kernel
theorem d_Mo_next_120 : decode b_Mo_next 120 = .ok (.aload_n 0, 1) := by decide +kernel
theorem d_Mo_next_121 : decode b_Mo_next 121 = .ok (.aload_n 0, 1) := by decide +kernel
theorem d_Mo_next_122 : decode b_Mo_next 122 = .ok (.getfield 124, 3) := by decide +kernel
theorem d_Mo_next_125 : decode b_Mo_next 125 = .ok (.invokevirtual 127, 3) := by decide +kernel
theorem d_Mo_next_128 : decode b_Mo_next 128 = .ok (.i2l, 1) := by decide +kernel
theorem d_Mo_next_129 : decode b_Mo_next 129 = .ok (.lor, 1) := by decide +kernel
theorem d_Mo_next_130 : decode b_Mo_next 130 = .ok (.goto 4, 3) := by decide +kernel
theorem d_Mo_next_133 : decode b_Mo_next 133 = .ok (.lconst 0, 1) := by decide +kernel
theorem d_Mo_next_134 : decode b_Mo_next 134 = .ok (.lstore_n 2, 1) := by decide +kernel
theorem d_Mo_next_135 : decode b_Mo_next 135 = .ok (.aload_n 0, 1) := by decide +kernel
theorem d_Mo_next_136 : decode b_Mo_next 136 = .ok (.dup, 1) := by decide +kernel
theorem d_Mo_next_137 : decode b_Mo_next 137 = .ok (.getfield 124, 3) := by decide +kernel
theorem d_Mo_next_140 : decode b_Mo_next 140 = .ok (.iconst 1, 1) := by decide +kernel
theorem d_Mo_next_141 : decode b_Mo_next 141 = .ok (.iadd, 1) := by decide +kernel
theorem d_Mo_next_142 : decode b_Mo_next 142 = .ok (.putfield 124, 3) := by decide +kernel
theorem d_Mo_next_145 : decode b_Mo_next 145 = .ok (.goto (-64), 3) := by decide +kernel
theorem d_Mo_next_148 : decode b_Mo_next 148 = .ok (.aload_n 0, 1) := by decide +kernel
theorem d_Mo_next_149 : decode b_Mo_next 149 = .ok (.iconst 1, 1) := by decide +kernel
theorem d_Mo_next_150 : decode b_Mo_next 150 = .ok (.putfield 131, 3) := by decide +kernel
theorem d_Mo_next_153 : decode b_Mo_next 153 = .ok (.aload_n 0, 1) := by decide +kernel
theorem d_Mo_next_154 : decode b_Mo_next 154 = .ok (.aload_n 0, 1) := by decide +kernel
theorem d_Mo_next_155 : decode b_Mo_next 155 = .ok (.getfield 124, 3) := by decide +kernel
theorem d_Mo_next_158 : decode b_Mo_next 158 = .ok (.aload_n 0, 1) := by decide +kernel
theorem d_Mo_next_159 : decode b_Mo_next 159 = .ok (.getfield 98, 3) := by decide +kernel
theorem d_Mo_next_162 : decode b_Mo_next 162 = .ok (.isub, 1) := by decide +kernel
theorem d_Mo_next_163 : decode b_Mo_next 163 = .ok (.bipush 6, 2) := by decide +kernel
theorem d_Mo_next_165 : decode b_Mo_next 165 = .ok (.if_icmp .le 8, 3) := by decide +kernel
theorem d_Mo_next_168 : decode b_Mo_next 168 = .ok (.bipush (-4), 2) := by decide +kernel
theorem d_Mo_next_170 : decode b_Mo_next 170 = .ok (.goto 7, 3) := by decide +kernel
theorem d_Mo_next_173 : decode b_Mo_next 173 = .ok (.lload_n 2, 1) := by decide +kernel
theorem d_Mo_next_174 : decode b_Mo_next 174 = .ok (.invokestatic 138, 3) := by decide +kernel
theorem d_Mo_next_177 : decode b_Mo_next 177 = .ok (.putfield 142, 3) := by decide +kernel
theorem d_Mo_next_180 : decode b_Mo_next 180 = .ok (.aload_n 0, 1) := by decide +kernel
theorem d_Mo_next_181 : decode b_Mo_next 181 = .ok (.getfield 142, 3) := by decide +kernel
theorem d_Mo_next_184 : decode b_Mo_next 184 = .ok (.bipush (-4), 2) := by decide +kernel
theorem d_Mo_next_186 : decode b_Mo_next 186 = .ok (.if_icmp .ne 8, 3) := by decide +kernel
theorem d_Mo_next_189 : decode b_Mo_next 189 = .ok (.aload_n 0, 1) := by decide +kernel
theorem d_Mo_next_190 : decode b_Mo_next 190 = .ok (.iconst 1, 1) := by decide +kernel
theorem d_Mo_next_191 : decode b_Mo_next 191 = .ok (.invokevirtual 145, 3) := by decide +kernel
theorem d_Mo_next_194 : decode b_Mo_next 194 = .ok (.goto 184, 3) := by decide +kernel
theorem d_Mo_next_197 : decode b_Mo_next 197 = .ok (.iload_n 1, 1) := by decide +kernel
theorem d_Mo_next_198 : decode b_Mo_next 198 = .ok (.i2l, 1) := by decide +kernel
theorem d_Mo_next_199 : decode b_Mo_next 199 = .ok (.ldc2_w 149, 3) := by decide +kernel
theorem d_Mo_next_202 : decode b_Mo_next 202 = .ok (.ldc2_w 151, 3) := by decide +kernel
theorem d_Mo_next_205 : decode b_Mo_next 205 = .ok (.invokestatic 91, 3) := by decide +kernel
theorem d_Mo_next_208 : decode b_Mo_next 208 = .ok (.ifCond .ne 9, 3) := by decide +kernel
theorem d_Mo_next_211 : decode b_Mo_next 211 = .ok (.iload_n 1, 1) := by decide +kernel
theorem d_Mo_next_212 : decode b_Mo_next 212 = .ok (.bipush 45, 2) := by decide +kernel
theorem d_Mo_next_214 : decode b_Mo_next 214 = .ok (.if_icmp .ne 159, 3) := by decide +kernel
theorem d_Mo_next_217 : decode b_Mo_next 217 = .ok (.iload_n 1, 1) := by decide +kernel
theorem d_Mo_next_218 : decode b_Mo_next 218 = .ok (.bipush 45, 2) := by decide +kernel
theorem d_Mo_next_220 : decode b_Mo_next 220 = .ok (.if_icmp .ne 12, 3) := by decide +kernel
theorem d_Mo_next_223 : decode b_Mo_next 223 = .ok (.aload_n 0, 1) := by decide +kernel
theorem d_Mo_next_224 : decode b_Mo_next 224 = .ok (.getfield 124, 3) := by decide +kernel
theorem d_Mo_next_227 : decode b_Mo_next 227 = .ok (.iconst 1, 1) := by decide +kernel
theorem d_Mo_next_228 : decode b_Mo_next 228 = .ok (.iadd, 1) := by decide +kernel
theorem d_Mo_next_229 : decode b_Mo_next 229 = .ok (.goto 7, 3) := by decide +kernel
theorem d_Mo_next_232 : decode b_Mo_next 232 = .ok (.aload_n 0, 1) := by decide +kernel
theorem d_Mo_next_233 : decode b_Mo_next 233 = .ok (.getfield 124, 3) := by decide +kernel
theorem d_Mo_next_236 : decode b_Mo_next 236 = .ok (.istore_n 2, 1) := by decide +kernel
theorem d_Mo_next_237 : decode b_Mo_next 237 = .ok (.aload_n 0, 1) := by decide +kernel
theorem d_Mo_next_238 : decode b_Mo_next 238 = .ok (.iload_n 2, 1) := by decide +kernel
theorem d_Mo_next_239 : decode b_Mo_next 239 = .ok (.putfield 124, 3) := by decide +kernel
theorem d_Mo_next_242 : decode b_Mo_next 242 = .ok (.aload_n 0, 1) := by decide +kernel
theorem d_Mo_next_243 : decode b_Mo_next 243 = .ok (.iconst 0, 1) := by decide +kernel
theorem d_Mo_next_244 : decode b_Mo_next 244 = .ok (.putfield 142, 3) := by decide +kernel
theorem d_Mo_next_247 : decode b_Mo_next 247 = .ok (.aload_n 0, 1) := by decide +kernel
theorem d_Mo_next_248 : decode b_Mo_next 248 = .ok (.aload_n 0, 1) := by decide +kernel
theorem d_Mo_next_249 : decode b_Mo_next 249 = .ok (.getfield 124, 3) := by decide +kernel
theorem d_Mo_next_252 : decode b_Mo_next 252 = .ok (.invokevirtual 127, 3) := by decide +kernel
theorem d_Mo_next_255 : decode b_Mo_next 255 = .ok (.i2l, 1) := by decide +kernel
theorem d_Mo_next_256 : decode b_Mo_next 256 = .ok (.ldc2_w 149, 3) := by decide +kernel
theorem d_Mo_next_259 : decode b_Mo_next 259 = .ok (.ldc2_w 151, 3) := by decide +kernel
theorem d_Mo_next_262 : decode b_Mo_next 262 = .ok (.invokestatic 91, 3) := by decide +kernel
theorem d_Mo_next_265 : decode b_Mo_next 265 = .ok (.ifCond .eq 56, 3) := by decide +kernel
theorem d_Mo_next_268 : decode b_Mo_next 268 = .ok (.aload_n 0, 1) := by decide +kernel
theorem d_Mo_next_269 : decode b_Mo_next 269 = .ok (.aload_n 0, 1) := by decide +kernel
theorem d_Mo_next_270 : decode b_Mo_next 270 = .ok (.getfield 124, 3) := by decide +kernel
theorem d_Mo_next_273 : decode b_Mo_next 273 = .ok (.iload_n 2, 1) := by decide +kernel
theorem d_Mo_next_274 : decode b_Mo_next 274 = .ok (.isub, 1) := by decide +kernel
theorem d_Mo_next_275 : decode b_Mo_next 275 = .ok (.iconst 2, 1) := by decide +kernel
theorem d_Mo_next_276 : decode b_Mo_next 276 = .ok (.if_icmp .ge 25, 3) := by decide +kernel
theorem d_Mo_next_279 : decode b_Mo_next 279 = .ok (.bipush 10, 2) := by decide +kernel
theorem d_Mo_next_281 : decode b_Mo_next 281 = .ok (.aload_n 0, 1) := by decide +kernel
theorem d_Mo_next_282 : decode b_Mo_next 282 = .ok (.getfield 142, 3) := by decide +kernel
theorem d_Mo_next_285 : decode b_Mo_next 285 = .ok (.imul, 1) := by decide +kernel
theorem d_Mo_next_286 : decode b_Mo_next 286 = .ok (.aload_n 0, 1) := by decide +kernel
theorem d_Mo_next_287 : decode b_Mo_next 287 = .ok (.aload_n 0, 1) := by decide +kernel
theorem d_Mo_next_288 : decode b_Mo_next 288 = .ok (.getfield 124, 3) := by decide +kernel
theorem d_Mo_next_291 : decode b_Mo_next 291 = .ok (.invokevirtual 127, 3) := by decide +kernel
theorem d_Mo_next_294 : decode b_Mo_next 294 = .ok (.iadd, 1) := by decide +kernel
theorem d_Mo_next_295 : decode b_Mo_next 295 = .ok (.bipush 48, 2) := by decide +kernel
theorem d_Mo_next_297 : decode b_Mo_next 297 = .ok (.isub, 1) := by decide +kernel
theorem d_Mo_next_298 : decode b_Mo_next 298 = .ok (.goto 7, 3) := by decide +kernel
theorem d_Mo_next_301 : decode b_Mo_next 301 = .ok (.aload_n 0, 1) := by decide +kernel
theorem d_Mo_next_302 : decode b_Mo_next 302 = .ok (.getfield 142, 3) := by decide +kernel
theorem d_Mo_next_305 : decode b_Mo_next 305 = .ok (.putfield 142, 3) := by decide +kernel
theorem d_Mo_next_308 : decode b_Mo_next 308 = .ok (.aload_n 0, 1) := by decide +kernel
theorem d_Mo_next_309 : decode b_Mo_next 309 = .ok (.dup, 1) := by decide +kernel
theorem d_Mo_next_310 : decode b_Mo_next 310 = .ok (.getfield 124, 3) := by decide +kernel
theorem d_Mo_next_313 : decode b_Mo_next 313 = .ok (.iconst 1, 1) := by decide +kernel
theorem d_Mo_next_314 : decode b_Mo_next 314 = .ok (.iadd, 1) := by decide +kernel
theorem d_Mo_next_315 : decode b_Mo_next 315 = .ok (.putfield 124, 3) := by decide +kernel
theorem d_Mo_next_318 : decode b_Mo_next 318 = .ok (.goto (-71), 3) := by decide +kernel
theorem d_Mo_next_321 : decode b_Mo_next 321 = .ok (.aload_n 0, 1) := by decide +kernel
theorem d_Mo_next_322 : decode b_Mo_next 322 = .ok (.iconst 2, 1) := by decide +kernel
theorem d_Mo_next_323 : decode b_Mo_next 323 = .ok (.putfield 131, 3) := by decide +kernel
theorem d_Mo_next_326 : decode b_Mo_next 326 = .ok (.aload_n 0, 1) := by decide +kernel
theorem d_Mo_next_327 : decode b_Mo_next 327 = .ok (.getfield 124, 3) := by decide +kernel
theorem d_Mo_next_330 : decode b_Mo_next 330 = .ok (.iload_n 2, 1) := by decide +kernel
theorem d_Mo_next_331 : decode b_Mo_next 331 = .ok (.isub, 1) := by decide +kernel
theorem d_Mo_next_332 : decode b_Mo_next 332 = .ok (.i2l, 1) := by decide +kernel
theorem d_Mo_next_333 : decode b_Mo_next 333 = .ok (.lconst 1, 1) := by decide +kernel
theorem d_Mo_next_334 : decode b_Mo_next 334 = .ok (.ldc2_w 153, 3) := by decide +kernel
theorem d_Mo_next_337 : decode b_Mo_next 337 = .ok (.invokestatic 91, 3) := by decide +kernel
theorem d_Mo_next_340 : decode b_Mo_next 340 = .ok (.ifCond .ne 8, 3) := by decide +kernel
theorem d_Mo_next_343 : decode b_Mo_next 343 = .ok (.aload_n 0, 1) := by decide +kernel
theorem d_Mo_next_344 : decode b_Mo_next 344 = .ok (.iconst 1, 1) := by decide +kernel
theorem d_Mo_next_345 : decode b_Mo_next 345 = .ok (.invokevirtual 145, 3) := by decide +kernel
theorem d_Mo_next_348 : decode b_Mo_next 348 = .ok (.aload_n 0, 1) := by decide +kernel
theorem d_Mo_next_349 : decode b_Mo_next 349 = .ok (.iload_n 1, 1) := by decide +kernel
theorem d_Mo_next_350 : decode b_Mo_next 350 = .ok (.bipush 45, 2) := by decide +kernel
theorem d_Mo_next_352 : decode b_Mo_next 352 = .ok (.if_icmp .ne 11, 3) := by decide +kernel
theorem d_Mo_next_355 : decode b_Mo_next 355 = .ok (.aload_n 0, 1) := by decide +kernel
theorem d_Mo_next_356 : decode b_Mo_next 356 = .ok (.getfield 142, 3) := by decide +kernel
theorem d_Mo_next_359 : decode b_Mo_next 359 = .ok (.ineg, 1) := by decide +kernel
theorem d_Mo_next_360 : decode b_Mo_next 360 = .ok (.goto 7, 3) := by decide +kernel
theorem d_Mo_next_363 : decode b_Mo_next 363 = .ok (.aload_n 0, 1) := by decide +kernel
theorem d_Mo_next_364 : decode b_Mo_next 364 = .ok (.getfield 142, 3) := by decide +kernel
theorem d_Mo_next_367 : decode b_Mo_next 367 = .ok (.putfield 142, 3) := by decide +kernel
theorem d_Mo_next_370 : decode b_Mo_next 370 = .ok (.goto 8, 3) := by decide +kernel
theorem d_Mo_next_373 : decode b_Mo_next 373 = .ok (.aload_n 0, 1) := by decide +kernel
theorem d_Mo_next_374 : decode b_Mo_next 374 = .ok (.iconst 1, 1) := by decide +kernel
theorem d_Mo_next_375 : decode b_Mo_next 375 = .ok (.invokevirtual 145, 3) := by decide +kernel
theorem d_Mo_next_378 : decode b_Mo_next 378 = .ok (.return_, 1) := by decide +kernel
theorem d_Mo_byteAt_0 : decode b_Mo_byteAt 0 = .ok (.iload_n 1, 1) := by decide +kernel
theorem d_Mo_byteAt_1 : decode b_Mo_byteAt 1 = .ok (.aload_n 0, 1) := by decide +kernel
theorem d_Mo_byteAt_2 : decode b_Mo_byteAt 2 = .ok (.getfield 87, 3) := by decide +kernel
theorem d_Mo_byteAt_5 : decode b_Mo_byteAt 5 = .ok (.if_icmp .ge 12, 3) := by decide +kernel
theorem d_Mo_byteAt_8 : decode b_Mo_byteAt 8 = .ok (.aload_n 0, 1) := by decide +kernel
theorem d_Mo_byteAt_9 : decode b_Mo_byteAt 9 = .ok (.getfield 22, 3) := by decide +kernel
theorem d_Mo_byteAt_12 : decode b_Mo_byteAt 12 = .ok (.iload_n 1, 1) := by decide +kernel
theorem d_Mo_byteAt_13 : decode b_Mo_byteAt 13 = .ok (.iaload, 1) := by decide +kernel
theorem d_Mo_byteAt_14 : decode b_Mo_byteAt 14 = .ok (.goto 5, 3) := by decide +kernel
theorem d_Mo_byteAt_17 : decode b_Mo_byteAt 17 = .ok (.bipush (-4), 2) := by decide +kernel
theorem d_Mo_byteAt_19 : decode b_Mo_byteAt 19 = .ok (.ireturn, 1) := by decide +kernel
theorem d_Mo_ruleOf_0 : decode b_Mo_ruleOf 0 = .ok (.lload_n 0, 1) := by decide +kernel
theorem d_Mo_ruleOf_1 : decode b_Mo_ruleOf 1 = .ok (.ldc2_w 104, 3) := by decide +kernel
theorem d_Mo_ruleOf_4 : decode b_Mo_ruleOf 4 = .ok (.lcmp, 1) := by decide +kernel
theorem d_Mo_ruleOf_5 : decode b_Mo_ruleOf 5 = .ok (.ifCond .ne 5, 3) := by decide +kernel
theorem d_Mo_ruleOf_8 : decode b_Mo_ruleOf 8 = .ok (.iconst 0, 1) := by decide +kernel
theorem d_Mo_ruleOf_9 : decode b_Mo_ruleOf 9 = .ok (.ireturn, 1) := by decide +kernel
theorem d_Mo_ruleOf_10 : decode b_Mo_ruleOf 10 = .ok (.lload_n 0, 1) := by decide +kernel
theorem d_Mo_ruleOf_11 : decode b_Mo_ruleOf 11 = .ok (.ldc2_w 106, 3) := by decide +kernel
theorem d_Mo_ruleOf_14 : decode b_Mo_ruleOf 14 = .ok (.lcmp, 1) := by decide +kernel
theorem d_Mo_ruleOf_15 : decode b_Mo_ruleOf 15 = .ok (.ifCond .ne 5, 3) := by decide +kernel
theorem d_Mo_ruleOf_18 : decode b_Mo_ruleOf 18 = .ok (.iconst 1, 1) := by decide +kernel
theorem d_Mo_ruleOf_19 : decode b_Mo_ruleOf 19 = .ok (.ireturn, 1) := by decide +kernel
theorem d_Mo_ruleOf_20 : decode b_Mo_ruleOf 20 = .ok (.lload_n 0, 1) := by decide +kernel
theorem d_Mo_ruleOf_21 : decode b_Mo_ruleOf 21 = .ok (.ldc2_w 108, 3) := by decide +kernel
theorem d_Mo_ruleOf_24 : decode b_Mo_ruleOf 24 = .ok (.lcmp, 1) := by decide +kernel
theorem d_Mo_ruleOf_25 : decode b_Mo_ruleOf 25 = .ok (.ifCond .ne 5, 3) := by decide +kernel
theorem d_Mo_ruleOf_28 : decode b_Mo_ruleOf 28 = .ok (.iconst 2, 1) := by decide +kernel
theorem d_Mo_ruleOf_29 : decode b_Mo_ruleOf 29 = .ok (.ireturn, 1) := by decide +kernel
theorem d_Mo_ruleOf_30 : decode b_Mo_ruleOf 30 = .ok (.lload_n 0, 1) := by decide +kernel
theorem d_Mo_ruleOf_31 : decode b_Mo_ruleOf 31 = .ok (.ldc2_w 110, 3) := by decide +kernel
theorem d_Mo_ruleOf_34 : decode b_Mo_ruleOf 34 = .ok (.lcmp, 1) := by decide +kernel
theorem d_Mo_ruleOf_35 : decode b_Mo_ruleOf 35 = .ok (.ifCond .ne 5, 3) := by decide +kernel
theorem d_Mo_ruleOf_38 : decode b_Mo_ruleOf 38 = .ok (.iconst 3, 1) := by decide +kernel
theorem d_Mo_ruleOf_39 : decode b_Mo_ruleOf 39 = .ok (.ireturn, 1) := by decide +kernel
theorem d_Mo_ruleOf_40 : decode b_Mo_ruleOf 40 = .ok (.lload_n 0, 1) := by decide +kernel
theorem d_Mo_ruleOf_41 : decode b_Mo_ruleOf 41 = .ok (.ldc2_w 112, 3) := by decide +kernel
theorem d_Mo_ruleOf_44 : decode b_Mo_ruleOf 44 = .ok (.lcmp, 1) := by decide +kernel
theorem d_Mo_ruleOf_45 : decode b_Mo_ruleOf 45 = .ok (.ifCond .ne 5, 3) := by decide +kernel
theorem d_Mo_ruleOf_48 : decode b_Mo_ruleOf 48 = .ok (.iconst 4, 1) := by decide +kernel
theorem d_Mo_ruleOf_49 : decode b_Mo_ruleOf 49 = .ok (.ireturn, 1) := by decide +kernel
theorem d_Mo_ruleOf_50 : decode b_Mo_ruleOf 50 = .ok (.lload_n 0, 1) := by decide +kernel
theorem d_Mo_ruleOf_51 : decode b_Mo_ruleOf 51 = .ok (.ldc2_w 114, 3) := by decide +kernel
theorem d_Mo_ruleOf_54 : decode b_Mo_ruleOf 54 = .ok (.lcmp, 1) := by decide +kernel
theorem d_Mo_ruleOf_55 : decode b_Mo_ruleOf 55 = .ok (.ifCond .ne 5, 3) := by decide +kernel
theorem d_Mo_ruleOf_58 : decode b_Mo_ruleOf 58 = .ok (.iconst 5, 1) := by decide +kernel
theorem d_Mo_ruleOf_59 : decode b_Mo_ruleOf 59 = .ok (.ireturn, 1) := by decide +kernel
theorem d_Mo_ruleOf_60 : decode b_Mo_ruleOf 60 = .ok (.lload_n 0, 1) := by decide +kernel
theorem d_Mo_ruleOf_61 : decode b_Mo_ruleOf 61 = .ok (.ldc2_w 116, 3) := by decide +kernel
theorem d_Mo_ruleOf_64 : decode b_Mo_ruleOf 64 = .ok (.lcmp, 1) := by decide +kernel
theorem d_Mo_ruleOf_65 : decode b_Mo_ruleOf 65 = .ok (.ifCond .ne 6, 3) := by decide +kernel
theorem d_Mo_ruleOf_68 : decode b_Mo_ruleOf 68 = .ok (.bipush 6, 2) := by decide +kernel
theorem d_Mo_ruleOf_70 : decode b_Mo_ruleOf 70 = .ok (.ireturn, 1) := by decide +kernel
theorem d_Mo_ruleOf_71 : decode b_Mo_ruleOf 71 = .ok (.lload_n 0, 1) := by decide +kernel
theorem d_Mo_ruleOf_72 : decode b_Mo_ruleOf 72 = .ok (.ldc2_w 118, 3) := by decide +kernel
theorem d_Mo_ruleOf_75 : decode b_Mo_ruleOf 75 = .ok (.lcmp, 1) := by decide +kernel
theorem d_Mo_ruleOf_76 : decode b_Mo_ruleOf 76 = .ok (.ifCond .ne 6, 3) := by decide +kernel
theorem d_Mo_ruleOf_79 : decode b_Mo_ruleOf 79 = .ok (.bipush 7, 2) := by decide +kernel
theorem d_Mo_ruleOf_81 : decode b_Mo_ruleOf 81 = .ok (.ireturn, 1) := by decide +kernel
theorem d_Mo_ruleOf_82 : decode b_Mo_ruleOf 82 = .ok (.lload_n 0, 1) := by decide +kernel
theorem d_Mo_ruleOf_83 : decode b_Mo_ruleOf 83 = .ok (.ldc2_w 120, 3) := by decide +kernel
theorem d_Mo_ruleOf_86 : decode b_Mo_ruleOf 86 = .ok (.lcmp, 1) := by decide +kernel
theorem d_Mo_ruleOf_87 : decode b_Mo_ruleOf 87 = .ok (.ifCond .ne 6, 3) := by decide +kernel
theorem d_Mo_ruleOf_90 : decode b_Mo_ruleOf 90 = .ok (.bipush 8, 2) := by decide +kernel
theorem d_Mo_ruleOf_92 : decode b_Mo_ruleOf 92 = .ok (.ireturn, 1) := by decide +kernel
theorem d_Mo_ruleOf_93 : decode b_Mo_ruleOf 93 = .ok (.lload_n 0, 1) := by decide +kernel
theorem d_Mo_ruleOf_94 : decode b_Mo_ruleOf 94 = .ok (.ldc2_w 122, 3) := by decide +kernel
theorem d_Mo_ruleOf_97 : decode b_Mo_ruleOf 97 = .ok (.lcmp, 1) := by decide +kernel
theorem d_Mo_ruleOf_98 : decode b_Mo_ruleOf 98 = .ok (.ifCond .ne 8, 3) := by decide +kernel
theorem d_Mo_ruleOf_101 : decode b_Mo_ruleOf 101 = .ok (.bipush 9, 2) := by decide +kernel
theorem d_Mo_ruleOf_103 : decode b_Mo_ruleOf 103 = .ok (.goto 5, 3) := by decide +kernel
theorem d_Mo_ruleOf_106 : decode b_Mo_ruleOf 106 = .ok (.bipush (-4), 2) := by decide +kernel
theorem d_Mo_ruleOf_108 : decode b_Mo_ruleOf 108 = .ok (.ireturn, 1) := by decide +kernel
theorem d_Mo_fails_0 : decode b_Mo_fails 0 = .ok (.aload_n 0, 1) := by decide +kernel
theorem d_Mo_fails_1 : decode b_Mo_fails 1 = .ok (.getfield 95, 3) := by decide +kernel
theorem d_Mo_fails_4 : decode b_Mo_fails 4 = .ok (.ifCond .ne 16, 3) := by decide +kernel
theorem d_Mo_fails_7 : decode b_Mo_fails 7 = .ok (.aload_n 0, 1) := by decide +kernel
theorem d_Mo_fails_8 : decode b_Mo_fails 8 = .ok (.iload_n 1, 1) := by decide +kernel
theorem d_Mo_fails_9 : decode b_Mo_fails 9 = .ok (.putfield 95, 3) := by decide +kernel
theorem d_Mo_fails_12 : decode b_Mo_fails 12 = .ok (.aload_n 0, 1) := by decide +kernel
theorem d_Mo_fails_13 : decode b_Mo_fails 13 = .ok (.aload_n 0, 1) := by decide +kernel
theorem d_Mo_fails_14 : decode b_Mo_fails 14 = .ok (.getfield 98, 3) := by decide +kernel
theorem d_Mo_fails_17 : decode b_Mo_fails 17 = .ok (.putfield 101, 3) := by decide +kernel
theorem d_Mo_fails_20 : decode b_Mo_fails 20 = .ok (.return_, 1) := by decide +kernel
theorem d_Mo_one_0 : decode b_Mo_one 0 = .ok (.aload_n 0, 1) := by decide +kernel
theorem d_Mo_one_1 : decode b_Mo_one 1 = .ok (.getfield 131, 3) := by decide +kernel
theorem d_Mo_one_4 : decode b_Mo_one 4 = .ok (.iconst 1, 1) := by decide +kernel
theorem d_Mo_one_5 : decode b_Mo_one 5 = .ok (.if_icmp .eq 9, 3) := by decide +kernel
theorem d_Mo_one_8 : decode b_Mo_one 8 = .ok (.aload_n 0, 1) := by decide +kernel
theorem d_Mo_one_9 : decode b_Mo_one 9 = .ok (.iconst 2, 1) := by decide +kernel
theorem d_Mo_one_10 : decode b_Mo_one 10 = .ok (.invokevirtual 145, 3) := by decide +kernel
theorem d_Mo_one_13 : decode b_Mo_one 13 = .ok (.return_, 1) := by decide +kernel
theorem d_Mo_one_14 : decode b_Mo_one 14 = .ok (.bipush 64, 2) := by decide +kernel
theorem d_Mo_one_16 : decode b_Mo_one 16 = .ok (.aload_n 0, 1) := by decide +kernel
theorem d_Mo_one_17 : decode b_Mo_one 17 = .ok (.getfield 155, 3) := by decide +kernel
theorem d_Mo_one_20 : decode b_Mo_one 20 = .ok (.imul, 1) := by decide +kernel
theorem d_Mo_one_21 : decode b_Mo_one 21 = .ok (.aload_n 0, 1) := by decide +kernel
theorem d_Mo_one_22 : decode b_Mo_one 22 = .ok (.getfield 7, 3) := by decide +kernel
theorem d_Mo_one_25 : decode b_Mo_one 25 = .ok (.aload_n 0, 1) := by decide +kernel
theorem d_Mo_one_26 : decode b_Mo_one 26 = .ok (.getfield 155, 3) := by decide +kernel
theorem d_Mo_one_29 : decode b_Mo_one 29 = .ok (.iaload, 1) := by decide +kernel
theorem d_Mo_one_30 : decode b_Mo_one 30 = .ok (.iadd, 1) := by decide +kernel
theorem d_Mo_one_31 : decode b_Mo_one 31 = .ok (.istore_n 2, 1) := by decide +kernel
theorem d_Mo_one_32 : decode b_Mo_one 32 = .ok (.aload_n 0, 1) := by decide +kernel
theorem d_Mo_one_33 : decode b_Mo_one 33 = .ok (.getfield 142, 3) := by decide +kernel
theorem d_Mo_one_36 : decode b_Mo_one 36 = .ok (.istore_n 3, 1) := by decide +kernel
theorem d_Mo_one_37 : decode b_Mo_one 37 = .ok (.aload_n 0, 1) := by decide +kernel
theorem d_Mo_one_38 : decode b_Mo_one 38 = .ok (.getfield 13, 3) := by decide +kernel
theorem d_Mo_one_41 : decode b_Mo_one 41 = .ok (.iload_n 2, 1) := by decide +kernel
theorem d_Mo_one_42 : decode b_Mo_one 42 = .ok (.iload_n 3, 1) := by decide +kernel
theorem d_Mo_one_43 : decode b_Mo_one 43 = .ok (.iastore, 1) := by decide +kernel
theorem d_Mo_one_44 : decode b_Mo_one 44 = .ok (.aload_n 0, 1) := by decide +kernel
theorem d_Mo_one_45 : decode b_Mo_one 45 = .ok (.getfield 16, 3) := by decide +kernel
theorem d_Mo_one_48 : decode b_Mo_one 48 = .ok (.iload_n 2, 1) := by decide +kernel
theorem d_Mo_one_49 : decode b_Mo_one 49 = .ok (.iload_n 1, 1) := by decide +kernel
theorem d_Mo_one_50 : decode b_Mo_one 50 = .ok (.iastore, 1) := by decide +kernel
theorem d_Mo_one_51 : decode b_Mo_one 51 = .ok (.aload_n 0, 1) := by decide +kernel
theorem d_Mo_one_52 : decode b_Mo_one 52 = .ok (.invokevirtual 158, 3) := by decide +kernel
theorem d_Mo_one_55 : decode b_Mo_one 55 = .ok (.iconst 0, 1) := by decide +kernel
theorem d_Mo_one_56 : decode b_Mo_one 56 = .ok (.istore 4, 2) := by decide +kernel
theorem d_Mo_one_58 : decode b_Mo_one 58 = .ok (.iload 4, 2) := by decide +kernel
theorem d_Mo_one_60 : decode b_Mo_one 60 = .ok (.iload_n 3, 1) := by decide +kernel
theorem d_Mo_one_61 : decode b_Mo_one 61 = .ok (.invokestatic 161, 3) := by decide +kernel
theorem d_Mo_one_64 : decode b_Mo_one 64 = .ok (.if_icmp .ge 130, 3) := by decide +kernel
theorem d_Mo_one_67 : decode b_Mo_one 67 = .ok (.aload_n 0, 1) := by decide +kernel
theorem d_Mo_one_68 : decode b_Mo_one 68 = .ok (.getfield 95, 3) := by decide +kernel
theorem d_Mo_one_71 : decode b_Mo_one 71 = .ok (.ifCond .ne 123, 3) := by decide +kernel
theorem d_Mo_one_74 : decode b_Mo_one 74 = .ok (.iload_n 3, 1) := by decide +kernel
theorem d_Mo_one_75 : decode b_Mo_one 75 = .ok (.ifCond .ne 13, 3) := by decide +kernel
theorem d_Mo_one_78 : decode b_Mo_one 78 = .ok (.iload 4, 2) := by decide +kernel
theorem d_Mo_one_80 : decode b_Mo_one 80 = .ok (.iconst 3, 1) := by decide +kernel
theorem d_Mo_one_81 : decode b_Mo_one 81 = .ok (.if_icmp .ne 7, 3) := by decide +kernel
theorem d_Mo_one_84 : decode b_Mo_one 84 = .ok (.iconst 0, 1) := by decide +kernel
theorem d_Mo_one_85 : decode b_Mo_one 85 = .ok (.goto 43, 3) := by decide +kernel
theorem d_Mo_one_88 : decode b_Mo_one 88 = .ok (.iload_n 3, 1) := by decide +kernel
theorem d_Mo_one_89 : decode b_Mo_one 89 = .ok (.bipush 9, 2) := by decide +kernel
theorem d_Mo_one_91 : decode b_Mo_one 91 = .ok (.if_icmp .ne 7, 3) := by decide +kernel
theorem d_Mo_one_94 : decode b_Mo_one 94 = .ok (.iconst 1, 1) := by decide +kernel
theorem d_Mo_one_95 : decode b_Mo_one 95 = .ok (.goto 33, 3) := by decide +kernel
theorem d_Mo_one_98 : decode b_Mo_one 98 = .ok (.iload_n 3, 1) := by decide +kernel
theorem d_Mo_one_99 : decode b_Mo_one 99 = .ok (.iconst 1, 1) := by decide +kernel
theorem d_Mo_one_100 : decode b_Mo_one 100 = .ok (.if_icmp .ne 26, 3) := by decide +kernel
theorem d_Mo_one_103 : decode b_Mo_one 103 = .ok (.iload 4, 2) := by decide +kernel
theorem d_Mo_one_105 : decode b_Mo_one 105 = .ok (.iconst 2, 1) := by decide +kernel
theorem d_Mo_one_106 : decode b_Mo_one 106 = .ok (.if_icmp .le 20, 3) := by decide +kernel
theorem d_Mo_one_109 : decode b_Mo_one 109 = .ok (.aload_n 0, 1) := by decide +kernel
theorem d_Mo_one_110 : decode b_Mo_one 110 = .ok (.getfield 19, 3) := by decide +kernel
theorem d_Mo_one_113 : decode b_Mo_one 113 = .ok (.bipush 6, 2) := by decide +kernel
theorem d_Mo_one_115 : decode b_Mo_one 115 = .ok (.iload_n 2, 1) := by decide +kernel
theorem d_Mo_one_116 : decode b_Mo_one 116 = .ok (.imul, 1) := by decide +kernel
theorem d_Mo_one_117 : decode b_Mo_one 117 = .ok (.iload 4, 2) := by decide +kernel
theorem d_Mo_one_119 : decode b_Mo_one 119 = .ok (.iadd, 1) := by decide +kernel
theorem d_Mo_one_120 : decode b_Mo_one 120 = .ok (.iconst 3, 1) := by decide +kernel
theorem d_Mo_one_121 : decode b_Mo_one 121 = .ok (.isub, 1) := by decide +kernel
theorem d_Mo_one_122 : decode b_Mo_one 122 = .ok (.iaload, 1) := by decide +kernel
theorem d_Mo_one_123 : decode b_Mo_one 123 = .ok (.goto 5, 3) := by decide +kernel
theorem d_Mo_one_126 : decode b_Mo_one 126 = .ok (.bipush (-20), 2) := by decide +kernel
theorem d_Mo_one_128 : decode b_Mo_one 128 = .ok (.istore 5, 2) := by decide +kernel
theorem d_Mo_one_130 : decode b_Mo_one 130 = .ok (.aload_n 0, 1) := by decide +kernel
theorem d_Mo_one_131 : decode b_Mo_one 131 = .ok (.getfield 131, 3) := by decide +kernel
theorem d_Mo_one_134 : decode b_Mo_one 134 = .ok (.iconst 2, 1) := by decide +kernel
theorem d_Mo_one_135 : decode b_Mo_one 135 = .ok (.if_icmp .eq 11, 3) := by decide +kernel
theorem d_Mo_one_138 : decode b_Mo_one 138 = .ok (.aload_n 0, 1) := by decide +kernel
theorem d_Mo_one_139 : decode b_Mo_one 139 = .ok (.iconst 2, 1) := by decide +kernel
theorem d_Mo_one_140 : decode b_Mo_one 140 = .ok (.invokevirtual 145, 3) := by decide +kernel
theorem d_Mo_one_143 : decode b_Mo_one 143 = .ok (.goto 25, 3) := by decide +kernel
theorem d_Mo_one_146 : decode b_Mo_one 146 = .ok (.aload_n 0, 1) := by decide +kernel
theorem d_Mo_one_147 : decode b_Mo_one 147 = .ok (.getfield 142, 3) := by decide +kernel
theorem d_Mo_one_150 : decode b_Mo_one 150 = .ok (.i2l, 1) := by decide +kernel
theorem d_Mo_one_151 : decode b_Mo_one 151 = .ok (.iload 5, 2) := by decide +kernel
theorem d_Mo_one_153 : decode b_Mo_one 153 = .ok (.i2l, 1) := by decide +kernel
theorem d_Mo_one_154 : decode b_Mo_one 154 = .ok (.ldc2_w 164, 3) := by decide +kernel
theorem d_Mo_one_157 : decode b_Mo_one 157 = .ok (.invokestatic 91, 3) := by decide +kernel
theorem d_Mo_one_160 : decode b_Mo_one 160 = .ok (.ifCond .ne 8, 3) := by decide +kernel
theorem d_Mo_one_163 : decode b_Mo_one 163 = .ok (.aload_n 0, 1) := by decide +kernel
theorem d_Mo_one_164 : decode b_Mo_one 164 = .ok (.iconst 3, 1) := by decide +kernel
theorem d_Mo_one_165 : decode b_Mo_one 165 = .ok (.invokevirtual 145, 3) := by decide +kernel
theorem d_Mo_one_168 : decode b_Mo_one 168 = .ok (.aload_n 0, 1) := by decide +kernel
theorem d_Mo_one_169 : decode b_Mo_one 169 = .ok (.getfield 19, 3) := by decide +kernel
theorem d_Mo_one_172 : decode b_Mo_one 172 = .ok (.bipush 6, 2) := by decide +kernel
theorem d_Mo_one_174 : decode b_Mo_one 174 = .ok (.iload_n 2, 1) := by decide +kernel
theorem d_Mo_one_175 : decode b_Mo_one 175 = .ok (.imul, 1) := by decide +kernel
theorem d_Mo_one_176 : decode b_Mo_one 176 = .ok (.iload 4, 2) := by decide +kernel
theorem d_Mo_one_178 : decode b_Mo_one 178 = .ok (.iadd, 1) := by decide +kernel
theorem d_Mo_one_179 : decode b_Mo_one 179 = .ok (.aload_n 0, 1) := by decide +kernel
theorem d_Mo_one_180 : decode b_Mo_one 180 = .ok (.getfield 142, 3) := by decide +kernel
theorem d_Mo_one_183 : decode b_Mo_one 183 = .ok (.iastore, 1) := by decide +kernel
theorem d_Mo_one_184 : decode b_Mo_one 184 = .ok (.aload_n 0, 1) := by decide +kernel
theorem d_Mo_one_185 : decode b_Mo_one 185 = .ok (.invokevirtual 158, 3) := by decide +kernel
theorem d_Mo_one_188 : decode b_Mo_one 188 = .ok (.iinc 4 1, 3) := by decide +kernel
theorem d_Mo_one_191 : decode b_Mo_one 191 = .ok (.goto (-133), 3) := by decide +kernel
theorem d_Mo_one_194 : decode b_Mo_one 194 = .ok (.aload_n 0, 1) := by decide +kernel
theorem d_Mo_one_195 : decode b_Mo_one 195 = .ok (.getfield 7, 3) := by decide +kernel
theorem d_Mo_one_198 : decode b_Mo_one 198 = .ok (.aload_n 0, 1) := by decide +kernel
theorem d_Mo_one_199 : decode b_Mo_one 199 = .ok (.getfield 155, 3) := by decide +kernel
theorem d_Mo_one_202 : decode b_Mo_one 202 = .ok (.dup2, 1) := by decide +kernel
theorem d_Mo_one_203 : decode b_Mo_one 203 = .ok (.iaload, 1) := by decide +kernel
theorem d_Mo_one_204 : decode b_Mo_one 204 = .ok (.iconst 1, 1) := by decide +kernel
theorem d_Mo_one_205 : decode b_Mo_one 205 = .ok (.iadd, 1) := by decide +kernel
theorem d_Mo_one_206 : decode b_Mo_one 206 = .ok (.iastore, 1) := by decide +kernel
theorem d_Mo_one_207 : decode b_Mo_one 207 = .ok (.return_, 1) := by decide +kernel
theorem d_Mo_numbersOf_0 : decode b_Mo_numbersOf 0 = .ok (.iload_n 0, 1) := by decide +kernel
theorem d_Mo_numbersOf_1 : decode b_Mo_numbersOf 1 = .ok (.ifCond .eq 8, 3) := by decide +kernel
theorem d_Mo_numbersOf_4 : decode b_Mo_numbersOf 4 = .ok (.iload_n 0, 1) := by decide +kernel
theorem d_Mo_numbersOf_5 : decode b_Mo_numbersOf 5 = .ok (.iconst 2, 1) := by decide +kernel
theorem d_Mo_numbersOf_6 : decode b_Mo_numbersOf 6 = .ok (.if_icmp .ne 7, 3) := by decide +kernel
theorem d_Mo_numbersOf_9 : decode b_Mo_numbersOf 9 = .ok (.iconst 4, 1) := by decide +kernel
theorem d_Mo_numbersOf_10 : decode b_Mo_numbersOf 10 = .ok (.goto 34, 3) := by decide +kernel
theorem d_Mo_numbersOf_13 : decode b_Mo_numbersOf 13 = .ok (.iload_n 0, 1) := by decide +kernel
theorem d_Mo_numbersOf_14 : decode b_Mo_numbersOf 14 = .ok (.iconst 1, 1) := by decide +kernel
theorem d_Mo_numbersOf_15 : decode b_Mo_numbersOf 15 = .ok (.if_icmp .ne 8, 3) := by decide +kernel
theorem d_Mo_numbersOf_18 : decode b_Mo_numbersOf 18 = .ok (.bipush 6, 2) := by decide +kernel
theorem d_Mo_numbersOf_20 : decode b_Mo_numbersOf 20 = .ok (.goto 24, 3) := by decide +kernel
theorem d_Mo_numbersOf_23 : decode b_Mo_numbersOf 23 = .ok (.iload_n 0, 1) := by decide +kernel
theorem d_Mo_numbersOf_24 : decode b_Mo_numbersOf 24 = .ok (.bipush 6, 2) := by decide +kernel
theorem d_Mo_numbersOf_26 : decode b_Mo_numbersOf 26 = .ok (.if_icmp .ne 7, 3) := by decide +kernel
theorem d_Mo_numbersOf_29 : decode b_Mo_numbersOf 29 = .ok (.iconst 3, 1) := by decide +kernel
theorem d_Mo_numbersOf_30 : decode b_Mo_numbersOf 30 = .ok (.goto 14, 3) := by decide +kernel
theorem d_Mo_numbersOf_33 : decode b_Mo_numbersOf 33 = .ok (.iload_n 0, 1) := by decide +kernel
theorem d_Mo_numbersOf_34 : decode b_Mo_numbersOf 34 = .ok (.bipush 9, 2) := by decide +kernel
theorem d_Mo_numbersOf_36 : decode b_Mo_numbersOf 36 = .ok (.if_icmp .ne 7, 3) := by decide +kernel
theorem d_Mo_numbersOf_39 : decode b_Mo_numbersOf 39 = .ok (.iconst 1, 1) := by decide +kernel
theorem d_Mo_numbersOf_40 : decode b_Mo_numbersOf 40 = .ok (.goto 4, 3) := by decide +kernel
theorem d_Mo_numbersOf_43 : decode b_Mo_numbersOf 43 = .ok (.iconst 0, 1) := by decide +kernel
theorem d_Mo_numbersOf_44 : decode b_Mo_numbersOf 44 = .ok (.ireturn, 1) := by decide +kernel
theorem d_Mo_textsOf_0 : decode b_Mo_textsOf 0 = .ok (.iload_n 0, 1) := by decide +kernel
theorem d_Mo_textsOf_1 : decode b_Mo_textsOf 1 = .ok (.iconst 3, 1) := by decide +kernel
theorem d_Mo_textsOf_2 : decode b_Mo_textsOf 2 = .ok (.if_icmp .ge 7, 3) := by decide +kernel
theorem d_Mo_textsOf_5 : decode b_Mo_textsOf 5 = .ok (.iconst 0, 1) := by decide +kernel
theorem d_Mo_textsOf_6 : decode b_Mo_textsOf 6 = .ok (.goto 14, 3) := by decide +kernel
theorem d_Mo_textsOf_9 : decode b_Mo_textsOf 9 = .ok (.iload_n 0, 1) := by decide +kernel
theorem d_Mo_textsOf_10 : decode b_Mo_textsOf 10 = .ok (.bipush 6, 2) := by decide +kernel
theorem d_Mo_textsOf_12 : decode b_Mo_textsOf 12 = .ok (.if_icmp .ge 7, 3) := by decide +kernel
theorem d_Mo_textsOf_15 : decode b_Mo_textsOf 15 = .ok (.iconst 2, 1) := by decide +kernel
theorem d_Mo_textsOf_16 : decode b_Mo_textsOf 16 = .ok (.goto 4, 3) := by decide +kernel
theorem d_Mo_textsOf_19 : decode b_Mo_textsOf 19 = .ok (.iconst 1, 1) := by decide +kernel
theorem d_Mo_textsOf_20 : decode b_Mo_textsOf 20 = .ok (.ireturn, 1) := by decide +kernel
theorem d_Mo_fault_0 : decode b_Mo_fault 0 = .ok (.aload_n 0, 1) := by decide +kernel
theorem d_Mo_fault_1 : decode b_Mo_fault 1 = .ok (.getfield 172, 3) := by decide +kernel
theorem d_Mo_fault_4 : decode b_Mo_fault 4 = .ok (.ireturn, 1) := by decide +kernel
theorem d_Mo_drop_0 : decode b_Mo_drop 0 = .ok (.aload_n 0, 1) := by decide +kernel
theorem d_Mo_drop_1 : decode b_Mo_drop 1 = .ok (.getfield 155, 3) := by decide +kernel
theorem d_Mo_drop_4 : decode b_Mo_drop 4 = .ok (.ifCond .ne 6, 3) := by decide +kernel
theorem d_Mo_drop_7 : decode b_Mo_drop 7 = .ok (.bipush (-4), 2) := by decide +kernel
theorem d_Mo_drop_9 : decode b_Mo_drop 9 = .ok (.ireturn, 1) := by decide +kernel
theorem d_Mo_drop_10 : decode b_Mo_drop 10 = .ok (.aload_n 0, 1) := by decide +kernel
theorem d_Mo_drop_11 : decode b_Mo_drop 11 = .ok (.dup, 1) := by decide +kernel
theorem d_Mo_drop_12 : decode b_Mo_drop 12 = .ok (.getfield 155, 3) := by decide +kernel
theorem d_Mo_drop_15 : decode b_Mo_drop 15 = .ok (.iconst 1, 1) := by decide +kernel
theorem d_Mo_drop_16 : decode b_Mo_drop 16 = .ok (.isub, 1) := by decide +kernel
theorem d_Mo_drop_17 : decode b_Mo_drop 17 = .ok (.putfield 155, 3) := by decide +kernel
theorem d_Mo_drop_20 : decode b_Mo_drop 20 = .ok (.aload_n 0, 1) := by decide +kernel
theorem d_Mo_drop_21 : decode b_Mo_drop 21 = .ok (.getfield 155, 3) := by decide +kernel
theorem d_Mo_drop_24 : decode b_Mo_drop 24 = .ok (.ireturn, 1) := by decide +kernel
theorem d_Mo_rule_0 : decode b_Mo_rule 0 = .ok (.aload_n 0, 1) := by decide +kernel
theorem d_Mo_rule_1 : decode b_Mo_rule 1 = .ok (.iload_n 1, 1) := by decide +kernel
theorem d_Mo_rule_2 : decode b_Mo_rule 2 = .ok (.invokevirtual 204, 3) := by decide +kernel
theorem d_Mo_rule_5 : decode b_Mo_rule 5 = .ok (.ifCond .eq 46, 3) := by decide +kernel
theorem d_Mo_rule_8 : decode b_Mo_rule 8 = .ok (.iload_n 2, 1) := by decide +kernel
theorem d_Mo_rule_9 : decode b_Mo_rule 9 = .ok (.i2l, 1) := by decide +kernel
theorem d_Mo_rule_10 : decode b_Mo_rule 10 = .ok (.ldc2_w 208, 3) := by decide +kernel
theorem d_Mo_rule_13 : decode b_Mo_rule 13 = .ok (.ldc2_w 210, 3) := by decide +kernel
theorem d_Mo_rule_16 : decode b_Mo_rule 16 = .ok (.invokestatic 91, 3) := by decide +kernel
theorem d_Mo_rule_19 : decode b_Mo_rule 19 = .ok (.ifCond .eq 32, 3) := by decide +kernel
theorem d_Mo_rule_22 : decode b_Mo_rule 22 = .ok (.iload_n 3, 1) := by decide +kernel
theorem d_Mo_rule_23 : decode b_Mo_rule 23 = .ok (.i2l, 1) := by decide +kernel
theorem d_Mo_rule_24 : decode b_Mo_rule 24 = .ok (.ldc2_w 208, 3) := by decide +kernel
theorem d_Mo_rule_27 : decode b_Mo_rule 27 = .ok (.ldc2_w 210, 3) := by decide +kernel
theorem d_Mo_rule_30 : decode b_Mo_rule 30 = .ok (.invokestatic 91, 3) := by decide +kernel
theorem d_Mo_rule_33 : decode b_Mo_rule 33 = .ok (.ifCond .eq 18, 3) := by decide +kernel
theorem d_Mo_rule_36 : decode b_Mo_rule 36 = .ok (.iload 4, 2) := by decide +kernel
theorem d_Mo_rule_38 : decode b_Mo_rule 38 = .ok (.i2l, 1) := by decide +kernel
theorem d_Mo_rule_39 : decode b_Mo_rule 39 = .ok (.ldc2_w 208, 3) := by decide +kernel
theorem d_Mo_rule_42 : decode b_Mo_rule 42 = .ok (.ldc2_w 210, 3) := by decide +kernel
theorem d_Mo_rule_45 : decode b_Mo_rule 45 = .ok (.invokestatic 91, 3) := by decide +kernel
theorem d_Mo_rule_48 : decode b_Mo_rule 48 = .ok (.ifCond .ne 6, 3) := by decide +kernel
theorem d_Mo_rule_51 : decode b_Mo_rule 51 = .ok (.ldc 212, 2) := by decide +kernel
theorem d_Mo_rule_53 : decode b_Mo_rule 53 = .ok (.ireturn, 1) := by decide +kernel
theorem d_Mo_rule_54 : decode b_Mo_rule 54 = .ok (.aload_n 0, 1) := by decide +kernel
theorem d_Mo_rule_55 : decode b_Mo_rule 55 = .ok (.iload_n 1, 1) := by decide +kernel
theorem d_Mo_rule_56 : decode b_Mo_rule 56 = .ok (.iload_n 2, 1) := by decide +kernel
theorem d_Mo_rule_57 : decode b_Mo_rule 57 = .ok (.i2l, 1) := by decide +kernel
theorem d_Mo_rule_58 : decode b_Mo_rule 58 = .ok (.iload_n 3, 1) := by decide +kernel
theorem d_Mo_rule_59 : decode b_Mo_rule 59 = .ok (.i2l, 1) := by decide +kernel
theorem d_Mo_rule_60 : decode b_Mo_rule 60 = .ok (.iload 4, 2) := by decide +kernel
theorem d_Mo_rule_62 : decode b_Mo_rule 62 = .ok (.i2l, 1) := by decide +kernel
theorem d_Mo_rule_63 : decode b_Mo_rule 63 = .ok (.iload_n 2, 1) := by decide +kernel
theorem d_Mo_rule_64 : decode b_Mo_rule 64 = .ok (.i2l, 1) := by decide +kernel
theorem d_Mo_rule_65 : decode b_Mo_rule 65 = .ok (.iload_n 3, 1) := by decide +kernel
theorem d_Mo_rule_66 : decode b_Mo_rule 66 = .ok (.i2l, 1) := by decide +kernel
theorem d_Mo_rule_67 : decode b_Mo_rule 67 = .ok (.iload 4, 2) := by decide +kernel
theorem d_Mo_rule_69 : decode b_Mo_rule 69 = .ok (.i2l, 1) := by decide +kernel
theorem d_Mo_rule_70 : decode b_Mo_rule 70 = .ok (.invokevirtual 213, 3) := by decide +kernel
theorem d_Mo_rule_73 : decode b_Mo_rule 73 = .ok (.aload_n 0, 1) := by decide +kernel
theorem d_Mo_rule_74 : decode b_Mo_rule 74 = .ok (.getfield 179, 3) := by decide +kernel
theorem d_Mo_rule_77 : decode b_Mo_rule 77 = .ok (.l2i, 1) := by decide +kernel
theorem d_Mo_rule_78 : decode b_Mo_rule 78 = .ok (.ireturn, 1) := by decide +kernel
theorem d_Mo_is_0 : decode b_Mo_is 0 = .ok (.iload_n 1, 1) := by decide +kernel
theorem d_Mo_is_1 : decode b_Mo_is 1 = .ok (.i2l, 1) := by decide +kernel
theorem d_Mo_is_2 : decode b_Mo_is 2 = .ok (.lconst 0, 1) := by decide +kernel
theorem d_Mo_is_3 : decode b_Mo_is 3 = .ok (.aload_n 0, 1) := by decide +kernel
theorem d_Mo_is_4 : decode b_Mo_is 4 = .ok (.getfield 155, 3) := by decide +kernel
theorem d_Mo_is_7 : decode b_Mo_is 7 = .ok (.iconst 1, 1) := by decide +kernel
theorem d_Mo_is_8 : decode b_Mo_is 8 = .ok (.isub, 1) := by decide +kernel
theorem d_Mo_is_9 : decode b_Mo_is 9 = .ok (.i2l, 1) := by decide +kernel
theorem d_Mo_is_10 : decode b_Mo_is 10 = .ok (.invokestatic 91, 3) := by decide +kernel
theorem d_Mo_is_13 : decode b_Mo_is 13 = .ok (.ireturn, 1) := by decide +kernel
theorem d_Mo_spans_0 : decode b_Mo_spans 0 = .ok (.aload_n 0, 1) := by decide +kernel
theorem d_Mo_spans_1 : decode b_Mo_spans 1 = .ok (.getfield 7, 3) := by decide +kernel
theorem d_Mo_spans_4 : decode b_Mo_spans 4 = .ok (.iload_n 1, 1) := by decide +kernel
theorem d_Mo_spans_5 : decode b_Mo_spans 5 = .ok (.iaload, 1) := by decide +kernel
theorem d_Mo_spans_6 : decode b_Mo_spans 6 = .ok (.istore 14, 2) := by decide +kernel
theorem d_Mo_spans_8 : decode b_Mo_spans 8 = .ok (.aload_n 0, 1) := by decide +kernel
theorem d_Mo_spans_9 : decode b_Mo_spans 9 = .ok (.getfield 31, 3) := by decide +kernel
theorem d_Mo_spans_12 : decode b_Mo_spans 12 = .ok (.iconst 0, 1) := by decide +kernel
theorem d_Mo_spans_13 : decode b_Mo_spans 13 = .ok (.lload_n 2, 1) := by decide +kernel
theorem d_Mo_spans_14 : decode b_Mo_spans 14 = .ok (.lastore, 1) := by decide +kernel
theorem d_Mo_spans_15 : decode b_Mo_spans 15 = .ok (.aload_n 0, 1) := by decide +kernel
theorem d_Mo_spans_16 : decode b_Mo_spans 16 = .ok (.getfield 35, 3) := by decide +kernel
theorem d_Mo_spans_19 : decode b_Mo_spans 19 = .ok (.iconst 0, 1) := by decide +kernel
theorem d_Mo_spans_20 : decode b_Mo_spans 20 = .ok (.lload 8, 2) := by decide +kernel
theorem d_Mo_spans_22 : decode b_Mo_spans 22 = .ok (.lastore, 1) := by decide +kernel
theorem d_Mo_spans_23 : decode b_Mo_spans 23 = .ok (.aload_n 0, 1) := by decide +kernel
theorem d_Mo_spans_24 : decode b_Mo_spans 24 = .ok (.getfield 38, 3) := by decide +kernel
theorem d_Mo_spans_27 : decode b_Mo_spans 27 = .ok (.iconst 0, 1) := by decide +kernel
theorem d_Mo_spans_28 : decode b_Mo_spans 28 = .ok (.lload 4, 2) := by decide +kernel
theorem d_Mo_spans_30 : decode b_Mo_spans 30 = .ok (.lastore, 1) := by decide +kernel
theorem d_Mo_spans_31 : decode b_Mo_spans 31 = .ok (.aload_n 0, 1) := by decide +kernel
theorem d_Mo_spans_32 : decode b_Mo_spans 32 = .ok (.getfield 41, 3) := by decide +kernel
theorem d_Mo_spans_35 : decode b_Mo_spans 35 = .ok (.iconst 0, 1) := by decide +kernel
theorem d_Mo_spans_36 : decode b_Mo_spans 36 = .ok (.lload 10, 2) := by decide +kernel
theorem d_Mo_spans_38 : decode b_Mo_spans 38 = .ok (.lastore, 1) := by decide +kernel
theorem d_Mo_spans_39 : decode b_Mo_spans 39 = .ok (.aload_n 0, 1) := by decide +kernel
theorem d_Mo_spans_40 : decode b_Mo_spans 40 = .ok (.getfield 44, 3) := by decide +kernel
theorem d_Mo_spans_43 : decode b_Mo_spans 43 = .ok (.iconst 0, 1) := by decide +kernel
theorem d_Mo_spans_44 : decode b_Mo_spans 44 = .ok (.lload 6, 2) := by decide +kernel
theorem d_Mo_spans_46 : decode b_Mo_spans 46 = .ok (.lastore, 1) := by decide +kernel
theorem d_Mo_spans_47 : decode b_Mo_spans 47 = .ok (.aload_n 0, 1) := by decide +kernel
theorem d_Mo_spans_48 : decode b_Mo_spans 48 = .ok (.getfield 47, 3) := by decide +kernel
theorem d_Mo_spans_51 : decode b_Mo_spans 51 = .ok (.iconst 0, 1) := by decide +kernel
theorem d_Mo_spans_52 : decode b_Mo_spans 52 = .ok (.lload 12, 2) := by decide +kernel
theorem d_Mo_spans_54 : decode b_Mo_spans 54 = .ok (.lastore, 1) := by decide +kernel
theorem d_Mo_spans_55 : decode b_Mo_spans 55 = .ok (.iconst 1, 1) := by decide +kernel
theorem d_Mo_spans_56 : decode b_Mo_spans 56 = .ok (.istore 15, 2) := by decide +kernel
theorem d_Mo_spans_58 : decode b_Mo_spans 58 = .ok (.iload 15, 2) := by decide +kernel
theorem d_Mo_spans_60 : decode b_Mo_spans 60 = .ok (.iload 14, 2) := by decide +kernel
theorem d_Mo_spans_62 : decode b_Mo_spans 62 = .ok (.if_icmp .ge 16, 3) := by decide +kernel
theorem d_Mo_spans_65 : decode b_Mo_spans 65 = .ok (.aload_n 0, 1) := by decide +kernel
theorem d_Mo_spans_66 : decode b_Mo_spans 66 = .ok (.iload_n 1, 1) := by decide +kernel
theorem d_Mo_spans_67 : decode b_Mo_spans 67 = .ok (.iload 15, 2) := by decide +kernel
theorem d_Mo_spans_69 : decode b_Mo_spans 69 = .ok (.invokevirtual 197, 3) := by decide +kernel
theorem d_Mo_spans_72 : decode b_Mo_spans 72 = .ok (.iinc 15 1, 3) := by decide +kernel
theorem d_Mo_spans_75 : decode b_Mo_spans 75 = .ok (.goto (-17), 3) := by decide +kernel
theorem d_Mo_spans_78 : decode b_Mo_spans 78 = .ok (.iconst 0, 1) := by decide +kernel
theorem d_Mo_spans_79 : decode b_Mo_spans 79 = .ok (.istore 15, 2) := by decide +kernel
theorem d_Mo_spans_81 : decode b_Mo_spans 81 = .ok (.iload 14, 2) := by decide +kernel
theorem d_Mo_spans_83 : decode b_Mo_spans 83 = .ok (.iconst 1, 1) := by decide +kernel
theorem d_Mo_spans_84 : decode b_Mo_spans 84 = .ok (.isub, 1) := by decide +kernel
theorem d_Mo_spans_85 : decode b_Mo_spans 85 = .ok (.istore 16, 2) := by decide +kernel
theorem d_Mo_spans_87 : decode b_Mo_spans 87 = .ok (.iload 16, 2) := by decide +kernel
theorem d_Mo_spans_89 : decode b_Mo_spans 89 = .ok (.ifCond .lt 233, 3) := by decide +kernel
theorem d_Mo_spans_92 : decode b_Mo_spans 92 = .ok (.aload_n 0, 1) := by decide +kernel
theorem d_Mo_spans_93 : decode b_Mo_spans 93 = .ok (.getfield 13, 3) := by decide +kernel
theorem d_Mo_spans_96 : decode b_Mo_spans 96 = .ok (.bipush 64, 2) := by decide +kernel
theorem d_Mo_spans_98 : decode b_Mo_spans 98 = .ok (.iload_n 1, 1) := by decide +kernel
theorem d_Mo_spans_99 : decode b_Mo_spans 99 = .ok (.imul, 1) := by decide +kernel
theorem d_Mo_spans_100 : decode b_Mo_spans 100 = .ok (.iload 16, 2) := by decide +kernel
theorem d_Mo_spans_102 : decode b_Mo_spans 102 = .ok (.iadd, 1) := by decide +kernel
theorem d_Mo_spans_103 : decode b_Mo_spans 103 = .ok (.iaload, 1) := by decide +kernel
theorem d_Mo_spans_104 : decode b_Mo_spans 104 = .ok (.istore 17, 2) := by decide +kernel
theorem d_Mo_spans_106 : decode b_Mo_spans 106 = .ok (.iload 17, 2) := by decide +kernel
theorem d_Mo_spans_108 : decode b_Mo_spans 108 = .ok (.iconst 3, 1) := by decide +kernel
theorem d_Mo_spans_109 : decode b_Mo_spans 109 = .ok (.if_icmp .ge 38, 3) := by decide +kernel
theorem d_Mo_spans_112 : decode b_Mo_spans 112 = .ok (.aload_n 0, 1) := by decide +kernel
theorem d_Mo_spans_113 : decode b_Mo_spans 113 = .ok (.iload_n 1, 1) := by decide +kernel
theorem d_Mo_spans_114 : decode b_Mo_spans 114 = .ok (.iload 16, 2) := by decide +kernel
theorem d_Mo_spans_116 : decode b_Mo_spans 116 = .ok (.invokevirtual 201, 3) := by decide +kernel
theorem d_Mo_spans_119 : decode b_Mo_spans 119 = .ok (.aload_n 0, 1) := by decide +kernel
theorem d_Mo_spans_120 : decode b_Mo_spans 120 = .ok (.getfield 50, 3) := by decide +kernel
theorem d_Mo_spans_123 : decode b_Mo_spans 123 = .ok (.iload 15, 2) := by decide +kernel
theorem d_Mo_spans_125 : decode b_Mo_spans 125 = .ok (.aload_n 0, 1) := by decide +kernel
theorem d_Mo_spans_126 : decode b_Mo_spans 126 = .ok (.getfield 179, 3) := by decide +kernel
theorem d_Mo_spans_129 : decode b_Mo_spans 129 = .ok (.lastore, 1) := by decide +kernel
theorem d_Mo_spans_130 : decode b_Mo_spans 130 = .ok (.aload_n 0, 1) := by decide +kernel
theorem d_Mo_spans_131 : decode b_Mo_spans 131 = .ok (.getfield 53, 3) := by decide +kernel
theorem d_Mo_spans_134 : decode b_Mo_spans 134 = .ok (.iload 15, 2) := by decide +kernel
theorem d_Mo_spans_136 : decode b_Mo_spans 136 = .ok (.aload_n 0, 1) := by decide +kernel
theorem d_Mo_spans_137 : decode b_Mo_spans 137 = .ok (.getfield 183, 3) := by decide +kernel
theorem d_Mo_spans_140 : decode b_Mo_spans 140 = .ok (.lastore, 1) := by decide +kernel
theorem d_Mo_spans_141 : decode b_Mo_spans 141 = .ok (.iinc 15 1, 3) := by decide +kernel
theorem d_Mo_spans_144 : decode b_Mo_spans 144 = .ok (.goto 172, 3) := by decide +kernel
theorem d_Mo_spans_147 : decode b_Mo_spans 147 = .ok (.iload 17, 2) := by decide +kernel
theorem d_Mo_spans_149 : decode b_Mo_spans 149 = .ok (.bipush 6, 2) := by decide +kernel
theorem d_Mo_spans_151 : decode b_Mo_spans 151 = .ok (.if_icmp .ge 165, 3) := by decide +kernel
theorem d_Mo_spans_154 : decode b_Mo_spans 154 = .ok (.iinc 15 (-1), 3) := by decide +kernel
theorem d_Mo_spans_157 : decode b_Mo_spans 157 = .ok (.aload_n 0, 1) := by decide +kernel
theorem d_Mo_spans_158 : decode b_Mo_spans 158 = .ok (.getfield 50, 3) := by decide +kernel
theorem d_Mo_spans_161 : decode b_Mo_spans 161 = .ok (.iload 15, 2) := by decide +kernel
theorem d_Mo_spans_163 : decode b_Mo_spans 163 = .ok (.laload, 1) := by decide +kernel
theorem d_Mo_spans_164 : decode b_Mo_spans 164 = .ok (.lstore 18, 2) := by decide +kernel
theorem d_Mo_spans_166 : decode b_Mo_spans 166 = .ok (.aload_n 0, 1) := by decide +kernel
theorem d_Mo_spans_167 : decode b_Mo_spans 167 = .ok (.getfield 53, 3) := by decide +kernel
theorem d_Mo_spans_170 : decode b_Mo_spans 170 = .ok (.iload 15, 2) := by decide +kernel
theorem d_Mo_spans_172 : decode b_Mo_spans 172 = .ok (.laload, 1) := by decide +kernel
theorem d_Mo_spans_173 : decode b_Mo_spans 173 = .ok (.lstore 20, 2) := by decide +kernel
theorem d_Mo_spans_175 : decode b_Mo_spans 175 = .ok (.iload 17, 2) := by decide +kernel
theorem d_Mo_spans_177 : decode b_Mo_spans 177 = .ok (.iconst 5, 1) := by decide +kernel
theorem d_Mo_spans_178 : decode b_Mo_spans 178 = .ok (.if_icmp .ne 16, 3) := by decide +kernel
theorem d_Mo_spans_181 : decode b_Mo_spans 181 = .ok (.aload_n 0, 1) := by decide +kernel
theorem d_Mo_spans_182 : decode b_Mo_spans 182 = .ok (.getfield 53, 3) := by decide +kernel
theorem d_Mo_spans_185 : decode b_Mo_spans 185 = .ok (.iload 15, 2) := by decide +kernel
theorem d_Mo_spans_187 : decode b_Mo_spans 187 = .ok (.iconst 1, 1) := by decide +kernel
theorem d_Mo_spans_188 : decode b_Mo_spans 188 = .ok (.isub, 1) := by decide +kernel
theorem d_Mo_spans_189 : decode b_Mo_spans 189 = .ok (.laload, 1) := by decide +kernel
theorem d_Mo_spans_190 : decode b_Mo_spans 190 = .ok (.lneg, 1) := by decide +kernel
theorem d_Mo_spans_191 : decode b_Mo_spans 191 = .ok (.goto 12, 3) := by decide +kernel
theorem d_Mo_spans_194 : decode b_Mo_spans 194 = .ok (.aload_n 0, 1) := by decide +kernel
theorem d_Mo_spans_195 : decode b_Mo_spans 195 = .ok (.getfield 50, 3) := by decide +kernel
theorem d_Mo_spans_198 : decode b_Mo_spans 198 = .ok (.iload 15, 2) := by decide +kernel
theorem d_Mo_spans_200 : decode b_Mo_spans 200 = .ok (.iconst 1, 1) := by decide +kernel
theorem d_Mo_spans_201 : decode b_Mo_spans 201 = .ok (.isub, 1) := by decide +kernel
theorem d_Mo_spans_202 : decode b_Mo_spans 202 = .ok (.laload, 1) := by decide +kernel
theorem d_Mo_spans_203 : decode b_Mo_spans 203 = .ok (.lstore 22, 2) := by decide +kernel
theorem d_Mo_spans_205 : decode b_Mo_spans 205 = .ok (.iload 17, 2) := by decide +kernel
theorem d_Mo_spans_207 : decode b_Mo_spans 207 = .ok (.iconst 5, 1) := by decide +kernel
theorem d_Mo_spans_208 : decode b_Mo_spans 208 = .ok (.if_icmp .ne 16, 3) := by decide +kernel
theorem d_Mo_spans_211 : decode b_Mo_spans 211 = .ok (.aload_n 0, 1) := by decide +kernel
theorem d_Mo_spans_212 : decode b_Mo_spans 212 = .ok (.getfield 50, 3) := by decide +kernel
theorem d_Mo_spans_215 : decode b_Mo_spans 215 = .ok (.iload 15, 2) := by decide +kernel
theorem d_Mo_spans_217 : decode b_Mo_spans 217 = .ok (.iconst 1, 1) := by decide +kernel
theorem d_Mo_spans_218 : decode b_Mo_spans 218 = .ok (.isub, 1) := by decide +kernel
theorem d_Mo_spans_219 : decode b_Mo_spans 219 = .ok (.laload, 1) := by decide +kernel
theorem d_Mo_spans_220 : decode b_Mo_spans 220 = .ok (.lneg, 1) := by decide +kernel
theorem d_Mo_spans_221 : decode b_Mo_spans 221 = .ok (.goto 12, 3) := by decide +kernel
theorem d_Mo_spans_224 : decode b_Mo_spans 224 = .ok (.aload_n 0, 1) := by decide +kernel
theorem d_Mo_spans_225 : decode b_Mo_spans 225 = .ok (.getfield 53, 3) := by decide +kernel
theorem d_Mo_spans_228 : decode b_Mo_spans 228 = .ok (.iload 15, 2) := by decide +kernel
theorem d_Mo_spans_230 : decode b_Mo_spans 230 = .ok (.iconst 1, 1) := by decide +kernel
theorem d_Mo_spans_231 : decode b_Mo_spans 231 = .ok (.isub, 1) := by decide +kernel
theorem d_Mo_spans_232 : decode b_Mo_spans 232 = .ok (.laload, 1) := by decide +kernel
theorem d_Mo_spans_233 : decode b_Mo_spans 233 = .ok (.lstore 24, 2) := by decide +kernel
theorem d_Mo_spans_235 : decode b_Mo_spans 235 = .ok (.iload 17, 2) := by decide +kernel
theorem d_Mo_spans_237 : decode b_Mo_spans 237 = .ok (.iconst 3, 1) := by decide +kernel
theorem d_Mo_spans_238 : decode b_Mo_spans 238 = .ok (.if_icmp .ne 7, 3) := by decide +kernel
theorem d_Mo_spans_241 : decode b_Mo_spans 241 = .ok (.iconst 1, 1) := by decide +kernel
theorem d_Mo_spans_242 : decode b_Mo_spans 242 = .ok (.goto 4, 3) := by decide +kernel
theorem d_Mo_spans_245 : decode b_Mo_spans 245 = .ok (.iconst 0, 1) := by decide +kernel
theorem d_Mo_spans_246 : decode b_Mo_spans 246 = .ok (.istore 26, 2) := by decide +kernel
theorem d_Mo_spans_248 : decode b_Mo_spans 248 = .ok (.aload_n 0, 1) := by decide +kernel
theorem d_Mo_spans_249 : decode b_Mo_spans 249 = .ok (.getfield 50, 3) := by decide +kernel
theorem d_Mo_spans_252 : decode b_Mo_spans 252 = .ok (.iload 15, 2) := by decide +kernel
theorem d_Mo_spans_254 : decode b_Mo_spans 254 = .ok (.iconst 1, 1) := by decide +kernel
theorem d_Mo_spans_255 : decode b_Mo_spans 255 = .ok (.isub, 1) := by decide +kernel
theorem d_Mo_spans_256 : decode b_Mo_spans 256 = .ok (.iload 26, 2) := by decide +kernel
theorem d_Mo_spans_258 : decode b_Mo_spans 258 = .ok (.lload 18, 2) := by decide +kernel
theorem d_Mo_spans_260 : decode b_Mo_spans 260 = .ok (.lload 22, 2) := by decide +kernel
theorem d_Mo_spans_262 : decode b_Mo_spans 262 = .ok (.lcmp, 1) := by decide +kernel
theorem d_Mo_spans_263 : decode b_Mo_spans 263 = .ok (.ifCond .ge 7, 3) := by decide +kernel
theorem d_Mo_spans_266 : decode b_Mo_spans 266 = .ok (.iconst 1, 1) := by decide +kernel
theorem d_Mo_spans_267 : decode b_Mo_spans 267 = .ok (.goto 4, 3) := by decide +kernel
theorem d_Mo_spans_270 : decode b_Mo_spans 270 = .ok (.iconst 0, 1) := by decide +kernel
theorem d_Mo_spans_271 : decode b_Mo_spans 271 = .ok (.if_icmp .ne 8, 3) := by decide +kernel
theorem d_Mo_spans_274 : decode b_Mo_spans 274 = .ok (.lload 18, 2) := by decide +kernel
theorem d_Mo_spans_276 : decode b_Mo_spans 276 = .ok (.goto 5, 3) := by decide +kernel
theorem d_Mo_spans_279 : decode b_Mo_spans 279 = .ok (.lload 22, 2) := by decide +kernel
theorem d_Mo_spans_281 : decode b_Mo_spans 281 = .ok (.lastore, 1) := by decide +kernel
theorem d_Mo_spans_282 : decode b_Mo_spans 282 = .ok (.aload_n 0, 1) := by decide +kernel
theorem d_Mo_spans_283 : decode b_Mo_spans 283 = .ok (.getfield 53, 3) := by decide +kernel
theorem d_Mo_spans_286 : decode b_Mo_spans 286 = .ok (.iload 15, 2) := by decide +kernel
theorem d_Mo_spans_288 : decode b_Mo_spans 288 = .ok (.iconst 1, 1) := by decide +kernel
theorem d_Mo_spans_289 : decode b_Mo_spans 289 = .ok (.isub, 1) := by decide +kernel
theorem d_Mo_spans_290 : decode b_Mo_spans 290 = .ok (.iload 26, 2) := by decide +kernel
theorem d_Mo_spans_292 : decode b_Mo_spans 292 = .ok (.lload 20, 2) := by decide +kernel
theorem d_Mo_spans_294 : decode b_Mo_spans 294 = .ok (.lload 24, 2) := by decide +kernel
theorem d_Mo_spans_296 : decode b_Mo_spans 296 = .ok (.lcmp, 1) := by decide +kernel
theorem d_Mo_spans_297 : decode b_Mo_spans 297 = .ok (.ifCond .ge 7, 3) := by decide +kernel
theorem d_Mo_spans_300 : decode b_Mo_spans 300 = .ok (.iconst 1, 1) := by decide +kernel
theorem d_Mo_spans_301 : decode b_Mo_spans 301 = .ok (.goto 4, 3) := by decide +kernel
theorem d_Mo_spans_304 : decode b_Mo_spans 304 = .ok (.iconst 0, 1) := by decide +kernel
theorem d_Mo_spans_305 : decode b_Mo_spans 305 = .ok (.if_icmp .ne 8, 3) := by decide +kernel
theorem d_Mo_spans_308 : decode b_Mo_spans 308 = .ok (.lload 20, 2) := by decide +kernel
theorem d_Mo_spans_310 : decode b_Mo_spans 310 = .ok (.goto 5, 3) := by decide +kernel
theorem d_Mo_spans_313 : decode b_Mo_spans 313 = .ok (.lload 24, 2) := by decide +kernel
theorem d_Mo_spans_315 : decode b_Mo_spans 315 = .ok (.lastore, 1) := by decide +kernel
theorem d_Mo_spans_316 : decode b_Mo_spans 316 = .ok (.iinc 16 (-1), 3) := by decide +kernel
theorem d_Mo_spans_319 : decode b_Mo_spans 319 = .ok (.goto (-232), 3) := by decide +kernel
theorem d_Mo_spans_322 : decode b_Mo_spans 322 = .ok (.aload_n 0, 1) := by decide +kernel
theorem d_Mo_spans_323 : decode b_Mo_spans 323 = .ok (.aload_n 0, 1) := by decide +kernel
theorem d_Mo_spans_324 : decode b_Mo_spans 324 = .ok (.getfield 50, 3) := by decide +kernel
theorem d_Mo_spans_327 : decode b_Mo_spans 327 = .ok (.iconst 0, 1) := by decide +kernel
theorem d_Mo_spans_328 : decode b_Mo_spans 328 = .ok (.laload, 1) := by decide +kernel
theorem d_Mo_spans_329 : decode b_Mo_spans 329 = .ok (.putfield 179, 3) := by decide +kernel
theorem d_Mo_spans_332 : decode b_Mo_spans 332 = .ok (.aload_n 0, 1) := by decide +kernel
theorem d_Mo_spans_333 : decode b_Mo_spans 333 = .ok (.aload_n 0, 1) := by decide +kernel
theorem d_Mo_spans_334 : decode b_Mo_spans 334 = .ok (.getfield 53, 3) := by decide +kernel
theorem d_Mo_spans_337 : decode b_Mo_spans 337 = .ok (.iconst 0, 1) := by decide +kernel
theorem d_Mo_spans_338 : decode b_Mo_spans 338 = .ok (.laload, 1) := by decide +kernel
theorem d_Mo_spans_339 : decode b_Mo_spans 339 = .ok (.putfield 183, 3) := by decide +kernel
theorem d_Mo_spans_342 : decode b_Mo_spans 342 = .ok (.return_, 1) := by decide +kernel
theorem d_Mo_goDown_0 : decode b_Mo_goDown 0 = .ok (.aload_n 0, 1) := by decide +kernel
theorem d_Mo_goDown_1 : decode b_Mo_goDown 1 = .ok (.getfield 16, 3) := by decide +kernel
theorem d_Mo_goDown_4 : decode b_Mo_goDown 4 = .ok (.bipush 64, 2) := by decide +kernel
theorem d_Mo_goDown_6 : decode b_Mo_goDown 6 = .ok (.iload_n 1, 1) := by decide +kernel
theorem d_Mo_goDown_7 : decode b_Mo_goDown 7 = .ok (.imul, 1) := by decide +kernel
theorem d_Mo_goDown_8 : decode b_Mo_goDown 8 = .ok (.iload_n 2, 1) := by decide +kernel
theorem d_Mo_goDown_9 : decode b_Mo_goDown 9 = .ok (.iadd, 1) := by decide +kernel
theorem d_Mo_goDown_10 : decode b_Mo_goDown 10 = .ok (.iaload, 1) := by decide +kernel
theorem d_Mo_goDown_11 : decode b_Mo_goDown 11 = .ok (.istore_n 3, 1) := by decide +kernel
theorem d_Mo_goDown_12 : decode b_Mo_goDown 12 = .ok (.bipush 6, 2) := by decide +kernel
theorem d_Mo_goDown_14 : decode b_Mo_goDown 14 = .ok (.bipush 64, 2) := by decide +kernel
theorem d_Mo_goDown_16 : decode b_Mo_goDown 16 = .ok (.iload_n 1, 1) := by decide +kernel
theorem d_Mo_goDown_17 : decode b_Mo_goDown 17 = .ok (.imul, 1) := by decide +kernel
theorem d_Mo_goDown_18 : decode b_Mo_goDown 18 = .ok (.iload_n 3, 1) := by decide +kernel
theorem d_Mo_goDown_19 : decode b_Mo_goDown 19 = .ok (.iadd, 1) := by decide +kernel
theorem d_Mo_goDown_20 : decode b_Mo_goDown 20 = .ok (.imul, 1) := by decide +kernel
theorem d_Mo_goDown_21 : decode b_Mo_goDown 21 = .ok (.istore 4, 2) := by decide +kernel
theorem d_Mo_goDown_23 : decode b_Mo_goDown 23 = .ok (.aload_n 0, 1) := by decide +kernel
theorem d_Mo_goDown_24 : decode b_Mo_goDown 24 = .ok (.getfield 13, 3) := by decide +kernel
theorem d_Mo_goDown_27 : decode b_Mo_goDown 27 = .ok (.bipush 64, 2) := by decide +kernel
theorem d_Mo_goDown_29 : decode b_Mo_goDown 29 = .ok (.iload_n 1, 1) := by decide +kernel
theorem d_Mo_goDown_30 : decode b_Mo_goDown 30 = .ok (.imul, 1) := by decide +kernel
theorem d_Mo_goDown_31 : decode b_Mo_goDown 31 = .ok (.iload_n 3, 1) := by decide +kernel
theorem d_Mo_goDown_32 : decode b_Mo_goDown 32 = .ok (.iadd, 1) := by decide +kernel
theorem d_Mo_goDown_33 : decode b_Mo_goDown 33 = .ok (.iaload, 1) := by decide +kernel
theorem d_Mo_goDown_34 : decode b_Mo_goDown 34 = .ok (.istore 5, 2) := by decide +kernel
theorem d_Mo_goDown_36 : decode b_Mo_goDown 36 = .ok (.aload_n 0, 1) := by decide +kernel
theorem d_Mo_goDown_37 : decode b_Mo_goDown 37 = .ok (.getfield 31, 3) := by decide +kernel
theorem d_Mo_goDown_40 : decode b_Mo_goDown 40 = .ok (.iload_n 3, 1) := by decide +kernel
theorem d_Mo_goDown_41 : decode b_Mo_goDown 41 = .ok (.laload, 1) := by decide +kernel
theorem d_Mo_goDown_42 : decode b_Mo_goDown 42 = .ok (.lstore 6, 2) := by decide +kernel
theorem d_Mo_goDown_44 : decode b_Mo_goDown 44 = .ok (.aload_n 0, 1) := by decide +kernel
theorem d_Mo_goDown_45 : decode b_Mo_goDown 45 = .ok (.getfield 35, 3) := by decide +kernel
theorem d_Mo_goDown_48 : decode b_Mo_goDown 48 = .ok (.iload_n 3, 1) := by decide +kernel
theorem d_Mo_goDown_49 : decode b_Mo_goDown 49 = .ok (.laload, 1) := by decide +kernel
theorem d_Mo_goDown_50 : decode b_Mo_goDown 50 = .ok (.lstore 8, 2) := by decide +kernel
theorem d_Mo_goDown_52 : decode b_Mo_goDown 52 = .ok (.aload_n 0, 1) := by decide +kernel
theorem d_Mo_goDown_53 : decode b_Mo_goDown 53 = .ok (.getfield 31, 3) := by decide +kernel
theorem d_Mo_goDown_56 : decode b_Mo_goDown 56 = .ok (.iload_n 2, 1) := by decide +kernel
theorem d_Mo_goDown_57 : decode b_Mo_goDown 57 = .ok (.lload 6, 2) := by decide +kernel
theorem d_Mo_goDown_59 : decode b_Mo_goDown 59 = .ok (.lastore, 1) := by decide +kernel
theorem d_Mo_goDown_60 : decode b_Mo_goDown 60 = .ok (.aload_n 0, 1) := by decide +kernel
theorem d_Mo_goDown_61 : decode b_Mo_goDown 61 = .ok (.getfield 35, 3) := by decide +kernel
theorem d_Mo_goDown_64 : decode b_Mo_goDown 64 = .ok (.iload_n 2, 1) := by decide +kernel
theorem d_Mo_goDown_65 : decode b_Mo_goDown 65 = .ok (.lload 8, 2) := by decide +kernel
theorem d_Mo_goDown_67 : decode b_Mo_goDown 67 = .ok (.lastore, 1) := by decide +kernel
theorem d_Mo_goDown_68 : decode b_Mo_goDown 68 = .ok (.aload_n 0, 1) := by decide +kernel
theorem d_Mo_goDown_69 : decode b_Mo_goDown 69 = .ok (.getfield 38, 3) := by decide +kernel
theorem d_Mo_goDown_72 : decode b_Mo_goDown 72 = .ok (.iload_n 2, 1) := by decide +kernel
theorem d_Mo_goDown_73 : decode b_Mo_goDown 73 = .ok (.aload_n 0, 1) := by decide +kernel
theorem d_Mo_goDown_74 : decode b_Mo_goDown 74 = .ok (.getfield 38, 3) := by decide +kernel
theorem d_Mo_goDown_77 : decode b_Mo_goDown 77 = .ok (.iload_n 3, 1) := by decide +kernel
theorem d_Mo_goDown_78 : decode b_Mo_goDown 78 = .ok (.laload, 1) := by decide +kernel
theorem d_Mo_goDown_79 : decode b_Mo_goDown 79 = .ok (.lastore, 1) := by decide +kernel
theorem d_Mo_goDown_80 : decode b_Mo_goDown 80 = .ok (.aload_n 0, 1) := by decide +kernel
theorem d_Mo_goDown_81 : decode b_Mo_goDown 81 = .ok (.getfield 41, 3) := by decide +kernel
theorem d_Mo_goDown_84 : decode b_Mo_goDown 84 = .ok (.iload_n 2, 1) := by decide +kernel
theorem d_Mo_goDown_85 : decode b_Mo_goDown 85 = .ok (.aload_n 0, 1) := by decide +kernel
theorem d_Mo_goDown_86 : decode b_Mo_goDown 86 = .ok (.getfield 41, 3) := by decide +kernel
theorem d_Mo_goDown_89 : decode b_Mo_goDown 89 = .ok (.iload_n 3, 1) := by decide +kernel
theorem d_Mo_goDown_90 : decode b_Mo_goDown 90 = .ok (.laload, 1) := by decide +kernel
theorem d_Mo_goDown_91 : decode b_Mo_goDown 91 = .ok (.lastore, 1) := by decide +kernel
theorem d_Mo_goDown_92 : decode b_Mo_goDown 92 = .ok (.aload_n 0, 1) := by decide +kernel
theorem d_Mo_goDown_93 : decode b_Mo_goDown 93 = .ok (.getfield 44, 3) := by decide +kernel
theorem d_Mo_goDown_96 : decode b_Mo_goDown 96 = .ok (.iload_n 2, 1) := by decide +kernel
theorem d_Mo_goDown_97 : decode b_Mo_goDown 97 = .ok (.aload_n 0, 1) := by decide +kernel
theorem d_Mo_goDown_98 : decode b_Mo_goDown 98 = .ok (.getfield 44, 3) := by decide +kernel
theorem d_Mo_goDown_101 : decode b_Mo_goDown 101 = .ok (.iload_n 3, 1) := by decide +kernel
theorem d_Mo_goDown_102 : decode b_Mo_goDown 102 = .ok (.laload, 1) := by decide +kernel
theorem d_Mo_goDown_103 : decode b_Mo_goDown 103 = .ok (.lastore, 1) := by decide +kernel
theorem d_Mo_goDown_104 : decode b_Mo_goDown 104 = .ok (.aload_n 0, 1) := by decide +kernel
theorem d_Mo_goDown_105 : decode b_Mo_goDown 105 = .ok (.getfield 47, 3) := by decide +kernel
theorem d_Mo_goDown_108 : decode b_Mo_goDown 108 = .ok (.iload_n 2, 1) := by decide +kernel
theorem d_Mo_goDown_109 : decode b_Mo_goDown 109 = .ok (.aload_n 0, 1) := by decide +kernel
theorem d_Mo_goDown_110 : decode b_Mo_goDown 110 = .ok (.getfield 47, 3) := by decide +kernel
theorem d_Mo_goDown_113 : decode b_Mo_goDown 113 = .ok (.iload_n 3, 1) := by decide +kernel
theorem d_Mo_goDown_114 : decode b_Mo_goDown 114 = .ok (.laload, 1) := by decide +kernel
theorem d_Mo_goDown_115 : decode b_Mo_goDown 115 = .ok (.lastore, 1) := by decide +kernel
theorem d_Mo_goDown_116 : decode b_Mo_goDown 116 = .ok (.iload 5, 2) := by decide +kernel
theorem d_Mo_goDown_118 : decode b_Mo_goDown 118 = .ok (.bipush 6, 2) := by decide +kernel
theorem d_Mo_goDown_120 : decode b_Mo_goDown 120 = .ok (.if_icmp .ne 113, 3) := by decide +kernel
theorem d_Mo_goDown_123 : decode b_Mo_goDown 123 = .ok (.aload_n 0, 1) := by decide +kernel
theorem d_Mo_goDown_124 : decode b_Mo_goDown 124 = .ok (.getfield 31, 3) := by decide +kernel
theorem d_Mo_goDown_127 : decode b_Mo_goDown 127 = .ok (.iload_n 2, 1) := by decide +kernel
theorem d_Mo_goDown_128 : decode b_Mo_goDown 128 = .ok (.dup2, 1) := by decide +kernel
theorem d_Mo_goDown_129 : decode b_Mo_goDown 129 = .ok (.laload, 1) := by decide +kernel
theorem d_Mo_goDown_130 : decode b_Mo_goDown 130 = .ok (.aload_n 0, 1) := by decide +kernel
theorem d_Mo_goDown_131 : decode b_Mo_goDown 131 = .ok (.getfield 19, 3) := by decide +kernel
theorem d_Mo_goDown_134 : decode b_Mo_goDown 134 = .ok (.iload 4, 2) := by decide +kernel
theorem d_Mo_goDown_136 : decode b_Mo_goDown 136 = .ok (.iaload, 1) := by decide +kernel
theorem d_Mo_goDown_137 : decode b_Mo_goDown 137 = .ok (.i2l, 1) := by decide +kernel
theorem d_Mo_goDown_138 : decode b_Mo_goDown 138 = .ok (.lsub, 1) := by decide +kernel
theorem d_Mo_goDown_139 : decode b_Mo_goDown 139 = .ok (.lastore, 1) := by decide +kernel
theorem d_Mo_goDown_140 : decode b_Mo_goDown 140 = .ok (.aload_n 0, 1) := by decide +kernel
theorem d_Mo_goDown_141 : decode b_Mo_goDown 141 = .ok (.getfield 35, 3) := by decide +kernel
theorem d_Mo_goDown_144 : decode b_Mo_goDown 144 = .ok (.iload_n 2, 1) := by decide +kernel
theorem d_Mo_goDown_145 : decode b_Mo_goDown 145 = .ok (.dup2, 1) := by decide +kernel
theorem d_Mo_goDown_146 : decode b_Mo_goDown 146 = .ok (.laload, 1) := by decide +kernel
theorem d_Mo_goDown_147 : decode b_Mo_goDown 147 = .ok (.aload_n 0, 1) := by decide +kernel
theorem d_Mo_goDown_148 : decode b_Mo_goDown 148 = .ok (.getfield 19, 3) := by decide +kernel
theorem d_Mo_goDown_151 : decode b_Mo_goDown 151 = .ok (.iload 4, 2) := by decide +kernel
theorem d_Mo_goDown_153 : decode b_Mo_goDown 153 = .ok (.iaload, 1) := by decide +kernel
theorem d_Mo_goDown_154 : decode b_Mo_goDown 154 = .ok (.i2l, 1) := by decide +kernel
theorem d_Mo_goDown_155 : decode b_Mo_goDown 155 = .ok (.lsub, 1) := by decide +kernel
theorem d_Mo_goDown_156 : decode b_Mo_goDown 156 = .ok (.lastore, 1) := by decide +kernel
theorem d_Mo_goDown_157 : decode b_Mo_goDown 157 = .ok (.aload_n 0, 1) := by decide +kernel
theorem d_Mo_goDown_158 : decode b_Mo_goDown 158 = .ok (.getfield 38, 3) := by decide +kernel
theorem d_Mo_goDown_161 : decode b_Mo_goDown 161 = .ok (.iload_n 2, 1) := by decide +kernel
theorem d_Mo_goDown_162 : decode b_Mo_goDown 162 = .ok (.dup2, 1) := by decide +kernel
theorem d_Mo_goDown_163 : decode b_Mo_goDown 163 = .ok (.laload, 1) := by decide +kernel
theorem d_Mo_goDown_164 : decode b_Mo_goDown 164 = .ok (.aload_n 0, 1) := by decide +kernel
theorem d_Mo_goDown_165 : decode b_Mo_goDown 165 = .ok (.getfield 19, 3) := by decide +kernel
theorem d_Mo_goDown_168 : decode b_Mo_goDown 168 = .ok (.iload 4, 2) := by decide +kernel
theorem d_Mo_goDown_170 : decode b_Mo_goDown 170 = .ok (.iconst 1, 1) := by decide +kernel
theorem d_Mo_goDown_171 : decode b_Mo_goDown 171 = .ok (.iadd, 1) := by decide +kernel
theorem d_Mo_goDown_172 : decode b_Mo_goDown 172 = .ok (.iaload, 1) := by decide +kernel
theorem d_Mo_goDown_173 : decode b_Mo_goDown 173 = .ok (.i2l, 1) := by decide +kernel
theorem d_Mo_goDown_174 : decode b_Mo_goDown 174 = .ok (.lsub, 1) := by decide +kernel
theorem d_Mo_goDown_175 : decode b_Mo_goDown 175 = .ok (.lastore, 1) := by decide +kernel
theorem d_Mo_goDown_176 : decode b_Mo_goDown 176 = .ok (.aload_n 0, 1) := by decide +kernel
theorem d_Mo_goDown_177 : decode b_Mo_goDown 177 = .ok (.getfield 41, 3) := by decide +kernel
theorem d_Mo_goDown_180 : decode b_Mo_goDown 180 = .ok (.iload_n 2, 1) := by decide +kernel
theorem d_Mo_goDown_181 : decode b_Mo_goDown 181 = .ok (.dup2, 1) := by decide +kernel
theorem d_Mo_goDown_182 : decode b_Mo_goDown 182 = .ok (.laload, 1) := by decide +kernel
theorem d_Mo_goDown_183 : decode b_Mo_goDown 183 = .ok (.aload_n 0, 1) := by decide +kernel
theorem d_Mo_goDown_184 : decode b_Mo_goDown 184 = .ok (.getfield 19, 3) := by decide +kernel
theorem d_Mo_goDown_187 : decode b_Mo_goDown 187 = .ok (.iload 4, 2) := by decide +kernel
theorem d_Mo_goDown_189 : decode b_Mo_goDown 189 = .ok (.iconst 1, 1) := by decide +kernel
theorem d_Mo_goDown_190 : decode b_Mo_goDown 190 = .ok (.iadd, 1) := by decide +kernel
theorem d_Mo_goDown_191 : decode b_Mo_goDown 191 = .ok (.iaload, 1) := by decide +kernel
theorem d_Mo_goDown_192 : decode b_Mo_goDown 192 = .ok (.i2l, 1) := by decide +kernel
theorem d_Mo_goDown_193 : decode b_Mo_goDown 193 = .ok (.lsub, 1) := by decide +kernel
theorem d_Mo_goDown_194 : decode b_Mo_goDown 194 = .ok (.lastore, 1) := by decide +kernel
theorem d_Mo_goDown_195 : decode b_Mo_goDown 195 = .ok (.aload_n 0, 1) := by decide +kernel
theorem d_Mo_goDown_196 : decode b_Mo_goDown 196 = .ok (.getfield 44, 3) := by decide +kernel
theorem d_Mo_goDown_199 : decode b_Mo_goDown 199 = .ok (.iload_n 2, 1) := by decide +kernel
theorem d_Mo_goDown_200 : decode b_Mo_goDown 200 = .ok (.dup2, 1) := by decide +kernel
theorem d_Mo_goDown_201 : decode b_Mo_goDown 201 = .ok (.laload, 1) := by decide +kernel
theorem d_Mo_goDown_202 : decode b_Mo_goDown 202 = .ok (.aload_n 0, 1) := by decide +kernel
theorem d_Mo_goDown_203 : decode b_Mo_goDown 203 = .ok (.getfield 19, 3) := by decide +kernel
theorem d_Mo_goDown_206 : decode b_Mo_goDown 206 = .ok (.iload 4, 2) := by decide +kernel
theorem d_Mo_goDown_208 : decode b_Mo_goDown 208 = .ok (.iconst 2, 1) := by decide +kernel
theorem d_Mo_goDown_209 : decode b_Mo_goDown 209 = .ok (.iadd, 1) := by decide +kernel
theorem d_Mo_goDown_210 : decode b_Mo_goDown 210 = .ok (.iaload, 1) := by decide +kernel
theorem d_Mo_goDown_211 : decode b_Mo_goDown 211 = .ok (.i2l, 1) := by decide +kernel
theorem d_Mo_goDown_212 : decode b_Mo_goDown 212 = .ok (.lsub, 1) := by decide +kernel
theorem d_Mo_goDown_213 : decode b_Mo_goDown 213 = .ok (.lastore, 1) := by decide +kernel
theorem d_Mo_goDown_214 : decode b_Mo_goDown 214 = .ok (.aload_n 0, 1) := by decide +kernel
theorem d_Mo_goDown_215 : decode b_Mo_goDown 215 = .ok (.getfield 47, 3) := by decide +kernel
theorem d_Mo_goDown_218 : decode b_Mo_goDown 218 = .ok (.iload_n 2, 1) := by decide +kernel
theorem d_Mo_goDown_219 : decode b_Mo_goDown 219 = .ok (.dup2, 1) := by decide +kernel
theorem d_Mo_goDown_220 : decode b_Mo_goDown 220 = .ok (.laload, 1) := by decide +kernel
theorem d_Mo_goDown_221 : decode b_Mo_goDown 221 = .ok (.aload_n 0, 1) := by decide +kernel
theorem d_Mo_goDown_222 : decode b_Mo_goDown 222 = .ok (.getfield 19, 3) := by decide +kernel
theorem d_Mo_goDown_225 : decode b_Mo_goDown 225 = .ok (.iload 4, 2) := by decide +kernel
theorem d_Mo_goDown_227 : decode b_Mo_goDown 227 = .ok (.iconst 2, 1) := by decide +kernel
theorem d_Mo_goDown_228 : decode b_Mo_goDown 228 = .ok (.iadd, 1) := by decide +kernel
theorem d_Mo_goDown_229 : decode b_Mo_goDown 229 = .ok (.iaload, 1) := by decide +kernel
theorem d_Mo_goDown_230 : decode b_Mo_goDown 230 = .ok (.i2l, 1) := by decide +kernel
theorem d_Mo_goDown_231 : decode b_Mo_goDown 231 = .ok (.lsub, 1) := by decide +kernel
theorem d_Mo_goDown_232 : decode b_Mo_goDown 232 = .ok (.lastore, 1) := by decide +kernel
theorem d_Mo_goDown_233 : decode b_Mo_goDown 233 = .ok (.iload 5, 2) := by decide +kernel
theorem d_Mo_goDown_235 : decode b_Mo_goDown 235 = .ok (.bipush 7, 2) := by decide +kernel
theorem d_Mo_goDown_237 : decode b_Mo_goDown 237 = .ok (.if_icmp .ne 67, 3) := by decide +kernel
theorem d_Mo_goDown_240 : decode b_Mo_goDown 240 = .ok (.aload_n 0, 1) := by decide +kernel
theorem d_Mo_goDown_241 : decode b_Mo_goDown 241 = .ok (.getfield 31, 3) := by decide +kernel
theorem d_Mo_goDown_244 : decode b_Mo_goDown 244 = .ok (.iload_n 2, 1) := by decide +kernel
theorem d_Mo_goDown_245 : decode b_Mo_goDown 245 = .ok (.aload_n 0, 1) := by decide +kernel
theorem d_Mo_goDown_246 : decode b_Mo_goDown 246 = .ok (.getfield 38, 3) := by decide +kernel
theorem d_Mo_goDown_249 : decode b_Mo_goDown 249 = .ok (.iload_n 3, 1) := by decide +kernel
theorem d_Mo_goDown_250 : decode b_Mo_goDown 250 = .ok (.laload, 1) := by decide +kernel
theorem d_Mo_goDown_251 : decode b_Mo_goDown 251 = .ok (.lastore, 1) := by decide +kernel
theorem d_Mo_goDown_252 : decode b_Mo_goDown 252 = .ok (.aload_n 0, 1) := by decide +kernel
theorem d_Mo_goDown_253 : decode b_Mo_goDown 253 = .ok (.getfield 35, 3) := by decide +kernel
theorem d_Mo_goDown_256 : decode b_Mo_goDown 256 = .ok (.iload_n 2, 1) := by decide +kernel
theorem d_Mo_goDown_257 : decode b_Mo_goDown 257 = .ok (.aload_n 0, 1) := by decide +kernel
theorem d_Mo_goDown_258 : decode b_Mo_goDown 258 = .ok (.getfield 41, 3) := by decide +kernel
theorem d_Mo_goDown_261 : decode b_Mo_goDown 261 = .ok (.iload_n 3, 1) := by decide +kernel
theorem d_Mo_goDown_262 : decode b_Mo_goDown 262 = .ok (.laload, 1) := by decide +kernel
theorem d_Mo_goDown_263 : decode b_Mo_goDown 263 = .ok (.lastore, 1) := by decide +kernel
theorem d_Mo_goDown_264 : decode b_Mo_goDown 264 = .ok (.aload_n 0, 1) := by decide +kernel
theorem d_Mo_goDown_265 : decode b_Mo_goDown 265 = .ok (.getfield 38, 3) := by decide +kernel
theorem d_Mo_goDown_268 : decode b_Mo_goDown 268 = .ok (.iload_n 2, 1) := by decide +kernel
theorem d_Mo_goDown_269 : decode b_Mo_goDown 269 = .ok (.aload_n 0, 1) := by decide +kernel
theorem d_Mo_goDown_270 : decode b_Mo_goDown 270 = .ok (.getfield 44, 3) := by decide +kernel
theorem d_Mo_goDown_273 : decode b_Mo_goDown 273 = .ok (.iload_n 3, 1) := by decide +kernel
theorem d_Mo_goDown_274 : decode b_Mo_goDown 274 = .ok (.laload, 1) := by decide +kernel
theorem d_Mo_goDown_275 : decode b_Mo_goDown 275 = .ok (.lastore, 1) := by decide +kernel
theorem d_Mo_goDown_276 : decode b_Mo_goDown 276 = .ok (.aload_n 0, 1) := by decide +kernel
theorem d_Mo_goDown_277 : decode b_Mo_goDown 277 = .ok (.getfield 41, 3) := by decide +kernel
theorem d_Mo_goDown_280 : decode b_Mo_goDown 280 = .ok (.iload_n 2, 1) := by decide +kernel
theorem d_Mo_goDown_281 : decode b_Mo_goDown 281 = .ok (.aload_n 0, 1) := by decide +kernel
theorem d_Mo_goDown_282 : decode b_Mo_goDown 282 = .ok (.getfield 47, 3) := by decide +kernel
theorem d_Mo_goDown_285 : decode b_Mo_goDown 285 = .ok (.iload_n 3, 1) := by decide +kernel
theorem d_Mo_goDown_286 : decode b_Mo_goDown 286 = .ok (.laload, 1) := by decide +kernel
theorem d_Mo_goDown_287 : decode b_Mo_goDown 287 = .ok (.lastore, 1) := by decide +kernel
theorem d_Mo_goDown_288 : decode b_Mo_goDown 288 = .ok (.aload_n 0, 1) := by decide +kernel
theorem d_Mo_goDown_289 : decode b_Mo_goDown 289 = .ok (.getfield 44, 3) := by decide +kernel
theorem d_Mo_goDown_292 : decode b_Mo_goDown 292 = .ok (.iload_n 2, 1) := by decide +kernel
theorem d_Mo_goDown_293 : decode b_Mo_goDown 293 = .ok (.lload 6, 2) := by decide +kernel
theorem d_Mo_goDown_295 : decode b_Mo_goDown 295 = .ok (.lastore, 1) := by decide +kernel
theorem d_Mo_goDown_296 : decode b_Mo_goDown 296 = .ok (.aload_n 0, 1) := by decide +kernel
theorem d_Mo_goDown_297 : decode b_Mo_goDown 297 = .ok (.getfield 47, 3) := by decide +kernel
theorem d_Mo_goDown_300 : decode b_Mo_goDown 300 = .ok (.iload_n 2, 1) := by decide +kernel
theorem d_Mo_goDown_301 : decode b_Mo_goDown 301 = .ok (.lload 8, 2) := by decide +kernel
theorem d_Mo_goDown_303 : decode b_Mo_goDown 303 = .ok (.lastore, 1) := by decide +kernel
theorem d_Mo_goDown_304 : decode b_Mo_goDown 304 = .ok (.iload 5, 2) := by decide +kernel
theorem d_Mo_goDown_306 : decode b_Mo_goDown 306 = .ok (.bipush 8, 2) := by decide +kernel
theorem d_Mo_goDown_308 : decode b_Mo_goDown 308 = .ok (.if_icmp .ne 21, 3) := by decide +kernel
theorem d_Mo_goDown_311 : decode b_Mo_goDown 311 = .ok (.aload_n 0, 1) := by decide +kernel
theorem d_Mo_goDown_312 : decode b_Mo_goDown 312 = .ok (.getfield 31, 3) := by decide +kernel
theorem d_Mo_goDown_315 : decode b_Mo_goDown 315 = .ok (.iload_n 2, 1) := by decide +kernel
theorem d_Mo_goDown_316 : decode b_Mo_goDown 316 = .ok (.lload 8, 2) := by decide +kernel
theorem d_Mo_goDown_318 : decode b_Mo_goDown 318 = .ok (.lneg, 1) := by decide +kernel
theorem d_Mo_goDown_319 : decode b_Mo_goDown 319 = .ok (.lastore, 1) := by decide +kernel
theorem d_Mo_goDown_320 : decode b_Mo_goDown 320 = .ok (.aload_n 0, 1) := by decide +kernel
theorem d_Mo_goDown_321 : decode b_Mo_goDown 321 = .ok (.getfield 35, 3) := by decide +kernel
theorem d_Mo_goDown_324 : decode b_Mo_goDown 324 = .ok (.iload_n 2, 1) := by decide +kernel
theorem d_Mo_goDown_325 : decode b_Mo_goDown 325 = .ok (.lload 6, 2) := by decide +kernel
theorem d_Mo_goDown_327 : decode b_Mo_goDown 327 = .ok (.lneg, 1) := by decide +kernel
theorem d_Mo_goDown_328 : decode b_Mo_goDown 328 = .ok (.lastore, 1) := by decide +kernel
theorem d_Mo_goDown_329 : decode b_Mo_goDown 329 = .ok (.iload 5, 2) := by decide +kernel
theorem d_Mo_goDown_331 : decode b_Mo_goDown 331 = .ok (.bipush 9, 2) := by decide +kernel
theorem d_Mo_goDown_333 : decode b_Mo_goDown 333 = .ok (.if_icmp .ne 99, 3) := by decide +kernel
theorem d_Mo_goDown_336 : decode b_Mo_goDown 336 = .ok (.aload_n 0, 1) := by decide +kernel
theorem d_Mo_goDown_337 : decode b_Mo_goDown 337 = .ok (.getfield 19, 3) := by decide +kernel
theorem d_Mo_goDown_340 : decode b_Mo_goDown 340 = .ok (.iload 4, 2) := by decide +kernel
theorem d_Mo_goDown_342 : decode b_Mo_goDown 342 = .ok (.iaload, 1) := by decide +kernel
theorem d_Mo_goDown_343 : decode b_Mo_goDown 343 = .ok (.istore 10, 2) := by decide +kernel
theorem d_Mo_goDown_345 : decode b_Mo_goDown 345 = .ok (.lload 8, 2) := by decide +kernel
theorem d_Mo_goDown_347 : decode b_Mo_goDown 347 = .ok (.lload 6, 2) := by decide +kernel
theorem d_Mo_goDown_349 : decode b_Mo_goDown 349 = .ok (.lsub, 1) := by decide +kernel
theorem d_Mo_goDown_350 : decode b_Mo_goDown 350 = .ok (.lconst 1, 1) := by decide +kernel
theorem d_Mo_goDown_351 : decode b_Mo_goDown 351 = .ok (.ladd, 1) := by decide +kernel
theorem d_Mo_goDown_352 : decode b_Mo_goDown 352 = .ok (.iload 10, 2) := by decide +kernel
theorem d_Mo_goDown_354 : decode b_Mo_goDown 354 = .ok (.i2l, 1) := by decide +kernel
theorem d_Mo_goDown_355 : decode b_Mo_goDown 355 = .ok (.lcmp, 1) := by decide +kernel
theorem d_Mo_goDown_356 : decode b_Mo_goDown 356 = .ok (.ifCond .ge 21, 3) := by decide +kernel
theorem d_Mo_goDown_359 : decode b_Mo_goDown 359 = .ok (.lload 8, 2) := by decide +kernel
theorem d_Mo_goDown_361 : decode b_Mo_goDown 361 = .ok (.iload 10, 2) := by decide +kernel
theorem d_Mo_goDown_363 : decode b_Mo_goDown 363 = .ok (.invokestatic 175, 3) := by decide +kernel
theorem d_Mo_goDown_366 : decode b_Mo_goDown 366 = .ok (.lload 6, 2) := by decide +kernel
theorem d_Mo_goDown_368 : decode b_Mo_goDown 368 = .ok (.iload 10, 2) := by decide +kernel
theorem d_Mo_goDown_370 : decode b_Mo_goDown 370 = .ok (.invokestatic 175, 3) := by decide +kernel
theorem d_Mo_goDown_373 : decode b_Mo_goDown 373 = .ok (.lcmp, 1) := by decide +kernel
theorem d_Mo_goDown_374 : decode b_Mo_goDown 374 = .ok (.ifCond .ge 7, 3) := by decide +kernel
theorem d_Mo_goDown_377 : decode b_Mo_goDown 377 = .ok (.iconst 1, 1) := by decide +kernel
theorem d_Mo_goDown_378 : decode b_Mo_goDown 378 = .ok (.goto 4, 3) := by decide +kernel
theorem d_Mo_goDown_381 : decode b_Mo_goDown 381 = .ok (.iconst 0, 1) := by decide +kernel
theorem d_Mo_goDown_382 : decode b_Mo_goDown 382 = .ok (.istore 11, 2) := by decide +kernel
theorem d_Mo_goDown_384 : decode b_Mo_goDown 384 = .ok (.aload_n 0, 1) := by decide +kernel
theorem d_Mo_goDown_385 : decode b_Mo_goDown 385 = .ok (.getfield 31, 3) := by decide +kernel
theorem d_Mo_goDown_388 : decode b_Mo_goDown 388 = .ok (.iload_n 2, 1) := by decide +kernel
theorem d_Mo_goDown_389 : decode b_Mo_goDown 389 = .ok (.iload 11, 2) := by decide +kernel
theorem d_Mo_goDown_391 : decode b_Mo_goDown 391 = .ok (.ifCond .eq 7, 3) := by decide +kernel
theorem d_Mo_goDown_394 : decode b_Mo_goDown 394 = .ok (.lconst 0, 1) := by decide +kernel
theorem d_Mo_goDown_395 : decode b_Mo_goDown 395 = .ok (.goto 10, 3) := by decide +kernel
theorem d_Mo_goDown_398 : decode b_Mo_goDown 398 = .ok (.lload 6, 2) := by decide +kernel
theorem d_Mo_goDown_400 : decode b_Mo_goDown 400 = .ok (.iload 10, 2) := by decide +kernel
theorem d_Mo_goDown_402 : decode b_Mo_goDown 402 = .ok (.invokestatic 175, 3) := by decide +kernel
theorem d_Mo_goDown_405 : decode b_Mo_goDown 405 = .ok (.lastore, 1) := by decide +kernel
theorem d_Mo_goDown_406 : decode b_Mo_goDown 406 = .ok (.aload_n 0, 1) := by decide +kernel
theorem d_Mo_goDown_407 : decode b_Mo_goDown 407 = .ok (.getfield 35, 3) := by decide +kernel
theorem d_Mo_goDown_410 : decode b_Mo_goDown 410 = .ok (.iload_n 2, 1) := by decide +kernel
theorem d_Mo_goDown_411 : decode b_Mo_goDown 411 = .ok (.iload 11, 2) := by decide +kernel
theorem d_Mo_goDown_413 : decode b_Mo_goDown 413 = .ok (.ifCond .eq 11, 3) := by decide +kernel
theorem d_Mo_goDown_416 : decode b_Mo_goDown 416 = .ok (.iload 10, 2) := by decide +kernel
theorem d_Mo_goDown_418 : decode b_Mo_goDown 418 = .ok (.i2l, 1) := by decide +kernel
theorem d_Mo_goDown_419 : decode b_Mo_goDown 419 = .ok (.lconst 1, 1) := by decide +kernel
theorem d_Mo_goDown_420 : decode b_Mo_goDown 420 = .ok (.lsub, 1) := by decide +kernel
theorem d_Mo_goDown_421 : decode b_Mo_goDown 421 = .ok (.goto 10, 3) := by decide +kernel
theorem d_Mo_goDown_424 : decode b_Mo_goDown 424 = .ok (.lload 8, 2) := by decide +kernel
theorem d_Mo_goDown_426 : decode b_Mo_goDown 426 = .ok (.iload 10, 2) := by decide +kernel
theorem d_Mo_goDown_428 : decode b_Mo_goDown 428 = .ok (.invokestatic 175, 3) := by decide +kernel
theorem d_Mo_goDown_431 : decode b_Mo_goDown 431 = .ok (.lastore, 1) := by decide +kernel
theorem d_Mo_goDown_432 : decode b_Mo_goDown 432 = .ok (.return_, 1) := by decide +kernel
theorem d_Mo_modulo_0 : decode b_Mo_modulo 0 = .ok (.lload_n 0, 1) := by decide +kernel
theorem d_Mo_modulo_1 : decode b_Mo_modulo 1 = .ok (.iload_n 2, 1) := by decide +kernel
theorem d_Mo_modulo_2 : decode b_Mo_modulo 2 = .ok (.i2l, 1) := by decide +kernel
theorem d_Mo_modulo_3 : decode b_Mo_modulo 3 = .ok (.lrem, 1) := by decide +kernel
theorem d_Mo_modulo_4 : decode b_Mo_modulo 4 = .ok (.lstore_n 3, 1) := by decide +kernel
theorem d_Mo_modulo_5 : decode b_Mo_modulo 5 = .ok (.lload_n 3, 1) := by decide +kernel
theorem d_Mo_modulo_6 : decode b_Mo_modulo 6 = .ok (.lconst 0, 1) := by decide +kernel
theorem d_Mo_modulo_7 : decode b_Mo_modulo 7 = .ok (.lcmp, 1) := by decide +kernel
theorem d_Mo_modulo_8 : decode b_Mo_modulo 8 = .ok (.ifCond .ge 10, 3) := by decide +kernel
theorem d_Mo_modulo_11 : decode b_Mo_modulo 11 = .ok (.lload_n 3, 1) := by decide +kernel
theorem d_Mo_modulo_12 : decode b_Mo_modulo 12 = .ok (.iload_n 2, 1) := by decide +kernel
theorem d_Mo_modulo_13 : decode b_Mo_modulo 13 = .ok (.i2l, 1) := by decide +kernel
theorem d_Mo_modulo_14 : decode b_Mo_modulo 14 = .ok (.ladd, 1) := by decide +kernel
theorem d_Mo_modulo_15 : decode b_Mo_modulo 15 = .ok (.goto 4, 3) := by decide +kernel
theorem d_Mo_modulo_18 : decode b_Mo_modulo 18 = .ok (.lload_n 3, 1) := by decide +kernel
theorem d_Mo_modulo_19 : decode b_Mo_modulo 19 = .ok (.lreturn, 1) := by decide +kernel
theorem d_Mo_leaf_0 : decode b_Mo_leaf 0 = .ok (.bipush 6, 2) := by decide +kernel
theorem d_Mo_leaf_2 : decode b_Mo_leaf 2 = .ok (.bipush 64, 2) := by decide +kernel
theorem d_Mo_leaf_4 : decode b_Mo_leaf 4 = .ok (.iload_n 1, 1) := by decide +kernel
theorem d_Mo_leaf_5 : decode b_Mo_leaf 5 = .ok (.imul, 1) := by decide +kernel
theorem d_Mo_leaf_6 : decode b_Mo_leaf 6 = .ok (.iload_n 2, 1) := by decide +kernel
theorem d_Mo_leaf_7 : decode b_Mo_leaf 7 = .ok (.iadd, 1) := by decide +kernel
theorem d_Mo_leaf_8 : decode b_Mo_leaf 8 = .ok (.imul, 1) := by decide +kernel
theorem d_Mo_leaf_9 : decode b_Mo_leaf 9 = .ok (.istore_n 3, 1) := by decide +kernel
theorem d_Mo_leaf_10 : decode b_Mo_leaf 10 = .ok (.aload_n 0, 1) := by decide +kernel
theorem d_Mo_leaf_11 : decode b_Mo_leaf 11 = .ok (.lconst 0, 1) := by decide +kernel
theorem d_Mo_leaf_12 : decode b_Mo_leaf 12 = .ok (.putfield 179, 3) := by decide +kernel
theorem d_Mo_leaf_15 : decode b_Mo_leaf 15 = .ok (.aload_n 0, 1) := by decide +kernel
theorem d_Mo_leaf_16 : decode b_Mo_leaf 16 = .ok (.lconst 0, 1) := by decide +kernel
theorem d_Mo_leaf_17 : decode b_Mo_leaf 17 = .ok (.putfield 183, 3) := by decide +kernel
theorem d_Mo_leaf_20 : decode b_Mo_leaf 20 = .ok (.aload_n 0, 1) := by decide +kernel
theorem d_Mo_leaf_21 : decode b_Mo_leaf 21 = .ok (.getfield 13, 3) := by decide +kernel
theorem d_Mo_leaf_24 : decode b_Mo_leaf 24 = .ok (.bipush 64, 2) := by decide +kernel
theorem d_Mo_leaf_26 : decode b_Mo_leaf 26 = .ok (.iload_n 1, 1) := by decide +kernel
theorem d_Mo_leaf_27 : decode b_Mo_leaf 27 = .ok (.imul, 1) := by decide +kernel
theorem d_Mo_leaf_28 : decode b_Mo_leaf 28 = .ok (.iload_n 2, 1) := by decide +kernel
theorem d_Mo_leaf_29 : decode b_Mo_leaf 29 = .ok (.iadd, 1) := by decide +kernel
theorem d_Mo_leaf_30 : decode b_Mo_leaf 30 = .ok (.iaload, 1) := by decide +kernel
theorem d_Mo_leaf_31 : decode b_Mo_leaf 31 = .ok (.lookupswitch 391 #[(0, 25), (1, 152)], 25) := by decide +kernel
theorem d_Mo_leaf_56 : decode b_Mo_leaf 56 = .ok (.aload_n 0, 1) := by decide +kernel
theorem d_Mo_leaf_57 : decode b_Mo_leaf 57 = .ok (.aload_n 0, 1) := by decide +kernel
theorem d_Mo_leaf_58 : decode b_Mo_leaf 58 = .ok (.getfield 31, 3) := by decide +kernel
theorem d_Mo_leaf_61 : decode b_Mo_leaf 61 = .ok (.iload_n 2, 1) := by decide +kernel
theorem d_Mo_leaf_62 : decode b_Mo_leaf 62 = .ok (.laload, 1) := by decide +kernel
theorem d_Mo_leaf_63 : decode b_Mo_leaf 63 = .ok (.aload_n 0, 1) := by decide +kernel
theorem d_Mo_leaf_64 : decode b_Mo_leaf 64 = .ok (.getfield 35, 3) := by decide +kernel
theorem d_Mo_leaf_67 : decode b_Mo_leaf 67 = .ok (.iload_n 2, 1) := by decide +kernel
theorem d_Mo_leaf_68 : decode b_Mo_leaf 68 = .ok (.laload, 1) := by decide +kernel
theorem d_Mo_leaf_69 : decode b_Mo_leaf 69 = .ok (.aload_n 0, 1) := by decide +kernel
theorem d_Mo_leaf_70 : decode b_Mo_leaf 70 = .ok (.getfield 19, 3) := by decide +kernel
theorem d_Mo_leaf_73 : decode b_Mo_leaf 73 = .ok (.iload_n 3, 1) := by decide +kernel
theorem d_Mo_leaf_74 : decode b_Mo_leaf 74 = .ok (.iaload, 1) := by decide +kernel
theorem d_Mo_leaf_75 : decode b_Mo_leaf 75 = .ok (.invokevirtual 186, 3) := by decide +kernel
theorem d_Mo_leaf_78 : decode b_Mo_leaf 78 = .ok (.aload_n 0, 1) := by decide +kernel
theorem d_Mo_leaf_79 : decode b_Mo_leaf 79 = .ok (.aload_n 0, 1) := by decide +kernel
theorem d_Mo_leaf_80 : decode b_Mo_leaf 80 = .ok (.getfield 38, 3) := by decide +kernel
theorem d_Mo_leaf_83 : decode b_Mo_leaf 83 = .ok (.iload_n 2, 1) := by decide +kernel
theorem d_Mo_leaf_84 : decode b_Mo_leaf 84 = .ok (.laload, 1) := by decide +kernel
theorem d_Mo_leaf_85 : decode b_Mo_leaf 85 = .ok (.aload_n 0, 1) := by decide +kernel
theorem d_Mo_leaf_86 : decode b_Mo_leaf 86 = .ok (.getfield 41, 3) := by decide +kernel
theorem d_Mo_leaf_89 : decode b_Mo_leaf 89 = .ok (.iload_n 2, 1) := by decide +kernel
theorem d_Mo_leaf_90 : decode b_Mo_leaf 90 = .ok (.laload, 1) := by decide +kernel
theorem d_Mo_leaf_91 : decode b_Mo_leaf 91 = .ok (.aload_n 0, 1) := by decide +kernel
theorem d_Mo_leaf_92 : decode b_Mo_leaf 92 = .ok (.getfield 19, 3) := by decide +kernel
theorem d_Mo_leaf_95 : decode b_Mo_leaf 95 = .ok (.iload_n 3, 1) := by decide +kernel
theorem d_Mo_leaf_96 : decode b_Mo_leaf 96 = .ok (.iconst 1, 1) := by decide +kernel
theorem d_Mo_leaf_97 : decode b_Mo_leaf 97 = .ok (.iadd, 1) := by decide +kernel
theorem d_Mo_leaf_98 : decode b_Mo_leaf 98 = .ok (.iaload, 1) := by decide +kernel
theorem d_Mo_leaf_99 : decode b_Mo_leaf 99 = .ok (.invokevirtual 186, 3) := by decide +kernel
theorem d_Mo_leaf_102 : decode b_Mo_leaf 102 = .ok (.aload_n 0, 1) := by decide +kernel
theorem d_Mo_leaf_103 : decode b_Mo_leaf 103 = .ok (.aload_n 0, 1) := by decide +kernel
theorem d_Mo_leaf_104 : decode b_Mo_leaf 104 = .ok (.getfield 44, 3) := by decide +kernel
theorem d_Mo_leaf_107 : decode b_Mo_leaf 107 = .ok (.iload_n 2, 1) := by decide +kernel
theorem d_Mo_leaf_108 : decode b_Mo_leaf 108 = .ok (.laload, 1) := by decide +kernel
theorem d_Mo_leaf_109 : decode b_Mo_leaf 109 = .ok (.aload_n 0, 1) := by decide +kernel
theorem d_Mo_leaf_110 : decode b_Mo_leaf 110 = .ok (.getfield 47, 3) := by decide +kernel
theorem d_Mo_leaf_113 : decode b_Mo_leaf 113 = .ok (.iload_n 2, 1) := by decide +kernel
theorem d_Mo_leaf_114 : decode b_Mo_leaf 114 = .ok (.laload, 1) := by decide +kernel
theorem d_Mo_leaf_115 : decode b_Mo_leaf 115 = .ok (.aload_n 0, 1) := by decide +kernel
theorem d_Mo_leaf_116 : decode b_Mo_leaf 116 = .ok (.getfield 19, 3) := by decide +kernel
theorem d_Mo_leaf_119 : decode b_Mo_leaf 119 = .ok (.iload_n 3, 1) := by decide +kernel
theorem d_Mo_leaf_120 : decode b_Mo_leaf 120 = .ok (.iconst 2, 1) := by decide +kernel
theorem d_Mo_leaf_121 : decode b_Mo_leaf 121 = .ok (.iadd, 1) := by decide +kernel
theorem d_Mo_leaf_122 : decode b_Mo_leaf 122 = .ok (.iaload, 1) := by decide +kernel
theorem d_Mo_leaf_123 : decode b_Mo_leaf 123 = .ok (.invokevirtual 186, 3) := by decide +kernel
theorem d_Mo_leaf_126 : decode b_Mo_leaf 126 = .ok (.aload_n 0, 1) := by decide +kernel
theorem d_Mo_leaf_127 : decode b_Mo_leaf 127 = .ok (.dup, 1) := by decide +kernel
theorem d_Mo_leaf_128 : decode b_Mo_leaf 128 = .ok (.getfield 179, 3) := by decide +kernel
theorem d_Mo_leaf_131 : decode b_Mo_leaf 131 = .ok (.aload_n 0, 1) := by decide +kernel
theorem d_Mo_leaf_132 : decode b_Mo_leaf 132 = .ok (.getfield 19, 3) := by decide +kernel
theorem d_Mo_leaf_135 : decode b_Mo_leaf 135 = .ok (.iload_n 3, 1) := by decide +kernel
theorem d_Mo_leaf_136 : decode b_Mo_leaf 136 = .ok (.iconst 3, 1) := by decide +kernel
theorem d_Mo_leaf_137 : decode b_Mo_leaf 137 = .ok (.iadd, 1) := by decide +kernel
theorem d_Mo_leaf_138 : decode b_Mo_leaf 138 = .ok (.iaload, 1) := by decide +kernel
theorem d_Mo_leaf_139 : decode b_Mo_leaf 139 = .ok (.aload_n 0, 1) := by decide +kernel
theorem d_Mo_leaf_140 : decode b_Mo_leaf 140 = .ok (.getfield 19, 3) := by decide +kernel
theorem d_Mo_leaf_143 : decode b_Mo_leaf 143 = .ok (.iload_n 3, 1) := by decide +kernel
theorem d_Mo_leaf_144 : decode b_Mo_leaf 144 = .ok (.iconst 3, 1) := by decide +kernel
theorem d_Mo_leaf_145 : decode b_Mo_leaf 145 = .ok (.iadd, 1) := by decide +kernel
theorem d_Mo_leaf_146 : decode b_Mo_leaf 146 = .ok (.iaload, 1) := by decide +kernel
theorem d_Mo_leaf_147 : decode b_Mo_leaf 147 = .ok (.imul, 1) := by decide +kernel
theorem d_Mo_leaf_148 : decode b_Mo_leaf 148 = .ok (.i2l, 1) := by decide +kernel
theorem d_Mo_leaf_149 : decode b_Mo_leaf 149 = .ok (.lsub, 1) := by decide +kernel
theorem d_Mo_leaf_150 : decode b_Mo_leaf 150 = .ok (.putfield 179, 3) := by decide +kernel
theorem d_Mo_leaf_153 : decode b_Mo_leaf 153 = .ok (.aload_n 0, 1) := by decide +kernel
theorem d_Mo_leaf_154 : decode b_Mo_leaf 154 = .ok (.dup, 1) := by decide +kernel
theorem d_Mo_leaf_155 : decode b_Mo_leaf 155 = .ok (.getfield 183, 3) := by decide +kernel
theorem d_Mo_leaf_158 : decode b_Mo_leaf 158 = .ok (.aload_n 0, 1) := by decide +kernel
theorem d_Mo_leaf_159 : decode b_Mo_leaf 159 = .ok (.getfield 19, 3) := by decide +kernel
theorem d_Mo_leaf_162 : decode b_Mo_leaf 162 = .ok (.iload_n 3, 1) := by decide +kernel
theorem d_Mo_leaf_163 : decode b_Mo_leaf 163 = .ok (.iconst 3, 1) := by decide +kernel
theorem d_Mo_leaf_164 : decode b_Mo_leaf 164 = .ok (.iadd, 1) := by decide +kernel
theorem d_Mo_leaf_165 : decode b_Mo_leaf 165 = .ok (.iaload, 1) := by decide +kernel
theorem d_Mo_leaf_166 : decode b_Mo_leaf 166 = .ok (.aload_n 0, 1) := by decide +kernel
theorem d_Mo_leaf_167 : decode b_Mo_leaf 167 = .ok (.getfield 19, 3) := by decide +kernel
theorem d_Mo_leaf_170 : decode b_Mo_leaf 170 = .ok (.iload_n 3, 1) := by decide +kernel
theorem d_Mo_leaf_171 : decode b_Mo_leaf 171 = .ok (.iconst 3, 1) := by decide +kernel
theorem d_Mo_leaf_172 : decode b_Mo_leaf 172 = .ok (.iadd, 1) := by decide +kernel
theorem d_Mo_leaf_173 : decode b_Mo_leaf 173 = .ok (.iaload, 1) := by decide +kernel
theorem d_Mo_leaf_174 : decode b_Mo_leaf 174 = .ok (.imul, 1) := by decide +kernel
theorem d_Mo_leaf_175 : decode b_Mo_leaf 175 = .ok (.i2l, 1) := by decide +kernel
theorem d_Mo_leaf_176 : decode b_Mo_leaf 176 = .ok (.lsub, 1) := by decide +kernel
theorem d_Mo_leaf_177 : decode b_Mo_leaf 177 = .ok (.putfield 183, 3) := by decide +kernel
theorem d_Mo_leaf_180 : decode b_Mo_leaf 180 = .ok (.goto 348, 3) := by decide +kernel
theorem d_Mo_leaf_183 : decode b_Mo_leaf 183 = .ok (.aload_n 0, 1) := by decide +kernel
theorem d_Mo_leaf_184 : decode b_Mo_leaf 184 = .ok (.aload_n 0, 1) := by decide +kernel
theorem d_Mo_leaf_185 : decode b_Mo_leaf 185 = .ok (.getfield 19, 3) := by decide +kernel
theorem d_Mo_leaf_188 : decode b_Mo_leaf 188 = .ok (.iload_n 3, 1) := by decide +kernel
theorem d_Mo_leaf_189 : decode b_Mo_leaf 189 = .ok (.iaload, 1) := by decide +kernel
theorem d_Mo_leaf_190 : decode b_Mo_leaf 190 = .ok (.i2l, 1) := by decide +kernel
theorem d_Mo_leaf_191 : decode b_Mo_leaf 191 = .ok (.aload_n 0, 1) := by decide +kernel
theorem d_Mo_leaf_192 : decode b_Mo_leaf 192 = .ok (.getfield 35, 3) := by decide +kernel
theorem d_Mo_leaf_195 : decode b_Mo_leaf 195 = .ok (.iload_n 2, 1) := by decide +kernel
theorem d_Mo_leaf_196 : decode b_Mo_leaf 196 = .ok (.laload, 1) := by decide +kernel
theorem d_Mo_leaf_197 : decode b_Mo_leaf 197 = .ok (.lsub, 1) := by decide +kernel
theorem d_Mo_leaf_198 : decode b_Mo_leaf 198 = .ok (.putfield 179, 3) := by decide +kernel
theorem d_Mo_leaf_201 : decode b_Mo_leaf 201 = .ok (.aload_n 0, 1) := by decide +kernel
theorem d_Mo_leaf_202 : decode b_Mo_leaf 202 = .ok (.aload_n 0, 1) := by decide +kernel
theorem d_Mo_leaf_203 : decode b_Mo_leaf 203 = .ok (.getfield 19, 3) := by decide +kernel
theorem d_Mo_leaf_206 : decode b_Mo_leaf 206 = .ok (.iload_n 3, 1) := by decide +kernel
theorem d_Mo_leaf_207 : decode b_Mo_leaf 207 = .ok (.iaload, 1) := by decide +kernel
theorem d_Mo_leaf_208 : decode b_Mo_leaf 208 = .ok (.i2l, 1) := by decide +kernel
theorem d_Mo_leaf_209 : decode b_Mo_leaf 209 = .ok (.aload_n 0, 1) := by decide +kernel
theorem d_Mo_leaf_210 : decode b_Mo_leaf 210 = .ok (.getfield 31, 3) := by decide +kernel
theorem d_Mo_leaf_213 : decode b_Mo_leaf 213 = .ok (.iload_n 2, 1) := by decide +kernel
theorem d_Mo_leaf_214 : decode b_Mo_leaf 214 = .ok (.laload, 1) := by decide +kernel
theorem d_Mo_leaf_215 : decode b_Mo_leaf 215 = .ok (.lsub, 1) := by decide +kernel
theorem d_Mo_leaf_216 : decode b_Mo_leaf 216 = .ok (.putfield 183, 3) := by decide +kernel
theorem d_Mo_leaf_219 : decode b_Mo_leaf 219 = .ok (.aload_n 0, 1) := by decide +kernel
theorem d_Mo_leaf_220 : decode b_Mo_leaf 220 = .ok (.aload_n 0, 1) := by decide +kernel
theorem d_Mo_leaf_221 : decode b_Mo_leaf 221 = .ok (.getfield 31, 3) := by decide +kernel
theorem d_Mo_leaf_224 : decode b_Mo_leaf 224 = .ok (.iload_n 2, 1) := by decide +kernel
theorem d_Mo_leaf_225 : decode b_Mo_leaf 225 = .ok (.laload, 1) := by decide +kernel
theorem d_Mo_leaf_226 : decode b_Mo_leaf 226 = .ok (.aload_n 0, 1) := by decide +kernel
theorem d_Mo_leaf_227 : decode b_Mo_leaf 227 = .ok (.getfield 19, 3) := by decide +kernel
theorem d_Mo_leaf_230 : decode b_Mo_leaf 230 = .ok (.iload_n 3, 1) := by decide +kernel
theorem d_Mo_leaf_231 : decode b_Mo_leaf 231 = .ok (.iconst 3, 1) := by decide +kernel
theorem d_Mo_leaf_232 : decode b_Mo_leaf 232 = .ok (.iadd, 1) := by decide +kernel
theorem d_Mo_leaf_233 : decode b_Mo_leaf 233 = .ok (.iaload, 1) := by decide +kernel
theorem d_Mo_leaf_234 : decode b_Mo_leaf 234 = .ok (.i2l, 1) := by decide +kernel
theorem d_Mo_leaf_235 : decode b_Mo_leaf 235 = .ok (.lsub, 1) := by decide +kernel
theorem d_Mo_leaf_236 : decode b_Mo_leaf 236 = .ok (.aload_n 0, 1) := by decide +kernel
theorem d_Mo_leaf_237 : decode b_Mo_leaf 237 = .ok (.getfield 35, 3) := by decide +kernel
theorem d_Mo_leaf_240 : decode b_Mo_leaf 240 = .ok (.iload_n 2, 1) := by decide +kernel
theorem d_Mo_leaf_241 : decode b_Mo_leaf 241 = .ok (.laload, 1) := by decide +kernel
theorem d_Mo_leaf_242 : decode b_Mo_leaf 242 = .ok (.aload_n 0, 1) := by decide +kernel
theorem d_Mo_leaf_243 : decode b_Mo_leaf 243 = .ok (.getfield 19, 3) := by decide +kernel
theorem d_Mo_leaf_246 : decode b_Mo_leaf 246 = .ok (.iload_n 3, 1) := by decide +kernel
theorem d_Mo_leaf_247 : decode b_Mo_leaf 247 = .ok (.iconst 3, 1) := by decide +kernel
theorem d_Mo_leaf_248 : decode b_Mo_leaf 248 = .ok (.iadd, 1) := by decide +kernel
theorem d_Mo_leaf_249 : decode b_Mo_leaf 249 = .ok (.iaload, 1) := by decide +kernel
theorem d_Mo_leaf_250 : decode b_Mo_leaf 250 = .ok (.i2l, 1) := by decide +kernel
theorem d_Mo_leaf_251 : decode b_Mo_leaf 251 = .ok (.lsub, 1) := by decide +kernel
theorem d_Mo_leaf_252 : decode b_Mo_leaf 252 = .ok (.invokevirtual 190, 3) := by decide +kernel
theorem d_Mo_leaf_255 : decode b_Mo_leaf 255 = .ok (.aload_n 0, 1) := by decide +kernel
theorem d_Mo_leaf_256 : decode b_Mo_leaf 256 = .ok (.aload_n 0, 1) := by decide +kernel
theorem d_Mo_leaf_257 : decode b_Mo_leaf 257 = .ok (.getfield 19, 3) := by decide +kernel
theorem d_Mo_leaf_260 : decode b_Mo_leaf 260 = .ok (.iload_n 3, 1) := by decide +kernel
theorem d_Mo_leaf_261 : decode b_Mo_leaf 261 = .ok (.iconst 1, 1) := by decide +kernel
theorem d_Mo_leaf_262 : decode b_Mo_leaf 262 = .ok (.iadd, 1) := by decide +kernel
theorem d_Mo_leaf_263 : decode b_Mo_leaf 263 = .ok (.iaload, 1) := by decide +kernel
theorem d_Mo_leaf_264 : decode b_Mo_leaf 264 = .ok (.i2l, 1) := by decide +kernel
theorem d_Mo_leaf_265 : decode b_Mo_leaf 265 = .ok (.aload_n 0, 1) := by decide +kernel
theorem d_Mo_leaf_266 : decode b_Mo_leaf 266 = .ok (.getfield 41, 3) := by decide +kernel
theorem d_Mo_leaf_269 : decode b_Mo_leaf 269 = .ok (.iload_n 2, 1) := by decide +kernel
theorem d_Mo_leaf_270 : decode b_Mo_leaf 270 = .ok (.laload, 1) := by decide +kernel
theorem d_Mo_leaf_271 : decode b_Mo_leaf 271 = .ok (.lsub, 1) := by decide +kernel
theorem d_Mo_leaf_272 : decode b_Mo_leaf 272 = .ok (.aload_n 0, 1) := by decide +kernel
theorem d_Mo_leaf_273 : decode b_Mo_leaf 273 = .ok (.getfield 19, 3) := by decide +kernel
theorem d_Mo_leaf_276 : decode b_Mo_leaf 276 = .ok (.iload_n 3, 1) := by decide +kernel
theorem d_Mo_leaf_277 : decode b_Mo_leaf 277 = .ok (.iconst 1, 1) := by decide +kernel
theorem d_Mo_leaf_278 : decode b_Mo_leaf 278 = .ok (.iadd, 1) := by decide +kernel
theorem d_Mo_leaf_279 : decode b_Mo_leaf 279 = .ok (.iaload, 1) := by decide +kernel
theorem d_Mo_leaf_280 : decode b_Mo_leaf 280 = .ok (.i2l, 1) := by decide +kernel
theorem d_Mo_leaf_281 : decode b_Mo_leaf 281 = .ok (.aload_n 0, 1) := by decide +kernel
theorem d_Mo_leaf_282 : decode b_Mo_leaf 282 = .ok (.getfield 38, 3) := by decide +kernel
theorem d_Mo_leaf_285 : decode b_Mo_leaf 285 = .ok (.iload_n 2, 1) := by decide +kernel
theorem d_Mo_leaf_286 : decode b_Mo_leaf 286 = .ok (.laload, 1) := by decide +kernel
theorem d_Mo_leaf_287 : decode b_Mo_leaf 287 = .ok (.lsub, 1) := by decide +kernel
theorem d_Mo_leaf_288 : decode b_Mo_leaf 288 = .ok (.invokevirtual 190, 3) := by decide +kernel
theorem d_Mo_leaf_291 : decode b_Mo_leaf 291 = .ok (.aload_n 0, 1) := by decide +kernel
theorem d_Mo_leaf_292 : decode b_Mo_leaf 292 = .ok (.aload_n 0, 1) := by decide +kernel
theorem d_Mo_leaf_293 : decode b_Mo_leaf 293 = .ok (.getfield 38, 3) := by decide +kernel
theorem d_Mo_leaf_296 : decode b_Mo_leaf 296 = .ok (.iload_n 2, 1) := by decide +kernel
theorem d_Mo_leaf_297 : decode b_Mo_leaf 297 = .ok (.laload, 1) := by decide +kernel
theorem d_Mo_leaf_298 : decode b_Mo_leaf 298 = .ok (.aload_n 0, 1) := by decide +kernel
theorem d_Mo_leaf_299 : decode b_Mo_leaf 299 = .ok (.getfield 19, 3) := by decide +kernel
theorem d_Mo_leaf_302 : decode b_Mo_leaf 302 = .ok (.iload_n 3, 1) := by decide +kernel
theorem d_Mo_leaf_303 : decode b_Mo_leaf 303 = .ok (.iconst 4, 1) := by decide +kernel
theorem d_Mo_leaf_304 : decode b_Mo_leaf 304 = .ok (.iadd, 1) := by decide +kernel
theorem d_Mo_leaf_305 : decode b_Mo_leaf 305 = .ok (.iaload, 1) := by decide +kernel
theorem d_Mo_leaf_306 : decode b_Mo_leaf 306 = .ok (.i2l, 1) := by decide +kernel
theorem d_Mo_leaf_307 : decode b_Mo_leaf 307 = .ok (.lsub, 1) := by decide +kernel
theorem d_Mo_leaf_308 : decode b_Mo_leaf 308 = .ok (.aload_n 0, 1) := by decide +kernel
theorem d_Mo_leaf_309 : decode b_Mo_leaf 309 = .ok (.getfield 41, 3) := by decide +kernel
theorem d_Mo_leaf_312 : decode b_Mo_leaf 312 = .ok (.iload_n 2, 1) := by decide +kernel
theorem d_Mo_leaf_313 : decode b_Mo_leaf 313 = .ok (.laload, 1) := by decide +kernel
theorem d_Mo_leaf_314 : decode b_Mo_leaf 314 = .ok (.aload_n 0, 1) := by decide +kernel
theorem d_Mo_leaf_315 : decode b_Mo_leaf 315 = .ok (.getfield 19, 3) := by decide +kernel
theorem d_Mo_leaf_318 : decode b_Mo_leaf 318 = .ok (.iload_n 3, 1) := by decide +kernel
theorem d_Mo_leaf_319 : decode b_Mo_leaf 319 = .ok (.iconst 4, 1) := by decide +kernel
theorem d_Mo_leaf_320 : decode b_Mo_leaf 320 = .ok (.iadd, 1) := by decide +kernel
theorem d_Mo_leaf_321 : decode b_Mo_leaf 321 = .ok (.iaload, 1) := by decide +kernel
theorem d_Mo_leaf_322 : decode b_Mo_leaf 322 = .ok (.i2l, 1) := by decide +kernel
theorem d_Mo_leaf_323 : decode b_Mo_leaf 323 = .ok (.lsub, 1) := by decide +kernel
theorem d_Mo_leaf_324 : decode b_Mo_leaf 324 = .ok (.invokevirtual 190, 3) := by decide +kernel
theorem d_Mo_leaf_327 : decode b_Mo_leaf 327 = .ok (.aload_n 0, 1) := by decide +kernel
theorem d_Mo_leaf_328 : decode b_Mo_leaf 328 = .ok (.aload_n 0, 1) := by decide +kernel
theorem d_Mo_leaf_329 : decode b_Mo_leaf 329 = .ok (.getfield 19, 3) := by decide +kernel
theorem d_Mo_leaf_332 : decode b_Mo_leaf 332 = .ok (.iload_n 3, 1) := by decide +kernel
theorem d_Mo_leaf_333 : decode b_Mo_leaf 333 = .ok (.iconst 2, 1) := by decide +kernel
theorem d_Mo_leaf_334 : decode b_Mo_leaf 334 = .ok (.iadd, 1) := by decide +kernel
theorem d_Mo_leaf_335 : decode b_Mo_leaf 335 = .ok (.iaload, 1) := by decide +kernel
theorem d_Mo_leaf_336 : decode b_Mo_leaf 336 = .ok (.i2l, 1) := by decide +kernel
theorem d_Mo_leaf_337 : decode b_Mo_leaf 337 = .ok (.aload_n 0, 1) := by decide +kernel
theorem d_Mo_leaf_338 : decode b_Mo_leaf 338 = .ok (.getfield 47, 3) := by decide +kernel
theorem d_Mo_leaf_341 : decode b_Mo_leaf 341 = .ok (.iload_n 2, 1) := by decide +kernel
theorem d_Mo_leaf_342 : decode b_Mo_leaf 342 = .ok (.laload, 1) := by decide +kernel
theorem d_Mo_leaf_343 : decode b_Mo_leaf 343 = .ok (.lsub, 1) := by decide +kernel
theorem d_Mo_leaf_344 : decode b_Mo_leaf 344 = .ok (.aload_n 0, 1) := by decide +kernel
theorem d_Mo_leaf_345 : decode b_Mo_leaf 345 = .ok (.getfield 19, 3) := by decide +kernel
theorem d_Mo_leaf_348 : decode b_Mo_leaf 348 = .ok (.iload_n 3, 1) := by decide +kernel
theorem d_Mo_leaf_349 : decode b_Mo_leaf 349 = .ok (.iconst 2, 1) := by decide +kernel
theorem d_Mo_leaf_350 : decode b_Mo_leaf 350 = .ok (.iadd, 1) := by decide +kernel
theorem d_Mo_leaf_351 : decode b_Mo_leaf 351 = .ok (.iaload, 1) := by decide +kernel
theorem d_Mo_leaf_352 : decode b_Mo_leaf 352 = .ok (.i2l, 1) := by decide +kernel
theorem d_Mo_leaf_353 : decode b_Mo_leaf 353 = .ok (.aload_n 0, 1) := by decide +kernel
theorem d_Mo_leaf_354 : decode b_Mo_leaf 354 = .ok (.getfield 44, 3) := by decide +kernel
theorem d_Mo_leaf_357 : decode b_Mo_leaf 357 = .ok (.iload_n 2, 1) := by decide +kernel
theorem d_Mo_leaf_358 : decode b_Mo_leaf 358 = .ok (.laload, 1) := by decide +kernel
theorem d_Mo_leaf_359 : decode b_Mo_leaf 359 = .ok (.lsub, 1) := by decide +kernel
theorem d_Mo_leaf_360 : decode b_Mo_leaf 360 = .ok (.invokevirtual 190, 3) := by decide +kernel
theorem d_Mo_leaf_363 : decode b_Mo_leaf 363 = .ok (.aload_n 0, 1) := by decide +kernel
theorem d_Mo_leaf_364 : decode b_Mo_leaf 364 = .ok (.aload_n 0, 1) := by decide +kernel
theorem d_Mo_leaf_365 : decode b_Mo_leaf 365 = .ok (.getfield 44, 3) := by decide +kernel
theorem d_Mo_leaf_368 : decode b_Mo_leaf 368 = .ok (.iload_n 2, 1) := by decide +kernel
theorem d_Mo_leaf_369 : decode b_Mo_leaf 369 = .ok (.laload, 1) := by decide +kernel
theorem d_Mo_leaf_370 : decode b_Mo_leaf 370 = .ok (.aload_n 0, 1) := by decide +kernel
theorem d_Mo_leaf_371 : decode b_Mo_leaf 371 = .ok (.getfield 19, 3) := by decide +kernel
theorem d_Mo_leaf_374 : decode b_Mo_leaf 374 = .ok (.iload_n 3, 1) := by decide +kernel
theorem d_Mo_leaf_375 : decode b_Mo_leaf 375 = .ok (.iconst 5, 1) := by decide +kernel
theorem d_Mo_leaf_376 : decode b_Mo_leaf 376 = .ok (.iadd, 1) := by decide +kernel
theorem d_Mo_leaf_377 : decode b_Mo_leaf 377 = .ok (.iaload, 1) := by decide +kernel
theorem d_Mo_leaf_378 : decode b_Mo_leaf 378 = .ok (.i2l, 1) := by decide +kernel
theorem d_Mo_leaf_379 : decode b_Mo_leaf 379 = .ok (.lsub, 1) := by decide +kernel
theorem d_Mo_leaf_380 : decode b_Mo_leaf 380 = .ok (.aload_n 0, 1) := by decide +kernel
theorem d_Mo_leaf_381 : decode b_Mo_leaf 381 = .ok (.getfield 47, 3) := by decide +kernel
theorem d_Mo_leaf_384 : decode b_Mo_leaf 384 = .ok (.iload_n 2, 1) := by decide +kernel
theorem d_Mo_leaf_385 : decode b_Mo_leaf 385 = .ok (.laload, 1) := by decide +kernel
theorem d_Mo_leaf_386 : decode b_Mo_leaf 386 = .ok (.aload_n 0, 1) := by decide +kernel
theorem d_Mo_leaf_387 : decode b_Mo_leaf 387 = .ok (.getfield 19, 3) := by decide +kernel
theorem d_Mo_leaf_390 : decode b_Mo_leaf 390 = .ok (.iload_n 3, 1) := by decide +kernel
theorem d_Mo_leaf_391 : decode b_Mo_leaf 391 = .ok (.iconst 5, 1) := by decide +kernel
theorem d_Mo_leaf_392 : decode b_Mo_leaf 392 = .ok (.iadd, 1) := by decide +kernel
theorem d_Mo_leaf_393 : decode b_Mo_leaf 393 = .ok (.iaload, 1) := by decide +kernel
theorem d_Mo_leaf_394 : decode b_Mo_leaf 394 = .ok (.i2l, 1) := by decide +kernel
theorem d_Mo_leaf_395 : decode b_Mo_leaf 395 = .ok (.lsub, 1) := by decide +kernel
theorem d_Mo_leaf_396 : decode b_Mo_leaf 396 = .ok (.invokevirtual 190, 3) := by decide +kernel
theorem d_Mo_leaf_399 : decode b_Mo_leaf 399 = .ok (.aload_n 0, 1) := by decide +kernel
theorem d_Mo_leaf_400 : decode b_Mo_leaf 400 = .ok (.dup, 1) := by decide +kernel
theorem d_Mo_leaf_401 : decode b_Mo_leaf 401 = .ok (.getfield 179, 3) := by decide +kernel
theorem d_Mo_leaf_404 : decode b_Mo_leaf 404 = .ok (.lconst 1, 1) := by decide +kernel
theorem d_Mo_leaf_405 : decode b_Mo_leaf 405 = .ok (.lsub, 1) := by decide +kernel
theorem d_Mo_leaf_406 : decode b_Mo_leaf 406 = .ok (.putfield 179, 3) := by decide +kernel
theorem d_Mo_leaf_409 : decode b_Mo_leaf 409 = .ok (.aload_n 0, 1) := by decide +kernel
theorem d_Mo_leaf_410 : decode b_Mo_leaf 410 = .ok (.dup, 1) := by decide +kernel
theorem d_Mo_leaf_411 : decode b_Mo_leaf 411 = .ok (.getfield 183, 3) := by decide +kernel
theorem d_Mo_leaf_414 : decode b_Mo_leaf 414 = .ok (.lconst 1, 1) := by decide +kernel
theorem d_Mo_leaf_415 : decode b_Mo_leaf 415 = .ok (.lsub, 1) := by decide +kernel
theorem d_Mo_leaf_416 : decode b_Mo_leaf 416 = .ok (.putfield 183, 3) := by decide +kernel
theorem d_Mo_leaf_419 : decode b_Mo_leaf 419 = .ok (.goto 109, 3) := by decide +kernel
theorem d_Mo_leaf_422 : decode b_Mo_leaf 422 = .ok (.aload_n 0, 1) := by decide +kernel
theorem d_Mo_leaf_423 : decode b_Mo_leaf 423 = .ok (.aload_n 0, 1) := by decide +kernel
theorem d_Mo_leaf_424 : decode b_Mo_leaf 424 = .ok (.getfield 31, 3) := by decide +kernel
theorem d_Mo_leaf_427 : decode b_Mo_leaf 427 = .ok (.iload_n 2, 1) := by decide +kernel
theorem d_Mo_leaf_428 : decode b_Mo_leaf 428 = .ok (.laload, 1) := by decide +kernel
theorem d_Mo_leaf_429 : decode b_Mo_leaf 429 = .ok (.aload_n 0, 1) := by decide +kernel
theorem d_Mo_leaf_430 : decode b_Mo_leaf 430 = .ok (.getfield 35, 3) := by decide +kernel
theorem d_Mo_leaf_433 : decode b_Mo_leaf 433 = .ok (.iload_n 2, 1) := by decide +kernel
theorem d_Mo_leaf_434 : decode b_Mo_leaf 434 = .ok (.laload, 1) := by decide +kernel
theorem d_Mo_leaf_435 : decode b_Mo_leaf 435 = .ok (.aload_n 0, 1) := by decide +kernel
theorem d_Mo_leaf_436 : decode b_Mo_leaf 436 = .ok (.getfield 19, 3) := by decide +kernel
theorem d_Mo_leaf_439 : decode b_Mo_leaf 439 = .ok (.iload_n 3, 1) := by decide +kernel
theorem d_Mo_leaf_440 : decode b_Mo_leaf 440 = .ok (.iaload, 1) := by decide +kernel
theorem d_Mo_leaf_441 : decode b_Mo_leaf 441 = .ok (.invokevirtual 194, 3) := by decide +kernel
theorem d_Mo_leaf_444 : decode b_Mo_leaf 444 = .ok (.aload_n 0, 1) := by decide +kernel
theorem d_Mo_leaf_445 : decode b_Mo_leaf 445 = .ok (.aload_n 0, 1) := by decide +kernel
theorem d_Mo_leaf_446 : decode b_Mo_leaf 446 = .ok (.getfield 38, 3) := by decide +kernel
theorem d_Mo_leaf_449 : decode b_Mo_leaf 449 = .ok (.iload_n 2, 1) := by decide +kernel
theorem d_Mo_leaf_450 : decode b_Mo_leaf 450 = .ok (.laload, 1) := by decide +kernel
theorem d_Mo_leaf_451 : decode b_Mo_leaf 451 = .ok (.aload_n 0, 1) := by decide +kernel
theorem d_Mo_leaf_452 : decode b_Mo_leaf 452 = .ok (.getfield 41, 3) := by decide +kernel
theorem d_Mo_leaf_455 : decode b_Mo_leaf 455 = .ok (.iload_n 2, 1) := by decide +kernel
theorem d_Mo_leaf_456 : decode b_Mo_leaf 456 = .ok (.laload, 1) := by decide +kernel
theorem d_Mo_leaf_457 : decode b_Mo_leaf 457 = .ok (.aload_n 0, 1) := by decide +kernel
theorem d_Mo_leaf_458 : decode b_Mo_leaf 458 = .ok (.getfield 19, 3) := by decide +kernel
theorem d_Mo_leaf_461 : decode b_Mo_leaf 461 = .ok (.iload_n 3, 1) := by decide +kernel
theorem d_Mo_leaf_462 : decode b_Mo_leaf 462 = .ok (.iconst 1, 1) := by decide +kernel
theorem d_Mo_leaf_463 : decode b_Mo_leaf 463 = .ok (.iadd, 1) := by decide +kernel
theorem d_Mo_leaf_464 : decode b_Mo_leaf 464 = .ok (.iaload, 1) := by decide +kernel
theorem d_Mo_leaf_465 : decode b_Mo_leaf 465 = .ok (.invokevirtual 194, 3) := by decide +kernel
theorem d_Mo_leaf_468 : decode b_Mo_leaf 468 = .ok (.aload_n 0, 1) := by decide +kernel
theorem d_Mo_leaf_469 : decode b_Mo_leaf 469 = .ok (.aload_n 0, 1) := by decide +kernel
theorem d_Mo_leaf_470 : decode b_Mo_leaf 470 = .ok (.getfield 44, 3) := by decide +kernel
theorem d_Mo_leaf_473 : decode b_Mo_leaf 473 = .ok (.iload_n 2, 1) := by decide +kernel
theorem d_Mo_leaf_474 : decode b_Mo_leaf 474 = .ok (.laload, 1) := by decide +kernel
theorem d_Mo_leaf_475 : decode b_Mo_leaf 475 = .ok (.aload_n 0, 1) := by decide +kernel
theorem d_Mo_leaf_476 : decode b_Mo_leaf 476 = .ok (.getfield 47, 3) := by decide +kernel
theorem d_Mo_leaf_479 : decode b_Mo_leaf 479 = .ok (.iload_n 2, 1) := by decide +kernel
theorem d_Mo_leaf_480 : decode b_Mo_leaf 480 = .ok (.laload, 1) := by decide +kernel
theorem d_Mo_leaf_481 : decode b_Mo_leaf 481 = .ok (.aload_n 0, 1) := by decide +kernel
theorem d_Mo_leaf_482 : decode b_Mo_leaf 482 = .ok (.getfield 19, 3) := by decide +kernel
theorem d_Mo_leaf_485 : decode b_Mo_leaf 485 = .ok (.iload_n 3, 1) := by decide +kernel
theorem d_Mo_leaf_486 : decode b_Mo_leaf 486 = .ok (.iconst 2, 1) := by decide +kernel
theorem d_Mo_leaf_487 : decode b_Mo_leaf 487 = .ok (.iadd, 1) := by decide +kernel
theorem d_Mo_leaf_488 : decode b_Mo_leaf 488 = .ok (.iaload, 1) := by decide +kernel
theorem d_Mo_leaf_489 : decode b_Mo_leaf 489 = .ok (.invokevirtual 194, 3) := by decide +kernel
theorem d_Mo_leaf_492 : decode b_Mo_leaf 492 = .ok (.aload_n 0, 1) := by decide +kernel
theorem d_Mo_leaf_493 : decode b_Mo_leaf 493 = .ok (.dup, 1) := by decide +kernel
theorem d_Mo_leaf_494 : decode b_Mo_leaf 494 = .ok (.getfield 179, 3) := by decide +kernel
theorem d_Mo_leaf_497 : decode b_Mo_leaf 497 = .ok (.aload_n 0, 1) := by decide +kernel
theorem d_Mo_leaf_498 : decode b_Mo_leaf 498 = .ok (.getfield 19, 3) := by decide +kernel
theorem d_Mo_leaf_501 : decode b_Mo_leaf 501 = .ok (.iload_n 3, 1) := by decide +kernel
theorem d_Mo_leaf_502 : decode b_Mo_leaf 502 = .ok (.iconst 3, 1) := by decide +kernel
theorem d_Mo_leaf_503 : decode b_Mo_leaf 503 = .ok (.iadd, 1) := by decide +kernel
theorem d_Mo_leaf_504 : decode b_Mo_leaf 504 = .ok (.iaload, 1) := by decide +kernel
theorem d_Mo_leaf_505 : decode b_Mo_leaf 505 = .ok (.i2l, 1) := by decide +kernel
theorem d_Mo_leaf_506 : decode b_Mo_leaf 506 = .ok (.lsub, 1) := by decide +kernel
theorem d_Mo_leaf_507 : decode b_Mo_leaf 507 = .ok (.putfield 179, 3) := by decide +kernel
theorem d_Mo_leaf_510 : decode b_Mo_leaf 510 = .ok (.aload_n 0, 1) := by decide +kernel
theorem d_Mo_leaf_511 : decode b_Mo_leaf 511 = .ok (.dup, 1) := by decide +kernel
theorem d_Mo_leaf_512 : decode b_Mo_leaf 512 = .ok (.getfield 183, 3) := by decide +kernel
theorem d_Mo_leaf_515 : decode b_Mo_leaf 515 = .ok (.aload_n 0, 1) := by decide +kernel
theorem d_Mo_leaf_516 : decode b_Mo_leaf 516 = .ok (.getfield 19, 3) := by decide +kernel
theorem d_Mo_leaf_519 : decode b_Mo_leaf 519 = .ok (.iload_n 3, 1) := by decide +kernel
theorem d_Mo_leaf_520 : decode b_Mo_leaf 520 = .ok (.iconst 3, 1) := by decide +kernel
theorem d_Mo_leaf_521 : decode b_Mo_leaf 521 = .ok (.iadd, 1) := by decide +kernel
theorem d_Mo_leaf_522 : decode b_Mo_leaf 522 = .ok (.iaload, 1) := by decide +kernel
theorem d_Mo_leaf_523 : decode b_Mo_leaf 523 = .ok (.i2l, 1) := by decide +kernel
theorem d_Mo_leaf_524 : decode b_Mo_leaf 524 = .ok (.lsub, 1) := by decide +kernel
theorem d_Mo_leaf_525 : decode b_Mo_leaf 525 = .ok (.putfield 183, 3) := by decide +kernel
theorem d_Mo_leaf_528 : decode b_Mo_leaf 528 = .ok (.return_, 1) := by decide +kernel
theorem d_Mo_addSquares_0 : decode b_Mo_addSquares 0 = .ok (.lload_n 1, 1) := by decide +kernel
theorem d_Mo_addSquares_1 : decode b_Mo_addSquares 1 = .ok (.iload 5, 2) := by decide +kernel
theorem d_Mo_addSquares_3 : decode b_Mo_addSquares 3 = .ok (.i2l, 1) := by decide +kernel
theorem d_Mo_addSquares_4 : decode b_Mo_addSquares 4 = .ok (.lsub, 1) := by decide +kernel
theorem d_Mo_addSquares_5 : decode b_Mo_addSquares 5 = .ok (.lload_n 1, 1) := by decide +kernel
theorem d_Mo_addSquares_6 : decode b_Mo_addSquares 6 = .ok (.iload 5, 2) := by decide +kernel
theorem d_Mo_addSquares_8 : decode b_Mo_addSquares 8 = .ok (.i2l, 1) := by decide +kernel
theorem d_Mo_addSquares_9 : decode b_Mo_addSquares 9 = .ok (.lsub, 1) := by decide +kernel
theorem d_Mo_addSquares_10 : decode b_Mo_addSquares 10 = .ok (.lmul, 1) := by decide +kernel
theorem d_Mo_addSquares_11 : decode b_Mo_addSquares 11 = .ok (.lstore 6, 2) := by decide +kernel
theorem d_Mo_addSquares_13 : decode b_Mo_addSquares 13 = .ok (.lload_n 3, 1) := by decide +kernel
theorem d_Mo_addSquares_14 : decode b_Mo_addSquares 14 = .ok (.iload 5, 2) := by decide +kernel
theorem d_Mo_addSquares_16 : decode b_Mo_addSquares 16 = .ok (.i2l, 1) := by decide +kernel
theorem d_Mo_addSquares_17 : decode b_Mo_addSquares 17 = .ok (.lsub, 1) := by decide +kernel
theorem d_Mo_addSquares_18 : decode b_Mo_addSquares 18 = .ok (.lload_n 3, 1) := by decide +kernel
theorem d_Mo_addSquares_19 : decode b_Mo_addSquares 19 = .ok (.iload 5, 2) := by decide +kernel
theorem d_Mo_addSquares_21 : decode b_Mo_addSquares 21 = .ok (.i2l, 1) := by decide +kernel
theorem d_Mo_addSquares_22 : decode b_Mo_addSquares 22 = .ok (.lsub, 1) := by decide +kernel
theorem d_Mo_addSquares_23 : decode b_Mo_addSquares 23 = .ok (.lmul, 1) := by decide +kernel
theorem d_Mo_addSquares_24 : decode b_Mo_addSquares 24 = .ok (.lstore 8, 2) := by decide +kernel
theorem d_Mo_addSquares_26 : decode b_Mo_addSquares 26 = .ok (.aload_n 0, 1) := by decide +kernel
theorem d_Mo_addSquares_27 : decode b_Mo_addSquares 27 = .ok (.dup, 1) := by decide +kernel
theorem d_Mo_addSquares_28 : decode b_Mo_addSquares 28 = .ok (.getfield 179, 3) := by decide +kernel
theorem d_Mo_addSquares_31 : decode b_Mo_addSquares 31 = .ok (.iload 5, 2) := by decide +kernel
theorem d_Mo_addSquares_33 : decode b_Mo_addSquares 33 = .ok (.i2l, 1) := by decide +kernel
theorem d_Mo_addSquares_34 : decode b_Mo_addSquares 34 = .ok (.lload_n 1, 1) := by decide +kernel
theorem d_Mo_addSquares_35 : decode b_Mo_addSquares 35 = .ok (.lload_n 3, 1) := by decide +kernel
theorem d_Mo_addSquares_36 : decode b_Mo_addSquares 36 = .ok (.invokestatic 91, 3) := by decide +kernel
theorem d_Mo_addSquares_39 : decode b_Mo_addSquares 39 = .ok (.ifCond .eq 7, 3) := by decide +kernel
theorem d_Mo_addSquares_42 : decode b_Mo_addSquares 42 = .ok (.lconst 0, 1) := by decide +kernel
theorem d_Mo_addSquares_43 : decode b_Mo_addSquares 43 = .ok (.goto 18, 3) := by decide +kernel
theorem d_Mo_addSquares_46 : decode b_Mo_addSquares 46 = .ok (.lload 6, 2) := by decide +kernel
theorem d_Mo_addSquares_48 : decode b_Mo_addSquares 48 = .ok (.lload 8, 2) := by decide +kernel
theorem d_Mo_addSquares_50 : decode b_Mo_addSquares 50 = .ok (.lcmp, 1) := by decide +kernel
theorem d_Mo_addSquares_51 : decode b_Mo_addSquares 51 = .ok (.ifCond .ge 8, 3) := by decide +kernel
theorem d_Mo_addSquares_54 : decode b_Mo_addSquares 54 = .ok (.lload 6, 2) := by decide +kernel
theorem d_Mo_addSquares_56 : decode b_Mo_addSquares 56 = .ok (.goto 5, 3) := by decide +kernel
theorem d_Mo_addSquares_59 : decode b_Mo_addSquares 59 = .ok (.lload 8, 2) := by decide +kernel
theorem d_Mo_addSquares_61 : decode b_Mo_addSquares 61 = .ok (.ladd, 1) := by decide +kernel
theorem d_Mo_addSquares_62 : decode b_Mo_addSquares 62 = .ok (.putfield 179, 3) := by decide +kernel
theorem d_Mo_addSquares_65 : decode b_Mo_addSquares 65 = .ok (.aload_n 0, 1) := by decide +kernel
theorem d_Mo_addSquares_66 : decode b_Mo_addSquares 66 = .ok (.dup, 1) := by decide +kernel
theorem d_Mo_addSquares_67 : decode b_Mo_addSquares 67 = .ok (.getfield 183, 3) := by decide +kernel
theorem d_Mo_addSquares_70 : decode b_Mo_addSquares 70 = .ok (.lload 6, 2) := by decide +kernel
theorem d_Mo_addSquares_72 : decode b_Mo_addSquares 72 = .ok (.lload 8, 2) := by decide +kernel
theorem d_Mo_addSquares_74 : decode b_Mo_addSquares 74 = .ok (.lcmp, 1) := by decide +kernel
theorem d_Mo_addSquares_75 : decode b_Mo_addSquares 75 = .ok (.ifCond .le 8, 3) := by decide +kernel
theorem d_Mo_addSquares_78 : decode b_Mo_addSquares 78 = .ok (.lload 6, 2) := by decide +kernel
theorem d_Mo_addSquares_80 : decode b_Mo_addSquares 80 = .ok (.goto 5, 3) := by decide +kernel
theorem d_Mo_addSquares_83 : decode b_Mo_addSquares 83 = .ok (.lload 8, 2) := by decide +kernel
theorem d_Mo_addSquares_85 : decode b_Mo_addSquares 85 = .ok (.ladd, 1) := by decide +kernel
theorem d_Mo_addSquares_86 : decode b_Mo_addSquares 86 = .ok (.putfield 183, 3) := by decide +kernel
theorem d_Mo_addSquares_89 : decode b_Mo_addSquares 89 = .ok (.return_, 1) := by decide +kernel
theorem d_Mo_greater_0 : decode b_Mo_greater 0 = .ok (.aload_n 0, 1) := by decide +kernel
theorem d_Mo_greater_1 : decode b_Mo_greater 1 = .ok (.lload_n 1, 1) := by decide +kernel
theorem d_Mo_greater_2 : decode b_Mo_greater 2 = .ok (.aload_n 0, 1) := by decide +kernel
theorem d_Mo_greater_3 : decode b_Mo_greater 3 = .ok (.getfield 179, 3) := by decide +kernel
theorem d_Mo_greater_6 : decode b_Mo_greater 6 = .ok (.lcmp, 1) := by decide +kernel
theorem d_Mo_greater_7 : decode b_Mo_greater 7 = .ok (.ifCond .le 7, 3) := by decide +kernel
theorem d_Mo_greater_10 : decode b_Mo_greater 10 = .ok (.lload_n 1, 1) := by decide +kernel
theorem d_Mo_greater_11 : decode b_Mo_greater 11 = .ok (.goto 7, 3) := by decide +kernel
theorem d_Mo_greater_14 : decode b_Mo_greater 14 = .ok (.aload_n 0, 1) := by decide +kernel
theorem d_Mo_greater_15 : decode b_Mo_greater 15 = .ok (.getfield 179, 3) := by decide +kernel
theorem d_Mo_greater_18 : decode b_Mo_greater 18 = .ok (.putfield 179, 3) := by decide +kernel
theorem d_Mo_greater_21 : decode b_Mo_greater 21 = .ok (.aload_n 0, 1) := by decide +kernel
theorem d_Mo_greater_22 : decode b_Mo_greater 22 = .ok (.lload_n 3, 1) := by decide +kernel
theorem d_Mo_greater_23 : decode b_Mo_greater 23 = .ok (.aload_n 0, 1) := by decide +kernel
theorem d_Mo_greater_24 : decode b_Mo_greater 24 = .ok (.getfield 183, 3) := by decide +kernel
theorem d_Mo_greater_27 : decode b_Mo_greater 27 = .ok (.lcmp, 1) := by decide +kernel
theorem d_Mo_greater_28 : decode b_Mo_greater 28 = .ok (.ifCond .le 7, 3) := by decide +kernel
theorem d_Mo_greater_31 : decode b_Mo_greater 31 = .ok (.lload_n 3, 1) := by decide +kernel
theorem d_Mo_greater_32 : decode b_Mo_greater 32 = .ok (.goto 7, 3) := by decide +kernel
theorem d_Mo_greater_35 : decode b_Mo_greater 35 = .ok (.aload_n 0, 1) := by decide +kernel
theorem d_Mo_greater_36 : decode b_Mo_greater 36 = .ok (.getfield 183, 3) := by decide +kernel
theorem d_Mo_greater_39 : decode b_Mo_greater 39 = .ok (.putfield 183, 3) := by decide +kernel
theorem d_Mo_greater_42 : decode b_Mo_greater 42 = .ok (.return_, 1) := by decide +kernel
theorem d_Mo_addProducts_0 : decode b_Mo_addProducts 0 = .ok (.aload_n 0, 1) := by decide +kernel
theorem d_Mo_addProducts_1 : decode b_Mo_addProducts 1 = .ok (.dup, 1) := by decide +kernel
theorem d_Mo_addProducts_2 : decode b_Mo_addProducts 2 = .ok (.getfield 179, 3) := by decide +kernel
theorem d_Mo_addProducts_5 : decode b_Mo_addProducts 5 = .ok (.iload 5, 2) := by decide +kernel
theorem d_Mo_addProducts_7 : decode b_Mo_addProducts 7 = .ok (.ifCond .ge 11, 3) := by decide +kernel
theorem d_Mo_addProducts_10 : decode b_Mo_addProducts 10 = .ok (.iload 5, 2) := by decide +kernel
theorem d_Mo_addProducts_12 : decode b_Mo_addProducts 12 = .ok (.i2l, 1) := by decide +kernel
theorem d_Mo_addProducts_13 : decode b_Mo_addProducts 13 = .ok (.lload_n 3, 1) := by decide +kernel
theorem d_Mo_addProducts_14 : decode b_Mo_addProducts 14 = .ok (.lmul, 1) := by decide +kernel
theorem d_Mo_addProducts_15 : decode b_Mo_addProducts 15 = .ok (.goto 8, 3) := by decide +kernel
theorem d_Mo_addProducts_18 : decode b_Mo_addProducts 18 = .ok (.iload 5, 2) := by decide +kernel
theorem d_Mo_addProducts_20 : decode b_Mo_addProducts 20 = .ok (.i2l, 1) := by decide +kernel
theorem d_Mo_addProducts_21 : decode b_Mo_addProducts 21 = .ok (.lload_n 1, 1) := by decide +kernel
theorem d_Mo_addProducts_22 : decode b_Mo_addProducts 22 = .ok (.lmul, 1) := by decide +kernel
theorem d_Mo_addProducts_23 : decode b_Mo_addProducts 23 = .ok (.ladd, 1) := by decide +kernel
theorem d_Mo_addProducts_24 : decode b_Mo_addProducts 24 = .ok (.putfield 179, 3) := by decide +kernel
theorem d_Mo_addProducts_27 : decode b_Mo_addProducts 27 = .ok (.aload_n 0, 1) := by decide +kernel
theorem d_Mo_addProducts_28 : decode b_Mo_addProducts 28 = .ok (.dup, 1) := by decide +kernel
theorem d_Mo_addProducts_29 : decode b_Mo_addProducts 29 = .ok (.getfield 183, 3) := by decide +kernel
theorem d_Mo_addProducts_32 : decode b_Mo_addProducts 32 = .ok (.iload 5, 2) := by decide +kernel
theorem d_Mo_addProducts_34 : decode b_Mo_addProducts 34 = .ok (.ifCond .ge 11, 3) := by decide +kernel
theorem d_Mo_addProducts_37 : decode b_Mo_addProducts 37 = .ok (.iload 5, 2) := by decide +kernel
theorem d_Mo_addProducts_39 : decode b_Mo_addProducts 39 = .ok (.i2l, 1) := by decide +kernel
theorem d_Mo_addProducts_40 : decode b_Mo_addProducts 40 = .ok (.lload_n 1, 1) := by decide +kernel
theorem d_Mo_addProducts_41 : decode b_Mo_addProducts 41 = .ok (.lmul, 1) := by decide +kernel
theorem d_Mo_addProducts_42 : decode b_Mo_addProducts 42 = .ok (.goto 8, 3) := by decide +kernel
theorem d_Mo_addProducts_45 : decode b_Mo_addProducts 45 = .ok (.iload 5, 2) := by decide +kernel
theorem d_Mo_addProducts_47 : decode b_Mo_addProducts 47 = .ok (.i2l, 1) := by decide +kernel
theorem d_Mo_addProducts_48 : decode b_Mo_addProducts 48 = .ok (.lload_n 3, 1) := by decide +kernel
theorem d_Mo_addProducts_49 : decode b_Mo_addProducts 49 = .ok (.lmul, 1) := by decide +kernel
theorem d_Mo_addProducts_50 : decode b_Mo_addProducts 50 = .ok (.ladd, 1) := by decide +kernel
theorem d_Mo_addProducts_51 : decode b_Mo_addProducts 51 = .ok (.putfield 183, 3) := by decide +kernel
theorem d_Mo_addProducts_54 : decode b_Mo_addProducts 54 = .ok (.return_, 1) := by decide +kernel
theorem d_Mo_span_0 : decode b_Mo_span 0 = .ok (.aload_n 0, 1) := by decide +kernel
theorem d_Mo_span_1 : decode b_Mo_span 1 = .ok (.iload_n 1, 1) := by decide +kernel
theorem d_Mo_span_2 : decode b_Mo_span 2 = .ok (.invokevirtual 204, 3) := by decide +kernel
theorem d_Mo_span_5 : decode b_Mo_span 5 = .ok (.ifCond .eq 44, 3) := by decide +kernel
theorem d_Mo_span_8 : decode b_Mo_span 8 = .ok (.iload_n 2, 1) := by decide +kernel
theorem d_Mo_span_9 : decode b_Mo_span 9 = .ok (.iload_n 3, 1) := by decide +kernel
theorem d_Mo_span_10 : decode b_Mo_span 10 = .ok (.iload 4, 2) := by decide +kernel
theorem d_Mo_span_12 : decode b_Mo_span 12 = .ok (.invokestatic 221, 3) := by decide +kernel
theorem d_Mo_span_15 : decode b_Mo_span 15 = .ok (.ifCond .eq 34, 3) := by decide +kernel
theorem d_Mo_span_18 : decode b_Mo_span 18 = .ok (.iload 5, 2) := by decide +kernel
theorem d_Mo_span_20 : decode b_Mo_span 20 = .ok (.iload 6, 2) := by decide +kernel
theorem d_Mo_span_22 : decode b_Mo_span 22 = .ok (.iload 7, 2) := by decide +kernel
theorem d_Mo_span_24 : decode b_Mo_span 24 = .ok (.invokestatic 221, 3) := by decide +kernel
theorem d_Mo_span_27 : decode b_Mo_span 27 = .ok (.ifCond .eq 22, 3) := by decide +kernel
theorem d_Mo_span_30 : decode b_Mo_span 30 = .ok (.iload 5, 2) := by decide +kernel
theorem d_Mo_span_32 : decode b_Mo_span 32 = .ok (.iload_n 2, 1) := by decide +kernel
theorem d_Mo_span_33 : decode b_Mo_span 33 = .ok (.if_icmp .lt 16, 3) := by decide +kernel
theorem d_Mo_span_36 : decode b_Mo_span 36 = .ok (.iload 6, 2) := by decide +kernel
theorem d_Mo_span_38 : decode b_Mo_span 38 = .ok (.iload_n 3, 1) := by decide +kernel
theorem d_Mo_span_39 : decode b_Mo_span 39 = .ok (.if_icmp .lt 10, 3) := by decide +kernel
theorem d_Mo_span_42 : decode b_Mo_span 42 = .ok (.iload 7, 2) := by decide +kernel
theorem d_Mo_span_44 : decode b_Mo_span 44 = .ok (.iload 4, 2) := by decide +kernel
theorem d_Mo_span_46 : decode b_Mo_span 46 = .ok (.if_icmp .ge 6, 3) := by decide +kernel
theorem d_Mo_span_49 : decode b_Mo_span 49 = .ok (.ldc 212, 2) := by decide +kernel
theorem d_Mo_span_51 : decode b_Mo_span 51 = .ok (.ireturn, 1) := by decide +kernel
theorem d_Mo_span_52 : decode b_Mo_span 52 = .ok (.aload_n 0, 1) := by decide +kernel
theorem d_Mo_span_53 : decode b_Mo_span 53 = .ok (.iload_n 1, 1) := by decide +kernel
theorem d_Mo_span_54 : decode b_Mo_span 54 = .ok (.iload_n 2, 1) := by decide +kernel
theorem d_Mo_span_55 : decode b_Mo_span 55 = .ok (.i2l, 1) := by decide +kernel
theorem d_Mo_span_56 : decode b_Mo_span 56 = .ok (.iload_n 3, 1) := by decide +kernel
theorem d_Mo_span_57 : decode b_Mo_span 57 = .ok (.i2l, 1) := by decide +kernel
theorem d_Mo_span_58 : decode b_Mo_span 58 = .ok (.iload 4, 2) := by decide +kernel
theorem d_Mo_span_60 : decode b_Mo_span 60 = .ok (.i2l, 1) := by decide +kernel
theorem d_Mo_span_61 : decode b_Mo_span 61 = .ok (.iload 5, 2) := by decide +kernel
theorem d_Mo_span_63 : decode b_Mo_span 63 = .ok (.i2l, 1) := by decide +kernel
theorem d_Mo_span_64 : decode b_Mo_span 64 = .ok (.iload 6, 2) := by decide +kernel
theorem d_Mo_span_66 : decode b_Mo_span 66 = .ok (.i2l, 1) := by decide +kernel
theorem d_Mo_span_67 : decode b_Mo_span 67 = .ok (.iload 7, 2) := by decide +kernel
theorem d_Mo_span_69 : decode b_Mo_span 69 = .ok (.i2l, 1) := by decide +kernel
theorem d_Mo_span_70 : decode b_Mo_span 70 = .ok (.invokevirtual 213, 3) := by decide +kernel
theorem d_Mo_span_73 : decode b_Mo_span 73 = .ok (.iload 8, 2) := by decide +kernel
theorem d_Mo_span_75 : decode b_Mo_span 75 = .ok (.ifCond .eq 10, 3) := by decide +kernel
theorem d_Mo_span_78 : decode b_Mo_span 78 = .ok (.aload_n 0, 1) := by decide +kernel
theorem d_Mo_span_79 : decode b_Mo_span 79 = .ok (.getfield 183, 3) := by decide +kernel
theorem d_Mo_span_82 : decode b_Mo_span 82 = .ok (.goto 7, 3) := by decide +kernel
theorem d_Mo_span_85 : decode b_Mo_span 85 = .ok (.aload_n 0, 1) := by decide +kernel
theorem d_Mo_span_86 : decode b_Mo_span 86 = .ok (.getfield 179, 3) := by decide +kernel
theorem d_Mo_span_89 : decode b_Mo_span 89 = .ok (.l2i, 1) := by decide +kernel
theorem d_Mo_span_90 : decode b_Mo_span 90 = .ok (.ireturn, 1) := by decide +kernel
theorem d_Mo_isPoint_0 : decode b_Mo_isPoint 0 = .ok (.iload_n 0, 1) := by decide +kernel
theorem d_Mo_isPoint_1 : decode b_Mo_isPoint 1 = .ok (.i2l, 1) := by decide +kernel
theorem d_Mo_isPoint_2 : decode b_Mo_isPoint 2 = .ok (.ldc2_w 217, 3) := by decide +kernel
theorem d_Mo_isPoint_5 : decode b_Mo_isPoint 5 = .ok (.ldc2_w 219, 3) := by decide +kernel
theorem d_Mo_isPoint_8 : decode b_Mo_isPoint 8 = .ok (.invokestatic 91, 3) := by decide +kernel
theorem d_Mo_isPoint_11 : decode b_Mo_isPoint 11 = .ok (.ifCond .eq 35, 3) := by decide +kernel
theorem d_Mo_isPoint_14 : decode b_Mo_isPoint 14 = .ok (.iload_n 1, 1) := by decide +kernel
theorem d_Mo_isPoint_15 : decode b_Mo_isPoint 15 = .ok (.i2l, 1) := by decide +kernel
theorem d_Mo_isPoint_16 : decode b_Mo_isPoint 16 = .ok (.ldc2_w 217, 3) := by decide +kernel
theorem d_Mo_isPoint_19 : decode b_Mo_isPoint 19 = .ok (.ldc2_w 219, 3) := by decide +kernel
theorem d_Mo_isPoint_22 : decode b_Mo_isPoint 22 = .ok (.invokestatic 91, 3) := by decide +kernel
theorem d_Mo_isPoint_25 : decode b_Mo_isPoint 25 = .ok (.ifCond .eq 21, 3) := by decide +kernel
theorem d_Mo_isPoint_28 : decode b_Mo_isPoint 28 = .ok (.iload_n 2, 1) := by decide +kernel
theorem d_Mo_isPoint_29 : decode b_Mo_isPoint 29 = .ok (.i2l, 1) := by decide +kernel
theorem d_Mo_isPoint_30 : decode b_Mo_isPoint 30 = .ok (.ldc2_w 217, 3) := by decide +kernel
theorem d_Mo_isPoint_33 : decode b_Mo_isPoint 33 = .ok (.ldc2_w 219, 3) := by decide +kernel
theorem d_Mo_isPoint_36 : decode b_Mo_isPoint 36 = .ok (.invokestatic 91, 3) := by decide +kernel
theorem d_Mo_isPoint_39 : decode b_Mo_isPoint 39 = .ok (.ifCond .eq 7, 3) := by decide +kernel
theorem d_Mo_isPoint_42 : decode b_Mo_isPoint 42 = .ok (.iconst 1, 1) := by decide +kernel
theorem d_Mo_isPoint_43 : decode b_Mo_isPoint 43 = .ok (.goto 4, 3) := by decide +kernel
theorem d_Mo_isPoint_46 : decode b_Mo_isPoint 46 = .ok (.iconst 0, 1) := by decide +kernel
theorem d_Mo_isPoint_47 : decode b_Mo_isPoint 47 = .ok (.ireturn, 1) := by decide +kernel
theorem d_Mo_parted_0 : decode b_Mo_parted 0 = .ok (.aload_n 0, 1) := by decide +kernel
theorem d_Mo_parted_1 : decode b_Mo_parted 1 = .ok (.iload_n 1, 1) := by decide +kernel
theorem d_Mo_parted_2 : decode b_Mo_parted 2 = .ok (.invokevirtual 204, 3) := by decide +kernel
theorem d_Mo_parted_5 : decode b_Mo_parted 5 = .ok (.ifCond .eq 15, 3) := by decide +kernel
theorem d_Mo_parted_8 : decode b_Mo_parted 8 = .ok (.iload_n 2, 1) := by decide +kernel
theorem d_Mo_parted_9 : decode b_Mo_parted 9 = .ok (.i2l, 1) := by decide +kernel
theorem d_Mo_parted_10 : decode b_Mo_parted 10 = .ok (.lconst 0, 1) := by decide +kernel
theorem d_Mo_parted_11 : decode b_Mo_parted 11 = .ok (.ldc2_w 247, 3) := by decide +kernel
theorem d_Mo_parted_14 : decode b_Mo_parted 14 = .ok (.invokestatic 91, 3) := by decide +kernel
theorem d_Mo_parted_17 : decode b_Mo_parted 17 = .ok (.ifCond .ne 5, 3) := by decide +kernel
theorem d_Mo_parted_20 : decode b_Mo_parted 20 = .ok (.iconst (-1), 1) := by decide +kernel
theorem d_Mo_parted_21 : decode b_Mo_parted 21 = .ok (.ireturn, 1) := by decide +kernel
theorem d_Mo_parted_22 : decode b_Mo_parted 22 = .ok (.aload_n 0, 1) := by decide +kernel
theorem d_Mo_parted_23 : decode b_Mo_parted 23 = .ok (.iload_n 1, 1) := by decide +kernel
theorem d_Mo_parted_24 : decode b_Mo_parted 24 = .ok (.invokevirtual 249, 3) := by decide +kernel
theorem d_Mo_parted_27 : decode b_Mo_parted 27 = .ok (.iload_n 2, 1) := by decide +kernel
theorem d_Mo_parted_28 : decode b_Mo_parted 28 = .ok (.ifCond .ne 10, 3) := by decide +kernel
theorem d_Mo_parted_31 : decode b_Mo_parted 31 = .ok (.aload_n 0, 1) := by decide +kernel
theorem d_Mo_parted_32 : decode b_Mo_parted 32 = .ok (.getfield 228, 3) := by decide +kernel
theorem d_Mo_parted_35 : decode b_Mo_parted 35 = .ok (.goto 43, 3) := by decide +kernel
theorem d_Mo_parted_38 : decode b_Mo_parted 38 = .ok (.iload_n 2, 1) := by decide +kernel
theorem d_Mo_parted_39 : decode b_Mo_parted 39 = .ok (.iconst 1, 1) := by decide +kernel
theorem d_Mo_parted_40 : decode b_Mo_parted 40 = .ok (.if_icmp .ne 10, 3) := by decide +kernel
theorem d_Mo_parted_43 : decode b_Mo_parted 43 = .ok (.aload_n 0, 1) := by decide +kernel
theorem d_Mo_parted_44 : decode b_Mo_parted 44 = .ok (.getfield 231, 3) := by decide +kernel
theorem d_Mo_parted_47 : decode b_Mo_parted 47 = .ok (.goto 31, 3) := by decide +kernel
theorem d_Mo_parted_50 : decode b_Mo_parted 50 = .ok (.iload_n 2, 1) := by decide +kernel
theorem d_Mo_parted_51 : decode b_Mo_parted 51 = .ok (.iconst 2, 1) := by decide +kernel
theorem d_Mo_parted_52 : decode b_Mo_parted 52 = .ok (.if_icmp .ne 10, 3) := by decide +kernel
theorem d_Mo_parted_55 : decode b_Mo_parted 55 = .ok (.aload_n 0, 1) := by decide +kernel
theorem d_Mo_parted_56 : decode b_Mo_parted 56 = .ok (.getfield 234, 3) := by decide +kernel
theorem d_Mo_parted_59 : decode b_Mo_parted 59 = .ok (.goto 19, 3) := by decide +kernel
theorem d_Mo_parted_62 : decode b_Mo_parted 62 = .ok (.iload_n 2, 1) := by decide +kernel
theorem d_Mo_parted_63 : decode b_Mo_parted 63 = .ok (.iconst 3, 1) := by decide +kernel
theorem d_Mo_parted_64 : decode b_Mo_parted 64 = .ok (.if_icmp .ne 10, 3) := by decide +kernel
theorem d_Mo_parted_67 : decode b_Mo_parted 67 = .ok (.aload_n 0, 1) := by decide +kernel
theorem d_Mo_parted_68 : decode b_Mo_parted 68 = .ok (.getfield 237, 3) := by decide +kernel
theorem d_Mo_parted_71 : decode b_Mo_parted 71 = .ok (.goto 7, 3) := by decide +kernel
theorem d_Mo_parted_74 : decode b_Mo_parted 74 = .ok (.aload_n 0, 1) := by decide +kernel
theorem d_Mo_parted_75 : decode b_Mo_parted 75 = .ok (.getfield 240, 3) := by decide +kernel
theorem d_Mo_parted_78 : decode b_Mo_parted 78 = .ok (.ireturn, 1) := by decide +kernel
theorem d_Mo_partAll_0 : decode b_Mo_partAll 0 = .ok (.aload_n 0, 1) := by decide +kernel
theorem d_Mo_partAll_1 : decode b_Mo_partAll 1 = .ok (.iconst 0, 1) := by decide +kernel
theorem d_Mo_partAll_2 : decode b_Mo_partAll 2 = .ok (.putfield 228, 3) := by decide +kernel
theorem d_Mo_partAll_5 : decode b_Mo_partAll 5 = .ok (.aload_n 0, 1) := by decide +kernel
theorem d_Mo_partAll_6 : decode b_Mo_partAll 6 = .ok (.iconst 0, 1) := by decide +kernel
theorem d_Mo_partAll_7 : decode b_Mo_partAll 7 = .ok (.putfield 231, 3) := by decide +kernel
theorem d_Mo_partAll_10 : decode b_Mo_partAll 10 = .ok (.aload_n 0, 1) := by decide +kernel
theorem d_Mo_partAll_11 : decode b_Mo_partAll 11 = .ok (.iconst 0, 1) := by decide +kernel
theorem d_Mo_partAll_12 : decode b_Mo_partAll 12 = .ok (.putfield 234, 3) := by decide +kernel
theorem d_Mo_partAll_15 : decode b_Mo_partAll 15 = .ok (.aload_n 0, 1) := by decide +kernel
theorem d_Mo_partAll_16 : decode b_Mo_partAll 16 = .ok (.iconst 0, 1) := by decide +kernel
theorem d_Mo_partAll_17 : decode b_Mo_partAll 17 = .ok (.putfield 237, 3) := by decide +kernel
theorem d_Mo_partAll_20 : decode b_Mo_partAll 20 = .ok (.aload_n 0, 1) := by decide +kernel
theorem d_Mo_partAll_21 : decode b_Mo_partAll 21 = .ok (.iconst 0, 1) := by decide +kernel
theorem d_Mo_partAll_22 : decode b_Mo_partAll 22 = .ok (.putfield 240, 3) := by decide +kernel
theorem d_Mo_partAll_25 : decode b_Mo_partAll 25 = .ok (.aload_n 0, 1) := by decide +kernel
theorem d_Mo_partAll_26 : decode b_Mo_partAll 26 = .ok (.iconst 0, 1) := by decide +kernel
theorem d_Mo_partAll_27 : decode b_Mo_partAll 27 = .ok (.putfield 225, 3) := by decide +kernel
theorem d_Mo_partAll_30 : decode b_Mo_partAll 30 = .ok (.aload_n 0, 1) := by decide +kernel
theorem d_Mo_partAll_31 : decode b_Mo_partAll 31 = .ok (.bipush (-7), 2) := by decide +kernel
theorem d_Mo_partAll_33 : decode b_Mo_partAll 33 = .ok (.bipush (-7), 2) := by decide +kernel
theorem d_Mo_partAll_35 : decode b_Mo_partAll 35 = .ok (.bipush (-7), 2) := by decide +kernel
theorem d_Mo_partAll_37 : decode b_Mo_partAll 37 = .ok (.bipush 7, 2) := by decide +kernel
theorem d_Mo_partAll_39 : decode b_Mo_partAll 39 = .ok (.bipush 7, 2) := by decide +kernel
theorem d_Mo_partAll_41 : decode b_Mo_partAll 41 = .ok (.bipush 7, 2) := by decide +kernel
theorem d_Mo_partAll_43 : decode b_Mo_partAll 43 = .ok (.iconst 0, 1) := by decide +kernel
theorem d_Mo_partAll_44 : decode b_Mo_partAll 44 = .ok (.invokevirtual 243, 3) := by decide +kernel
theorem d_Mo_partAll_47 : decode b_Mo_partAll 47 = .ok (.aload_n 0, 1) := by decide +kernel
theorem d_Mo_partAll_48 : decode b_Mo_partAll 48 = .ok (.getfield 225, 3) := by decide +kernel
theorem d_Mo_partAll_51 : decode b_Mo_partAll 51 = .ok (.ifCond .le 487, 3) := by decide +kernel
theorem d_Mo_partAll_54 : decode b_Mo_partAll 54 = .ok (.aload_n 0, 1) := by decide +kernel
theorem d_Mo_partAll_55 : decode b_Mo_partAll 55 = .ok (.dup, 1) := by decide +kernel
theorem d_Mo_partAll_56 : decode b_Mo_partAll 56 = .ok (.getfield 225, 3) := by decide +kernel
theorem d_Mo_partAll_59 : decode b_Mo_partAll 59 = .ok (.iconst 1, 1) := by decide +kernel
theorem d_Mo_partAll_60 : decode b_Mo_partAll 60 = .ok (.isub, 1) := by decide +kernel
theorem d_Mo_partAll_61 : decode b_Mo_partAll 61 = .ok (.putfield 225, 3) := by decide +kernel
theorem d_Mo_partAll_64 : decode b_Mo_partAll 64 = .ok (.bipush 7, 2) := by decide +kernel
theorem d_Mo_partAll_66 : decode b_Mo_partAll 66 = .ok (.aload_n 0, 1) := by decide +kernel
theorem d_Mo_partAll_67 : decode b_Mo_partAll 67 = .ok (.getfield 225, 3) := by decide +kernel
theorem d_Mo_partAll_70 : decode b_Mo_partAll 70 = .ok (.imul, 1) := by decide +kernel
theorem d_Mo_partAll_71 : decode b_Mo_partAll 71 = .ok (.istore_n 2, 1) := by decide +kernel
theorem d_Mo_partAll_72 : decode b_Mo_partAll 72 = .ok (.aload_n 0, 1) := by decide +kernel
theorem d_Mo_partAll_73 : decode b_Mo_partAll 73 = .ok (.getfield 56, 3) := by decide +kernel
theorem d_Mo_partAll_76 : decode b_Mo_partAll 76 = .ok (.iload_n 2, 1) := by decide +kernel
theorem d_Mo_partAll_77 : decode b_Mo_partAll 77 = .ok (.iaload, 1) := by decide +kernel
theorem d_Mo_partAll_78 : decode b_Mo_partAll 78 = .ok (.istore_n 3, 1) := by decide +kernel
theorem d_Mo_partAll_79 : decode b_Mo_partAll 79 = .ok (.aload_n 0, 1) := by decide +kernel
theorem d_Mo_partAll_80 : decode b_Mo_partAll 80 = .ok (.getfield 56, 3) := by decide +kernel
theorem d_Mo_partAll_83 : decode b_Mo_partAll 83 = .ok (.iload_n 2, 1) := by decide +kernel
theorem d_Mo_partAll_84 : decode b_Mo_partAll 84 = .ok (.iconst 1, 1) := by decide +kernel
theorem d_Mo_partAll_85 : decode b_Mo_partAll 85 = .ok (.iadd, 1) := by decide +kernel
theorem d_Mo_partAll_86 : decode b_Mo_partAll 86 = .ok (.iaload, 1) := by decide +kernel
theorem d_Mo_partAll_87 : decode b_Mo_partAll 87 = .ok (.istore 4, 2) := by decide +kernel
theorem d_Mo_partAll_89 : decode b_Mo_partAll 89 = .ok (.aload_n 0, 1) := by decide +kernel
theorem d_Mo_partAll_90 : decode b_Mo_partAll 90 = .ok (.getfield 56, 3) := by decide +kernel
theorem d_Mo_partAll_93 : decode b_Mo_partAll 93 = .ok (.iload_n 2, 1) := by decide +kernel
theorem d_Mo_partAll_94 : decode b_Mo_partAll 94 = .ok (.iconst 2, 1) := by decide +kernel
theorem d_Mo_partAll_95 : decode b_Mo_partAll 95 = .ok (.iadd, 1) := by decide +kernel
theorem d_Mo_partAll_96 : decode b_Mo_partAll 96 = .ok (.iaload, 1) := by decide +kernel
theorem d_Mo_partAll_97 : decode b_Mo_partAll 97 = .ok (.istore 5, 2) := by decide +kernel
theorem d_Mo_partAll_99 : decode b_Mo_partAll 99 = .ok (.aload_n 0, 1) := by decide +kernel
theorem d_Mo_partAll_100 : decode b_Mo_partAll 100 = .ok (.getfield 56, 3) := by decide +kernel
theorem d_Mo_partAll_103 : decode b_Mo_partAll 103 = .ok (.iload_n 2, 1) := by decide +kernel
theorem d_Mo_partAll_104 : decode b_Mo_partAll 104 = .ok (.iconst 3, 1) := by decide +kernel
theorem d_Mo_partAll_105 : decode b_Mo_partAll 105 = .ok (.iadd, 1) := by decide +kernel
theorem d_Mo_partAll_106 : decode b_Mo_partAll 106 = .ok (.iaload, 1) := by decide +kernel
theorem d_Mo_partAll_107 : decode b_Mo_partAll 107 = .ok (.istore 6, 2) := by decide +kernel
theorem d_Mo_partAll_109 : decode b_Mo_partAll 109 = .ok (.aload_n 0, 1) := by decide +kernel
theorem d_Mo_partAll_110 : decode b_Mo_partAll 110 = .ok (.getfield 56, 3) := by decide +kernel
theorem d_Mo_partAll_113 : decode b_Mo_partAll 113 = .ok (.iload_n 2, 1) := by decide +kernel
theorem d_Mo_partAll_114 : decode b_Mo_partAll 114 = .ok (.iconst 4, 1) := by decide +kernel
theorem d_Mo_partAll_115 : decode b_Mo_partAll 115 = .ok (.iadd, 1) := by decide +kernel
theorem d_Mo_partAll_116 : decode b_Mo_partAll 116 = .ok (.iaload, 1) := by decide +kernel
theorem d_Mo_partAll_117 : decode b_Mo_partAll 117 = .ok (.istore 7, 2) := by decide +kernel
theorem d_Mo_partAll_119 : decode b_Mo_partAll 119 = .ok (.aload_n 0, 1) := by decide +kernel
theorem d_Mo_partAll_120 : decode b_Mo_partAll 120 = .ok (.getfield 56, 3) := by decide +kernel
theorem d_Mo_partAll_123 : decode b_Mo_partAll 123 = .ok (.iload_n 2, 1) := by decide +kernel
theorem d_Mo_partAll_124 : decode b_Mo_partAll 124 = .ok (.iconst 5, 1) := by decide +kernel
theorem d_Mo_partAll_125 : decode b_Mo_partAll 125 = .ok (.iadd, 1) := by decide +kernel
theorem d_Mo_partAll_126 : decode b_Mo_partAll 126 = .ok (.iaload, 1) := by decide +kernel
theorem d_Mo_partAll_127 : decode b_Mo_partAll 127 = .ok (.istore 8, 2) := by decide +kernel
theorem d_Mo_partAll_129 : decode b_Mo_partAll 129 = .ok (.aload_n 0, 1) := by decide +kernel
theorem d_Mo_partAll_130 : decode b_Mo_partAll 130 = .ok (.getfield 56, 3) := by decide +kernel
theorem d_Mo_partAll_133 : decode b_Mo_partAll 133 = .ok (.iload_n 2, 1) := by decide +kernel
theorem d_Mo_partAll_134 : decode b_Mo_partAll 134 = .ok (.bipush 6, 2) := by decide +kernel
theorem d_Mo_partAll_136 : decode b_Mo_partAll 136 = .ok (.iadd, 1) := by decide +kernel
theorem d_Mo_partAll_137 : decode b_Mo_partAll 137 = .ok (.iaload, 1) := by decide +kernel
theorem d_Mo_partAll_138 : decode b_Mo_partAll 138 = .ok (.istore 9, 2) := by decide +kernel
theorem d_Mo_partAll_140 : decode b_Mo_partAll 140 = .ok (.aload_n 0, 1) := by decide +kernel
theorem d_Mo_partAll_141 : decode b_Mo_partAll 141 = .ok (.iload_n 1, 1) := by decide +kernel
theorem d_Mo_partAll_142 : decode b_Mo_partAll 142 = .ok (.iload_n 3, 1) := by decide +kernel
theorem d_Mo_partAll_143 : decode b_Mo_partAll 143 = .ok (.i2l, 1) := by decide +kernel
theorem d_Mo_partAll_144 : decode b_Mo_partAll 144 = .ok (.iload 4, 2) := by decide +kernel
theorem d_Mo_partAll_146 : decode b_Mo_partAll 146 = .ok (.i2l, 1) := by decide +kernel
theorem d_Mo_partAll_147 : decode b_Mo_partAll 147 = .ok (.iload 5, 2) := by decide +kernel
theorem d_Mo_partAll_149 : decode b_Mo_partAll 149 = .ok (.i2l, 1) := by decide +kernel
theorem d_Mo_partAll_150 : decode b_Mo_partAll 150 = .ok (.iload 6, 2) := by decide +kernel
theorem d_Mo_partAll_152 : decode b_Mo_partAll 152 = .ok (.i2l, 1) := by decide +kernel
theorem d_Mo_partAll_153 : decode b_Mo_partAll 153 = .ok (.iload 7, 2) := by decide +kernel
theorem d_Mo_partAll_155 : decode b_Mo_partAll 155 = .ok (.i2l, 1) := by decide +kernel
theorem d_Mo_partAll_156 : decode b_Mo_partAll 156 = .ok (.iload 8, 2) := by decide +kernel
theorem d_Mo_partAll_158 : decode b_Mo_partAll 158 = .ok (.i2l, 1) := by decide +kernel
theorem d_Mo_partAll_159 : decode b_Mo_partAll 159 = .ok (.invokevirtual 213, 3) := by decide +kernel
theorem d_Mo_partAll_162 : decode b_Mo_partAll 162 = .ok (.aload_n 0, 1) := by decide +kernel
theorem d_Mo_partAll_163 : decode b_Mo_partAll 163 = .ok (.dup, 1) := by decide +kernel
theorem d_Mo_partAll_164 : decode b_Mo_partAll 164 = .ok (.getfield 240, 3) := by decide +kernel
theorem d_Mo_partAll_167 : decode b_Mo_partAll 167 = .ok (.iconst 1, 1) := by decide +kernel
theorem d_Mo_partAll_168 : decode b_Mo_partAll 168 = .ok (.iadd, 1) := by decide +kernel
theorem d_Mo_partAll_169 : decode b_Mo_partAll 169 = .ok (.putfield 240, 3) := by decide +kernel
theorem d_Mo_partAll_172 : decode b_Mo_partAll 172 = .ok (.aload_n 0, 1) := by decide +kernel
theorem d_Mo_partAll_173 : decode b_Mo_partAll 173 = .ok (.getfield 183, 3) := by decide +kernel
theorem d_Mo_partAll_176 : decode b_Mo_partAll 176 = .ok (.lconst 0, 1) := by decide +kernel
theorem d_Mo_partAll_177 : decode b_Mo_partAll 177 = .ok (.lcmp, 1) := by decide +kernel
theorem d_Mo_partAll_178 : decode b_Mo_partAll 178 = .ok (.ifCond .lt 32, 3) := by decide +kernel
theorem d_Mo_partAll_181 : decode b_Mo_partAll 181 = .ok (.aload_n 0, 1) := by decide +kernel
theorem d_Mo_partAll_182 : decode b_Mo_partAll 182 = .ok (.getfield 179, 3) := by decide +kernel
theorem d_Mo_partAll_185 : decode b_Mo_partAll 185 = .ok (.lconst 0, 1) := by decide +kernel
theorem d_Mo_partAll_186 : decode b_Mo_partAll 186 = .ok (.lcmp, 1) := by decide +kernel
theorem d_Mo_partAll_187 : decode b_Mo_partAll 187 = .ok (.ifCond .ge 23, 3) := by decide +kernel
theorem d_Mo_partAll_190 : decode b_Mo_partAll 190 = .ok (.iload_n 3, 1) := by decide +kernel
theorem d_Mo_partAll_191 : decode b_Mo_partAll 191 = .ok (.iload 6, 2) := by decide +kernel
theorem d_Mo_partAll_193 : decode b_Mo_partAll 193 = .ok (.if_icmp .ne 127, 3) := by decide +kernel
theorem d_Mo_partAll_196 : decode b_Mo_partAll 196 = .ok (.iload 4, 2) := by decide +kernel
theorem d_Mo_partAll_198 : decode b_Mo_partAll 198 = .ok (.iload 7, 2) := by decide +kernel
theorem d_Mo_partAll_200 : decode b_Mo_partAll 200 = .ok (.if_icmp .ne 120, 3) := by decide +kernel
theorem d_Mo_partAll_203 : decode b_Mo_partAll 203 = .ok (.iload 5, 2) := by decide +kernel
theorem d_Mo_partAll_205 : decode b_Mo_partAll 205 = .ok (.iload 8, 2) := by decide +kernel
theorem d_Mo_partAll_207 : decode b_Mo_partAll 207 = .ok (.if_icmp .ne 113, 3) := by decide +kernel
theorem d_Mo_partAll_210 : decode b_Mo_partAll 210 = .ok (.aload_n 0, 1) := by decide +kernel
theorem d_Mo_partAll_211 : decode b_Mo_partAll 211 = .ok (.getfield 183, 3) := by decide +kernel
theorem d_Mo_partAll_214 : decode b_Mo_partAll 214 = .ok (.lconst 0, 1) := by decide +kernel
theorem d_Mo_partAll_215 : decode b_Mo_partAll 215 = .ok (.lcmp, 1) := by decide +kernel
theorem d_Mo_partAll_216 : decode b_Mo_partAll 216 = .ok (.ifCond .ge 7, 3) := by decide +kernel
theorem d_Mo_partAll_219 : decode b_Mo_partAll 219 = .ok (.iconst 1, 1) := by decide +kernel
theorem d_Mo_partAll_220 : decode b_Mo_partAll 220 = .ok (.goto 4, 3) := by decide +kernel
theorem d_Mo_partAll_223 : decode b_Mo_partAll 223 = .ok (.iconst 0, 1) := by decide +kernel
theorem d_Mo_partAll_224 : decode b_Mo_partAll 224 = .ok (.istore 10, 2) := by decide +kernel
theorem d_Mo_partAll_226 : decode b_Mo_partAll 226 = .ok (.aload_n 0, 1) := by decide +kernel
theorem d_Mo_partAll_227 : decode b_Mo_partAll 227 = .ok (.dup, 1) := by decide +kernel
theorem d_Mo_partAll_228 : decode b_Mo_partAll 228 = .ok (.getfield 228, 3) := by decide +kernel
theorem d_Mo_partAll_231 : decode b_Mo_partAll 231 = .ok (.iconst 1, 1) := by decide +kernel
theorem d_Mo_partAll_232 : decode b_Mo_partAll 232 = .ok (.iadd, 1) := by decide +kernel
theorem d_Mo_partAll_233 : decode b_Mo_partAll 233 = .ok (.putfield 228, 3) := by decide +kernel
theorem d_Mo_partAll_236 : decode b_Mo_partAll 236 = .ok (.aload_n 0, 1) := by decide +kernel
theorem d_Mo_partAll_237 : decode b_Mo_partAll 237 = .ok (.dup, 1) := by decide +kernel
theorem d_Mo_partAll_238 : decode b_Mo_partAll 238 = .ok (.getfield 231, 3) := by decide +kernel
theorem d_Mo_partAll_241 : decode b_Mo_partAll 241 = .ok (.iload 10, 2) := by decide +kernel
theorem d_Mo_partAll_243 : decode b_Mo_partAll 243 = .ok (.ifCond .eq 7, 3) := by decide +kernel
theorem d_Mo_partAll_246 : decode b_Mo_partAll 246 = .ok (.iconst 1, 1) := by decide +kernel
theorem d_Mo_partAll_247 : decode b_Mo_partAll 247 = .ok (.goto 4, 3) := by decide +kernel
theorem d_Mo_partAll_250 : decode b_Mo_partAll 250 = .ok (.iconst 0, 1) := by decide +kernel
theorem d_Mo_partAll_251 : decode b_Mo_partAll 251 = .ok (.iadd, 1) := by decide +kernel
theorem d_Mo_partAll_252 : decode b_Mo_partAll 252 = .ok (.putfield 231, 3) := by decide +kernel
theorem d_Mo_partAll_255 : decode b_Mo_partAll 255 = .ok (.aload_n 0, 1) := by decide +kernel
theorem d_Mo_partAll_256 : decode b_Mo_partAll 256 = .ok (.dup, 1) := by decide +kernel
theorem d_Mo_partAll_257 : decode b_Mo_partAll 257 = .ok (.getfield 234, 3) := by decide +kernel
theorem d_Mo_partAll_260 : decode b_Mo_partAll 260 = .ok (.iload 10, 2) := by decide +kernel
theorem d_Mo_partAll_262 : decode b_Mo_partAll 262 = .ok (.ifCond .eq 28, 3) := by decide +kernel
theorem d_Mo_partAll_265 : decode b_Mo_partAll 265 = .ok (.iload 6, 2) := by decide +kernel
theorem d_Mo_partAll_267 : decode b_Mo_partAll 267 = .ok (.iload_n 3, 1) := by decide +kernel
theorem d_Mo_partAll_268 : decode b_Mo_partAll 268 = .ok (.isub, 1) := by decide +kernel
theorem d_Mo_partAll_269 : decode b_Mo_partAll 269 = .ok (.iconst 1, 1) := by decide +kernel
theorem d_Mo_partAll_270 : decode b_Mo_partAll 270 = .ok (.iadd, 1) := by decide +kernel
theorem d_Mo_partAll_271 : decode b_Mo_partAll 271 = .ok (.iload 7, 2) := by decide +kernel
theorem d_Mo_partAll_273 : decode b_Mo_partAll 273 = .ok (.iload 4, 2) := by decide +kernel
theorem d_Mo_partAll_275 : decode b_Mo_partAll 275 = .ok (.isub, 1) := by decide +kernel
theorem d_Mo_partAll_276 : decode b_Mo_partAll 276 = .ok (.iconst 1, 1) := by decide +kernel
theorem d_Mo_partAll_277 : decode b_Mo_partAll 277 = .ok (.iadd, 1) := by decide +kernel
theorem d_Mo_partAll_278 : decode b_Mo_partAll 278 = .ok (.imul, 1) := by decide +kernel
theorem d_Mo_partAll_279 : decode b_Mo_partAll 279 = .ok (.iload 8, 2) := by decide +kernel
theorem d_Mo_partAll_281 : decode b_Mo_partAll 281 = .ok (.iload 5, 2) := by decide +kernel
theorem d_Mo_partAll_283 : decode b_Mo_partAll 283 = .ok (.isub, 1) := by decide +kernel
theorem d_Mo_partAll_284 : decode b_Mo_partAll 284 = .ok (.iconst 1, 1) := by decide +kernel
theorem d_Mo_partAll_285 : decode b_Mo_partAll 285 = .ok (.iadd, 1) := by decide +kernel
theorem d_Mo_partAll_286 : decode b_Mo_partAll 286 = .ok (.imul, 1) := by decide +kernel
theorem d_Mo_partAll_287 : decode b_Mo_partAll 287 = .ok (.goto 4, 3) := by decide +kernel
theorem d_Mo_partAll_290 : decode b_Mo_partAll 290 = .ok (.iconst 0, 1) := by decide +kernel
theorem d_Mo_partAll_291 : decode b_Mo_partAll 291 = .ok (.iadd, 1) := by decide +kernel
theorem d_Mo_partAll_292 : decode b_Mo_partAll 292 = .ok (.putfield 234, 3) := by decide +kernel
theorem d_Mo_partAll_295 : decode b_Mo_partAll 295 = .ok (.aload_n 0, 1) := by decide +kernel
theorem d_Mo_partAll_296 : decode b_Mo_partAll 296 = .ok (.iload 9, 2) := by decide +kernel
theorem d_Mo_partAll_298 : decode b_Mo_partAll 298 = .ok (.aload_n 0, 1) := by decide +kernel
theorem d_Mo_partAll_299 : decode b_Mo_partAll 299 = .ok (.getfield 237, 3) := by decide +kernel
theorem d_Mo_partAll_302 : decode b_Mo_partAll 302 = .ok (.if_icmp .le 8, 3) := by decide +kernel
theorem d_Mo_partAll_305 : decode b_Mo_partAll 305 = .ok (.iload 9, 2) := by decide +kernel
theorem d_Mo_partAll_307 : decode b_Mo_partAll 307 = .ok (.goto 7, 3) := by decide +kernel
theorem d_Mo_partAll_310 : decode b_Mo_partAll 310 = .ok (.aload_n 0, 1) := by decide +kernel
theorem d_Mo_partAll_311 : decode b_Mo_partAll 311 = .ok (.getfield 237, 3) := by decide +kernel
theorem d_Mo_partAll_314 : decode b_Mo_partAll 314 = .ok (.putfield 237, 3) := by decide +kernel
theorem d_Mo_partAll_317 : decode b_Mo_partAll 317 = .ok (.goto 218, 3) := by decide +kernel
theorem d_Mo_partAll_320 : decode b_Mo_partAll 320 = .ok (.iload_n 3, 1) := by decide +kernel
theorem d_Mo_partAll_321 : decode b_Mo_partAll 321 = .ok (.iload 6, 2) := by decide +kernel
theorem d_Mo_partAll_323 : decode b_Mo_partAll 323 = .ok (.iload_n 3, 1) := by decide +kernel
theorem d_Mo_partAll_324 : decode b_Mo_partAll 324 = .ok (.isub, 1) := by decide +kernel
theorem d_Mo_partAll_325 : decode b_Mo_partAll 325 = .ok (.iconst 2, 1) := by decide +kernel
theorem d_Mo_partAll_326 : decode b_Mo_partAll 326 = .ok (.idiv, 1) := by decide +kernel
theorem d_Mo_partAll_327 : decode b_Mo_partAll 327 = .ok (.iadd, 1) := by decide +kernel
theorem d_Mo_partAll_328 : decode b_Mo_partAll 328 = .ok (.istore 10, 2) := by decide +kernel
theorem d_Mo_partAll_330 : decode b_Mo_partAll 330 = .ok (.iload 4, 2) := by decide +kernel
theorem d_Mo_partAll_332 : decode b_Mo_partAll 332 = .ok (.iload 7, 2) := by decide +kernel
theorem d_Mo_partAll_334 : decode b_Mo_partAll 334 = .ok (.iload 4, 2) := by decide +kernel
theorem d_Mo_partAll_336 : decode b_Mo_partAll 336 = .ok (.isub, 1) := by decide +kernel
theorem d_Mo_partAll_337 : decode b_Mo_partAll 337 = .ok (.iconst 2, 1) := by decide +kernel
theorem d_Mo_partAll_338 : decode b_Mo_partAll 338 = .ok (.idiv, 1) := by decide +kernel
theorem d_Mo_partAll_339 : decode b_Mo_partAll 339 = .ok (.iadd, 1) := by decide +kernel
theorem d_Mo_partAll_340 : decode b_Mo_partAll 340 = .ok (.istore 11, 2) := by decide +kernel
theorem d_Mo_partAll_342 : decode b_Mo_partAll 342 = .ok (.iload 5, 2) := by decide +kernel
theorem d_Mo_partAll_344 : decode b_Mo_partAll 344 = .ok (.iload 8, 2) := by decide +kernel
theorem d_Mo_partAll_346 : decode b_Mo_partAll 346 = .ok (.iload 5, 2) := by decide +kernel
theorem d_Mo_partAll_348 : decode b_Mo_partAll 348 = .ok (.isub, 1) := by decide +kernel
theorem d_Mo_partAll_349 : decode b_Mo_partAll 349 = .ok (.iconst 2, 1) := by decide +kernel
theorem d_Mo_partAll_350 : decode b_Mo_partAll 350 = .ok (.idiv, 1) := by decide +kernel
theorem d_Mo_partAll_351 : decode b_Mo_partAll 351 = .ok (.iadd, 1) := by decide +kernel
theorem d_Mo_partAll_352 : decode b_Mo_partAll 352 = .ok (.istore 12, 2) := by decide +kernel
theorem d_Mo_partAll_354 : decode b_Mo_partAll 354 = .ok (.iconst 0, 1) := by decide +kernel
theorem d_Mo_partAll_355 : decode b_Mo_partAll 355 = .ok (.istore 13, 2) := by decide +kernel
theorem d_Mo_partAll_357 : decode b_Mo_partAll 357 = .ok (.iload 13, 2) := by decide +kernel
theorem d_Mo_partAll_359 : decode b_Mo_partAll 359 = .ok (.bipush 8, 2) := by decide +kernel
theorem d_Mo_partAll_361 : decode b_Mo_partAll 361 = .ok (.if_icmp .ge 174, 3) := by decide +kernel
theorem d_Mo_partAll_364 : decode b_Mo_partAll 364 = .ok (.iload 13, 2) := by decide +kernel
theorem d_Mo_partAll_366 : decode b_Mo_partAll 366 = .ok (.iconst 1, 1) := by decide +kernel
theorem d_Mo_partAll_367 : decode b_Mo_partAll 367 = .ok (.iand, 1) := by decide +kernel
theorem d_Mo_partAll_368 : decode b_Mo_partAll 368 = .ok (.iconst 1, 1) := by decide +kernel
theorem d_Mo_partAll_369 : decode b_Mo_partAll 369 = .ok (.if_icmp .ne 7, 3) := by decide +kernel
theorem d_Mo_partAll_372 : decode b_Mo_partAll 372 = .ok (.iconst 1, 1) := by decide +kernel
theorem d_Mo_partAll_373 : decode b_Mo_partAll 373 = .ok (.goto 4, 3) := by decide +kernel
theorem d_Mo_partAll_376 : decode b_Mo_partAll 376 = .ok (.iconst 0, 1) := by decide +kernel
theorem d_Mo_partAll_377 : decode b_Mo_partAll 377 = .ok (.istore 14, 2) := by decide +kernel
theorem d_Mo_partAll_379 : decode b_Mo_partAll 379 = .ok (.iload 13, 2) := by decide +kernel
theorem d_Mo_partAll_381 : decode b_Mo_partAll 381 = .ok (.iconst 2, 1) := by decide +kernel
theorem d_Mo_partAll_382 : decode b_Mo_partAll 382 = .ok (.iand, 1) := by decide +kernel
theorem d_Mo_partAll_383 : decode b_Mo_partAll 383 = .ok (.iconst 2, 1) := by decide +kernel
theorem d_Mo_partAll_384 : decode b_Mo_partAll 384 = .ok (.if_icmp .ne 7, 3) := by decide +kernel
theorem d_Mo_partAll_387 : decode b_Mo_partAll 387 = .ok (.iconst 1, 1) := by decide +kernel
theorem d_Mo_partAll_388 : decode b_Mo_partAll 388 = .ok (.goto 4, 3) := by decide +kernel
theorem d_Mo_partAll_391 : decode b_Mo_partAll 391 = .ok (.iconst 0, 1) := by decide +kernel
theorem d_Mo_partAll_392 : decode b_Mo_partAll 392 = .ok (.istore 15, 2) := by decide +kernel
theorem d_Mo_partAll_394 : decode b_Mo_partAll 394 = .ok (.iload 13, 2) := by decide +kernel
theorem d_Mo_partAll_396 : decode b_Mo_partAll 396 = .ok (.iconst 4, 1) := by decide +kernel
theorem d_Mo_partAll_397 : decode b_Mo_partAll 397 = .ok (.iand, 1) := by decide +kernel
theorem d_Mo_partAll_398 : decode b_Mo_partAll 398 = .ok (.iconst 4, 1) := by decide +kernel
theorem d_Mo_partAll_399 : decode b_Mo_partAll 399 = .ok (.if_icmp .ne 7, 3) := by decide +kernel
theorem d_Mo_partAll_402 : decode b_Mo_partAll 402 = .ok (.iconst 1, 1) := by decide +kernel
theorem d_Mo_partAll_403 : decode b_Mo_partAll 403 = .ok (.goto 4, 3) := by decide +kernel
theorem d_Mo_partAll_406 : decode b_Mo_partAll 406 = .ok (.iconst 0, 1) := by decide +kernel
theorem d_Mo_partAll_407 : decode b_Mo_partAll 407 = .ok (.istore 16, 2) := by decide +kernel
theorem d_Mo_partAll_409 : decode b_Mo_partAll 409 = .ok (.iload 14, 2) := by decide +kernel
theorem d_Mo_partAll_411 : decode b_Mo_partAll 411 = .ok (.ifCond .eq 9, 3) := by decide +kernel
theorem d_Mo_partAll_414 : decode b_Mo_partAll 414 = .ok (.iload_n 3, 1) := by decide +kernel
theorem d_Mo_partAll_415 : decode b_Mo_partAll 415 = .ok (.iload 6, 2) := by decide +kernel
theorem d_Mo_partAll_417 : decode b_Mo_partAll 417 = .ok (.if_icmp .eq 112, 3) := by decide +kernel
theorem d_Mo_partAll_420 : decode b_Mo_partAll 420 = .ok (.iload 15, 2) := by decide +kernel
theorem d_Mo_partAll_422 : decode b_Mo_partAll 422 = .ok (.ifCond .eq 10, 3) := by decide +kernel
theorem d_Mo_partAll_425 : decode b_Mo_partAll 425 = .ok (.iload 4, 2) := by decide +kernel
theorem d_Mo_partAll_427 : decode b_Mo_partAll 427 = .ok (.iload 7, 2) := by decide +kernel
theorem d_Mo_partAll_429 : decode b_Mo_partAll 429 = .ok (.if_icmp .eq 100, 3) := by decide +kernel
theorem d_Mo_partAll_432 : decode b_Mo_partAll 432 = .ok (.iload 16, 2) := by decide +kernel
theorem d_Mo_partAll_434 : decode b_Mo_partAll 434 = .ok (.ifCond .eq 10, 3) := by decide +kernel
theorem d_Mo_partAll_437 : decode b_Mo_partAll 437 = .ok (.iload 5, 2) := by decide +kernel
theorem d_Mo_partAll_439 : decode b_Mo_partAll 439 = .ok (.iload 8, 2) := by decide +kernel
theorem d_Mo_partAll_441 : decode b_Mo_partAll 441 = .ok (.if_icmp .eq 88, 3) := by decide +kernel
theorem d_Mo_partAll_444 : decode b_Mo_partAll 444 = .ok (.aload_n 0, 1) := by decide +kernel
theorem d_Mo_partAll_445 : decode b_Mo_partAll 445 = .ok (.iload 14, 2) := by decide +kernel
theorem d_Mo_partAll_447 : decode b_Mo_partAll 447 = .ok (.ifCond .eq 10, 3) := by decide +kernel
theorem d_Mo_partAll_450 : decode b_Mo_partAll 450 = .ok (.iload 10, 2) := by decide +kernel
theorem d_Mo_partAll_452 : decode b_Mo_partAll 452 = .ok (.iconst 1, 1) := by decide +kernel
theorem d_Mo_partAll_453 : decode b_Mo_partAll 453 = .ok (.iadd, 1) := by decide +kernel
theorem d_Mo_partAll_454 : decode b_Mo_partAll 454 = .ok (.goto 4, 3) := by decide +kernel
theorem d_Mo_partAll_457 : decode b_Mo_partAll 457 = .ok (.iload_n 3, 1) := by decide +kernel
theorem d_Mo_partAll_458 : decode b_Mo_partAll 458 = .ok (.iload 15, 2) := by decide +kernel
theorem d_Mo_partAll_460 : decode b_Mo_partAll 460 = .ok (.ifCond .eq 10, 3) := by decide +kernel
theorem d_Mo_partAll_463 : decode b_Mo_partAll 463 = .ok (.iload 11, 2) := by decide +kernel
theorem d_Mo_partAll_465 : decode b_Mo_partAll 465 = .ok (.iconst 1, 1) := by decide +kernel
theorem d_Mo_partAll_466 : decode b_Mo_partAll 466 = .ok (.iadd, 1) := by decide +kernel
theorem d_Mo_partAll_467 : decode b_Mo_partAll 467 = .ok (.goto 5, 3) := by decide +kernel
theorem d_Mo_partAll_470 : decode b_Mo_partAll 470 = .ok (.iload 4, 2) := by decide +kernel
theorem d_Mo_partAll_472 : decode b_Mo_partAll 472 = .ok (.iload 16, 2) := by decide +kernel
theorem d_Mo_partAll_474 : decode b_Mo_partAll 474 = .ok (.ifCond .eq 10, 3) := by decide +kernel
theorem d_Mo_partAll_477 : decode b_Mo_partAll 477 = .ok (.iload 12, 2) := by decide +kernel
theorem d_Mo_partAll_479 : decode b_Mo_partAll 479 = .ok (.iconst 1, 1) := by decide +kernel
theorem d_Mo_partAll_480 : decode b_Mo_partAll 480 = .ok (.iadd, 1) := by decide +kernel
theorem d_Mo_partAll_481 : decode b_Mo_partAll 481 = .ok (.goto 5, 3) := by decide +kernel
theorem d_Mo_partAll_484 : decode b_Mo_partAll 484 = .ok (.iload 5, 2) := by decide +kernel
theorem d_Mo_partAll_486 : decode b_Mo_partAll 486 = .ok (.iload 14, 2) := by decide +kernel
theorem d_Mo_partAll_488 : decode b_Mo_partAll 488 = .ok (.ifCond .eq 8, 3) := by decide +kernel
theorem d_Mo_partAll_491 : decode b_Mo_partAll 491 = .ok (.iload 6, 2) := by decide +kernel
theorem d_Mo_partAll_493 : decode b_Mo_partAll 493 = .ok (.goto 5, 3) := by decide +kernel
theorem d_Mo_partAll_496 : decode b_Mo_partAll 496 = .ok (.iload 10, 2) := by decide +kernel
theorem d_Mo_partAll_498 : decode b_Mo_partAll 498 = .ok (.iload 15, 2) := by decide +kernel
theorem d_Mo_partAll_500 : decode b_Mo_partAll 500 = .ok (.ifCond .eq 8, 3) := by decide +kernel
theorem d_Mo_partAll_503 : decode b_Mo_partAll 503 = .ok (.iload 7, 2) := by decide +kernel
theorem d_Mo_partAll_505 : decode b_Mo_partAll 505 = .ok (.goto 5, 3) := by decide +kernel
theorem d_Mo_partAll_508 : decode b_Mo_partAll 508 = .ok (.iload 11, 2) := by decide +kernel
theorem d_Mo_partAll_510 : decode b_Mo_partAll 510 = .ok (.iload 16, 2) := by decide +kernel
theorem d_Mo_partAll_512 : decode b_Mo_partAll 512 = .ok (.ifCond .eq 8, 3) := by decide +kernel
theorem d_Mo_partAll_515 : decode b_Mo_partAll 515 = .ok (.iload 8, 2) := by decide +kernel
theorem d_Mo_partAll_517 : decode b_Mo_partAll 517 = .ok (.goto 5, 3) := by decide +kernel
theorem d_Mo_partAll_520 : decode b_Mo_partAll 520 = .ok (.iload 12, 2) := by decide +kernel
theorem d_Mo_partAll_522 : decode b_Mo_partAll 522 = .ok (.iload 9, 2) := by decide +kernel
theorem d_Mo_partAll_524 : decode b_Mo_partAll 524 = .ok (.iconst 1, 1) := by decide +kernel
theorem d_Mo_partAll_525 : decode b_Mo_partAll 525 = .ok (.iadd, 1) := by decide +kernel
theorem d_Mo_partAll_526 : decode b_Mo_partAll 526 = .ok (.invokevirtual 243, 3) := by decide +kernel
theorem d_Mo_partAll_529 : decode b_Mo_partAll 529 = .ok (.iinc 13 1, 3) := by decide +kernel
theorem d_Mo_partAll_532 : decode b_Mo_partAll 532 = .ok (.goto (-175), 3) := by decide +kernel
theorem d_Mo_partAll_535 : decode b_Mo_partAll 535 = .ok (.goto (-488), 3) := by decide +kernel
theorem d_Mo_partAll_538 : decode b_Mo_partAll 538 = .ok (.return_, 1) := by decide +kernel
theorem d_Mo_puts_0 : decode b_Mo_puts 0 = .ok (.bipush 7, 2) := by decide +kernel
theorem d_Mo_puts_2 : decode b_Mo_puts 2 = .ok (.aload_n 0, 1) := by decide +kernel
theorem d_Mo_puts_3 : decode b_Mo_puts 3 = .ok (.getfield 225, 3) := by decide +kernel
theorem d_Mo_puts_6 : decode b_Mo_puts 6 = .ok (.imul, 1) := by decide +kernel
theorem d_Mo_puts_7 : decode b_Mo_puts 7 = .ok (.istore 8, 2) := by decide +kernel
theorem d_Mo_puts_9 : decode b_Mo_puts 9 = .ok (.aload_n 0, 1) := by decide +kernel
theorem d_Mo_puts_10 : decode b_Mo_puts 10 = .ok (.getfield 56, 3) := by decide +kernel
theorem d_Mo_puts_13 : decode b_Mo_puts 13 = .ok (.iload 8, 2) := by decide +kernel
theorem d_Mo_puts_15 : decode b_Mo_puts 15 = .ok (.iload_n 1, 1) := by decide +kernel
theorem d_Mo_puts_16 : decode b_Mo_puts 16 = .ok (.iastore, 1) := by decide +kernel
theorem d_Mo_puts_17 : decode b_Mo_puts 17 = .ok (.aload_n 0, 1) := by decide +kernel
theorem d_Mo_puts_18 : decode b_Mo_puts 18 = .ok (.getfield 56, 3) := by decide +kernel
theorem d_Mo_puts_21 : decode b_Mo_puts 21 = .ok (.iload 8, 2) := by decide +kernel
theorem d_Mo_puts_23 : decode b_Mo_puts 23 = .ok (.iconst 1, 1) := by decide +kernel
theorem d_Mo_puts_24 : decode b_Mo_puts 24 = .ok (.iadd, 1) := by decide +kernel
theorem d_Mo_puts_25 : decode b_Mo_puts 25 = .ok (.iload_n 2, 1) := by decide +kernel
theorem d_Mo_puts_26 : decode b_Mo_puts 26 = .ok (.iastore, 1) := by decide +kernel
theorem d_Mo_puts_27 : decode b_Mo_puts 27 = .ok (.aload_n 0, 1) := by decide +kernel
theorem d_Mo_puts_28 : decode b_Mo_puts 28 = .ok (.getfield 56, 3) := by decide +kernel
theorem d_Mo_puts_31 : decode b_Mo_puts 31 = .ok (.iload 8, 2) := by decide +kernel
theorem d_Mo_puts_33 : decode b_Mo_puts 33 = .ok (.iconst 2, 1) := by decide +kernel
theorem d_Mo_puts_34 : decode b_Mo_puts 34 = .ok (.iadd, 1) := by decide +kernel
theorem d_Mo_puts_35 : decode b_Mo_puts 35 = .ok (.iload_n 3, 1) := by decide +kernel
theorem d_Mo_puts_36 : decode b_Mo_puts 36 = .ok (.iastore, 1) := by decide +kernel
theorem d_Mo_puts_37 : decode b_Mo_puts 37 = .ok (.aload_n 0, 1) := by decide +kernel
theorem d_Mo_puts_38 : decode b_Mo_puts 38 = .ok (.getfield 56, 3) := by decide +kernel
theorem d_Mo_puts_41 : decode b_Mo_puts 41 = .ok (.iload 8, 2) := by decide +kernel
theorem d_Mo_puts_43 : decode b_Mo_puts 43 = .ok (.iconst 3, 1) := by decide +kernel
theorem d_Mo_puts_44 : decode b_Mo_puts 44 = .ok (.iadd, 1) := by decide +kernel
theorem d_Mo_puts_45 : decode b_Mo_puts 45 = .ok (.iload 4, 2) := by decide +kernel
theorem d_Mo_puts_47 : decode b_Mo_puts 47 = .ok (.iastore, 1) := by decide +kernel
theorem d_Mo_puts_48 : decode b_Mo_puts 48 = .ok (.aload_n 0, 1) := by decide +kernel
theorem d_Mo_puts_49 : decode b_Mo_puts 49 = .ok (.getfield 56, 3) := by decide +kernel
theorem d_Mo_puts_52 : decode b_Mo_puts 52 = .ok (.iload 8, 2) := by decide +kernel
theorem d_Mo_puts_54 : decode b_Mo_puts 54 = .ok (.iconst 4, 1) := by decide +kernel
theorem d_Mo_puts_55 : decode b_Mo_puts 55 = .ok (.iadd, 1) := by decide +kernel
theorem d_Mo_puts_56 : decode b_Mo_puts 56 = .ok (.iload 5, 2) := by decide +kernel
theorem d_Mo_puts_58 : decode b_Mo_puts 58 = .ok (.iastore, 1) := by decide +kernel
theorem d_Mo_puts_59 : decode b_Mo_puts 59 = .ok (.aload_n 0, 1) := by decide +kernel
theorem d_Mo_puts_60 : decode b_Mo_puts 60 = .ok (.getfield 56, 3) := by decide +kernel
theorem d_Mo_puts_63 : decode b_Mo_puts 63 = .ok (.iload 8, 2) := by decide +kernel
theorem d_Mo_puts_65 : decode b_Mo_puts 65 = .ok (.iconst 5, 1) := by decide +kernel
theorem d_Mo_puts_66 : decode b_Mo_puts 66 = .ok (.iadd, 1) := by decide +kernel
theorem d_Mo_puts_67 : decode b_Mo_puts 67 = .ok (.iload 6, 2) := by decide +kernel
theorem d_Mo_puts_69 : decode b_Mo_puts 69 = .ok (.iastore, 1) := by decide +kernel
theorem d_Mo_puts_70 : decode b_Mo_puts 70 = .ok (.aload_n 0, 1) := by decide +kernel
theorem d_Mo_puts_71 : decode b_Mo_puts 71 = .ok (.getfield 56, 3) := by decide +kernel
theorem d_Mo_puts_74 : decode b_Mo_puts 74 = .ok (.iload 8, 2) := by decide +kernel
theorem d_Mo_puts_76 : decode b_Mo_puts 76 = .ok (.bipush 6, 2) := by decide +kernel
theorem d_Mo_puts_78 : decode b_Mo_puts 78 = .ok (.iadd, 1) := by decide +kernel
theorem d_Mo_puts_79 : decode b_Mo_puts 79 = .ok (.iload 7, 2) := by decide +kernel
theorem d_Mo_puts_81 : decode b_Mo_puts 81 = .ok (.iastore, 1) := by decide +kernel
theorem d_Mo_puts_82 : decode b_Mo_puts 82 = .ok (.aload_n 0, 1) := by decide +kernel
theorem d_Mo_puts_83 : decode b_Mo_puts 83 = .ok (.dup, 1) := by decide +kernel
theorem d_Mo_puts_84 : decode b_Mo_puts 84 = .ok (.getfield 225, 3) := by decide +kernel
theorem d_Mo_puts_87 : decode b_Mo_puts 87 = .ok (.iconst 1, 1) := by decide +kernel
theorem d_Mo_puts_88 : decode b_Mo_puts 88 = .ok (.iadd, 1) := by decide +kernel
theorem d_Mo_puts_89 : decode b_Mo_puts 89 = .ok (.putfield 225, 3) := by decide +kernel
theorem d_Mo_puts_92 : decode b_Mo_puts 92 = .ok (.return_, 1) := by decide +kernel
theorem d_Mo_volume_0 : decode b_Mo_volume 0 = .ok (.aload_n 0, 1) := by decide +kernel
theorem d_Mo_volume_1 : decode b_Mo_volume 1 = .ok (.iload_n 1, 1) := by decide +kernel
theorem d_Mo_volume_2 : decode b_Mo_volume 2 = .ok (.invokevirtual 204, 3) := by decide +kernel
theorem d_Mo_volume_5 : decode b_Mo_volume 5 = .ok (.ifCond .ne 5, 3) := by decide +kernel
theorem d_Mo_volume_8 : decode b_Mo_volume 8 = .ok (.iconst (-1), 1) := by decide +kernel
theorem d_Mo_volume_9 : decode b_Mo_volume 9 = .ok (.ireturn, 1) := by decide +kernel
theorem d_Mo_volume_10 : decode b_Mo_volume 10 = .ok (.aload_n 0, 1) := by decide +kernel
theorem d_Mo_volume_11 : decode b_Mo_volume 11 = .ok (.iload_n 1, 1) := by decide +kernel
theorem d_Mo_volume_12 : decode b_Mo_volume 12 = .ok (.invokevirtual 263, 3) := by decide +kernel
theorem d_Mo_volume_15 : decode b_Mo_volume 15 = .ok (.iconst 0, 1) := by decide +kernel
theorem d_Mo_volume_16 : decode b_Mo_volume 16 = .ok (.istore_n 2, 1) := by decide +kernel
theorem d_Mo_volume_17 : decode b_Mo_volume 17 = .ok (.iconst 0, 1) := by decide +kernel
theorem d_Mo_volume_18 : decode b_Mo_volume 18 = .ok (.istore_n 3, 1) := by decide +kernel
theorem d_Mo_volume_19 : decode b_Mo_volume 19 = .ok (.iload_n 3, 1) := by decide +kernel
theorem d_Mo_volume_20 : decode b_Mo_volume 20 = .ok (.sipush 3375, 3) := by decide +kernel
theorem d_Mo_volume_23 : decode b_Mo_volume 23 = .ok (.if_icmp .ge 26, 3) := by decide +kernel
theorem d_Mo_volume_26 : decode b_Mo_volume 26 = .ok (.iload_n 2, 1) := by decide +kernel
theorem d_Mo_volume_27 : decode b_Mo_volume 27 = .ok (.aload_n 0, 1) := by decide +kernel
theorem d_Mo_volume_28 : decode b_Mo_volume 28 = .ok (.getfield 59, 3) := by decide +kernel
theorem d_Mo_volume_31 : decode b_Mo_volume 31 = .ok (.iload_n 3, 1) := by decide +kernel
theorem d_Mo_volume_32 : decode b_Mo_volume 32 = .ok (.baload, 1) := by decide +kernel
theorem d_Mo_volume_33 : decode b_Mo_volume 33 = .ok (.ifCond .eq 7, 3) := by decide +kernel
theorem d_Mo_volume_36 : decode b_Mo_volume 36 = .ok (.iconst 1, 1) := by decide +kernel
theorem d_Mo_volume_37 : decode b_Mo_volume 37 = .ok (.goto 4, 3) := by decide +kernel
theorem d_Mo_volume_40 : decode b_Mo_volume 40 = .ok (.iconst 0, 1) := by decide +kernel
theorem d_Mo_volume_41 : decode b_Mo_volume 41 = .ok (.iadd, 1) := by decide +kernel
theorem d_Mo_volume_42 : decode b_Mo_volume 42 = .ok (.istore_n 2, 1) := by decide +kernel
theorem d_Mo_volume_43 : decode b_Mo_volume 43 = .ok (.iinc 3 1, 3) := by decide +kernel
theorem d_Mo_volume_46 : decode b_Mo_volume 46 = .ok (.goto (-27), 3) := by decide +kernel
theorem d_Mo_volume_49 : decode b_Mo_volume 49 = .ok (.iload_n 2, 1) := by decide +kernel
theorem d_Mo_volume_50 : decode b_Mo_volume 50 = .ok (.ireturn, 1) := by decide +kernel
theorem d_Mo_ask_0 : decode b_Mo_ask 0 = .ok (.iconst 0, 1) := by decide +kernel
theorem d_Mo_ask_1 : decode b_Mo_ask 1 = .ok (.istore_n 2, 1) := by decide +kernel
theorem d_Mo_ask_2 : decode b_Mo_ask 2 = .ok (.iload_n 2, 1) := by decide +kernel
theorem d_Mo_ask_3 : decode b_Mo_ask 3 = .ok (.sipush 3375, 3) := by decide +kernel
theorem d_Mo_ask_6 : decode b_Mo_ask 6 = .ok (.if_icmp .ge 45, 3) := by decide +kernel
theorem d_Mo_ask_9 : decode b_Mo_ask 9 = .ok (.aload_n 0, 1) := by decide +kernel
theorem d_Mo_ask_10 : decode b_Mo_ask 10 = .ok (.getfield 59, 3) := by decide +kernel
theorem d_Mo_ask_13 : decode b_Mo_ask 13 = .ok (.iload_n 2, 1) := by decide +kernel
theorem d_Mo_ask_14 : decode b_Mo_ask 14 = .ok (.aload_n 0, 1) := by decide +kernel
theorem d_Mo_ask_15 : decode b_Mo_ask 15 = .ok (.iload_n 1, 1) := by decide +kernel
theorem d_Mo_ask_16 : decode b_Mo_ask 16 = .ok (.iload_n 2, 1) := by decide +kernel
theorem d_Mo_ask_17 : decode b_Mo_ask 17 = .ok (.bipush 15, 2) := by decide +kernel
theorem d_Mo_ask_19 : decode b_Mo_ask 19 = .ok (.irem, 1) := by decide +kernel
theorem d_Mo_ask_20 : decode b_Mo_ask 20 = .ok (.bipush 7, 2) := by decide +kernel
theorem d_Mo_ask_22 : decode b_Mo_ask 22 = .ok (.isub, 1) := by decide +kernel
theorem d_Mo_ask_23 : decode b_Mo_ask 23 = .ok (.iload_n 2, 1) := by decide +kernel
theorem d_Mo_ask_24 : decode b_Mo_ask 24 = .ok (.bipush 15, 2) := by decide +kernel
theorem d_Mo_ask_26 : decode b_Mo_ask 26 = .ok (.idiv, 1) := by decide +kernel
theorem d_Mo_ask_27 : decode b_Mo_ask 27 = .ok (.bipush 15, 2) := by decide +kernel
theorem d_Mo_ask_29 : decode b_Mo_ask 29 = .ok (.irem, 1) := by decide +kernel
theorem d_Mo_ask_30 : decode b_Mo_ask 30 = .ok (.bipush 7, 2) := by decide +kernel
theorem d_Mo_ask_32 : decode b_Mo_ask 32 = .ok (.isub, 1) := by decide +kernel
theorem d_Mo_ask_33 : decode b_Mo_ask 33 = .ok (.iload_n 2, 1) := by decide +kernel
theorem d_Mo_ask_34 : decode b_Mo_ask 34 = .ok (.sipush 225, 3) := by decide +kernel
theorem d_Mo_ask_37 : decode b_Mo_ask 37 = .ok (.idiv, 1) := by decide +kernel
theorem d_Mo_ask_38 : decode b_Mo_ask 38 = .ok (.bipush 7, 2) := by decide +kernel
theorem d_Mo_ask_40 : decode b_Mo_ask 40 = .ok (.isub, 1) := by decide +kernel
theorem d_Mo_ask_41 : decode b_Mo_ask 41 = .ok (.invokevirtual 252, 3) := by decide +kernel
theorem d_Mo_ask_44 : decode b_Mo_ask 44 = .ok (.bastore, 1) := by decide +kernel
theorem d_Mo_ask_45 : decode b_Mo_ask 45 = .ok (.iinc 2 1, 3) := by decide +kernel
theorem d_Mo_ask_48 : decode b_Mo_ask 48 = .ok (.goto (-46), 3) := by decide +kernel
theorem d_Mo_ask_51 : decode b_Mo_ask 51 = .ok (.return_, 1) := by decide +kernel
theorem d_Mo_isWithin_0 : decode b_Mo_isWithin 0 = .ok (.aload_n 0, 1) := by decide +kernel
theorem d_Mo_isWithin_1 : decode b_Mo_isWithin 1 = .ok (.iload_n 1, 1) := by decide +kernel
theorem d_Mo_isWithin_2 : decode b_Mo_isWithin 2 = .ok (.iload_n 2, 1) := by decide +kernel
theorem d_Mo_isWithin_3 : decode b_Mo_isWithin 3 = .ok (.i2l, 1) := by decide +kernel
theorem d_Mo_isWithin_4 : decode b_Mo_isWithin 4 = .ok (.iload_n 3, 1) := by decide +kernel
theorem d_Mo_isWithin_5 : decode b_Mo_isWithin 5 = .ok (.i2l, 1) := by decide +kernel
theorem d_Mo_isWithin_6 : decode b_Mo_isWithin 6 = .ok (.iload 4, 2) := by decide +kernel
theorem d_Mo_isWithin_8 : decode b_Mo_isWithin 8 = .ok (.i2l, 1) := by decide +kernel
theorem d_Mo_isWithin_9 : decode b_Mo_isWithin 9 = .ok (.iload_n 2, 1) := by decide +kernel
theorem d_Mo_isWithin_10 : decode b_Mo_isWithin 10 = .ok (.i2l, 1) := by decide +kernel
theorem d_Mo_isWithin_11 : decode b_Mo_isWithin 11 = .ok (.iload_n 3, 1) := by decide +kernel
theorem d_Mo_isWithin_12 : decode b_Mo_isWithin 12 = .ok (.i2l, 1) := by decide +kernel
theorem d_Mo_isWithin_13 : decode b_Mo_isWithin 13 = .ok (.iload 4, 2) := by decide +kernel
theorem d_Mo_isWithin_15 : decode b_Mo_isWithin 15 = .ok (.i2l, 1) := by decide +kernel
theorem d_Mo_isWithin_16 : decode b_Mo_isWithin 16 = .ok (.invokevirtual 213, 3) := by decide +kernel
theorem d_Mo_isWithin_19 : decode b_Mo_isWithin 19 = .ok (.aload_n 0, 1) := by decide +kernel
theorem d_Mo_isWithin_20 : decode b_Mo_isWithin 20 = .ok (.getfield 179, 3) := by decide +kernel
theorem d_Mo_isWithin_23 : decode b_Mo_isWithin 23 = .ok (.lconst 0, 1) := by decide +kernel
theorem d_Mo_isWithin_24 : decode b_Mo_isWithin 24 = .ok (.lcmp, 1) := by decide +kernel
theorem d_Mo_isWithin_25 : decode b_Mo_isWithin 25 = .ok (.ifCond .ge 7, 3) := by decide +kernel
theorem d_Mo_isWithin_28 : decode b_Mo_isWithin 28 = .ok (.iconst 1, 1) := by decide +kernel
theorem d_Mo_isWithin_29 : decode b_Mo_isWithin 29 = .ok (.goto 4, 3) := by decide +kernel
theorem d_Mo_isWithin_32 : decode b_Mo_isWithin 32 = .ok (.iconst 0, 1) := by decide +kernel
theorem d_Mo_isWithin_33 : decode b_Mo_isWithin 33 = .ok (.ireturn, 1) := by decide +kernel
theorem d_Mo_point_0 : decode b_Mo_point 0 = .ok (.aload_n 0, 1) := by decide +kernel
theorem d_Mo_point_1 : decode b_Mo_point 1 = .ok (.iload_n 1, 1) := by decide +kernel
theorem d_Mo_point_2 : decode b_Mo_point 2 = .ok (.invokevirtual 204, 3) := by decide +kernel
theorem d_Mo_point_5 : decode b_Mo_point 5 = .ok (.ifCond .eq 19, 3) := by decide +kernel
theorem d_Mo_point_8 : decode b_Mo_point 8 = .ok (.iload_n 2, 1) := by decide +kernel
theorem d_Mo_point_9 : decode b_Mo_point 9 = .ok (.ifCond .lt 15, 3) := by decide +kernel
theorem d_Mo_point_12 : decode b_Mo_point 12 = .ok (.iload_n 3, 1) := by decide +kernel
theorem d_Mo_point_13 : decode b_Mo_point 13 = .ok (.i2l, 1) := by decide +kernel
theorem d_Mo_point_14 : decode b_Mo_point 14 = .ok (.lconst 0, 1) := by decide +kernel
theorem d_Mo_point_15 : decode b_Mo_point 15 = .ok (.ldc2_w 153, 3) := by decide +kernel
theorem d_Mo_point_18 : decode b_Mo_point 18 = .ok (.invokestatic 91, 3) := by decide +kernel
theorem d_Mo_point_21 : decode b_Mo_point 21 = .ok (.ifCond .ne 6, 3) := by decide +kernel
theorem d_Mo_point_24 : decode b_Mo_point 24 = .ok (.bipush (-100), 2) := by decide +kernel
theorem d_Mo_point_26 : decode b_Mo_point 26 = .ok (.ireturn, 1) := by decide +kernel
theorem d_Mo_point_27 : decode b_Mo_point 27 = .ok (.aload_n 0, 1) := by decide +kernel
theorem d_Mo_point_28 : decode b_Mo_point 28 = .ok (.iload_n 1, 1) := by decide +kernel
theorem d_Mo_point_29 : decode b_Mo_point 29 = .ok (.invokevirtual 263, 3) := by decide +kernel
theorem d_Mo_point_32 : decode b_Mo_point 32 = .ok (.iload_n 2, 1) := by decide +kernel
theorem d_Mo_point_33 : decode b_Mo_point 33 = .ok (.istore 4, 2) := by decide +kernel
theorem d_Mo_point_35 : decode b_Mo_point 35 = .ok (.iconst 0, 1) := by decide +kernel
theorem d_Mo_point_36 : decode b_Mo_point 36 = .ok (.istore 5, 2) := by decide +kernel
theorem d_Mo_point_38 : decode b_Mo_point 38 = .ok (.iload 5, 2) := by decide +kernel
theorem d_Mo_point_40 : decode b_Mo_point 40 = .ok (.sipush 3375, 3) := by decide +kernel
theorem d_Mo_point_43 : decode b_Mo_point 43 = .ok (.if_icmp .ge 65, 3) := by decide +kernel
theorem d_Mo_point_46 : decode b_Mo_point 46 = .ok (.aload_n 0, 1) := by decide +kernel
theorem d_Mo_point_47 : decode b_Mo_point 47 = .ok (.getfield 59, 3) := by decide +kernel
theorem d_Mo_point_50 : decode b_Mo_point 50 = .ok (.iload 5, 2) := by decide +kernel
theorem d_Mo_point_52 : decode b_Mo_point 52 = .ok (.baload, 1) := by decide +kernel
theorem d_Mo_point_53 : decode b_Mo_point 53 = .ok (.ifCond .eq 49, 3) := by decide +kernel
theorem d_Mo_point_56 : decode b_Mo_point 56 = .ok (.iload 4, 2) := by decide +kernel
theorem d_Mo_point_58 : decode b_Mo_point 58 = .ok (.ifCond .ne 41, 3) := by decide +kernel
theorem d_Mo_point_61 : decode b_Mo_point 61 = .ok (.iload_n 3, 1) := by decide +kernel
theorem d_Mo_point_62 : decode b_Mo_point 62 = .ok (.ifCond .ne 11, 3) := by decide +kernel
theorem d_Mo_point_65 : decode b_Mo_point 65 = .ok (.iload 5, 2) := by decide +kernel
theorem d_Mo_point_67 : decode b_Mo_point 67 = .ok (.bipush 15, 2) := by decide +kernel
theorem d_Mo_point_69 : decode b_Mo_point 69 = .ok (.irem, 1) := by decide +kernel
theorem d_Mo_point_70 : decode b_Mo_point 70 = .ok (.goto 25, 3) := by decide +kernel
theorem d_Mo_point_73 : decode b_Mo_point 73 = .ok (.iload_n 3, 1) := by decide +kernel
theorem d_Mo_point_74 : decode b_Mo_point 74 = .ok (.iconst 1, 1) := by decide +kernel
theorem d_Mo_point_75 : decode b_Mo_point 75 = .ok (.if_icmp .ne 14, 3) := by decide +kernel
theorem d_Mo_point_78 : decode b_Mo_point 78 = .ok (.iload 5, 2) := by decide +kernel
theorem d_Mo_point_80 : decode b_Mo_point 80 = .ok (.bipush 15, 2) := by decide +kernel
theorem d_Mo_point_82 : decode b_Mo_point 82 = .ok (.idiv, 1) := by decide +kernel
theorem d_Mo_point_83 : decode b_Mo_point 83 = .ok (.bipush 15, 2) := by decide +kernel
theorem d_Mo_point_85 : decode b_Mo_point 85 = .ok (.irem, 1) := by decide +kernel
theorem d_Mo_point_86 : decode b_Mo_point 86 = .ok (.goto 9, 3) := by decide +kernel
theorem d_Mo_point_89 : decode b_Mo_point 89 = .ok (.iload 5, 2) := by decide +kernel
theorem d_Mo_point_91 : decode b_Mo_point 91 = .ok (.sipush 225, 3) := by decide +kernel
theorem d_Mo_point_94 : decode b_Mo_point 94 = .ok (.idiv, 1) := by decide +kernel
theorem d_Mo_point_95 : decode b_Mo_point 95 = .ok (.bipush 7, 2) := by decide +kernel
theorem d_Mo_point_97 : decode b_Mo_point 97 = .ok (.isub, 1) := by decide +kernel
theorem d_Mo_point_98 : decode b_Mo_point 98 = .ok (.ireturn, 1) := by decide +kernel
theorem d_Mo_point_99 : decode b_Mo_point 99 = .ok (.iinc 4 (-1), 3) := by decide +kernel
theorem d_Mo_point_102 : decode b_Mo_point 102 = .ok (.iinc 5 1, 3) := by decide +kernel
theorem d_Mo_point_105 : decode b_Mo_point 105 = .ok (.goto (-67), 3) := by decide +kernel
theorem d_Mo_point_108 : decode b_Mo_point 108 = .ok (.bipush (-100), 2) := by decide +kernel
theorem d_Mo_point_110 : decode b_Mo_point 110 = .ok (.ireturn, 1) := by decide +kernel
theorem d_Mo_skin_0 : decode b_Mo_skin 0 = .ok (.aload_n 0, 1) := by decide +kernel
theorem d_Mo_skin_1 : decode b_Mo_skin 1 = .ok (.iload_n 1, 1) := by decide +kernel
theorem d_Mo_skin_2 : decode b_Mo_skin 2 = .ok (.invokevirtual 204, 3) := by decide +kernel
theorem d_Mo_skin_5 : decode b_Mo_skin 5 = .ok (.ifCond .eq 15, 3) := by decide +kernel
theorem d_Mo_skin_8 : decode b_Mo_skin 8 = .ok (.iload_n 2, 1) := by decide +kernel
theorem d_Mo_skin_9 : decode b_Mo_skin 9 = .ok (.i2l, 1) := by decide +kernel
theorem d_Mo_skin_10 : decode b_Mo_skin 10 = .ok (.lconst 0, 1) := by decide +kernel
theorem d_Mo_skin_11 : decode b_Mo_skin 11 = .ok (.ldc2_w 266, 3) := by decide +kernel
theorem d_Mo_skin_14 : decode b_Mo_skin 14 = .ok (.invokestatic 91, 3) := by decide +kernel
theorem d_Mo_skin_17 : decode b_Mo_skin 17 = .ok (.ifCond .ne 5, 3) := by decide +kernel
theorem d_Mo_skin_20 : decode b_Mo_skin 20 = .ok (.iconst (-1), 1) := by decide +kernel
theorem d_Mo_skin_21 : decode b_Mo_skin 21 = .ok (.ireturn, 1) := by decide +kernel
theorem d_Mo_skin_22 : decode b_Mo_skin 22 = .ok (.aload_n 0, 1) := by decide +kernel
theorem d_Mo_skin_23 : decode b_Mo_skin 23 = .ok (.iload_n 1, 1) := by decide +kernel
theorem d_Mo_skin_24 : decode b_Mo_skin 24 = .ok (.invokevirtual 263, 3) := by decide +kernel
theorem d_Mo_skin_27 : decode b_Mo_skin 27 = .ok (.iconst 0, 1) := by decide +kernel
theorem d_Mo_skin_28 : decode b_Mo_skin 28 = .ok (.istore_n 3, 1) := by decide +kernel
theorem d_Mo_skin_29 : decode b_Mo_skin 29 = .ok (.iload_n 3, 1) := by decide +kernel
theorem d_Mo_skin_30 : decode b_Mo_skin 30 = .ok (.sipush 12288, 3) := by decide +kernel
theorem d_Mo_skin_33 : decode b_Mo_skin 33 = .ok (.if_icmp .ge 16, 3) := by decide +kernel
theorem d_Mo_skin_36 : decode b_Mo_skin 36 = .ok (.aload_n 0, 1) := by decide +kernel
theorem d_Mo_skin_37 : decode b_Mo_skin 37 = .ok (.getfield 66, 3) := by decide +kernel
theorem d_Mo_skin_40 : decode b_Mo_skin 40 = .ok (.iload_n 3, 1) := by decide +kernel
theorem d_Mo_skin_41 : decode b_Mo_skin 41 = .ok (.iconst 0, 1) := by decide +kernel
theorem d_Mo_skin_42 : decode b_Mo_skin 42 = .ok (.iastore, 1) := by decide +kernel
theorem d_Mo_skin_43 : decode b_Mo_skin 43 = .ok (.iinc 3 1, 3) := by decide +kernel
theorem d_Mo_skin_46 : decode b_Mo_skin 46 = .ok (.goto (-17), 3) := by decide +kernel
theorem d_Mo_skin_49 : decode b_Mo_skin 49 = .ok (.iconst 0, 1) := by decide +kernel
theorem d_Mo_skin_50 : decode b_Mo_skin 50 = .ok (.istore_n 3, 1) := by decide +kernel
theorem d_Mo_skin_51 : decode b_Mo_skin 51 = .ok (.iload_n 3, 1) := by decide +kernel
theorem d_Mo_skin_52 : decode b_Mo_skin 52 = .ok (.sipush 4096, 3) := by decide +kernel
theorem d_Mo_skin_55 : decode b_Mo_skin 55 = .ok (.if_icmp .ge 16, 3) := by decide +kernel
theorem d_Mo_skin_58 : decode b_Mo_skin 58 = .ok (.aload_n 0, 1) := by decide +kernel
theorem d_Mo_skin_59 : decode b_Mo_skin 59 = .ok (.getfield 69, 3) := by decide +kernel
theorem d_Mo_skin_62 : decode b_Mo_skin 62 = .ok (.iload_n 3, 1) := by decide +kernel
theorem d_Mo_skin_63 : decode b_Mo_skin 63 = .ok (.iconst 0, 1) := by decide +kernel
theorem d_Mo_skin_64 : decode b_Mo_skin 64 = .ok (.bastore, 1) := by decide +kernel
theorem d_Mo_skin_65 : decode b_Mo_skin 65 = .ok (.iinc 3 1, 3) := by decide +kernel
theorem d_Mo_skin_68 : decode b_Mo_skin 68 = .ok (.goto (-17), 3) := by decide +kernel
theorem d_Mo_skin_71 : decode b_Mo_skin 71 = .ok (.iconst 0, 1) := by decide +kernel
theorem d_Mo_skin_72 : decode b_Mo_skin 72 = .ok (.istore_n 3, 1) := by decide +kernel
theorem d_Mo_skin_73 : decode b_Mo_skin 73 = .ok (.iconst 0, 1) := by decide +kernel
theorem d_Mo_skin_74 : decode b_Mo_skin 74 = .ok (.istore 4, 2) := by decide +kernel
theorem d_Mo_skin_76 : decode b_Mo_skin 76 = .ok (.iload 4, 2) := by decide +kernel
theorem d_Mo_skin_78 : decode b_Mo_skin 78 = .ok (.sipush 3375, 3) := by decide +kernel
theorem d_Mo_skin_81 : decode b_Mo_skin 81 = .ok (.if_icmp .ge 124, 3) := by decide +kernel
theorem d_Mo_skin_84 : decode b_Mo_skin 84 = .ok (.iconst 0, 1) := by decide +kernel
theorem d_Mo_skin_85 : decode b_Mo_skin 85 = .ok (.istore 5, 2) := by decide +kernel
theorem d_Mo_skin_87 : decode b_Mo_skin 87 = .ok (.iload 5, 2) := by decide +kernel
theorem d_Mo_skin_89 : decode b_Mo_skin 89 = .ok (.bipush 6, 2) := by decide +kernel
theorem d_Mo_skin_91 : decode b_Mo_skin 91 = .ok (.if_icmp .ge 108, 3) := by decide +kernel
theorem d_Mo_skin_94 : decode b_Mo_skin 94 = .ok (.aload_n 0, 1) := by decide +kernel
theorem d_Mo_skin_95 : decode b_Mo_skin 95 = .ok (.getfield 59, 3) := by decide +kernel
theorem d_Mo_skin_98 : decode b_Mo_skin 98 = .ok (.iload 4, 2) := by decide +kernel
theorem d_Mo_skin_100 : decode b_Mo_skin 100 = .ok (.baload, 1) := by decide +kernel
theorem d_Mo_skin_101 : decode b_Mo_skin 101 = .ok (.ifCond .eq 98, 3) := by decide +kernel
theorem d_Mo_skin_104 : decode b_Mo_skin 104 = .ok (.aload_n 0, 1) := by decide +kernel
theorem d_Mo_skin_105 : decode b_Mo_skin 105 = .ok (.iload 4, 2) := by decide +kernel
theorem d_Mo_skin_107 : decode b_Mo_skin 107 = .ok (.iload 5, 2) := by decide +kernel
theorem d_Mo_skin_109 : decode b_Mo_skin 109 = .ok (.invokevirtual 268, 3) := by decide +kernel
theorem d_Mo_skin_112 : decode b_Mo_skin 112 = .ok (.ifCond .ne 81, 3) := by decide +kernel
theorem d_Mo_skin_115 : decode b_Mo_skin 115 = .ok (.iinc 3 1, 3) := by decide +kernel
theorem d_Mo_skin_118 : decode b_Mo_skin 118 = .ok (.iload 5, 2) := by decide +kernel
theorem d_Mo_skin_120 : decode b_Mo_skin 120 = .ok (.iconst 1, 1) := by decide +kernel
theorem d_Mo_skin_121 : decode b_Mo_skin 121 = .ok (.iand, 1) := by decide +kernel
theorem d_Mo_skin_122 : decode b_Mo_skin 122 = .ok (.istore 6, 2) := by decide +kernel
theorem d_Mo_skin_124 : decode b_Mo_skin 124 = .ok (.iload 5, 2) := by decide +kernel
theorem d_Mo_skin_126 : decode b_Mo_skin 126 = .ok (.iconst 2, 1) := by decide +kernel
theorem d_Mo_skin_127 : decode b_Mo_skin 127 = .ok (.idiv, 1) := by decide +kernel
theorem d_Mo_skin_128 : decode b_Mo_skin 128 = .ok (.istore 7, 2) := by decide +kernel
theorem d_Mo_skin_130 : decode b_Mo_skin 130 = .ok (.aload_n 0, 1) := by decide +kernel
theorem d_Mo_skin_131 : decode b_Mo_skin 131 = .ok (.iload 4, 2) := by decide +kernel
theorem d_Mo_skin_133 : decode b_Mo_skin 133 = .ok (.bipush 15, 2) := by decide +kernel
theorem d_Mo_skin_135 : decode b_Mo_skin 135 = .ok (.irem, 1) := by decide +kernel
theorem d_Mo_skin_136 : decode b_Mo_skin 136 = .ok (.iload 7, 2) := by decide +kernel
theorem d_Mo_skin_138 : decode b_Mo_skin 138 = .ok (.ifCond .ne 8, 3) := by decide +kernel
theorem d_Mo_skin_141 : decode b_Mo_skin 141 = .ok (.iload 6, 2) := by decide +kernel
theorem d_Mo_skin_143 : decode b_Mo_skin 143 = .ok (.goto 4, 3) := by decide +kernel
theorem d_Mo_skin_146 : decode b_Mo_skin 146 = .ok (.iconst 0, 1) := by decide +kernel
theorem d_Mo_skin_147 : decode b_Mo_skin 147 = .ok (.iadd, 1) := by decide +kernel
theorem d_Mo_skin_148 : decode b_Mo_skin 148 = .ok (.iload 4, 2) := by decide +kernel
theorem d_Mo_skin_150 : decode b_Mo_skin 150 = .ok (.bipush 15, 2) := by decide +kernel
theorem d_Mo_skin_152 : decode b_Mo_skin 152 = .ok (.idiv, 1) := by decide +kernel
theorem d_Mo_skin_153 : decode b_Mo_skin 153 = .ok (.bipush 15, 2) := by decide +kernel
theorem d_Mo_skin_155 : decode b_Mo_skin 155 = .ok (.irem, 1) := by decide +kernel
theorem d_Mo_skin_156 : decode b_Mo_skin 156 = .ok (.iload 7, 2) := by decide +kernel
theorem d_Mo_skin_158 : decode b_Mo_skin 158 = .ok (.iconst 1, 1) := by decide +kernel
theorem d_Mo_skin_159 : decode b_Mo_skin 159 = .ok (.if_icmp .ne 8, 3) := by decide +kernel
theorem d_Mo_skin_162 : decode b_Mo_skin 162 = .ok (.iload 6, 2) := by decide +kernel
theorem d_Mo_skin_164 : decode b_Mo_skin 164 = .ok (.goto 4, 3) := by decide +kernel
theorem d_Mo_skin_167 : decode b_Mo_skin 167 = .ok (.iconst 0, 1) := by decide +kernel
theorem d_Mo_skin_168 : decode b_Mo_skin 168 = .ok (.iadd, 1) := by decide +kernel
theorem d_Mo_skin_169 : decode b_Mo_skin 169 = .ok (.iload 4, 2) := by decide +kernel
theorem d_Mo_skin_171 : decode b_Mo_skin 171 = .ok (.sipush 225, 3) := by decide +kernel
theorem d_Mo_skin_174 : decode b_Mo_skin 174 = .ok (.idiv, 1) := by decide +kernel
theorem d_Mo_skin_175 : decode b_Mo_skin 175 = .ok (.iload 7, 2) := by decide +kernel
theorem d_Mo_skin_177 : decode b_Mo_skin 177 = .ok (.iconst 2, 1) := by decide +kernel
theorem d_Mo_skin_178 : decode b_Mo_skin 178 = .ok (.if_icmp .ne 8, 3) := by decide +kernel
theorem d_Mo_skin_181 : decode b_Mo_skin 181 = .ok (.iload 6, 2) := by decide +kernel
theorem d_Mo_skin_183 : decode b_Mo_skin 183 = .ok (.goto 4, 3) := by decide +kernel
theorem d_Mo_skin_186 : decode b_Mo_skin 186 = .ok (.iconst 0, 1) := by decide +kernel
theorem d_Mo_skin_187 : decode b_Mo_skin 187 = .ok (.iadd, 1) := by decide +kernel
theorem d_Mo_skin_188 : decode b_Mo_skin 188 = .ok (.iload 7, 2) := by decide +kernel
theorem d_Mo_skin_190 : decode b_Mo_skin 190 = .ok (.invokevirtual 272, 3) := by decide +kernel
theorem d_Mo_skin_193 : decode b_Mo_skin 193 = .ok (.iinc 5 1, 3) := by decide +kernel
theorem d_Mo_skin_196 : decode b_Mo_skin 196 = .ok (.goto (-109), 3) := by decide +kernel
theorem d_Mo_skin_199 : decode b_Mo_skin 199 = .ok (.iinc 4 1, 3) := by decide +kernel
theorem d_Mo_skin_202 : decode b_Mo_skin 202 = .ok (.goto (-126), 3) := by decide +kernel
theorem d_Mo_skin_205 : decode b_Mo_skin 205 = .ok (.iconst 0, 1) := by decide +kernel
theorem d_Mo_skin_206 : decode b_Mo_skin 206 = .ok (.istore 4, 2) := by decide +kernel
theorem d_Mo_skin_208 : decode b_Mo_skin 208 = .ok (.iconst 0, 1) := by decide +kernel
theorem d_Mo_skin_209 : decode b_Mo_skin 209 = .ok (.istore 5, 2) := by decide +kernel
theorem d_Mo_skin_211 : decode b_Mo_skin 211 = .ok (.iconst 0, 1) := by decide +kernel
theorem d_Mo_skin_212 : decode b_Mo_skin 212 = .ok (.istore 6, 2) := by decide +kernel
theorem d_Mo_skin_214 : decode b_Mo_skin 214 = .ok (.iconst 0, 1) := by decide +kernel
theorem d_Mo_skin_215 : decode b_Mo_skin 215 = .ok (.istore 7, 2) := by decide +kernel
theorem d_Mo_skin_217 : decode b_Mo_skin 217 = .ok (.iload 7, 2) := by decide +kernel
theorem d_Mo_skin_219 : decode b_Mo_skin 219 = .ok (.sipush 12288, 3) := by decide +kernel
theorem d_Mo_skin_222 : decode b_Mo_skin 222 = .ok (.if_icmp .ge 50, 3) := by decide +kernel
theorem d_Mo_skin_225 : decode b_Mo_skin 225 = .ok (.iload 4, 2) := by decide +kernel
theorem d_Mo_skin_227 : decode b_Mo_skin 227 = .ok (.aload_n 0, 1) := by decide +kernel
theorem d_Mo_skin_228 : decode b_Mo_skin 228 = .ok (.getfield 66, 3) := by decide +kernel
theorem d_Mo_skin_231 : decode b_Mo_skin 231 = .ok (.iload 7, 2) := by decide +kernel
theorem d_Mo_skin_233 : decode b_Mo_skin 233 = .ok (.iaload, 1) := by decide +kernel
theorem d_Mo_skin_234 : decode b_Mo_skin 234 = .ok (.ifCond .le 7, 3) := by decide +kernel
theorem d_Mo_skin_237 : decode b_Mo_skin 237 = .ok (.iconst 1, 1) := by decide +kernel
theorem d_Mo_skin_238 : decode b_Mo_skin 238 = .ok (.goto 4, 3) := by decide +kernel
theorem d_Mo_skin_241 : decode b_Mo_skin 241 = .ok (.iconst 0, 1) := by decide +kernel
theorem d_Mo_skin_242 : decode b_Mo_skin 242 = .ok (.iadd, 1) := by decide +kernel
theorem d_Mo_skin_243 : decode b_Mo_skin 243 = .ok (.istore 4, 2) := by decide +kernel
theorem d_Mo_skin_245 : decode b_Mo_skin 245 = .ok (.iload 5, 2) := by decide +kernel
theorem d_Mo_skin_247 : decode b_Mo_skin 247 = .ok (.aload_n 0, 1) := by decide +kernel
theorem d_Mo_skin_248 : decode b_Mo_skin 248 = .ok (.getfield 66, 3) := by decide +kernel
theorem d_Mo_skin_251 : decode b_Mo_skin 251 = .ok (.iload 7, 2) := by decide +kernel
theorem d_Mo_skin_253 : decode b_Mo_skin 253 = .ok (.iaload, 1) := by decide +kernel
theorem d_Mo_skin_254 : decode b_Mo_skin 254 = .ok (.iconst 4, 1) := by decide +kernel
theorem d_Mo_skin_255 : decode b_Mo_skin 255 = .ok (.if_icmp .ne 7, 3) := by decide +kernel
theorem d_Mo_skin_258 : decode b_Mo_skin 258 = .ok (.iconst 1, 1) := by decide +kernel
theorem d_Mo_skin_259 : decode b_Mo_skin 259 = .ok (.goto 4, 3) := by decide +kernel
theorem d_Mo_skin_262 : decode b_Mo_skin 262 = .ok (.iconst 0, 1) := by decide +kernel
theorem d_Mo_skin_263 : decode b_Mo_skin 263 = .ok (.iadd, 1) := by decide +kernel
theorem d_Mo_skin_264 : decode b_Mo_skin 264 = .ok (.istore 5, 2) := by decide +kernel
theorem d_Mo_skin_266 : decode b_Mo_skin 266 = .ok (.iinc 7 1, 3) := by decide +kernel
theorem d_Mo_skin_269 : decode b_Mo_skin 269 = .ok (.goto (-52), 3) := by decide +kernel
theorem d_Mo_skin_272 : decode b_Mo_skin 272 = .ok (.iconst 0, 1) := by decide +kernel
theorem d_Mo_skin_273 : decode b_Mo_skin 273 = .ok (.istore 7, 2) := by decide +kernel
theorem d_Mo_skin_275 : decode b_Mo_skin 275 = .ok (.iload 7, 2) := by decide +kernel
theorem d_Mo_skin_277 : decode b_Mo_skin 277 = .ok (.sipush 4096, 3) := by decide +kernel
theorem d_Mo_skin_280 : decode b_Mo_skin 280 = .ok (.if_icmp .ge 29, 3) := by decide +kernel
theorem d_Mo_skin_283 : decode b_Mo_skin 283 = .ok (.iload 6, 2) := by decide +kernel
theorem d_Mo_skin_285 : decode b_Mo_skin 285 = .ok (.aload_n 0, 1) := by decide +kernel
theorem d_Mo_skin_286 : decode b_Mo_skin 286 = .ok (.getfield 69, 3) := by decide +kernel
theorem d_Mo_skin_289 : decode b_Mo_skin 289 = .ok (.iload 7, 2) := by decide +kernel
theorem d_Mo_skin_291 : decode b_Mo_skin 291 = .ok (.baload, 1) := by decide +kernel
theorem d_Mo_skin_292 : decode b_Mo_skin 292 = .ok (.ifCond .eq 7, 3) := by decide +kernel
theorem d_Mo_skin_295 : decode b_Mo_skin 295 = .ok (.iconst 1, 1) := by decide +kernel
theorem d_Mo_skin_296 : decode b_Mo_skin 296 = .ok (.goto 4, 3) := by decide +kernel
theorem d_Mo_skin_299 : decode b_Mo_skin 299 = .ok (.iconst 0, 1) := by decide +kernel
theorem d_Mo_skin_300 : decode b_Mo_skin 300 = .ok (.iadd, 1) := by decide +kernel
theorem d_Mo_skin_301 : decode b_Mo_skin 301 = .ok (.istore 6, 2) := by decide +kernel
theorem d_Mo_skin_303 : decode b_Mo_skin 303 = .ok (.iinc 7 1, 3) := by decide +kernel
theorem d_Mo_skin_306 : decode b_Mo_skin 306 = .ok (.goto (-31), 3) := by decide +kernel
theorem d_Mo_skin_309 : decode b_Mo_skin 309 = .ok (.iload_n 2, 1) := by decide +kernel
theorem d_Mo_skin_310 : decode b_Mo_skin 310 = .ok (.ifCond .ne 7, 3) := by decide +kernel
theorem d_Mo_skin_313 : decode b_Mo_skin 313 = .ok (.iload_n 3, 1) := by decide +kernel
theorem d_Mo_skin_314 : decode b_Mo_skin 314 = .ok (.goto 25, 3) := by decide +kernel
theorem d_Mo_skin_317 : decode b_Mo_skin 317 = .ok (.iload_n 2, 1) := by decide +kernel
theorem d_Mo_skin_318 : decode b_Mo_skin 318 = .ok (.iconst 1, 1) := by decide +kernel
theorem d_Mo_skin_319 : decode b_Mo_skin 319 = .ok (.if_icmp .ne 8, 3) := by decide +kernel
theorem d_Mo_skin_322 : decode b_Mo_skin 322 = .ok (.iload 4, 2) := by decide +kernel
theorem d_Mo_skin_324 : decode b_Mo_skin 324 = .ok (.goto 15, 3) := by decide +kernel
theorem d_Mo_skin_327 : decode b_Mo_skin 327 = .ok (.iload_n 2, 1) := by decide +kernel
theorem d_Mo_skin_328 : decode b_Mo_skin 328 = .ok (.iconst 2, 1) := by decide +kernel
theorem d_Mo_skin_329 : decode b_Mo_skin 329 = .ok (.if_icmp .ne 8, 3) := by decide +kernel
theorem d_Mo_skin_332 : decode b_Mo_skin 332 = .ok (.iload 6, 2) := by decide +kernel
theorem d_Mo_skin_334 : decode b_Mo_skin 334 = .ok (.goto 5, 3) := by decide +kernel
theorem d_Mo_skin_337 : decode b_Mo_skin 337 = .ok (.iload 5, 2) := by decide +kernel
theorem d_Mo_skin_339 : decode b_Mo_skin 339 = .ok (.ireturn, 1) := by decide +kernel
theorem d_Mo_hasSide_0 : decode b_Mo_hasSide 0 = .ok (.iload_n 2, 1) := by decide +kernel
theorem d_Mo_hasSide_1 : decode b_Mo_hasSide 1 = .ok (.iconst 1, 1) := by decide +kernel
theorem d_Mo_hasSide_2 : decode b_Mo_hasSide 2 = .ok (.iand, 1) := by decide +kernel
theorem d_Mo_hasSide_3 : decode b_Mo_hasSide 3 = .ok (.ifCond .ne 7, 3) := by decide +kernel
theorem d_Mo_hasSide_6 : decode b_Mo_hasSide 6 = .ok (.iconst (-1), 1) := by decide +kernel
theorem d_Mo_hasSide_7 : decode b_Mo_hasSide 7 = .ok (.goto 4, 3) := by decide +kernel
theorem d_Mo_hasSide_10 : decode b_Mo_hasSide 10 = .ok (.iconst 1, 1) := by decide +kernel
theorem d_Mo_hasSide_11 : decode b_Mo_hasSide 11 = .ok (.istore_n 3, 1) := by decide +kernel
theorem d_Mo_hasSide_12 : decode b_Mo_hasSide 12 = .ok (.iload_n 2, 1) := by decide +kernel
theorem d_Mo_hasSide_13 : decode b_Mo_hasSide 13 = .ok (.iconst 2, 1) := by decide +kernel
theorem d_Mo_hasSide_14 : decode b_Mo_hasSide 14 = .ok (.idiv, 1) := by decide +kernel
theorem d_Mo_hasSide_15 : decode b_Mo_hasSide 15 = .ok (.istore 4, 2) := by decide +kernel
theorem d_Mo_hasSide_17 : decode b_Mo_hasSide 17 = .ok (.aload_n 0, 1) := by decide +kernel
theorem d_Mo_hasSide_18 : decode b_Mo_hasSide 18 = .ok (.iload_n 1, 1) := by decide +kernel
theorem d_Mo_hasSide_19 : decode b_Mo_hasSide 19 = .ok (.bipush 15, 2) := by decide +kernel
theorem d_Mo_hasSide_21 : decode b_Mo_hasSide 21 = .ok (.irem, 1) := by decide +kernel
theorem d_Mo_hasSide_22 : decode b_Mo_hasSide 22 = .ok (.bipush 7, 2) := by decide +kernel
theorem d_Mo_hasSide_24 : decode b_Mo_hasSide 24 = .ok (.isub, 1) := by decide +kernel
theorem d_Mo_hasSide_25 : decode b_Mo_hasSide 25 = .ok (.iload 4, 2) := by decide +kernel
theorem d_Mo_hasSide_27 : decode b_Mo_hasSide 27 = .ok (.ifCond .ne 7, 3) := by decide +kernel
theorem d_Mo_hasSide_30 : decode b_Mo_hasSide 30 = .ok (.iload_n 3, 1) := by decide +kernel
theorem d_Mo_hasSide_31 : decode b_Mo_hasSide 31 = .ok (.goto 4, 3) := by decide +kernel
theorem d_Mo_hasSide_34 : decode b_Mo_hasSide 34 = .ok (.iconst 0, 1) := by decide +kernel
theorem d_Mo_hasSide_35 : decode b_Mo_hasSide 35 = .ok (.iadd, 1) := by decide +kernel
theorem d_Mo_hasSide_36 : decode b_Mo_hasSide 36 = .ok (.iload_n 1, 1) := by decide +kernel
theorem d_Mo_hasSide_37 : decode b_Mo_hasSide 37 = .ok (.bipush 15, 2) := by decide +kernel
theorem d_Mo_hasSide_39 : decode b_Mo_hasSide 39 = .ok (.idiv, 1) := by decide +kernel
theorem d_Mo_hasSide_40 : decode b_Mo_hasSide 40 = .ok (.bipush 15, 2) := by decide +kernel
theorem d_Mo_hasSide_42 : decode b_Mo_hasSide 42 = .ok (.irem, 1) := by decide +kernel
theorem d_Mo_hasSide_43 : decode b_Mo_hasSide 43 = .ok (.bipush 7, 2) := by decide +kernel
theorem d_Mo_hasSide_45 : decode b_Mo_hasSide 45 = .ok (.isub, 1) := by decide +kernel
theorem d_Mo_hasSide_46 : decode b_Mo_hasSide 46 = .ok (.iload 4, 2) := by decide +kernel
theorem d_Mo_hasSide_48 : decode b_Mo_hasSide 48 = .ok (.iconst 1, 1) := by decide +kernel
theorem d_Mo_hasSide_49 : decode b_Mo_hasSide 49 = .ok (.if_icmp .ne 7, 3) := by decide +kernel
theorem d_Mo_hasSide_52 : decode b_Mo_hasSide 52 = .ok (.iload_n 3, 1) := by decide +kernel
theorem d_Mo_hasSide_53 : decode b_Mo_hasSide 53 = .ok (.goto 4, 3) := by decide +kernel
theorem d_Mo_hasSide_56 : decode b_Mo_hasSide 56 = .ok (.iconst 0, 1) := by decide +kernel
theorem d_Mo_hasSide_57 : decode b_Mo_hasSide 57 = .ok (.iadd, 1) := by decide +kernel
theorem d_Mo_hasSide_58 : decode b_Mo_hasSide 58 = .ok (.iload_n 1, 1) := by decide +kernel
theorem d_Mo_hasSide_59 : decode b_Mo_hasSide 59 = .ok (.sipush 225, 3) := by decide +kernel
theorem d_Mo_hasSide_62 : decode b_Mo_hasSide 62 = .ok (.idiv, 1) := by decide +kernel
theorem d_Mo_hasSide_63 : decode b_Mo_hasSide 63 = .ok (.bipush 7, 2) := by decide +kernel
theorem d_Mo_hasSide_65 : decode b_Mo_hasSide 65 = .ok (.isub, 1) := by decide +kernel
theorem d_Mo_hasSide_66 : decode b_Mo_hasSide 66 = .ok (.iload 4, 2) := by decide +kernel
theorem d_Mo_hasSide_68 : decode b_Mo_hasSide 68 = .ok (.iconst 2, 1) := by decide +kernel
theorem d_Mo_hasSide_69 : decode b_Mo_hasSide 69 = .ok (.if_icmp .ne 7, 3) := by decide +kernel
theorem d_Mo_hasSide_72 : decode b_Mo_hasSide 72 = .ok (.iload_n 3, 1) := by decide +kernel
theorem d_Mo_hasSide_73 : decode b_Mo_hasSide 73 = .ok (.goto 4, 3) := by decide +kernel
theorem d_Mo_hasSide_76 : decode b_Mo_hasSide 76 = .ok (.iconst 0, 1) := by decide +kernel
theorem d_Mo_hasSide_77 : decode b_Mo_hasSide 77 = .ok (.iadd, 1) := by decide +kernel
theorem d_Mo_hasSide_78 : decode b_Mo_hasSide 78 = .ok (.invokevirtual 260, 3) := by decide +kernel
theorem d_Mo_hasSide_81 : decode b_Mo_hasSide 81 = .ok (.ireturn, 1) := by decide +kernel
theorem d_Mo_has_0 : decode b_Mo_has 0 = .ok (.iload_n 1, 1) := by decide +kernel
theorem d_Mo_has_1 : decode b_Mo_has 1 = .ok (.iload_n 2, 1) := by decide +kernel
theorem d_Mo_has_2 : decode b_Mo_has 2 = .ok (.iload_n 3, 1) := by decide +kernel
theorem d_Mo_has_3 : decode b_Mo_has 3 = .ok (.invokestatic 221, 3) := by decide +kernel
theorem d_Mo_has_6 : decode b_Mo_has 6 = .ok (.ifCond .eq 21, 3) := by decide +kernel
theorem d_Mo_has_9 : decode b_Mo_has 9 = .ok (.aload_n 0, 1) := by decide +kernel
theorem d_Mo_has_10 : decode b_Mo_has 10 = .ok (.getfield 59, 3) := by decide +kernel
theorem d_Mo_has_13 : decode b_Mo_has 13 = .ok (.iload_n 1, 1) := by decide +kernel
theorem d_Mo_has_14 : decode b_Mo_has 14 = .ok (.iload_n 2, 1) := by decide +kernel
theorem d_Mo_has_15 : decode b_Mo_has 15 = .ok (.iload_n 3, 1) := by decide +kernel
theorem d_Mo_has_16 : decode b_Mo_has 16 = .ok (.invokestatic 256, 3) := by decide +kernel
theorem d_Mo_has_19 : decode b_Mo_has 19 = .ok (.baload, 1) := by decide +kernel
theorem d_Mo_has_20 : decode b_Mo_has 20 = .ok (.ifCond .eq 7, 3) := by decide +kernel
theorem d_Mo_has_23 : decode b_Mo_has 23 = .ok (.iconst 1, 1) := by decide +kernel
theorem d_Mo_has_24 : decode b_Mo_has 24 = .ok (.goto 4, 3) := by decide +kernel
theorem d_Mo_has_27 : decode b_Mo_has 27 = .ok (.iconst 0, 1) := by decide +kernel
theorem d_Mo_has_28 : decode b_Mo_has 28 = .ok (.ireturn, 1) := by decide +kernel
theorem d_Mo_indexOf_0 : decode b_Mo_indexOf 0 = .ok (.bipush 15, 2) := by decide +kernel
theorem d_Mo_indexOf_2 : decode b_Mo_indexOf 2 = .ok (.bipush 15, 2) := by decide +kernel
theorem d_Mo_indexOf_4 : decode b_Mo_indexOf 4 = .ok (.iload_n 2, 1) := by decide +kernel
theorem d_Mo_indexOf_5 : decode b_Mo_indexOf 5 = .ok (.bipush 7, 2) := by decide +kernel
theorem d_Mo_indexOf_7 : decode b_Mo_indexOf 7 = .ok (.iadd, 1) := by decide +kernel
theorem d_Mo_indexOf_8 : decode b_Mo_indexOf 8 = .ok (.imul, 1) := by decide +kernel
theorem d_Mo_indexOf_9 : decode b_Mo_indexOf 9 = .ok (.iload_n 1, 1) := by decide +kernel
theorem d_Mo_indexOf_10 : decode b_Mo_indexOf 10 = .ok (.iadd, 1) := by decide +kernel
theorem d_Mo_indexOf_11 : decode b_Mo_indexOf 11 = .ok (.bipush 7, 2) := by decide +kernel
theorem d_Mo_indexOf_13 : decode b_Mo_indexOf 13 = .ok (.iadd, 1) := by decide +kernel
theorem d_Mo_indexOf_14 : decode b_Mo_indexOf 14 = .ok (.imul, 1) := by decide +kernel
theorem d_Mo_indexOf_15 : decode b_Mo_indexOf 15 = .ok (.iload_n 0, 1) := by decide +kernel
theorem d_Mo_indexOf_16 : decode b_Mo_indexOf 16 = .ok (.iadd, 1) := by decide +kernel
theorem d_Mo_indexOf_17 : decode b_Mo_indexOf 17 = .ok (.bipush 7, 2) := by decide +kernel
theorem d_Mo_indexOf_19 : decode b_Mo_indexOf 19 = .ok (.iadd, 1) := by decide +kernel
theorem d_Mo_indexOf_20 : decode b_Mo_indexOf 20 = .ok (.ireturn, 1) := by decide +kernel
theorem d_Mo_square_0 : decode b_Mo_square 0 = .ok (.iload 4, 2) := by decide +kernel
theorem d_Mo_square_2 : decode b_Mo_square 2 = .ok (.ifCond .ne 8, 3) := by decide +kernel
theorem d_Mo_square_5 : decode b_Mo_square 5 = .ok (.bipush 16, 2) := by decide +kernel
theorem d_Mo_square_7 : decode b_Mo_square 7 = .ok (.goto 4, 3) := by decide +kernel
theorem d_Mo_square_10 : decode b_Mo_square 10 = .ok (.iconst 1, 1) := by decide +kernel
theorem d_Mo_square_11 : decode b_Mo_square 11 = .ok (.istore 5, 2) := by decide +kernel
theorem d_Mo_square_13 : decode b_Mo_square 13 = .ok (.iload 4, 2) := by decide +kernel
theorem d_Mo_square_15 : decode b_Mo_square 15 = .ok (.iconst 2, 1) := by decide +kernel
theorem d_Mo_square_16 : decode b_Mo_square 16 = .ok (.if_icmp .ne 8, 3) := by decide +kernel
theorem d_Mo_square_19 : decode b_Mo_square 19 = .ok (.bipush 16, 2) := by decide +kernel
theorem d_Mo_square_21 : decode b_Mo_square 21 = .ok (.goto 6, 3) := by decide +kernel
theorem d_Mo_square_24 : decode b_Mo_square 24 = .ok (.sipush 256, 3) := by decide +kernel
theorem d_Mo_square_27 : decode b_Mo_square 27 = .ok (.istore 6, 2) := by decide +kernel
theorem d_Mo_square_29 : decode b_Mo_square 29 = .ok (.iload 4, 2) := by decide +kernel
theorem d_Mo_square_31 : decode b_Mo_square 31 = .ok (.ifCond .ne 7, 3) := by decide +kernel
theorem d_Mo_square_34 : decode b_Mo_square 34 = .ok (.iconst 1, 1) := by decide +kernel
theorem d_Mo_square_35 : decode b_Mo_square 35 = .ok (.goto 4, 3) := by decide +kernel
theorem d_Mo_square_38 : decode b_Mo_square 38 = .ok (.iconst 0, 1) := by decide +kernel
theorem d_Mo_square_39 : decode b_Mo_square 39 = .ok (.istore 7, 2) := by decide +kernel
theorem d_Mo_square_41 : decode b_Mo_square 41 = .ok (.iload 4, 2) := by decide +kernel
theorem d_Mo_square_43 : decode b_Mo_square 43 = .ok (.iconst 2, 1) := by decide +kernel
theorem d_Mo_square_44 : decode b_Mo_square 44 = .ok (.if_icmp .ne 7, 3) := by decide +kernel
theorem d_Mo_square_47 : decode b_Mo_square 47 = .ok (.iconst 1, 1) := by decide +kernel
theorem d_Mo_square_48 : decode b_Mo_square 48 = .ok (.goto 4, 3) := by decide +kernel
theorem d_Mo_square_51 : decode b_Mo_square 51 = .ok (.iconst 2, 1) := by decide +kernel
theorem d_Mo_square_52 : decode b_Mo_square 52 = .ok (.istore 8, 2) := by decide +kernel
theorem d_Mo_square_54 : decode b_Mo_square 54 = .ok (.sipush 256, 3) := by decide +kernel
theorem d_Mo_square_57 : decode b_Mo_square 57 = .ok (.iload_n 3, 1) := by decide +kernel
theorem d_Mo_square_58 : decode b_Mo_square 58 = .ok (.imul, 1) := by decide +kernel
theorem d_Mo_square_59 : decode b_Mo_square 59 = .ok (.bipush 16, 2) := by decide +kernel
theorem d_Mo_square_61 : decode b_Mo_square 61 = .ok (.iload_n 2, 1) := by decide +kernel
theorem d_Mo_square_62 : decode b_Mo_square 62 = .ok (.imul, 1) := by decide +kernel
theorem d_Mo_square_63 : decode b_Mo_square 63 = .ok (.iadd, 1) := by decide +kernel
theorem d_Mo_square_64 : decode b_Mo_square 64 = .ok (.iload_n 1, 1) := by decide +kernel
theorem d_Mo_square_65 : decode b_Mo_square 65 = .ok (.iadd, 1) := by decide +kernel
theorem d_Mo_square_66 : decode b_Mo_square 66 = .ok (.istore 9, 2) := by decide +kernel
theorem d_Mo_square_68 : decode b_Mo_square 68 = .ok (.aload_n 0, 1) := by decide +kernel
theorem d_Mo_square_69 : decode b_Mo_square 69 = .ok (.getfield 66, 3) := by decide +kernel
theorem d_Mo_square_72 : decode b_Mo_square 72 = .ok (.sipush 4096, 3) := by decide +kernel
theorem d_Mo_square_75 : decode b_Mo_square 75 = .ok (.iload 7, 2) := by decide +kernel
theorem d_Mo_square_77 : decode b_Mo_square 77 = .ok (.imul, 1) := by decide +kernel
theorem d_Mo_square_78 : decode b_Mo_square 78 = .ok (.iload 9, 2) := by decide +kernel
theorem d_Mo_square_80 : decode b_Mo_square 80 = .ok (.iadd, 1) := by decide +kernel
theorem d_Mo_square_81 : decode b_Mo_square 81 = .ok (.dup2, 1) := by decide +kernel
theorem d_Mo_square_82 : decode b_Mo_square 82 = .ok (.iaload, 1) := by decide +kernel
theorem d_Mo_square_83 : decode b_Mo_square 83 = .ok (.iconst 1, 1) := by decide +kernel
theorem d_Mo_square_84 : decode b_Mo_square 84 = .ok (.iadd, 1) := by decide +kernel
theorem d_Mo_square_85 : decode b_Mo_square 85 = .ok (.iastore, 1) := by decide +kernel
theorem d_Mo_square_86 : decode b_Mo_square 86 = .ok (.aload_n 0, 1) := by decide +kernel
theorem d_Mo_square_87 : decode b_Mo_square 87 = .ok (.getfield 66, 3) := by decide +kernel
theorem d_Mo_square_90 : decode b_Mo_square 90 = .ok (.sipush 4096, 3) := by decide +kernel
theorem d_Mo_square_93 : decode b_Mo_square 93 = .ok (.iload 7, 2) := by decide +kernel
theorem d_Mo_square_95 : decode b_Mo_square 95 = .ok (.imul, 1) := by decide +kernel
theorem d_Mo_square_96 : decode b_Mo_square 96 = .ok (.iload 9, 2) := by decide +kernel
theorem d_Mo_square_98 : decode b_Mo_square 98 = .ok (.iadd, 1) := by decide +kernel
theorem d_Mo_square_99 : decode b_Mo_square 99 = .ok (.iload 6, 2) := by decide +kernel
theorem d_Mo_square_101 : decode b_Mo_square 101 = .ok (.iadd, 1) := by decide +kernel
theorem d_Mo_square_102 : decode b_Mo_square 102 = .ok (.dup2, 1) := by decide +kernel
theorem d_Mo_square_103 : decode b_Mo_square 103 = .ok (.iaload, 1) := by decide +kernel
theorem d_Mo_square_104 : decode b_Mo_square 104 = .ok (.iconst 1, 1) := by decide +kernel
theorem d_Mo_square_105 : decode b_Mo_square 105 = .ok (.iadd, 1) := by decide +kernel
theorem d_Mo_square_106 : decode b_Mo_square 106 = .ok (.iastore, 1) := by decide +kernel
theorem d_Mo_square_107 : decode b_Mo_square 107 = .ok (.aload_n 0, 1) := by decide +kernel
theorem d_Mo_square_108 : decode b_Mo_square 108 = .ok (.getfield 66, 3) := by decide +kernel
theorem d_Mo_square_111 : decode b_Mo_square 111 = .ok (.sipush 4096, 3) := by decide +kernel
theorem d_Mo_square_114 : decode b_Mo_square 114 = .ok (.iload 8, 2) := by decide +kernel
theorem d_Mo_square_116 : decode b_Mo_square 116 = .ok (.imul, 1) := by decide +kernel
theorem d_Mo_square_117 : decode b_Mo_square 117 = .ok (.iload 9, 2) := by decide +kernel
theorem d_Mo_square_119 : decode b_Mo_square 119 = .ok (.iadd, 1) := by decide +kernel
theorem d_Mo_square_120 : decode b_Mo_square 120 = .ok (.dup2, 1) := by decide +kernel
theorem d_Mo_square_121 : decode b_Mo_square 121 = .ok (.iaload, 1) := by decide +kernel
theorem d_Mo_square_122 : decode b_Mo_square 122 = .ok (.iconst 1, 1) := by decide +kernel
theorem d_Mo_square_123 : decode b_Mo_square 123 = .ok (.iadd, 1) := by decide +kernel
theorem d_Mo_square_124 : decode b_Mo_square 124 = .ok (.iastore, 1) := by decide +kernel
theorem d_Mo_square_125 : decode b_Mo_square 125 = .ok (.aload_n 0, 1) := by decide +kernel
theorem d_Mo_square_126 : decode b_Mo_square 126 = .ok (.getfield 66, 3) := by decide +kernel
theorem d_Mo_square_129 : decode b_Mo_square 129 = .ok (.sipush 4096, 3) := by decide +kernel
theorem d_Mo_square_132 : decode b_Mo_square 132 = .ok (.iload 8, 2) := by decide +kernel
theorem d_Mo_square_134 : decode b_Mo_square 134 = .ok (.imul, 1) := by decide +kernel
theorem d_Mo_square_135 : decode b_Mo_square 135 = .ok (.iload 9, 2) := by decide +kernel
theorem d_Mo_square_137 : decode b_Mo_square 137 = .ok (.iadd, 1) := by decide +kernel
theorem d_Mo_square_138 : decode b_Mo_square 138 = .ok (.iload 5, 2) := by decide +kernel
theorem d_Mo_square_140 : decode b_Mo_square 140 = .ok (.iadd, 1) := by decide +kernel
theorem d_Mo_square_141 : decode b_Mo_square 141 = .ok (.dup2, 1) := by decide +kernel
theorem d_Mo_square_142 : decode b_Mo_square 142 = .ok (.iaload, 1) := by decide +kernel
theorem d_Mo_square_143 : decode b_Mo_square 143 = .ok (.iconst 1, 1) := by decide +kernel
theorem d_Mo_square_144 : decode b_Mo_square 144 = .ok (.iadd, 1) := by decide +kernel
theorem d_Mo_square_145 : decode b_Mo_square 145 = .ok (.iastore, 1) := by decide +kernel
theorem d_Mo_square_146 : decode b_Mo_square 146 = .ok (.aload_n 0, 1) := by decide +kernel
theorem d_Mo_square_147 : decode b_Mo_square 147 = .ok (.getfield 69, 3) := by decide +kernel
theorem d_Mo_square_150 : decode b_Mo_square 150 = .ok (.iload 9, 2) := by decide +kernel
theorem d_Mo_square_152 : decode b_Mo_square 152 = .ok (.iconst 1, 1) := by decide +kernel
theorem d_Mo_square_153 : decode b_Mo_square 153 = .ok (.bastore, 1) := by decide +kernel
theorem d_Mo_square_154 : decode b_Mo_square 154 = .ok (.aload_n 0, 1) := by decide +kernel
theorem d_Mo_square_155 : decode b_Mo_square 155 = .ok (.getfield 69, 3) := by decide +kernel
theorem d_Mo_square_158 : decode b_Mo_square 158 = .ok (.iload 9, 2) := by decide +kernel
theorem d_Mo_square_160 : decode b_Mo_square 160 = .ok (.iload 5, 2) := by decide +kernel
theorem d_Mo_square_162 : decode b_Mo_square 162 = .ok (.iadd, 1) := by decide +kernel
theorem d_Mo_square_163 : decode b_Mo_square 163 = .ok (.iconst 1, 1) := by decide +kernel
theorem d_Mo_square_164 : decode b_Mo_square 164 = .ok (.bastore, 1) := by decide +kernel
theorem d_Mo_square_165 : decode b_Mo_square 165 = .ok (.aload_n 0, 1) := by decide +kernel
theorem d_Mo_square_166 : decode b_Mo_square 166 = .ok (.getfield 69, 3) := by decide +kernel
theorem d_Mo_square_169 : decode b_Mo_square 169 = .ok (.iload 9, 2) := by decide +kernel
theorem d_Mo_square_171 : decode b_Mo_square 171 = .ok (.iload 6, 2) := by decide +kernel
theorem d_Mo_square_173 : decode b_Mo_square 173 = .ok (.iadd, 1) := by decide +kernel
theorem d_Mo_square_174 : decode b_Mo_square 174 = .ok (.iconst 1, 1) := by decide +kernel
theorem d_Mo_square_175 : decode b_Mo_square 175 = .ok (.bastore, 1) := by decide +kernel
theorem d_Mo_square_176 : decode b_Mo_square 176 = .ok (.aload_n 0, 1) := by decide +kernel
theorem d_Mo_square_177 : decode b_Mo_square 177 = .ok (.getfield 69, 3) := by decide +kernel
theorem d_Mo_square_180 : decode b_Mo_square 180 = .ok (.iload 9, 2) := by decide +kernel
theorem d_Mo_square_182 : decode b_Mo_square 182 = .ok (.iload 5, 2) := by decide +kernel
theorem d_Mo_square_184 : decode b_Mo_square 184 = .ok (.iadd, 1) := by decide +kernel
theorem d_Mo_square_185 : decode b_Mo_square 185 = .ok (.iload 6, 2) := by decide +kernel
theorem d_Mo_square_187 : decode b_Mo_square 187 = .ok (.iadd, 1) := by decide +kernel
theorem d_Mo_square_188 : decode b_Mo_square 188 = .ok (.iconst 1, 1) := by decide +kernel
theorem d_Mo_square_189 : decode b_Mo_square 189 = .ok (.bastore, 1) := by decide +kernel
theorem d_Mo_square_190 : decode b_Mo_square 190 = .ok (.return_, 1) := by decide +kernel
theorem d_Mo_parts_0 : decode b_Mo_parts 0 = .ok (.aload_n 0, 1) := by decide +kernel
theorem d_Mo_parts_1 : decode b_Mo_parts 1 = .ok (.iload_n 1, 1) := by decide +kernel
theorem d_Mo_parts_2 : decode b_Mo_parts 2 = .ok (.invokevirtual 204, 3) := by decide +kernel
theorem d_Mo_parts_5 : decode b_Mo_parts 5 = .ok (.ifCond .eq 15, 3) := by decide +kernel
theorem d_Mo_parts_8 : decode b_Mo_parts 8 = .ok (.iload_n 2, 1) := by decide +kernel
theorem d_Mo_parts_9 : decode b_Mo_parts 9 = .ok (.i2l, 1) := by decide +kernel
theorem d_Mo_parts_10 : decode b_Mo_parts 10 = .ok (.lconst 0, 1) := by decide +kernel
theorem d_Mo_parts_11 : decode b_Mo_parts 11 = .ok (.ldc2_w 266, 3) := by decide +kernel
theorem d_Mo_parts_14 : decode b_Mo_parts 14 = .ok (.invokestatic 91, 3) := by decide +kernel
theorem d_Mo_parts_17 : decode b_Mo_parts 17 = .ok (.ifCond .ne 5, 3) := by decide +kernel
theorem d_Mo_parts_20 : decode b_Mo_parts 20 = .ok (.iconst (-1), 1) := by decide +kernel
theorem d_Mo_parts_21 : decode b_Mo_parts 21 = .ok (.ireturn, 1) := by decide +kernel
theorem d_Mo_parts_22 : decode b_Mo_parts 22 = .ok (.aload_n 0, 1) := by decide +kernel
theorem d_Mo_parts_23 : decode b_Mo_parts 23 = .ok (.iload_n 1, 1) := by decide +kernel
theorem d_Mo_parts_24 : decode b_Mo_parts 24 = .ok (.invokevirtual 298, 3) := by decide +kernel
theorem d_Mo_parts_27 : decode b_Mo_parts 27 = .ok (.iload_n 2, 1) := by decide +kernel
theorem d_Mo_parts_28 : decode b_Mo_parts 28 = .ok (.ifCond .ne 10, 3) := by decide +kernel
theorem d_Mo_parts_31 : decode b_Mo_parts 31 = .ok (.aload_n 0, 1) := by decide +kernel
theorem d_Mo_parts_32 : decode b_Mo_parts 32 = .ok (.getfield 280, 3) := by decide +kernel
theorem d_Mo_parts_35 : decode b_Mo_parts 35 = .ok (.goto 31, 3) := by decide +kernel
theorem d_Mo_parts_38 : decode b_Mo_parts 38 = .ok (.iload_n 2, 1) := by decide +kernel
theorem d_Mo_parts_39 : decode b_Mo_parts 39 = .ok (.iconst 1, 1) := by decide +kernel
theorem d_Mo_parts_40 : decode b_Mo_parts 40 = .ok (.if_icmp .ne 10, 3) := by decide +kernel
theorem d_Mo_parts_43 : decode b_Mo_parts 43 = .ok (.aload_n 0, 1) := by decide +kernel
theorem d_Mo_parts_44 : decode b_Mo_parts 44 = .ok (.getfield 286, 3) := by decide +kernel
theorem d_Mo_parts_47 : decode b_Mo_parts 47 = .ok (.goto 19, 3) := by decide +kernel
theorem d_Mo_parts_50 : decode b_Mo_parts 50 = .ok (.iload_n 2, 1) := by decide +kernel
theorem d_Mo_parts_51 : decode b_Mo_parts 51 = .ok (.iconst 2, 1) := by decide +kernel
theorem d_Mo_parts_52 : decode b_Mo_parts 52 = .ok (.if_icmp .ne 10, 3) := by decide +kernel
theorem d_Mo_parts_55 : decode b_Mo_parts 55 = .ok (.aload_n 0, 1) := by decide +kernel
theorem d_Mo_parts_56 : decode b_Mo_parts 56 = .ok (.getfield 283, 3) := by decide +kernel
theorem d_Mo_parts_59 : decode b_Mo_parts 59 = .ok (.goto 7, 3) := by decide +kernel
theorem d_Mo_parts_62 : decode b_Mo_parts 62 = .ok (.aload_n 0, 1) := by decide +kernel
theorem d_Mo_parts_63 : decode b_Mo_parts 63 = .ok (.getfield 289, 3) := by decide +kernel
theorem d_Mo_parts_66 : decode b_Mo_parts 66 = .ok (.ireturn, 1) := by decide +kernel
theorem d_Mo_layParts_0 : decode b_Mo_layParts 0 = .ok (.aload_n 0, 1) := by decide +kernel
theorem d_Mo_layParts_1 : decode b_Mo_layParts 1 = .ok (.iload_n 1, 1) := by decide +kernel
theorem d_Mo_layParts_2 : decode b_Mo_layParts 2 = .ok (.invokevirtual 263, 3) := by decide +kernel
theorem d_Mo_layParts_5 : decode b_Mo_layParts 5 = .ok (.aload_n 0, 1) := by decide +kernel
theorem d_Mo_layParts_6 : decode b_Mo_layParts 6 = .ok (.iconst 0, 1) := by decide +kernel
theorem d_Mo_layParts_7 : decode b_Mo_layParts 7 = .ok (.putfield 280, 3) := by decide +kernel
theorem d_Mo_layParts_10 : decode b_Mo_layParts 10 = .ok (.aload_n 0, 1) := by decide +kernel
theorem d_Mo_layParts_11 : decode b_Mo_layParts 11 = .ok (.iconst 0, 1) := by decide +kernel
theorem d_Mo_layParts_12 : decode b_Mo_layParts 12 = .ok (.putfield 283, 3) := by decide +kernel
theorem d_Mo_layParts_15 : decode b_Mo_layParts 15 = .ok (.aload_n 0, 1) := by decide +kernel
theorem d_Mo_layParts_16 : decode b_Mo_layParts 16 = .ok (.iconst 0, 1) := by decide +kernel
theorem d_Mo_layParts_17 : decode b_Mo_layParts 17 = .ok (.putfield 286, 3) := by decide +kernel
theorem d_Mo_layParts_20 : decode b_Mo_layParts 20 = .ok (.aload_n 0, 1) := by decide +kernel
theorem d_Mo_layParts_21 : decode b_Mo_layParts 21 = .ok (.iconst 0, 1) := by decide +kernel
theorem d_Mo_layParts_22 : decode b_Mo_layParts 22 = .ok (.putfield 289, 3) := by decide +kernel
theorem d_Mo_layParts_25 : decode b_Mo_layParts 25 = .ok (.iconst 0, 1) := by decide +kernel
theorem d_Mo_layParts_26 : decode b_Mo_layParts 26 = .ok (.istore_n 2, 1) := by decide +kernel
theorem d_Mo_layParts_27 : decode b_Mo_layParts 27 = .ok (.iload_n 2, 1) := by decide +kernel
theorem d_Mo_layParts_28 : decode b_Mo_layParts 28 = .ok (.sipush 3375, 3) := by decide +kernel
theorem d_Mo_layParts_31 : decode b_Mo_layParts 31 = .ok (.if_icmp .ge 17, 3) := by decide +kernel
theorem d_Mo_layParts_34 : decode b_Mo_layParts 34 = .ok (.aload_n 0, 1) := by decide +kernel
theorem d_Mo_layParts_35 : decode b_Mo_layParts 35 = .ok (.getfield 72, 3) := by decide +kernel
theorem d_Mo_layParts_38 : decode b_Mo_layParts 38 = .ok (.iload_n 2, 1) := by decide +kernel
theorem d_Mo_layParts_39 : decode b_Mo_layParts 39 = .ok (.bipush (-4), 2) := by decide +kernel
theorem d_Mo_layParts_41 : decode b_Mo_layParts 41 = .ok (.iastore, 1) := by decide +kernel
theorem d_Mo_layParts_42 : decode b_Mo_layParts 42 = .ok (.iinc 2 1, 3) := by decide +kernel
theorem d_Mo_layParts_45 : decode b_Mo_layParts 45 = .ok (.goto (-18), 3) := by decide +kernel
theorem d_Mo_layParts_48 : decode b_Mo_layParts 48 = .ok (.iconst 0, 1) := by decide +kernel
theorem d_Mo_layParts_49 : decode b_Mo_layParts 49 = .ok (.istore_n 2, 1) := by decide +kernel
theorem d_Mo_layParts_50 : decode b_Mo_layParts 50 = .ok (.iload_n 2, 1) := by decide +kernel
theorem d_Mo_layParts_51 : decode b_Mo_layParts 51 = .ok (.sipush 3375, 3) := by decide +kernel
theorem d_Mo_layParts_54 : decode b_Mo_layParts 54 = .ok (.if_icmp .ge 170, 3) := by decide +kernel
theorem d_Mo_layParts_57 : decode b_Mo_layParts 57 = .ok (.aload_n 0, 1) := by decide +kernel
theorem d_Mo_layParts_58 : decode b_Mo_layParts 58 = .ok (.getfield 72, 3) := by decide +kernel
theorem d_Mo_layParts_61 : decode b_Mo_layParts 61 = .ok (.iload_n 2, 1) := by decide +kernel
theorem d_Mo_layParts_62 : decode b_Mo_layParts 62 = .ok (.iaload, 1) := by decide +kernel
theorem d_Mo_layParts_63 : decode b_Mo_layParts 63 = .ok (.bipush (-4), 2) := by decide +kernel
theorem d_Mo_layParts_65 : decode b_Mo_layParts 65 = .ok (.if_icmp .ne 153, 3) := by decide +kernel
theorem d_Mo_layParts_68 : decode b_Mo_layParts 68 = .ok (.aload_n 0, 1) := by decide +kernel
theorem d_Mo_layParts_69 : decode b_Mo_layParts 69 = .ok (.iload_n 2, 1) := by decide +kernel
theorem d_Mo_layParts_70 : decode b_Mo_layParts 70 = .ok (.aload_n 0, 1) := by decide +kernel
theorem d_Mo_layParts_71 : decode b_Mo_layParts 71 = .ok (.getfield 59, 3) := by decide +kernel
theorem d_Mo_layParts_74 : decode b_Mo_layParts 74 = .ok (.iload_n 2, 1) := by decide +kernel
theorem d_Mo_layParts_75 : decode b_Mo_layParts 75 = .ok (.baload, 1) := by decide +kernel
theorem d_Mo_layParts_76 : decode b_Mo_layParts 76 = .ok (.ifCond .eq 10, 3) := by decide +kernel
theorem d_Mo_layParts_79 : decode b_Mo_layParts 79 = .ok (.aload_n 0, 1) := by decide +kernel
theorem d_Mo_layParts_80 : decode b_Mo_layParts 80 = .ok (.getfield 280, 3) := by decide +kernel
theorem d_Mo_layParts_83 : decode b_Mo_layParts 83 = .ok (.goto 6, 3) := by decide +kernel
theorem d_Mo_layParts_86 : decode b_Mo_layParts 86 = .ok (.sipush 3375, 3) := by decide +kernel
theorem d_Mo_layParts_89 : decode b_Mo_layParts 89 = .ok (.bipush 6, 2) := by decide +kernel
theorem d_Mo_layParts_91 : decode b_Mo_layParts 91 = .ok (.invokevirtual 292, 3) := by decide +kernel
theorem d_Mo_layParts_94 : decode b_Mo_layParts 94 = .ok (.istore_n 3, 1) := by decide +kernel
theorem d_Mo_layParts_95 : decode b_Mo_layParts 95 = .ok (.aload_n 0, 1) := by decide +kernel
theorem d_Mo_layParts_96 : decode b_Mo_layParts 96 = .ok (.getfield 59, 3) := by decide +kernel
theorem d_Mo_layParts_99 : decode b_Mo_layParts 99 = .ok (.iload_n 2, 1) := by decide +kernel
theorem d_Mo_layParts_100 : decode b_Mo_layParts 100 = .ok (.baload, 1) := by decide +kernel
theorem d_Mo_layParts_101 : decode b_Mo_layParts 101 = .ok (.ifCond .eq 36, 3) := by decide +kernel
theorem d_Mo_layParts_104 : decode b_Mo_layParts 104 = .ok (.aload_n 0, 1) := by decide +kernel
theorem d_Mo_layParts_105 : decode b_Mo_layParts 105 = .ok (.dup, 1) := by decide +kernel
theorem d_Mo_layParts_106 : decode b_Mo_layParts 106 = .ok (.getfield 280, 3) := by decide +kernel
theorem d_Mo_layParts_109 : decode b_Mo_layParts 109 = .ok (.iconst 1, 1) := by decide +kernel
theorem d_Mo_layParts_110 : decode b_Mo_layParts 110 = .ok (.iadd, 1) := by decide +kernel
theorem d_Mo_layParts_111 : decode b_Mo_layParts 111 = .ok (.putfield 280, 3) := by decide +kernel
theorem d_Mo_layParts_114 : decode b_Mo_layParts 114 = .ok (.aload_n 0, 1) := by decide +kernel
theorem d_Mo_layParts_115 : decode b_Mo_layParts 115 = .ok (.iload_n 3, 1) := by decide +kernel
theorem d_Mo_layParts_116 : decode b_Mo_layParts 116 = .ok (.aload_n 0, 1) := by decide +kernel
theorem d_Mo_layParts_117 : decode b_Mo_layParts 117 = .ok (.getfield 283, 3) := by decide +kernel
theorem d_Mo_layParts_120 : decode b_Mo_layParts 120 = .ok (.if_icmp .le 7, 3) := by decide +kernel
theorem d_Mo_layParts_123 : decode b_Mo_layParts 123 = .ok (.iload_n 3, 1) := by decide +kernel
theorem d_Mo_layParts_124 : decode b_Mo_layParts 124 = .ok (.goto 7, 3) := by decide +kernel
theorem d_Mo_layParts_127 : decode b_Mo_layParts 127 = .ok (.aload_n 0, 1) := by decide +kernel
theorem d_Mo_layParts_128 : decode b_Mo_layParts 128 = .ok (.getfield 283, 3) := by decide +kernel
theorem d_Mo_layParts_131 : decode b_Mo_layParts 131 = .ok (.putfield 283, 3) := by decide +kernel
theorem d_Mo_layParts_134 : decode b_Mo_layParts 134 = .ok (.goto 84, 3) := by decide +kernel
theorem d_Mo_layParts_137 : decode b_Mo_layParts 137 = .ok (.iconst 0, 1) := by decide +kernel
theorem d_Mo_layParts_138 : decode b_Mo_layParts 138 = .ok (.istore 4, 2) := by decide +kernel
theorem d_Mo_layParts_140 : decode b_Mo_layParts 140 = .ok (.iconst 0, 1) := by decide +kernel
theorem d_Mo_layParts_141 : decode b_Mo_layParts 141 = .ok (.istore 5, 2) := by decide +kernel
theorem d_Mo_layParts_143 : decode b_Mo_layParts 143 = .ok (.iload 5, 2) := by decide +kernel
theorem d_Mo_layParts_145 : decode b_Mo_layParts 145 = .ok (.iload_n 3, 1) := by decide +kernel
theorem d_Mo_layParts_146 : decode b_Mo_layParts 146 = .ok (.if_icmp .ge 34, 3) := by decide +kernel
theorem d_Mo_layParts_149 : decode b_Mo_layParts 149 = .ok (.iload 4, 2) := by decide +kernel
theorem d_Mo_layParts_151 : decode b_Mo_layParts 151 = .ok (.ifCond .ne 16, 3) := by decide +kernel
theorem d_Mo_layParts_154 : decode b_Mo_layParts 154 = .ok (.aload_n 0, 1) := by decide +kernel
theorem d_Mo_layParts_155 : decode b_Mo_layParts 155 = .ok (.getfield 75, 3) := by decide +kernel
theorem d_Mo_layParts_158 : decode b_Mo_layParts 158 = .ok (.iload 5, 2) := by decide +kernel
theorem d_Mo_layParts_160 : decode b_Mo_layParts 160 = .ok (.iaload, 1) := by decide +kernel
theorem d_Mo_layParts_161 : decode b_Mo_layParts 161 = .ok (.invokestatic 295, 3) := by decide +kernel
theorem d_Mo_layParts_164 : decode b_Mo_layParts 164 = .ok (.ifCond .eq 7, 3) := by decide +kernel
theorem d_Mo_layParts_167 : decode b_Mo_layParts 167 = .ok (.iconst 1, 1) := by decide +kernel
theorem d_Mo_layParts_168 : decode b_Mo_layParts 168 = .ok (.goto 4, 3) := by decide +kernel
theorem d_Mo_layParts_171 : decode b_Mo_layParts 171 = .ok (.iconst 0, 1) := by decide +kernel
theorem d_Mo_layParts_172 : decode b_Mo_layParts 172 = .ok (.istore 4, 2) := by decide +kernel
theorem d_Mo_layParts_174 : decode b_Mo_layParts 174 = .ok (.iinc 5 1, 3) := by decide +kernel
theorem d_Mo_layParts_177 : decode b_Mo_layParts 177 = .ok (.goto (-34), 3) := by decide +kernel
theorem d_Mo_layParts_180 : decode b_Mo_layParts 180 = .ok (.aload_n 0, 1) := by decide +kernel
theorem d_Mo_layParts_181 : decode b_Mo_layParts 181 = .ok (.dup, 1) := by decide +kernel
theorem d_Mo_layParts_182 : decode b_Mo_layParts 182 = .ok (.getfield 286, 3) := by decide +kernel
theorem d_Mo_layParts_185 : decode b_Mo_layParts 185 = .ok (.iload 4, 2) := by decide +kernel
theorem d_Mo_layParts_187 : decode b_Mo_layParts 187 = .ok (.ifCond .eq 7, 3) := by decide +kernel
theorem d_Mo_layParts_190 : decode b_Mo_layParts 190 = .ok (.iconst 0, 1) := by decide +kernel
theorem d_Mo_layParts_191 : decode b_Mo_layParts 191 = .ok (.goto 4, 3) := by decide +kernel
theorem d_Mo_layParts_194 : decode b_Mo_layParts 194 = .ok (.iconst 1, 1) := by decide +kernel
theorem d_Mo_layParts_195 : decode b_Mo_layParts 195 = .ok (.iadd, 1) := by decide +kernel
theorem d_Mo_layParts_196 : decode b_Mo_layParts 196 = .ok (.putfield 286, 3) := by decide +kernel
theorem d_Mo_layParts_199 : decode b_Mo_layParts 199 = .ok (.aload_n 0, 1) := by decide +kernel
theorem d_Mo_layParts_200 : decode b_Mo_layParts 200 = .ok (.dup, 1) := by decide +kernel
theorem d_Mo_layParts_201 : decode b_Mo_layParts 201 = .ok (.getfield 289, 3) := by decide +kernel
theorem d_Mo_layParts_204 : decode b_Mo_layParts 204 = .ok (.iload 4, 2) := by decide +kernel
theorem d_Mo_layParts_206 : decode b_Mo_layParts 206 = .ok (.ifCond .eq 7, 3) := by decide +kernel
theorem d_Mo_layParts_209 : decode b_Mo_layParts 209 = .ok (.iconst 0, 1) := by decide +kernel
theorem d_Mo_layParts_210 : decode b_Mo_layParts 210 = .ok (.goto 4, 3) := by decide +kernel
theorem d_Mo_layParts_213 : decode b_Mo_layParts 213 = .ok (.iload_n 3, 1) := by decide +kernel
theorem d_Mo_layParts_214 : decode b_Mo_layParts 214 = .ok (.iadd, 1) := by decide +kernel
theorem d_Mo_layParts_215 : decode b_Mo_layParts 215 = .ok (.putfield 289, 3) := by decide +kernel
theorem d_Mo_layParts_218 : decode b_Mo_layParts 218 = .ok (.iinc 2 1, 3) := by decide +kernel
theorem d_Mo_layParts_221 : decode b_Mo_layParts 221 = .ok (.goto (-171), 3) := by decide +kernel
theorem d_Mo_layParts_224 : decode b_Mo_layParts 224 = .ok (.return_, 1) := by decide +kernel
theorem d_Mo_spread_0 : decode b_Mo_spread 0 = .ok (.iconst 1, 1) := by decide +kernel
theorem d_Mo_spread_1 : decode b_Mo_spread 1 = .ok (.istore 4, 2) := by decide +kernel
theorem d_Mo_spread_3 : decode b_Mo_spread 3 = .ok (.aload_n 0, 1) := by decide +kernel
theorem d_Mo_spread_4 : decode b_Mo_spread 4 = .ok (.getfield 75, 3) := by decide +kernel
theorem d_Mo_spread_7 : decode b_Mo_spread 7 = .ok (.iconst 0, 1) := by decide +kernel
theorem d_Mo_spread_8 : decode b_Mo_spread 8 = .ok (.iload_n 1, 1) := by decide +kernel
theorem d_Mo_spread_9 : decode b_Mo_spread 9 = .ok (.iastore, 1) := by decide +kernel
theorem d_Mo_spread_10 : decode b_Mo_spread 10 = .ok (.aload_n 0, 1) := by decide +kernel
theorem d_Mo_spread_11 : decode b_Mo_spread 11 = .ok (.getfield 72, 3) := by decide +kernel
theorem d_Mo_spread_14 : decode b_Mo_spread 14 = .ok (.iload_n 1, 1) := by decide +kernel
theorem d_Mo_spread_15 : decode b_Mo_spread 15 = .ok (.iload_n 2, 1) := by decide +kernel
theorem d_Mo_spread_16 : decode b_Mo_spread 16 = .ok (.iastore, 1) := by decide +kernel
theorem d_Mo_spread_17 : decode b_Mo_spread 17 = .ok (.iconst 0, 1) := by decide +kernel
theorem d_Mo_spread_18 : decode b_Mo_spread 18 = .ok (.istore 5, 2) := by decide +kernel
theorem d_Mo_spread_20 : decode b_Mo_spread 20 = .ok (.iload 5, 2) := by decide +kernel
theorem d_Mo_spread_22 : decode b_Mo_spread 22 = .ok (.iload 4, 2) := by decide +kernel
theorem d_Mo_spread_24 : decode b_Mo_spread 24 = .ok (.if_icmp .ge 93, 3) := by decide +kernel
theorem d_Mo_spread_27 : decode b_Mo_spread 27 = .ok (.iconst 0, 1) := by decide +kernel
theorem d_Mo_spread_28 : decode b_Mo_spread 28 = .ok (.istore 6, 2) := by decide +kernel
theorem d_Mo_spread_30 : decode b_Mo_spread 30 = .ok (.iload 6, 2) := by decide +kernel
theorem d_Mo_spread_32 : decode b_Mo_spread 32 = .ok (.iload_n 3, 1) := by decide +kernel
theorem d_Mo_spread_33 : decode b_Mo_spread 33 = .ok (.if_icmp .ge 78, 3) := by decide +kernel
theorem d_Mo_spread_36 : decode b_Mo_spread 36 = .ok (.aload_n 0, 1) := by decide +kernel
theorem d_Mo_spread_37 : decode b_Mo_spread 37 = .ok (.getfield 75, 3) := by decide +kernel
theorem d_Mo_spread_40 : decode b_Mo_spread 40 = .ok (.iload 5, 2) := by decide +kernel
theorem d_Mo_spread_42 : decode b_Mo_spread 42 = .ok (.iaload, 1) := by decide +kernel
theorem d_Mo_spread_43 : decode b_Mo_spread 43 = .ok (.iload 6, 2) := by decide +kernel
theorem d_Mo_spread_45 : decode b_Mo_spread 45 = .ok (.invokestatic 276, 3) := by decide +kernel
theorem d_Mo_spread_48 : decode b_Mo_spread 48 = .ok (.istore 7, 2) := by decide +kernel
theorem d_Mo_spread_50 : decode b_Mo_spread 50 = .ok (.iload 7, 2) := by decide +kernel
theorem d_Mo_spread_52 : decode b_Mo_spread 52 = .ok (.bipush (-4), 2) := by decide +kernel
theorem d_Mo_spread_54 : decode b_Mo_spread 54 = .ok (.if_icmp .eq 51, 3) := by decide +kernel
theorem d_Mo_spread_57 : decode b_Mo_spread 57 = .ok (.aload_n 0, 1) := by decide +kernel
theorem d_Mo_spread_58 : decode b_Mo_spread 58 = .ok (.getfield 72, 3) := by decide +kernel
theorem d_Mo_spread_61 : decode b_Mo_spread 61 = .ok (.iload 7, 2) := by decide +kernel
theorem d_Mo_spread_63 : decode b_Mo_spread 63 = .ok (.iaload, 1) := by decide +kernel
theorem d_Mo_spread_64 : decode b_Mo_spread 64 = .ok (.bipush (-4), 2) := by decide +kernel
theorem d_Mo_spread_66 : decode b_Mo_spread 66 = .ok (.if_icmp .ne 39, 3) := by decide +kernel
theorem d_Mo_spread_69 : decode b_Mo_spread 69 = .ok (.aload_n 0, 1) := by decide +kernel
theorem d_Mo_spread_70 : decode b_Mo_spread 70 = .ok (.getfield 59, 3) := by decide +kernel
theorem d_Mo_spread_73 : decode b_Mo_spread 73 = .ok (.iload 7, 2) := by decide +kernel
theorem d_Mo_spread_75 : decode b_Mo_spread 75 = .ok (.baload, 1) := by decide +kernel
theorem d_Mo_spread_76 : decode b_Mo_spread 76 = .ok (.aload_n 0, 1) := by decide +kernel
theorem d_Mo_spread_77 : decode b_Mo_spread 77 = .ok (.getfield 59, 3) := by decide +kernel
theorem d_Mo_spread_80 : decode b_Mo_spread 80 = .ok (.iload_n 1, 1) := by decide +kernel
theorem d_Mo_spread_81 : decode b_Mo_spread 81 = .ok (.baload, 1) := by decide +kernel
theorem d_Mo_spread_82 : decode b_Mo_spread 82 = .ok (.if_icmp .ne 23, 3) := by decide +kernel
theorem d_Mo_spread_85 : decode b_Mo_spread 85 = .ok (.aload_n 0, 1) := by decide +kernel
theorem d_Mo_spread_86 : decode b_Mo_spread 86 = .ok (.getfield 72, 3) := by decide +kernel
theorem d_Mo_spread_89 : decode b_Mo_spread 89 = .ok (.iload 7, 2) := by decide +kernel
theorem d_Mo_spread_91 : decode b_Mo_spread 91 = .ok (.iload_n 2, 1) := by decide +kernel
theorem d_Mo_spread_92 : decode b_Mo_spread 92 = .ok (.iastore, 1) := by decide +kernel
theorem d_Mo_spread_93 : decode b_Mo_spread 93 = .ok (.aload_n 0, 1) := by decide +kernel
theorem d_Mo_spread_94 : decode b_Mo_spread 94 = .ok (.getfield 75, 3) := by decide +kernel
theorem d_Mo_spread_97 : decode b_Mo_spread 97 = .ok (.iload 4, 2) := by decide +kernel
theorem d_Mo_spread_99 : decode b_Mo_spread 99 = .ok (.iload 7, 2) := by decide +kernel
theorem d_Mo_spread_101 : decode b_Mo_spread 101 = .ok (.iastore, 1) := by decide +kernel
theorem d_Mo_spread_102 : decode b_Mo_spread 102 = .ok (.iinc 4 1, 3) := by decide +kernel
theorem d_Mo_spread_105 : decode b_Mo_spread 105 = .ok (.iinc 6 1, 3) := by decide +kernel
theorem d_Mo_spread_108 : decode b_Mo_spread 108 = .ok (.goto (-78), 3) := by decide +kernel
theorem d_Mo_spread_111 : decode b_Mo_spread 111 = .ok (.iinc 5 1, 3) := by decide +kernel
theorem d_Mo_spread_114 : decode b_Mo_spread 114 = .ok (.goto (-94), 3) := by decide +kernel
theorem d_Mo_spread_117 : decode b_Mo_spread 117 = .ok (.iload 4, 2) := by decide +kernel
theorem d_Mo_spread_119 : decode b_Mo_spread 119 = .ok (.ireturn, 1) := by decide +kernel
theorem d_Mo_sideOf_0 : decode b_Mo_sideOf 0 = .ok (.iload_n 0, 1) := by decide +kernel
theorem d_Mo_sideOf_1 : decode b_Mo_sideOf 1 = .ok (.bipush 15, 2) := by decide +kernel
theorem d_Mo_sideOf_3 : decode b_Mo_sideOf 3 = .ok (.irem, 1) := by decide +kernel
theorem d_Mo_sideOf_4 : decode b_Mo_sideOf 4 = .ok (.istore_n 2, 1) := by decide +kernel
theorem d_Mo_sideOf_5 : decode b_Mo_sideOf 5 = .ok (.iload_n 0, 1) := by decide +kernel
theorem d_Mo_sideOf_6 : decode b_Mo_sideOf 6 = .ok (.bipush 15, 2) := by decide +kernel
theorem d_Mo_sideOf_8 : decode b_Mo_sideOf 8 = .ok (.idiv, 1) := by decide +kernel
theorem d_Mo_sideOf_9 : decode b_Mo_sideOf 9 = .ok (.bipush 15, 2) := by decide +kernel
theorem d_Mo_sideOf_11 : decode b_Mo_sideOf 11 = .ok (.irem, 1) := by decide +kernel
theorem d_Mo_sideOf_12 : decode b_Mo_sideOf 12 = .ok (.istore_n 3, 1) := by decide +kernel
theorem d_Mo_sideOf_13 : decode b_Mo_sideOf 13 = .ok (.iload_n 0, 1) := by decide +kernel
theorem d_Mo_sideOf_14 : decode b_Mo_sideOf 14 = .ok (.sipush 225, 3) := by decide +kernel
theorem d_Mo_sideOf_17 : decode b_Mo_sideOf 17 = .ok (.idiv, 1) := by decide +kernel
theorem d_Mo_sideOf_18 : decode b_Mo_sideOf 18 = .ok (.istore 4, 2) := by decide +kernel
theorem d_Mo_sideOf_20 : decode b_Mo_sideOf 20 = .ok (.iload_n 1, 1) := by decide +kernel
theorem d_Mo_sideOf_21 : decode b_Mo_sideOf 21 = .ok (.tableswitch 109 0 4 #[35, 48, 63, 77, 93], 35) := by decide +kernel
theorem d_Mo_sideOf_56 : decode b_Mo_sideOf 56 = .ok (.iload_n 2, 1) := by decide +kernel
theorem d_Mo_sideOf_57 : decode b_Mo_sideOf 57 = .ok (.ifCond .le 9, 3) := by decide +kernel
theorem d_Mo_sideOf_60 : decode b_Mo_sideOf 60 = .ok (.iload_n 0, 1) := by decide +kernel
theorem d_Mo_sideOf_61 : decode b_Mo_sideOf 61 = .ok (.iconst 1, 1) := by decide +kernel
theorem d_Mo_sideOf_62 : decode b_Mo_sideOf 62 = .ok (.isub, 1) := by decide +kernel
theorem d_Mo_sideOf_63 : decode b_Mo_sideOf 63 = .ok (.goto 5, 3) := by decide +kernel
theorem d_Mo_sideOf_66 : decode b_Mo_sideOf 66 = .ok (.bipush (-4), 2) := by decide +kernel
theorem d_Mo_sideOf_68 : decode b_Mo_sideOf 68 = .ok (.ireturn, 1) := by decide +kernel
theorem d_Mo_sideOf_69 : decode b_Mo_sideOf 69 = .ok (.iload_n 2, 1) := by decide +kernel
theorem d_Mo_sideOf_70 : decode b_Mo_sideOf 70 = .ok (.bipush 14, 2) := by decide +kernel
theorem d_Mo_sideOf_72 : decode b_Mo_sideOf 72 = .ok (.if_icmp .ge 9, 3) := by decide +kernel
theorem d_Mo_sideOf_75 : decode b_Mo_sideOf 75 = .ok (.iload_n 0, 1) := by decide +kernel
theorem d_Mo_sideOf_76 : decode b_Mo_sideOf 76 = .ok (.iconst 1, 1) := by decide +kernel
theorem d_Mo_sideOf_77 : decode b_Mo_sideOf 77 = .ok (.iadd, 1) := by decide +kernel
theorem d_Mo_sideOf_78 : decode b_Mo_sideOf 78 = .ok (.goto 5, 3) := by decide +kernel
theorem d_Mo_sideOf_81 : decode b_Mo_sideOf 81 = .ok (.bipush (-4), 2) := by decide +kernel
theorem d_Mo_sideOf_83 : decode b_Mo_sideOf 83 = .ok (.ireturn, 1) := by decide +kernel
theorem d_Mo_sideOf_84 : decode b_Mo_sideOf 84 = .ok (.iload_n 3, 1) := by decide +kernel
theorem d_Mo_sideOf_85 : decode b_Mo_sideOf 85 = .ok (.ifCond .le 10, 3) := by decide +kernel
theorem d_Mo_sideOf_88 : decode b_Mo_sideOf 88 = .ok (.iload_n 0, 1) := by decide +kernel
theorem d_Mo_sideOf_89 : decode b_Mo_sideOf 89 = .ok (.bipush 15, 2) := by decide +kernel
theorem d_Mo_sideOf_91 : decode b_Mo_sideOf 91 = .ok (.isub, 1) := by decide +kernel
theorem d_Mo_sideOf_92 : decode b_Mo_sideOf 92 = .ok (.goto 5, 3) := by decide +kernel
theorem d_Mo_sideOf_95 : decode b_Mo_sideOf 95 = .ok (.bipush (-4), 2) := by decide +kernel
theorem d_Mo_sideOf_97 : decode b_Mo_sideOf 97 = .ok (.ireturn, 1) := by decide +kernel
theorem d_Mo_sideOf_98 : decode b_Mo_sideOf 98 = .ok (.iload_n 3, 1) := by decide +kernel
theorem d_Mo_sideOf_99 : decode b_Mo_sideOf 99 = .ok (.bipush 14, 2) := by decide +kernel
theorem d_Mo_sideOf_101 : decode b_Mo_sideOf 101 = .ok (.if_icmp .ge 10, 3) := by decide +kernel
theorem d_Mo_sideOf_104 : decode b_Mo_sideOf 104 = .ok (.iload_n 0, 1) := by decide +kernel
theorem d_Mo_sideOf_105 : decode b_Mo_sideOf 105 = .ok (.bipush 15, 2) := by decide +kernel
theorem d_Mo_sideOf_107 : decode b_Mo_sideOf 107 = .ok (.iadd, 1) := by decide +kernel
theorem d_Mo_sideOf_108 : decode b_Mo_sideOf 108 = .ok (.goto 5, 3) := by decide +kernel
theorem d_Mo_sideOf_111 : decode b_Mo_sideOf 111 = .ok (.bipush (-4), 2) := by decide +kernel
theorem d_Mo_sideOf_113 : decode b_Mo_sideOf 113 = .ok (.ireturn, 1) := by decide +kernel
theorem d_Mo_sideOf_114 : decode b_Mo_sideOf 114 = .ok (.iload 4, 2) := by decide +kernel
theorem d_Mo_sideOf_116 : decode b_Mo_sideOf 116 = .ok (.ifCond .le 11, 3) := by decide +kernel
theorem d_Mo_sideOf_119 : decode b_Mo_sideOf 119 = .ok (.iload_n 0, 1) := by decide +kernel
theorem d_Mo_sideOf_120 : decode b_Mo_sideOf 120 = .ok (.sipush 225, 3) := by decide +kernel
theorem d_Mo_sideOf_123 : decode b_Mo_sideOf 123 = .ok (.isub, 1) := by decide +kernel
theorem d_Mo_sideOf_124 : decode b_Mo_sideOf 124 = .ok (.goto 5, 3) := by decide +kernel
theorem d_Mo_sideOf_127 : decode b_Mo_sideOf 127 = .ok (.bipush (-4), 2) := by decide +kernel
theorem d_Mo_sideOf_129 : decode b_Mo_sideOf 129 = .ok (.ireturn, 1) := by decide +kernel
theorem d_Mo_sideOf_130 : decode b_Mo_sideOf 130 = .ok (.iload 4, 2) := by decide +kernel
theorem d_Mo_sideOf_132 : decode b_Mo_sideOf 132 = .ok (.bipush 14, 2) := by decide +kernel
theorem d_Mo_sideOf_134 : decode b_Mo_sideOf 134 = .ok (.if_icmp .ge 11, 3) := by decide +kernel
theorem d_Mo_sideOf_137 : decode b_Mo_sideOf 137 = .ok (.iload_n 0, 1) := by decide +kernel
theorem d_Mo_sideOf_138 : decode b_Mo_sideOf 138 = .ok (.sipush 225, 3) := by decide +kernel
theorem d_Mo_sideOf_141 : decode b_Mo_sideOf 141 = .ok (.iadd, 1) := by decide +kernel
theorem d_Mo_sideOf_142 : decode b_Mo_sideOf 142 = .ok (.goto 5, 3) := by decide +kernel
theorem d_Mo_sideOf_145 : decode b_Mo_sideOf 145 = .ok (.bipush (-4), 2) := by decide +kernel
theorem d_Mo_sideOf_147 : decode b_Mo_sideOf 147 = .ok (.ireturn, 1) := by decide +kernel
theorem d_Mo_isEnd_0 : decode b_Mo_isEnd 0 = .ok (.iload_n 0, 1) := by decide +kernel
theorem d_Mo_isEnd_1 : decode b_Mo_isEnd 1 = .ok (.bipush 15, 2) := by decide +kernel
theorem d_Mo_isEnd_3 : decode b_Mo_isEnd 3 = .ok (.irem, 1) := by decide +kernel
theorem d_Mo_isEnd_4 : decode b_Mo_isEnd 4 = .ok (.istore_n 1, 1) := by decide +kernel
theorem d_Mo_isEnd_5 : decode b_Mo_isEnd 5 = .ok (.iload_n 0, 1) := by decide +kernel
theorem d_Mo_isEnd_6 : decode b_Mo_isEnd 6 = .ok (.bipush 15, 2) := by decide +kernel
theorem d_Mo_isEnd_8 : decode b_Mo_isEnd 8 = .ok (.idiv, 1) := by decide +kernel
theorem d_Mo_isEnd_9 : decode b_Mo_isEnd 9 = .ok (.bipush 15, 2) := by decide +kernel
theorem d_Mo_isEnd_11 : decode b_Mo_isEnd 11 = .ok (.irem, 1) := by decide +kernel
theorem d_Mo_isEnd_12 : decode b_Mo_isEnd 12 = .ok (.istore_n 2, 1) := by decide +kernel
theorem d_Mo_isEnd_13 : decode b_Mo_isEnd 13 = .ok (.iload_n 0, 1) := by decide +kernel
theorem d_Mo_isEnd_14 : decode b_Mo_isEnd 14 = .ok (.sipush 225, 3) := by decide +kernel
theorem d_Mo_isEnd_17 : decode b_Mo_isEnd 17 = .ok (.idiv, 1) := by decide +kernel
theorem d_Mo_isEnd_18 : decode b_Mo_isEnd 18 = .ok (.istore_n 3, 1) := by decide +kernel
theorem d_Mo_isEnd_19 : decode b_Mo_isEnd 19 = .ok (.iload_n 1, 1) := by decide +kernel
theorem d_Mo_isEnd_20 : decode b_Mo_isEnd 20 = .ok (.ifCond .eq 29, 3) := by decide +kernel
theorem d_Mo_isEnd_23 : decode b_Mo_isEnd 23 = .ok (.iload_n 1, 1) := by decide +kernel
theorem d_Mo_isEnd_24 : decode b_Mo_isEnd 24 = .ok (.bipush 14, 2) := by decide +kernel
theorem d_Mo_isEnd_26 : decode b_Mo_isEnd 26 = .ok (.if_icmp .eq 23, 3) := by decide +kernel
theorem d_Mo_isEnd_29 : decode b_Mo_isEnd 29 = .ok (.iload_n 2, 1) := by decide +kernel
theorem d_Mo_isEnd_30 : decode b_Mo_isEnd 30 = .ok (.ifCond .eq 19, 3) := by decide +kernel
theorem d_Mo_isEnd_33 : decode b_Mo_isEnd 33 = .ok (.iload_n 2, 1) := by decide +kernel
theorem d_Mo_isEnd_34 : decode b_Mo_isEnd 34 = .ok (.bipush 14, 2) := by decide +kernel
theorem d_Mo_isEnd_36 : decode b_Mo_isEnd 36 = .ok (.if_icmp .eq 13, 3) := by decide +kernel
theorem d_Mo_isEnd_39 : decode b_Mo_isEnd 39 = .ok (.iload_n 3, 1) := by decide +kernel
theorem d_Mo_isEnd_40 : decode b_Mo_isEnd 40 = .ok (.ifCond .eq 9, 3) := by decide +kernel
theorem d_Mo_isEnd_43 : decode b_Mo_isEnd 43 = .ok (.iload_n 3, 1) := by decide +kernel
theorem d_Mo_isEnd_44 : decode b_Mo_isEnd 44 = .ok (.bipush 14, 2) := by decide +kernel
theorem d_Mo_isEnd_46 : decode b_Mo_isEnd 46 = .ok (.if_icmp .ne 7, 3) := by decide +kernel
theorem d_Mo_isEnd_49 : decode b_Mo_isEnd 49 = .ok (.iconst 1, 1) := by decide +kernel
theorem d_Mo_isEnd_50 : decode b_Mo_isEnd 50 = .ok (.goto 4, 3) := by decide +kernel
theorem d_Mo_isEnd_53 : decode b_Mo_isEnd 53 = .ok (.iconst 0, 1) := by decide +kernel
theorem d_Mo_isEnd_54 : decode b_Mo_isEnd 54 = .ok (.ireturn, 1) := by decide +kernel
theorem d_Mo_part_0 : decode b_Mo_part 0 = .ok (.aload_n 0, 1) := by decide +kernel
theorem d_Mo_part_1 : decode b_Mo_part 1 = .ok (.iload_n 1, 1) := by decide +kernel
theorem d_Mo_part_2 : decode b_Mo_part 2 = .ok (.invokevirtual 204, 3) := by decide +kernel
theorem d_Mo_part_5 : decode b_Mo_part 5 = .ok (.ifCond .eq 13, 3) := by decide +kernel
theorem d_Mo_part_8 : decode b_Mo_part 8 = .ok (.iload_n 2, 1) := by decide +kernel
theorem d_Mo_part_9 : decode b_Mo_part 9 = .ok (.iload_n 3, 1) := by decide +kernel
theorem d_Mo_part_10 : decode b_Mo_part 10 = .ok (.iload 4, 2) := by decide +kernel
theorem d_Mo_part_12 : decode b_Mo_part 12 = .ok (.invokestatic 221, 3) := by decide +kernel
theorem d_Mo_part_15 : decode b_Mo_part 15 = .ok (.ifCond .ne 5, 3) := by decide +kernel
theorem d_Mo_part_18 : decode b_Mo_part 18 = .ok (.iconst (-1), 1) := by decide +kernel
theorem d_Mo_part_19 : decode b_Mo_part 19 = .ok (.ireturn, 1) := by decide +kernel
theorem d_Mo_part_20 : decode b_Mo_part 20 = .ok (.aload_n 0, 1) := by decide +kernel
theorem d_Mo_part_21 : decode b_Mo_part 21 = .ok (.iload_n 1, 1) := by decide +kernel
theorem d_Mo_part_22 : decode b_Mo_part 22 = .ok (.invokevirtual 298, 3) := by decide +kernel
theorem d_Mo_part_25 : decode b_Mo_part 25 = .ok (.iload_n 2, 1) := by decide +kernel
theorem d_Mo_part_26 : decode b_Mo_part 26 = .ok (.iload_n 3, 1) := by decide +kernel
theorem d_Mo_part_27 : decode b_Mo_part 27 = .ok (.iload 4, 2) := by decide +kernel
theorem d_Mo_part_29 : decode b_Mo_part 29 = .ok (.invokestatic 256, 3) := by decide +kernel
theorem d_Mo_part_32 : decode b_Mo_part 32 = .ok (.istore 5, 2) := by decide +kernel
theorem d_Mo_part_34 : decode b_Mo_part 34 = .ok (.aload_n 0, 1) := by decide +kernel
theorem d_Mo_part_35 : decode b_Mo_part 35 = .ok (.getfield 59, 3) := by decide +kernel
theorem d_Mo_part_38 : decode b_Mo_part 38 = .ok (.iload 5, 2) := by decide +kernel
theorem d_Mo_part_40 : decode b_Mo_part 40 = .ok (.baload, 1) := by decide +kernel
theorem d_Mo_part_41 : decode b_Mo_part 41 = .ok (.ifCond .eq 13, 3) := by decide +kernel
theorem d_Mo_part_44 : decode b_Mo_part 44 = .ok (.aload_n 0, 1) := by decide +kernel
theorem d_Mo_part_45 : decode b_Mo_part 45 = .ok (.getfield 72, 3) := by decide +kernel
theorem d_Mo_part_48 : decode b_Mo_part 48 = .ok (.iload 5, 2) := by decide +kernel
theorem d_Mo_part_50 : decode b_Mo_part 50 = .ok (.iaload, 1) := by decide +kernel
theorem d_Mo_part_51 : decode b_Mo_part 51 = .ok (.goto 5, 3) := by decide +kernel
theorem d_Mo_part_54 : decode b_Mo_part 54 = .ok (.bipush (-4), 2) := by decide +kernel
theorem d_Mo_part_56 : decode b_Mo_part 56 = .ok (.ireturn, 1) := by decide +kernel
theorem d_Mo_slice_0 : decode b_Mo_slice 0 = .ok (.aload_n 0, 1) := by decide +kernel
theorem d_Mo_slice_1 : decode b_Mo_slice 1 = .ok (.iload_n 1, 1) := by decide +kernel
theorem d_Mo_slice_2 : decode b_Mo_slice 2 = .ok (.invokevirtual 204, 3) := by decide +kernel
theorem d_Mo_slice_5 : decode b_Mo_slice 5 = .ok (.ifCond .eq 29, 3) := by decide +kernel
theorem d_Mo_slice_8 : decode b_Mo_slice 8 = .ok (.iload_n 2, 1) := by decide +kernel
theorem d_Mo_slice_9 : decode b_Mo_slice 9 = .ok (.i2l, 1) := by decide +kernel
theorem d_Mo_slice_10 : decode b_Mo_slice 10 = .ok (.ldc2_w 217, 3) := by decide +kernel
theorem d_Mo_slice_13 : decode b_Mo_slice 13 = .ok (.ldc2_w 219, 3) := by decide +kernel
theorem d_Mo_slice_16 : decode b_Mo_slice 16 = .ok (.invokestatic 91, 3) := by decide +kernel
theorem d_Mo_slice_19 : decode b_Mo_slice 19 = .ok (.ifCond .eq 15, 3) := by decide +kernel
theorem d_Mo_slice_22 : decode b_Mo_slice 22 = .ok (.iload_n 3, 1) := by decide +kernel
theorem d_Mo_slice_23 : decode b_Mo_slice 23 = .ok (.i2l, 1) := by decide +kernel
theorem d_Mo_slice_24 : decode b_Mo_slice 24 = .ok (.lconst 0, 1) := by decide +kernel
theorem d_Mo_slice_25 : decode b_Mo_slice 25 = .ok (.ldc2_w 153, 3) := by decide +kernel
theorem d_Mo_slice_28 : decode b_Mo_slice 28 = .ok (.invokestatic 91, 3) := by decide +kernel
theorem d_Mo_slice_31 : decode b_Mo_slice 31 = .ok (.ifCond .ne 5, 3) := by decide +kernel
theorem d_Mo_slice_34 : decode b_Mo_slice 34 = .ok (.iconst (-1), 1) := by decide +kernel
theorem d_Mo_slice_35 : decode b_Mo_slice 35 = .ok (.ireturn, 1) := by decide +kernel
theorem d_Mo_slice_36 : decode b_Mo_slice 36 = .ok (.aload_n 0, 1) := by decide +kernel
theorem d_Mo_slice_37 : decode b_Mo_slice 37 = .ok (.iload_n 1, 1) := by decide +kernel
theorem d_Mo_slice_38 : decode b_Mo_slice 38 = .ok (.invokevirtual 263, 3) := by decide +kernel
theorem d_Mo_slice_41 : decode b_Mo_slice 41 = .ok (.bipush (-7), 2) := by decide +kernel
theorem d_Mo_slice_43 : decode b_Mo_slice 43 = .ok (.bipush (-7), 2) := by decide +kernel
theorem d_Mo_slice_45 : decode b_Mo_slice 45 = .ok (.iload_n 2, 1) := by decide +kernel
theorem d_Mo_slice_46 : decode b_Mo_slice 46 = .ok (.invokestatic 256, 3) := by decide +kernel
theorem d_Mo_slice_49 : decode b_Mo_slice 49 = .ok (.istore 4, 2) := by decide +kernel
theorem d_Mo_slice_51 : decode b_Mo_slice 51 = .ok (.iconst 0, 1) := by decide +kernel
theorem d_Mo_slice_52 : decode b_Mo_slice 52 = .ok (.istore 5, 2) := by decide +kernel
theorem d_Mo_slice_54 : decode b_Mo_slice 54 = .ok (.iconst 0, 1) := by decide +kernel
theorem d_Mo_slice_55 : decode b_Mo_slice 55 = .ok (.istore 6, 2) := by decide +kernel
theorem d_Mo_slice_57 : decode b_Mo_slice 57 = .ok (.iconst 0, 1) := by decide +kernel
theorem d_Mo_slice_58 : decode b_Mo_slice 58 = .ok (.istore 7, 2) := by decide +kernel
theorem d_Mo_slice_60 : decode b_Mo_slice 60 = .ok (.iload 4, 2) := by decide +kernel
theorem d_Mo_slice_62 : decode b_Mo_slice 62 = .ok (.istore 8, 2) := by decide +kernel
theorem d_Mo_slice_64 : decode b_Mo_slice 64 = .ok (.iload 8, 2) := by decide +kernel
theorem d_Mo_slice_66 : decode b_Mo_slice 66 = .ok (.iload 4, 2) := by decide +kernel
theorem d_Mo_slice_68 : decode b_Mo_slice 68 = .ok (.sipush 225, 3) := by decide +kernel
theorem d_Mo_slice_71 : decode b_Mo_slice 71 = .ok (.iadd, 1) := by decide +kernel
theorem d_Mo_slice_72 : decode b_Mo_slice 72 = .ok (.if_icmp .ge 18, 3) := by decide +kernel
theorem d_Mo_slice_75 : decode b_Mo_slice 75 = .ok (.aload_n 0, 1) := by decide +kernel
theorem d_Mo_slice_76 : decode b_Mo_slice 76 = .ok (.getfield 72, 3) := by decide +kernel
theorem d_Mo_slice_79 : decode b_Mo_slice 79 = .ok (.iload 8, 2) := by decide +kernel
theorem d_Mo_slice_81 : decode b_Mo_slice 81 = .ok (.bipush (-4), 2) := by decide +kernel
theorem d_Mo_slice_83 : decode b_Mo_slice 83 = .ok (.iastore, 1) := by decide +kernel
theorem d_Mo_slice_84 : decode b_Mo_slice 84 = .ok (.iinc 8 1, 3) := by decide +kernel
theorem d_Mo_slice_87 : decode b_Mo_slice 87 = .ok (.goto (-23), 3) := by decide +kernel
theorem d_Mo_slice_90 : decode b_Mo_slice 90 = .ok (.iload 4, 2) := by decide +kernel
theorem d_Mo_slice_92 : decode b_Mo_slice 92 = .ok (.istore 8, 2) := by decide +kernel
theorem d_Mo_slice_94 : decode b_Mo_slice 94 = .ok (.iload 8, 2) := by decide +kernel
theorem d_Mo_slice_96 : decode b_Mo_slice 96 = .ok (.iload 4, 2) := by decide +kernel
theorem d_Mo_slice_98 : decode b_Mo_slice 98 = .ok (.sipush 225, 3) := by decide +kernel
theorem d_Mo_slice_101 : decode b_Mo_slice 101 = .ok (.iadd, 1) := by decide +kernel
theorem d_Mo_slice_102 : decode b_Mo_slice 102 = .ok (.if_icmp .ge 84, 3) := by decide +kernel
theorem d_Mo_slice_105 : decode b_Mo_slice 105 = .ok (.aload_n 0, 1) := by decide +kernel
theorem d_Mo_slice_106 : decode b_Mo_slice 106 = .ok (.getfield 59, 3) := by decide +kernel
theorem d_Mo_slice_109 : decode b_Mo_slice 109 = .ok (.iload 8, 2) := by decide +kernel
theorem d_Mo_slice_111 : decode b_Mo_slice 111 = .ok (.baload, 1) := by decide +kernel
theorem d_Mo_slice_112 : decode b_Mo_slice 112 = .ok (.ifCond .eq 68, 3) := by decide +kernel
theorem d_Mo_slice_115 : decode b_Mo_slice 115 = .ok (.iinc 5 1, 3) := by decide +kernel
theorem d_Mo_slice_118 : decode b_Mo_slice 118 = .ok (.iconst 0, 1) := by decide +kernel
theorem d_Mo_slice_119 : decode b_Mo_slice 119 = .ok (.istore 9, 2) := by decide +kernel
theorem d_Mo_slice_121 : decode b_Mo_slice 121 = .ok (.iload 9, 2) := by decide +kernel
theorem d_Mo_slice_123 : decode b_Mo_slice 123 = .ok (.iconst 4, 1) := by decide +kernel
theorem d_Mo_slice_124 : decode b_Mo_slice 124 = .ok (.if_icmp .ge 30, 3) := by decide +kernel
theorem d_Mo_slice_127 : decode b_Mo_slice 127 = .ok (.iload 6, 2) := by decide +kernel
theorem d_Mo_slice_129 : decode b_Mo_slice 129 = .ok (.aload_n 0, 1) := by decide +kernel
theorem d_Mo_slice_130 : decode b_Mo_slice 130 = .ok (.iload 8, 2) := by decide +kernel
theorem d_Mo_slice_132 : decode b_Mo_slice 132 = .ok (.iload 9, 2) := by decide +kernel
theorem d_Mo_slice_134 : decode b_Mo_slice 134 = .ok (.invokevirtual 268, 3) := by decide +kernel
theorem d_Mo_slice_137 : decode b_Mo_slice 137 = .ok (.ifCond .eq 7, 3) := by decide +kernel
theorem d_Mo_slice_140 : decode b_Mo_slice 140 = .ok (.iconst 0, 1) := by decide +kernel
theorem d_Mo_slice_141 : decode b_Mo_slice 141 = .ok (.goto 4, 3) := by decide +kernel
theorem d_Mo_slice_144 : decode b_Mo_slice 144 = .ok (.iconst 1, 1) := by decide +kernel
theorem d_Mo_slice_145 : decode b_Mo_slice 145 = .ok (.iadd, 1) := by decide +kernel
theorem d_Mo_slice_146 : decode b_Mo_slice 146 = .ok (.istore 6, 2) := by decide +kernel
theorem d_Mo_slice_148 : decode b_Mo_slice 148 = .ok (.iinc 9 1, 3) := by decide +kernel
theorem d_Mo_slice_151 : decode b_Mo_slice 151 = .ok (.goto (-30), 3) := by decide +kernel
theorem d_Mo_slice_154 : decode b_Mo_slice 154 = .ok (.aload_n 0, 1) := by decide +kernel
theorem d_Mo_slice_155 : decode b_Mo_slice 155 = .ok (.getfield 72, 3) := by decide +kernel
theorem d_Mo_slice_158 : decode b_Mo_slice 158 = .ok (.iload 8, 2) := by decide +kernel
theorem d_Mo_slice_160 : decode b_Mo_slice 160 = .ok (.iaload, 1) := by decide +kernel
theorem d_Mo_slice_161 : decode b_Mo_slice 161 = .ok (.bipush (-4), 2) := by decide +kernel
theorem d_Mo_slice_163 : decode b_Mo_slice 163 = .ok (.if_icmp .ne 17, 3) := by decide +kernel
theorem d_Mo_slice_166 : decode b_Mo_slice 166 = .ok (.aload_n 0, 1) := by decide +kernel
theorem d_Mo_slice_167 : decode b_Mo_slice 167 = .ok (.iload 8, 2) := by decide +kernel
theorem d_Mo_slice_169 : decode b_Mo_slice 169 = .ok (.iload 7, 2) := by decide +kernel
theorem d_Mo_slice_171 : decode b_Mo_slice 171 = .ok (.iconst 4, 1) := by decide +kernel
theorem d_Mo_slice_172 : decode b_Mo_slice 172 = .ok (.invokevirtual 292, 3) := by decide +kernel
theorem d_Mo_slice_175 : decode b_Mo_slice 175 = .ok (.istore 9, 2) := by decide +kernel
theorem d_Mo_slice_177 : decode b_Mo_slice 177 = .ok (.iinc 7 1, 3) := by decide +kernel
theorem d_Mo_slice_180 : decode b_Mo_slice 180 = .ok (.iinc 8 1, 3) := by decide +kernel
theorem d_Mo_slice_183 : decode b_Mo_slice 183 = .ok (.goto (-89), 3) := by decide +kernel
theorem d_Mo_slice_186 : decode b_Mo_slice 186 = .ok (.iload_n 3, 1) := by decide +kernel
theorem d_Mo_slice_187 : decode b_Mo_slice 187 = .ok (.ifCond .ne 8, 3) := by decide +kernel
theorem d_Mo_slice_190 : decode b_Mo_slice 190 = .ok (.iload 5, 2) := by decide +kernel
theorem d_Mo_slice_192 : decode b_Mo_slice 192 = .ok (.goto 15, 3) := by decide +kernel
theorem d_Mo_slice_195 : decode b_Mo_slice 195 = .ok (.iload_n 3, 1) := by decide +kernel
theorem d_Mo_slice_196 : decode b_Mo_slice 196 = .ok (.iconst 1, 1) := by decide +kernel
theorem d_Mo_slice_197 : decode b_Mo_slice 197 = .ok (.if_icmp .ne 8, 3) := by decide +kernel
theorem d_Mo_slice_200 : decode b_Mo_slice 200 = .ok (.iload 6, 2) := by decide +kernel
theorem d_Mo_slice_202 : decode b_Mo_slice 202 = .ok (.goto 5, 3) := by decide +kernel
theorem d_Mo_slice_205 : decode b_Mo_slice 205 = .ok (.iload 7, 2) := by decide +kernel
theorem d_Mo_slice_207 : decode b_Mo_slice 207 = .ok (.ireturn, 1) := by decide +kernel
theorem d_Mo_thin_0 : decode b_Mo_thin 0 = .ok (.aload_n 0, 1) := by decide +kernel
theorem d_Mo_thin_1 : decode b_Mo_thin 1 = .ok (.iload_n 1, 1) := by decide +kernel
theorem d_Mo_thin_2 : decode b_Mo_thin 2 = .ok (.invokevirtual 204, 3) := by decide +kernel
theorem d_Mo_thin_5 : decode b_Mo_thin 5 = .ok (.ifCond .eq 15, 3) := by decide +kernel
theorem d_Mo_thin_8 : decode b_Mo_thin 8 = .ok (.iload_n 2, 1) := by decide +kernel
theorem d_Mo_thin_9 : decode b_Mo_thin 9 = .ok (.i2l, 1) := by decide +kernel
theorem d_Mo_thin_10 : decode b_Mo_thin 10 = .ok (.lconst 0, 1) := by decide +kernel
theorem d_Mo_thin_11 : decode b_Mo_thin 11 = .ok (.ldc2_w 153, 3) := by decide +kernel
theorem d_Mo_thin_14 : decode b_Mo_thin 14 = .ok (.invokestatic 91, 3) := by decide +kernel
theorem d_Mo_thin_17 : decode b_Mo_thin 17 = .ok (.ifCond .ne 5, 3) := by decide +kernel
theorem d_Mo_thin_20 : decode b_Mo_thin 20 = .ok (.iconst (-1), 1) := by decide +kernel
theorem d_Mo_thin_21 : decode b_Mo_thin 21 = .ok (.ireturn, 1) := by decide +kernel
theorem d_Mo_thin_22 : decode b_Mo_thin 22 = .ok (.aload_n 0, 1) := by decide +kernel
theorem d_Mo_thin_23 : decode b_Mo_thin 23 = .ok (.iload_n 1, 1) := by decide +kernel
theorem d_Mo_thin_24 : decode b_Mo_thin 24 = .ok (.invokevirtual 263, 3) := by decide +kernel
theorem d_Mo_thin_27 : decode b_Mo_thin 27 = .ok (.iconst 0, 1) := by decide +kernel
theorem d_Mo_thin_28 : decode b_Mo_thin 28 = .ok (.istore_n 3, 1) := by decide +kernel
theorem d_Mo_thin_29 : decode b_Mo_thin 29 = .ok (.iconst 0, 1) := by decide +kernel
theorem d_Mo_thin_30 : decode b_Mo_thin 30 = .ok (.istore 4, 2) := by decide +kernel
theorem d_Mo_thin_32 : decode b_Mo_thin 32 = .ok (.iload 4, 2) := by decide +kernel
theorem d_Mo_thin_34 : decode b_Mo_thin 34 = .ok (.sipush 3375, 3) := by decide +kernel
theorem d_Mo_thin_37 : decode b_Mo_thin 37 = .ok (.if_icmp .ge 53, 3) := by decide +kernel
theorem d_Mo_thin_40 : decode b_Mo_thin 40 = .ok (.iload_n 3, 1) := by decide +kernel
theorem d_Mo_thin_41 : decode b_Mo_thin 41 = .ok (.aload_n 0, 1) := by decide +kernel
theorem d_Mo_thin_42 : decode b_Mo_thin 42 = .ok (.getfield 59, 3) := by decide +kernel
theorem d_Mo_thin_45 : decode b_Mo_thin 45 = .ok (.iload 4, 2) := by decide +kernel
theorem d_Mo_thin_47 : decode b_Mo_thin 47 = .ok (.baload, 1) := by decide +kernel
theorem d_Mo_thin_48 : decode b_Mo_thin 48 = .ok (.ifCond .eq 33, 3) := by decide +kernel
theorem d_Mo_thin_51 : decode b_Mo_thin 51 = .ok (.aload_n 0, 1) := by decide +kernel
theorem d_Mo_thin_52 : decode b_Mo_thin 52 = .ok (.iload 4, 2) := by decide +kernel
theorem d_Mo_thin_54 : decode b_Mo_thin 54 = .ok (.iconst 2, 1) := by decide +kernel
theorem d_Mo_thin_55 : decode b_Mo_thin 55 = .ok (.iload_n 2, 1) := by decide +kernel
theorem d_Mo_thin_56 : decode b_Mo_thin 56 = .ok (.imul, 1) := by decide +kernel
theorem d_Mo_thin_57 : decode b_Mo_thin 57 = .ok (.invokevirtual 268, 3) := by decide +kernel
theorem d_Mo_thin_60 : decode b_Mo_thin 60 = .ok (.ifCond .ne 21, 3) := by decide +kernel
theorem d_Mo_thin_63 : decode b_Mo_thin 63 = .ok (.aload_n 0, 1) := by decide +kernel
theorem d_Mo_thin_64 : decode b_Mo_thin 64 = .ok (.iload 4, 2) := by decide +kernel
theorem d_Mo_thin_66 : decode b_Mo_thin 66 = .ok (.iconst 2, 1) := by decide +kernel
theorem d_Mo_thin_67 : decode b_Mo_thin 67 = .ok (.iload_n 2, 1) := by decide +kernel
theorem d_Mo_thin_68 : decode b_Mo_thin 68 = .ok (.imul, 1) := by decide +kernel
theorem d_Mo_thin_69 : decode b_Mo_thin 69 = .ok (.iconst 1, 1) := by decide +kernel
theorem d_Mo_thin_70 : decode b_Mo_thin 70 = .ok (.iadd, 1) := by decide +kernel
theorem d_Mo_thin_71 : decode b_Mo_thin 71 = .ok (.invokevirtual 268, 3) := by decide +kernel
theorem d_Mo_thin_74 : decode b_Mo_thin 74 = .ok (.ifCond .ne 7, 3) := by decide +kernel
theorem d_Mo_thin_77 : decode b_Mo_thin 77 = .ok (.iconst 1, 1) := by decide +kernel
theorem d_Mo_thin_78 : decode b_Mo_thin 78 = .ok (.goto 4, 3) := by decide +kernel
theorem d_Mo_thin_81 : decode b_Mo_thin 81 = .ok (.iconst 0, 1) := by decide +kernel
theorem d_Mo_thin_82 : decode b_Mo_thin 82 = .ok (.iadd, 1) := by decide +kernel
theorem d_Mo_thin_83 : decode b_Mo_thin 83 = .ok (.istore_n 3, 1) := by decide +kernel
theorem d_Mo_thin_84 : decode b_Mo_thin 84 = .ok (.iinc 4 1, 3) := by decide +kernel
theorem d_Mo_thin_87 : decode b_Mo_thin 87 = .ok (.goto (-55), 3) := by decide +kernel
theorem d_Mo_thin_90 : decode b_Mo_thin 90 = .ok (.iload_n 3, 1) := by decide +kernel
theorem d_Mo_thin_91 : decode b_Mo_thin 91 = .ok (.ireturn, 1) := by decide +kernel
theorem d_Mo_overhang_0 : decode b_Mo_overhang 0 = .ok (.aload_n 0, 1) := by decide +kernel
theorem d_Mo_overhang_1 : decode b_Mo_overhang 1 = .ok (.iload_n 1, 1) := by decide +kernel
theorem d_Mo_overhang_2 : decode b_Mo_overhang 2 = .ok (.invokevirtual 204, 3) := by decide +kernel
theorem d_Mo_overhang_5 : decode b_Mo_overhang 5 = .ok (.ifCond .eq 17, 3) := by decide +kernel
theorem d_Mo_overhang_8 : decode b_Mo_overhang 8 = .ok (.iload_n 2, 1) := by decide +kernel
theorem d_Mo_overhang_9 : decode b_Mo_overhang 9 = .ok (.i2l, 1) := by decide +kernel
theorem d_Mo_overhang_10 : decode b_Mo_overhang 10 = .ok (.ldc2_w 217, 3) := by decide +kernel
theorem d_Mo_overhang_13 : decode b_Mo_overhang 13 = .ok (.ldc2_w 219, 3) := by decide +kernel
theorem d_Mo_overhang_16 : decode b_Mo_overhang 16 = .ok (.invokestatic 91, 3) := by decide +kernel
theorem d_Mo_overhang_19 : decode b_Mo_overhang 19 = .ok (.ifCond .ne 5, 3) := by decide +kernel
theorem d_Mo_overhang_22 : decode b_Mo_overhang 22 = .ok (.iconst (-1), 1) := by decide +kernel
theorem d_Mo_overhang_23 : decode b_Mo_overhang 23 = .ok (.ireturn, 1) := by decide +kernel
theorem d_Mo_overhang_24 : decode b_Mo_overhang 24 = .ok (.aload_n 0, 1) := by decide +kernel
theorem d_Mo_overhang_25 : decode b_Mo_overhang 25 = .ok (.iload_n 1, 1) := by decide +kernel
theorem d_Mo_overhang_26 : decode b_Mo_overhang 26 = .ok (.invokevirtual 263, 3) := by decide +kernel
theorem d_Mo_overhang_29 : decode b_Mo_overhang 29 = .ok (.iconst 0, 1) := by decide +kernel
theorem d_Mo_overhang_30 : decode b_Mo_overhang 30 = .ok (.istore_n 3, 1) := by decide +kernel
theorem d_Mo_overhang_31 : decode b_Mo_overhang 31 = .ok (.iconst 0, 1) := by decide +kernel
theorem d_Mo_overhang_32 : decode b_Mo_overhang 32 = .ok (.istore 4, 2) := by decide +kernel
theorem d_Mo_overhang_34 : decode b_Mo_overhang 34 = .ok (.iload 4, 2) := by decide +kernel
theorem d_Mo_overhang_36 : decode b_Mo_overhang 36 = .ok (.sipush 3375, 3) := by decide +kernel
theorem d_Mo_overhang_39 : decode b_Mo_overhang 39 = .ok (.if_icmp .ge 50, 3) := by decide +kernel
theorem d_Mo_overhang_42 : decode b_Mo_overhang 42 = .ok (.iload_n 3, 1) := by decide +kernel
theorem d_Mo_overhang_43 : decode b_Mo_overhang 43 = .ok (.aload_n 0, 1) := by decide +kernel
theorem d_Mo_overhang_44 : decode b_Mo_overhang 44 = .ok (.getfield 59, 3) := by decide +kernel
theorem d_Mo_overhang_47 : decode b_Mo_overhang 47 = .ok (.iload 4, 2) := by decide +kernel
theorem d_Mo_overhang_49 : decode b_Mo_overhang 49 = .ok (.baload, 1) := by decide +kernel
theorem d_Mo_overhang_50 : decode b_Mo_overhang 50 = .ok (.ifCond .eq 30, 3) := by decide +kernel
theorem d_Mo_overhang_53 : decode b_Mo_overhang 53 = .ok (.iload 4, 2) := by decide +kernel
theorem d_Mo_overhang_55 : decode b_Mo_overhang 55 = .ok (.sipush 225, 3) := by decide +kernel
theorem d_Mo_overhang_58 : decode b_Mo_overhang 58 = .ok (.idiv, 1) := by decide +kernel
theorem d_Mo_overhang_59 : decode b_Mo_overhang 59 = .ok (.bipush 7, 2) := by decide +kernel
theorem d_Mo_overhang_61 : decode b_Mo_overhang 61 = .ok (.isub, 1) := by decide +kernel
theorem d_Mo_overhang_62 : decode b_Mo_overhang 62 = .ok (.iload_n 2, 1) := by decide +kernel
theorem d_Mo_overhang_63 : decode b_Mo_overhang 63 = .ok (.if_icmp .le 17, 3) := by decide +kernel
theorem d_Mo_overhang_66 : decode b_Mo_overhang 66 = .ok (.aload_n 0, 1) := by decide +kernel
theorem d_Mo_overhang_67 : decode b_Mo_overhang 67 = .ok (.iload 4, 2) := by decide +kernel
theorem d_Mo_overhang_69 : decode b_Mo_overhang 69 = .ok (.iconst 4, 1) := by decide +kernel
theorem d_Mo_overhang_70 : decode b_Mo_overhang 70 = .ok (.invokevirtual 268, 3) := by decide +kernel
theorem d_Mo_overhang_73 : decode b_Mo_overhang 73 = .ok (.ifCond .ne 7, 3) := by decide +kernel
theorem d_Mo_overhang_76 : decode b_Mo_overhang 76 = .ok (.iconst 1, 1) := by decide +kernel
theorem d_Mo_overhang_77 : decode b_Mo_overhang 77 = .ok (.goto 4, 3) := by decide +kernel
theorem d_Mo_overhang_80 : decode b_Mo_overhang 80 = .ok (.iconst 0, 1) := by decide +kernel
theorem d_Mo_overhang_81 : decode b_Mo_overhang 81 = .ok (.iadd, 1) := by decide +kernel
theorem d_Mo_overhang_82 : decode b_Mo_overhang 82 = .ok (.istore_n 3, 1) := by decide +kernel
theorem d_Mo_overhang_83 : decode b_Mo_overhang 83 = .ok (.iinc 4 1, 3) := by decide +kernel
theorem d_Mo_overhang_86 : decode b_Mo_overhang 86 = .ok (.goto (-52), 3) := by decide +kernel
theorem d_Mo_overhang_89 : decode b_Mo_overhang 89 = .ok (.iload_n 3, 1) := by decide +kernel
theorem d_Mo_overhang_90 : decode b_Mo_overhang 90 = .ok (.ireturn, 1) := by decide +kernel
theorem d_Mo_both_0 : decode b_Mo_both 0 = .ok (.aload_n 0, 1) := by decide +kernel
theorem d_Mo_both_1 : decode b_Mo_both 1 = .ok (.iload_n 1, 1) := by decide +kernel
theorem d_Mo_both_2 : decode b_Mo_both 2 = .ok (.invokevirtual 204, 3) := by decide +kernel
theorem d_Mo_both_5 : decode b_Mo_both 5 = .ok (.ifCond .eq 23, 3) := by decide +kernel
theorem d_Mo_both_8 : decode b_Mo_both 8 = .ok (.aload_n 0, 1) := by decide +kernel
theorem d_Mo_both_9 : decode b_Mo_both 9 = .ok (.iload_n 2, 1) := by decide +kernel
theorem d_Mo_both_10 : decode b_Mo_both 10 = .ok (.invokevirtual 204, 3) := by decide +kernel
theorem d_Mo_both_13 : decode b_Mo_both 13 = .ok (.ifCond .eq 15, 3) := by decide +kernel
theorem d_Mo_both_16 : decode b_Mo_both 16 = .ok (.iload_n 3, 1) := by decide +kernel
theorem d_Mo_both_17 : decode b_Mo_both 17 = .ok (.i2l, 1) := by decide +kernel
theorem d_Mo_both_18 : decode b_Mo_both 18 = .ok (.lconst 0, 1) := by decide +kernel
theorem d_Mo_both_19 : decode b_Mo_both 19 = .ok (.ldc2_w 266, 3) := by decide +kernel
theorem d_Mo_both_22 : decode b_Mo_both 22 = .ok (.invokestatic 91, 3) := by decide +kernel
theorem d_Mo_both_25 : decode b_Mo_both 25 = .ok (.ifCond .ne 5, 3) := by decide +kernel
theorem d_Mo_both_28 : decode b_Mo_both 28 = .ok (.iconst (-1), 1) := by decide +kernel
theorem d_Mo_both_29 : decode b_Mo_both 29 = .ok (.ireturn, 1) := by decide +kernel
theorem d_Mo_both_30 : decode b_Mo_both 30 = .ok (.aload_n 0, 1) := by decide +kernel
theorem d_Mo_both_31 : decode b_Mo_both 31 = .ok (.iload_n 1, 1) := by decide +kernel
theorem d_Mo_both_32 : decode b_Mo_both 32 = .ok (.invokevirtual 263, 3) := by decide +kernel
theorem d_Mo_both_35 : decode b_Mo_both 35 = .ok (.iconst 0, 1) := by decide +kernel
theorem d_Mo_both_36 : decode b_Mo_both 36 = .ok (.istore 4, 2) := by decide +kernel
theorem d_Mo_both_38 : decode b_Mo_both 38 = .ok (.iload 4, 2) := by decide +kernel
theorem d_Mo_both_40 : decode b_Mo_both 40 = .ok (.sipush 3375, 3) := by decide +kernel
theorem d_Mo_both_43 : decode b_Mo_both 43 = .ok (.if_icmp .ge 23, 3) := by decide +kernel
theorem d_Mo_both_46 : decode b_Mo_both 46 = .ok (.aload_n 0, 1) := by decide +kernel
theorem d_Mo_both_47 : decode b_Mo_both 47 = .ok (.getfield 63, 3) := by decide +kernel
theorem d_Mo_both_50 : decode b_Mo_both 50 = .ok (.iload 4, 2) := by decide +kernel
theorem d_Mo_both_52 : decode b_Mo_both 52 = .ok (.aload_n 0, 1) := by decide +kernel
theorem d_Mo_both_53 : decode b_Mo_both 53 = .ok (.getfield 59, 3) := by decide +kernel
theorem d_Mo_both_56 : decode b_Mo_both 56 = .ok (.iload 4, 2) := by decide +kernel
theorem d_Mo_both_58 : decode b_Mo_both 58 = .ok (.baload, 1) := by decide +kernel
theorem d_Mo_both_59 : decode b_Mo_both 59 = .ok (.bastore, 1) := by decide +kernel
theorem d_Mo_both_60 : decode b_Mo_both 60 = .ok (.iinc 4 1, 3) := by decide +kernel
theorem d_Mo_both_63 : decode b_Mo_both 63 = .ok (.goto (-25), 3) := by decide +kernel
theorem d_Mo_both_66 : decode b_Mo_both 66 = .ok (.aload_n 0, 1) := by decide +kernel
theorem d_Mo_both_67 : decode b_Mo_both 67 = .ok (.iload_n 2, 1) := by decide +kernel
theorem d_Mo_both_68 : decode b_Mo_both 68 = .ok (.invokevirtual 263, 3) := by decide +kernel
theorem d_Mo_both_71 : decode b_Mo_both 71 = .ok (.iconst 0, 1) := by decide +kernel
theorem d_Mo_both_72 : decode b_Mo_both 72 = .ok (.istore 4, 2) := by decide +kernel
theorem d_Mo_both_74 : decode b_Mo_both 74 = .ok (.iconst 0, 1) := by decide +kernel
theorem d_Mo_both_75 : decode b_Mo_both 75 = .ok (.istore 5, 2) := by decide +kernel
theorem d_Mo_both_77 : decode b_Mo_both 77 = .ok (.iconst 0, 1) := by decide +kernel
theorem d_Mo_both_78 : decode b_Mo_both 78 = .ok (.istore 6, 2) := by decide +kernel
theorem d_Mo_both_80 : decode b_Mo_both 80 = .ok (.iconst 0, 1) := by decide +kernel
theorem d_Mo_both_81 : decode b_Mo_both 81 = .ok (.istore 7, 2) := by decide +kernel
theorem d_Mo_both_83 : decode b_Mo_both 83 = .ok (.iload 7, 2) := by decide +kernel
theorem d_Mo_both_85 : decode b_Mo_both 85 = .ok (.sipush 3375, 3) := by decide +kernel
theorem d_Mo_both_88 : decode b_Mo_both 88 = .ok (.if_icmp .ge 99, 3) := by decide +kernel
theorem d_Mo_both_91 : decode b_Mo_both 91 = .ok (.iload 4, 2) := by decide +kernel
theorem d_Mo_both_93 : decode b_Mo_both 93 = .ok (.aload_n 0, 1) := by decide +kernel
theorem d_Mo_both_94 : decode b_Mo_both 94 = .ok (.getfield 63, 3) := by decide +kernel
theorem d_Mo_both_97 : decode b_Mo_both 97 = .ok (.iload 7, 2) := by decide +kernel
theorem d_Mo_both_99 : decode b_Mo_both 99 = .ok (.baload, 1) := by decide +kernel
theorem d_Mo_both_100 : decode b_Mo_both 100 = .ok (.ifCond .eq 17, 3) := by decide +kernel
theorem d_Mo_both_103 : decode b_Mo_both 103 = .ok (.aload_n 0, 1) := by decide +kernel
theorem d_Mo_both_104 : decode b_Mo_both 104 = .ok (.getfield 59, 3) := by decide +kernel
theorem d_Mo_both_107 : decode b_Mo_both 107 = .ok (.iload 7, 2) := by decide +kernel
theorem d_Mo_both_109 : decode b_Mo_both 109 = .ok (.baload, 1) := by decide +kernel
theorem d_Mo_both_110 : decode b_Mo_both 110 = .ok (.ifCond .eq 7, 3) := by decide +kernel
theorem d_Mo_both_113 : decode b_Mo_both 113 = .ok (.iconst 1, 1) := by decide +kernel
theorem d_Mo_both_114 : decode b_Mo_both 114 = .ok (.goto 4, 3) := by decide +kernel
theorem d_Mo_both_117 : decode b_Mo_both 117 = .ok (.iconst 0, 1) := by decide +kernel
theorem d_Mo_both_118 : decode b_Mo_both 118 = .ok (.iadd, 1) := by decide +kernel
theorem d_Mo_both_119 : decode b_Mo_both 119 = .ok (.istore 4, 2) := by decide +kernel
theorem d_Mo_both_121 : decode b_Mo_both 121 = .ok (.iload 5, 2) := by decide +kernel
theorem d_Mo_both_123 : decode b_Mo_both 123 = .ok (.aload_n 0, 1) := by decide +kernel
theorem d_Mo_both_124 : decode b_Mo_both 124 = .ok (.getfield 63, 3) := by decide +kernel
theorem d_Mo_both_127 : decode b_Mo_both 127 = .ok (.iload 7, 2) := by decide +kernel
theorem d_Mo_both_129 : decode b_Mo_both 129 = .ok (.baload, 1) := by decide +kernel
theorem d_Mo_both_130 : decode b_Mo_both 130 = .ok (.ifCond .eq 17, 3) := by decide +kernel
theorem d_Mo_both_133 : decode b_Mo_both 133 = .ok (.aload_n 0, 1) := by decide +kernel
theorem d_Mo_both_134 : decode b_Mo_both 134 = .ok (.getfield 59, 3) := by decide +kernel
theorem d_Mo_both_137 : decode b_Mo_both 137 = .ok (.iload 7, 2) := by decide +kernel
theorem d_Mo_both_139 : decode b_Mo_both 139 = .ok (.baload, 1) := by decide +kernel
theorem d_Mo_both_140 : decode b_Mo_both 140 = .ok (.ifCond .ne 7, 3) := by decide +kernel
theorem d_Mo_both_143 : decode b_Mo_both 143 = .ok (.iconst 1, 1) := by decide +kernel
theorem d_Mo_both_144 : decode b_Mo_both 144 = .ok (.goto 4, 3) := by decide +kernel
theorem d_Mo_both_147 : decode b_Mo_both 147 = .ok (.iconst 0, 1) := by decide +kernel
theorem d_Mo_both_148 : decode b_Mo_both 148 = .ok (.iadd, 1) := by decide +kernel
theorem d_Mo_both_149 : decode b_Mo_both 149 = .ok (.istore 5, 2) := by decide +kernel
theorem d_Mo_both_151 : decode b_Mo_both 151 = .ok (.iload 6, 2) := by decide +kernel
theorem d_Mo_both_153 : decode b_Mo_both 153 = .ok (.aload_n 0, 1) := by decide +kernel
theorem d_Mo_both_154 : decode b_Mo_both 154 = .ok (.getfield 63, 3) := by decide +kernel
theorem d_Mo_both_157 : decode b_Mo_both 157 = .ok (.iload 7, 2) := by decide +kernel
theorem d_Mo_both_159 : decode b_Mo_both 159 = .ok (.baload, 1) := by decide +kernel
theorem d_Mo_both_160 : decode b_Mo_both 160 = .ok (.ifCond .ne 17, 3) := by decide +kernel
theorem d_Mo_both_163 : decode b_Mo_both 163 = .ok (.aload_n 0, 1) := by decide +kernel
theorem d_Mo_both_164 : decode b_Mo_both 164 = .ok (.getfield 59, 3) := by decide +kernel
theorem d_Mo_both_167 : decode b_Mo_both 167 = .ok (.iload 7, 2) := by decide +kernel
theorem d_Mo_both_169 : decode b_Mo_both 169 = .ok (.baload, 1) := by decide +kernel
theorem d_Mo_both_170 : decode b_Mo_both 170 = .ok (.ifCond .eq 7, 3) := by decide +kernel
theorem d_Mo_both_173 : decode b_Mo_both 173 = .ok (.iconst 1, 1) := by decide +kernel
theorem d_Mo_both_174 : decode b_Mo_both 174 = .ok (.goto 4, 3) := by decide +kernel
theorem d_Mo_both_177 : decode b_Mo_both 177 = .ok (.iconst 0, 1) := by decide +kernel
theorem d_Mo_both_178 : decode b_Mo_both 178 = .ok (.iadd, 1) := by decide +kernel
theorem d_Mo_both_179 : decode b_Mo_both 179 = .ok (.istore 6, 2) := by decide +kernel
theorem d_Mo_both_181 : decode b_Mo_both 181 = .ok (.iinc 7 1, 3) := by decide +kernel
theorem d_Mo_both_184 : decode b_Mo_both 184 = .ok (.goto (-101), 3) := by decide +kernel
theorem d_Mo_both_187 : decode b_Mo_both 187 = .ok (.iload_n 3, 1) := by decide +kernel
theorem d_Mo_both_188 : decode b_Mo_both 188 = .ok (.ifCond .ne 8, 3) := by decide +kernel
theorem d_Mo_both_191 : decode b_Mo_both 191 = .ok (.iload 4, 2) := by decide +kernel
theorem d_Mo_both_193 : decode b_Mo_both 193 = .ok (.goto 33, 3) := by decide +kernel
theorem d_Mo_both_196 : decode b_Mo_both 196 = .ok (.iload_n 3, 1) := by decide +kernel
theorem d_Mo_both_197 : decode b_Mo_both 197 = .ok (.iconst 1, 1) := by decide +kernel
theorem d_Mo_both_198 : decode b_Mo_both 198 = .ok (.if_icmp .ne 8, 3) := by decide +kernel
theorem d_Mo_both_201 : decode b_Mo_both 201 = .ok (.iload 5, 2) := by decide +kernel
theorem d_Mo_both_203 : decode b_Mo_both 203 = .ok (.goto 23, 3) := by decide +kernel
theorem d_Mo_both_206 : decode b_Mo_both 206 = .ok (.iload_n 3, 1) := by decide +kernel
theorem d_Mo_both_207 : decode b_Mo_both 207 = .ok (.iconst 2, 1) := by decide +kernel
theorem d_Mo_both_208 : decode b_Mo_both 208 = .ok (.if_icmp .ne 8, 3) := by decide +kernel
theorem d_Mo_both_211 : decode b_Mo_both 211 = .ok (.iload 6, 2) := by decide +kernel
theorem d_Mo_both_213 : decode b_Mo_both 213 = .ok (.goto 13, 3) := by decide +kernel
theorem d_Mo_both_216 : decode b_Mo_both 216 = .ok (.iload 6, 2) := by decide +kernel
theorem d_Mo_both_218 : decode b_Mo_both 218 = .ok (.ifCond .ne 7, 3) := by decide +kernel
theorem d_Mo_both_221 : decode b_Mo_both 221 = .ok (.iconst 1, 1) := by decide +kernel
theorem d_Mo_both_222 : decode b_Mo_both 222 = .ok (.goto 4, 3) := by decide +kernel
theorem d_Mo_both_225 : decode b_Mo_both 225 = .ok (.iconst 0, 1) := by decide +kernel
theorem d_Mo_both_226 : decode b_Mo_both 226 = .ok (.ireturn, 1) := by decide +kernel
theorem d_Mo_ray_0 : decode b_Mo_ray 0 = .ok (.aload_n 0, 1) := by decide +kernel
theorem d_Mo_ray_1 : decode b_Mo_ray 1 = .ok (.iload_n 1, 1) := by decide +kernel
theorem d_Mo_ray_2 : decode b_Mo_ray 2 = .ok (.invokevirtual 204, 3) := by decide +kernel
theorem d_Mo_ray_5 : decode b_Mo_ray 5 = .ok (.ifCond .eq 73, 3) := by decide +kernel
theorem d_Mo_ray_8 : decode b_Mo_ray 8 = .ok (.iload_n 2, 1) := by decide +kernel
theorem d_Mo_ray_9 : decode b_Mo_ray 9 = .ok (.iload_n 3, 1) := by decide +kernel
theorem d_Mo_ray_10 : decode b_Mo_ray 10 = .ok (.iload 4, 2) := by decide +kernel
theorem d_Mo_ray_12 : decode b_Mo_ray 12 = .ok (.invokestatic 221, 3) := by decide +kernel
theorem d_Mo_ray_15 : decode b_Mo_ray 15 = .ok (.ifCond .eq 63, 3) := by decide +kernel
theorem d_Mo_ray_18 : decode b_Mo_ray 18 = .ok (.iload 5, 2) := by decide +kernel
theorem d_Mo_ray_20 : decode b_Mo_ray 20 = .ok (.i2l, 1) := by decide +kernel
theorem d_Mo_ray_21 : decode b_Mo_ray 21 = .ok (.ldc2_w 301, 3) := by decide +kernel
theorem d_Mo_ray_24 : decode b_Mo_ray 24 = .ok (.ldc2_w 266, 3) := by decide +kernel
theorem d_Mo_ray_27 : decode b_Mo_ray 27 = .ok (.invokestatic 91, 3) := by decide +kernel
theorem d_Mo_ray_30 : decode b_Mo_ray 30 = .ok (.ifCond .eq 48, 3) := by decide +kernel
theorem d_Mo_ray_33 : decode b_Mo_ray 33 = .ok (.iload 6, 2) := by decide +kernel
theorem d_Mo_ray_35 : decode b_Mo_ray 35 = .ok (.i2l, 1) := by decide +kernel
theorem d_Mo_ray_36 : decode b_Mo_ray 36 = .ok (.ldc2_w 301, 3) := by decide +kernel
theorem d_Mo_ray_39 : decode b_Mo_ray 39 = .ok (.ldc2_w 266, 3) := by decide +kernel
theorem d_Mo_ray_42 : decode b_Mo_ray 42 = .ok (.invokestatic 91, 3) := by decide +kernel
theorem d_Mo_ray_45 : decode b_Mo_ray 45 = .ok (.ifCond .eq 33, 3) := by decide +kernel
theorem d_Mo_ray_48 : decode b_Mo_ray 48 = .ok (.iload 7, 2) := by decide +kernel
theorem d_Mo_ray_50 : decode b_Mo_ray 50 = .ok (.i2l, 1) := by decide +kernel
theorem d_Mo_ray_51 : decode b_Mo_ray 51 = .ok (.ldc2_w 301, 3) := by decide +kernel
theorem d_Mo_ray_54 : decode b_Mo_ray 54 = .ok (.ldc2_w 266, 3) := by decide +kernel
theorem d_Mo_ray_57 : decode b_Mo_ray 57 = .ok (.invokestatic 91, 3) := by decide +kernel
theorem d_Mo_ray_60 : decode b_Mo_ray 60 = .ok (.ifCond .eq 18, 3) := by decide +kernel
theorem d_Mo_ray_63 : decode b_Mo_ray 63 = .ok (.iload 5, 2) := by decide +kernel
theorem d_Mo_ray_65 : decode b_Mo_ray 65 = .ok (.ifCond .ne 15, 3) := by decide +kernel
theorem d_Mo_ray_68 : decode b_Mo_ray 68 = .ok (.iload 6, 2) := by decide +kernel
theorem d_Mo_ray_70 : decode b_Mo_ray 70 = .ok (.ifCond .ne 10, 3) := by decide +kernel
theorem d_Mo_ray_73 : decode b_Mo_ray 73 = .ok (.iload 7, 2) := by decide +kernel
theorem d_Mo_ray_75 : decode b_Mo_ray 75 = .ok (.ifCond .ne 5, 3) := by decide +kernel
theorem d_Mo_ray_78 : decode b_Mo_ray 78 = .ok (.iconst (-1), 1) := by decide +kernel
theorem d_Mo_ray_79 : decode b_Mo_ray 79 = .ok (.ireturn, 1) := by decide +kernel
theorem d_Mo_ray_80 : decode b_Mo_ray 80 = .ok (.iconst 0, 1) := by decide +kernel
theorem d_Mo_ray_81 : decode b_Mo_ray 81 = .ok (.istore 8, 2) := by decide +kernel
theorem d_Mo_ray_83 : decode b_Mo_ray 83 = .ok (.iload_n 2, 1) := by decide +kernel
theorem d_Mo_ray_84 : decode b_Mo_ray 84 = .ok (.iload 8, 2) := by decide +kernel
theorem d_Mo_ray_86 : decode b_Mo_ray 86 = .ok (.iload 5, 2) := by decide +kernel
theorem d_Mo_ray_88 : decode b_Mo_ray 88 = .ok (.imul, 1) := by decide +kernel
theorem d_Mo_ray_89 : decode b_Mo_ray 89 = .ok (.iadd, 1) := by decide +kernel
theorem d_Mo_ray_90 : decode b_Mo_ray 90 = .ok (.iload_n 3, 1) := by decide +kernel
theorem d_Mo_ray_91 : decode b_Mo_ray 91 = .ok (.iload 8, 2) := by decide +kernel
theorem d_Mo_ray_93 : decode b_Mo_ray 93 = .ok (.iload 6, 2) := by decide +kernel
theorem d_Mo_ray_95 : decode b_Mo_ray 95 = .ok (.imul, 1) := by decide +kernel
theorem d_Mo_ray_96 : decode b_Mo_ray 96 = .ok (.iadd, 1) := by decide +kernel
theorem d_Mo_ray_97 : decode b_Mo_ray 97 = .ok (.iload 4, 2) := by decide +kernel
theorem d_Mo_ray_99 : decode b_Mo_ray 99 = .ok (.iload 8, 2) := by decide +kernel
theorem d_Mo_ray_101 : decode b_Mo_ray 101 = .ok (.iload 7, 2) := by decide +kernel
theorem d_Mo_ray_103 : decode b_Mo_ray 103 = .ok (.imul, 1) := by decide +kernel
theorem d_Mo_ray_104 : decode b_Mo_ray 104 = .ok (.iadd, 1) := by decide +kernel
theorem d_Mo_ray_105 : decode b_Mo_ray 105 = .ok (.invokestatic 221, 3) := by decide +kernel
theorem d_Mo_ray_108 : decode b_Mo_ray 108 = .ok (.ifCond .eq 42, 3) := by decide +kernel
theorem d_Mo_ray_111 : decode b_Mo_ray 111 = .ok (.aload_n 0, 1) := by decide +kernel
theorem d_Mo_ray_112 : decode b_Mo_ray 112 = .ok (.iload_n 1, 1) := by decide +kernel
theorem d_Mo_ray_113 : decode b_Mo_ray 113 = .ok (.iload_n 2, 1) := by decide +kernel
theorem d_Mo_ray_114 : decode b_Mo_ray 114 = .ok (.iload 8, 2) := by decide +kernel
theorem d_Mo_ray_116 : decode b_Mo_ray 116 = .ok (.iload 5, 2) := by decide +kernel
theorem d_Mo_ray_118 : decode b_Mo_ray 118 = .ok (.imul, 1) := by decide +kernel
theorem d_Mo_ray_119 : decode b_Mo_ray 119 = .ok (.iadd, 1) := by decide +kernel
theorem d_Mo_ray_120 : decode b_Mo_ray 120 = .ok (.iload_n 3, 1) := by decide +kernel
theorem d_Mo_ray_121 : decode b_Mo_ray 121 = .ok (.iload 8, 2) := by decide +kernel
theorem d_Mo_ray_123 : decode b_Mo_ray 123 = .ok (.iload 6, 2) := by decide +kernel
theorem d_Mo_ray_125 : decode b_Mo_ray 125 = .ok (.imul, 1) := by decide +kernel
theorem d_Mo_ray_126 : decode b_Mo_ray 126 = .ok (.iadd, 1) := by decide +kernel
theorem d_Mo_ray_127 : decode b_Mo_ray 127 = .ok (.iload 4, 2) := by decide +kernel
theorem d_Mo_ray_129 : decode b_Mo_ray 129 = .ok (.iload 8, 2) := by decide +kernel
theorem d_Mo_ray_131 : decode b_Mo_ray 131 = .ok (.iload 7, 2) := by decide +kernel
theorem d_Mo_ray_133 : decode b_Mo_ray 133 = .ok (.imul, 1) := by decide +kernel
theorem d_Mo_ray_134 : decode b_Mo_ray 134 = .ok (.iadd, 1) := by decide +kernel
theorem d_Mo_ray_135 : decode b_Mo_ray 135 = .ok (.invokevirtual 252, 3) := by decide +kernel
theorem d_Mo_ray_138 : decode b_Mo_ray 138 = .ok (.ifCond .eq 6, 3) := by decide +kernel
theorem d_Mo_ray_141 : decode b_Mo_ray 141 = .ok (.iload 8, 2) := by decide +kernel
theorem d_Mo_ray_143 : decode b_Mo_ray 143 = .ok (.ireturn, 1) := by decide +kernel
theorem d_Mo_ray_144 : decode b_Mo_ray 144 = .ok (.iinc 8 1, 3) := by decide +kernel
theorem d_Mo_ray_147 : decode b_Mo_ray 147 = .ok (.goto (-64), 3) := by decide +kernel
theorem d_Mo_ray_150 : decode b_Mo_ray 150 = .ok (.bipush (-4), 2) := by decide +kernel
theorem d_Mo_ray_152 : decode b_Mo_ray 152 = .ok (.ireturn, 1) := by decide +kernel
theorem d_Mo_sheet_0 : decode b_Mo_sheet 0 = .ok (.iload_n 1, 1) := by decide +kernel
theorem d_Mo_sheet_1 : decode b_Mo_sheet 1 = .ok (.i2l, 1) := by decide +kernel
theorem d_Mo_sheet_2 : decode b_Mo_sheet 2 = .ok (.lconst 0, 1) := by decide +kernel
theorem d_Mo_sheet_3 : decode b_Mo_sheet 3 = .ok (.ldc2_w 266, 3) := by decide +kernel
theorem d_Mo_sheet_6 : decode b_Mo_sheet 6 = .ok (.invokestatic 91, 3) := by decide +kernel
theorem d_Mo_sheet_9 : decode b_Mo_sheet 9 = .ok (.ifCond .eq 21, 3) := by decide +kernel
theorem d_Mo_sheet_12 : decode b_Mo_sheet 12 = .ok (.iload_n 2, 1) := by decide +kernel
theorem d_Mo_sheet_13 : decode b_Mo_sheet 13 = .ok (.i2l, 1) := by decide +kernel
theorem d_Mo_sheet_14 : decode b_Mo_sheet 14 = .ok (.lconst 0, 1) := by decide +kernel
theorem d_Mo_sheet_15 : decode b_Mo_sheet 15 = .ok (.ldc2_w 153, 3) := by decide +kernel
theorem d_Mo_sheet_18 : decode b_Mo_sheet 18 = .ok (.invokestatic 91, 3) := by decide +kernel
theorem d_Mo_sheet_21 : decode b_Mo_sheet 21 = .ok (.ifCond .eq 9, 3) := by decide +kernel
theorem d_Mo_sheet_24 : decode b_Mo_sheet 24 = .ok (.iload_n 3, 1) := by decide +kernel
theorem d_Mo_sheet_25 : decode b_Mo_sheet 25 = .ok (.bipush 64, 2) := by decide +kernel
theorem d_Mo_sheet_27 : decode b_Mo_sheet 27 = .ok (.if_icmp .le 5, 3) := by decide +kernel
theorem d_Mo_sheet_30 : decode b_Mo_sheet 30 = .ok (.iconst (-1), 1) := by decide +kernel
theorem d_Mo_sheet_31 : decode b_Mo_sheet 31 = .ok (.ireturn, 1) := by decide +kernel
theorem d_Mo_sheet_32 : decode b_Mo_sheet 32 = .ok (.iload_n 3, 1) := by decide +kernel
theorem d_Mo_sheet_33 : decode b_Mo_sheet 33 = .ok (.ifCond .ge 6, 3) := by decide +kernel
theorem d_Mo_sheet_36 : decode b_Mo_sheet 36 = .ok (.bipush (-14), 2) := by decide +kernel
theorem d_Mo_sheet_38 : decode b_Mo_sheet 38 = .ok (.ireturn, 1) := by decide +kernel
theorem d_Mo_sheet_39 : decode b_Mo_sheet 39 = .ok (.aload_n 0, 1) := by decide +kernel
theorem d_Mo_sheet_40 : decode b_Mo_sheet 40 = .ok (.getfield 78, 3) := by decide +kernel
theorem d_Mo_sheet_43 : decode b_Mo_sheet 43 = .ok (.iload_n 1, 1) := by decide +kernel
theorem d_Mo_sheet_44 : decode b_Mo_sheet 44 = .ok (.iload_n 2, 1) := by decide +kernel
theorem d_Mo_sheet_45 : decode b_Mo_sheet 45 = .ok (.iastore, 1) := by decide +kernel
theorem d_Mo_sheet_46 : decode b_Mo_sheet 46 = .ok (.aload_n 0, 1) := by decide +kernel
theorem d_Mo_sheet_47 : decode b_Mo_sheet 47 = .ok (.getfield 81, 3) := by decide +kernel
theorem d_Mo_sheet_50 : decode b_Mo_sheet 50 = .ok (.iload_n 1, 1) := by decide +kernel
theorem d_Mo_sheet_51 : decode b_Mo_sheet 51 = .ok (.iload_n 3, 1) := by decide +kernel
theorem d_Mo_sheet_52 : decode b_Mo_sheet 52 = .ok (.iastore, 1) := by decide +kernel
theorem d_Mo_sheet_53 : decode b_Mo_sheet 53 = .ok (.iconst 0, 1) := by decide +kernel
theorem d_Mo_sheet_54 : decode b_Mo_sheet 54 = .ok (.istore 4, 2) := by decide +kernel
theorem d_Mo_sheet_56 : decode b_Mo_sheet 56 = .ok (.iload 4, 2) := by decide +kernel
theorem d_Mo_sheet_58 : decode b_Mo_sheet 58 = .ok (.bipush 64, 2) := by decide +kernel
theorem d_Mo_sheet_60 : decode b_Mo_sheet 60 = .ok (.if_icmp .ge 22, 3) := by decide +kernel
theorem d_Mo_sheet_63 : decode b_Mo_sheet 63 = .ok (.aload_n 0, 1) := by decide +kernel
theorem d_Mo_sheet_64 : decode b_Mo_sheet 64 = .ok (.getfield 84, 3) := by decide +kernel
theorem d_Mo_sheet_67 : decode b_Mo_sheet 67 = .ok (.bipush 64, 2) := by decide +kernel
theorem d_Mo_sheet_69 : decode b_Mo_sheet 69 = .ok (.iload_n 1, 1) := by decide +kernel
theorem d_Mo_sheet_70 : decode b_Mo_sheet 70 = .ok (.imul, 1) := by decide +kernel
theorem d_Mo_sheet_71 : decode b_Mo_sheet 71 = .ok (.iload 4, 2) := by decide +kernel
theorem d_Mo_sheet_73 : decode b_Mo_sheet 73 = .ok (.iadd, 1) := by decide +kernel
theorem d_Mo_sheet_74 : decode b_Mo_sheet 74 = .ok (.iconst 0, 1) := by decide +kernel
theorem d_Mo_sheet_75 : decode b_Mo_sheet 75 = .ok (.iastore, 1) := by decide +kernel
theorem d_Mo_sheet_76 : decode b_Mo_sheet 76 = .ok (.iinc 4 1, 3) := by decide +kernel
theorem d_Mo_sheet_79 : decode b_Mo_sheet 79 = .ok (.goto (-23), 3) := by decide +kernel
theorem d_Mo_sheet_82 : decode b_Mo_sheet 82 = .ok (.iconst 1, 1) := by decide +kernel
theorem d_Mo_sheet_83 : decode b_Mo_sheet 83 = .ok (.ireturn, 1) := by decide +kernel
theorem d_Mo_lay_0 : decode b_Mo_lay 0 = .ok (.iload_n 1, 1) := by decide +kernel
theorem d_Mo_lay_1 : decode b_Mo_lay 1 = .ok (.i2l, 1) := by decide +kernel
theorem d_Mo_lay_2 : decode b_Mo_lay 2 = .ok (.lconst 0, 1) := by decide +kernel
theorem d_Mo_lay_3 : decode b_Mo_lay 3 = .ok (.ldc2_w 266, 3) := by decide +kernel
theorem d_Mo_lay_6 : decode b_Mo_lay 6 = .ok (.invokestatic 91, 3) := by decide +kernel
theorem d_Mo_lay_9 : decode b_Mo_lay 9 = .ok (.ifCond .ne 5, 3) := by decide +kernel
theorem d_Mo_lay_12 : decode b_Mo_lay 12 = .ok (.iconst (-1), 1) := by decide +kernel
theorem d_Mo_lay_13 : decode b_Mo_lay 13 = .ok (.ireturn, 1) := by decide +kernel
theorem d_Mo_lay_14 : decode b_Mo_lay 14 = .ok (.aload_n 0, 1) := by decide +kernel
theorem d_Mo_lay_15 : decode b_Mo_lay 15 = .ok (.getfield 78, 3) := by decide +kernel
theorem d_Mo_lay_18 : decode b_Mo_lay 18 = .ok (.iload_n 1, 1) := by decide +kernel
theorem d_Mo_lay_19 : decode b_Mo_lay 19 = .ok (.iaload, 1) := by decide +kernel
theorem d_Mo_lay_20 : decode b_Mo_lay 20 = .ok (.bipush (-4), 2) := by decide +kernel
theorem d_Mo_lay_22 : decode b_Mo_lay 22 = .ok (.if_icmp .ne 6, 3) := by decide +kernel
theorem d_Mo_lay_25 : decode b_Mo_lay 25 = .ok (.bipush (-11), 2) := by decide +kernel
theorem d_Mo_lay_27 : decode b_Mo_lay 27 = .ok (.ireturn, 1) := by decide +kernel
theorem d_Mo_lay_28 : decode b_Mo_lay 28 = .ok (.iload_n 2, 1) := by decide +kernel
theorem d_Mo_lay_29 : decode b_Mo_lay 29 = .ok (.i2l, 1) := by decide +kernel
theorem d_Mo_lay_30 : decode b_Mo_lay 30 = .ok (.lconst 0, 1) := by decide +kernel
theorem d_Mo_lay_31 : decode b_Mo_lay 31 = .ok (.aload_n 0, 1) := by decide +kernel
theorem d_Mo_lay_32 : decode b_Mo_lay 32 = .ok (.getfield 81, 3) := by decide +kernel
theorem d_Mo_lay_35 : decode b_Mo_lay 35 = .ok (.iload_n 1, 1) := by decide +kernel
theorem d_Mo_lay_36 : decode b_Mo_lay 36 = .ok (.iaload, 1) := by decide +kernel
theorem d_Mo_lay_37 : decode b_Mo_lay 37 = .ok (.iconst 1, 1) := by decide +kernel
theorem d_Mo_lay_38 : decode b_Mo_lay 38 = .ok (.isub, 1) := by decide +kernel
theorem d_Mo_lay_39 : decode b_Mo_lay 39 = .ok (.i2l, 1) := by decide +kernel
theorem d_Mo_lay_40 : decode b_Mo_lay 40 = .ok (.invokestatic 91, 3) := by decide +kernel
theorem d_Mo_lay_43 : decode b_Mo_lay 43 = .ok (.ifCond .ne 6, 3) := by decide +kernel
theorem d_Mo_lay_46 : decode b_Mo_lay 46 = .ok (.bipush (-12), 2) := by decide +kernel
theorem d_Mo_lay_48 : decode b_Mo_lay 48 = .ok (.ireturn, 1) := by decide +kernel
theorem d_Mo_lay_49 : decode b_Mo_lay 49 = .ok (.aload_n 0, 1) := by decide +kernel
theorem d_Mo_lay_50 : decode b_Mo_lay 50 = .ok (.getfield 84, 3) := by decide +kernel
theorem d_Mo_lay_53 : decode b_Mo_lay 53 = .ok (.bipush 64, 2) := by decide +kernel
theorem d_Mo_lay_55 : decode b_Mo_lay 55 = .ok (.iload_n 1, 1) := by decide +kernel
theorem d_Mo_lay_56 : decode b_Mo_lay 56 = .ok (.imul, 1) := by decide +kernel
theorem d_Mo_lay_57 : decode b_Mo_lay 57 = .ok (.iload_n 2, 1) := by decide +kernel
theorem d_Mo_lay_58 : decode b_Mo_lay 58 = .ok (.iadd, 1) := by decide +kernel
theorem d_Mo_lay_59 : decode b_Mo_lay 59 = .ok (.aload_n 0, 1) := by decide +kernel
theorem d_Mo_lay_60 : decode b_Mo_lay 60 = .ok (.getfield 78, 3) := by decide +kernel
theorem d_Mo_lay_63 : decode b_Mo_lay 63 = .ok (.iload_n 1, 1) := by decide +kernel
theorem d_Mo_lay_64 : decode b_Mo_lay 64 = .ok (.iaload, 1) := by decide +kernel
theorem d_Mo_lay_65 : decode b_Mo_lay 65 = .ok (.ifCond .ne 13, 3) := by decide +kernel
theorem d_Mo_lay_68 : decode b_Mo_lay 68 = .ok (.iload_n 3, 1) := by decide +kernel
theorem d_Mo_lay_69 : decode b_Mo_lay 69 = .ok (.bipush 24, 2) := by decide +kernel
theorem d_Mo_lay_71 : decode b_Mo_lay 71 = .ok (.ishl, 1) := by decide +kernel
theorem d_Mo_lay_72 : decode b_Mo_lay 72 = .ok (.bipush 24, 2) := by decide +kernel
theorem d_Mo_lay_74 : decode b_Mo_lay 74 = .ok (.ishr, 1) := by decide +kernel
theorem d_Mo_lay_75 : decode b_Mo_lay 75 = .ok (.goto 24, 3) := by decide +kernel
theorem d_Mo_lay_78 : decode b_Mo_lay 78 = .ok (.aload_n 0, 1) := by decide +kernel
theorem d_Mo_lay_79 : decode b_Mo_lay 79 = .ok (.getfield 78, 3) := by decide +kernel
theorem d_Mo_lay_82 : decode b_Mo_lay 82 = .ok (.iload_n 1, 1) := by decide +kernel
theorem d_Mo_lay_83 : decode b_Mo_lay 83 = .ok (.iaload, 1) := by decide +kernel
theorem d_Mo_lay_84 : decode b_Mo_lay 84 = .ok (.iconst 1, 1) := by decide +kernel
theorem d_Mo_lay_85 : decode b_Mo_lay 85 = .ok (.if_icmp .ne 13, 3) := by decide +kernel
theorem d_Mo_lay_88 : decode b_Mo_lay 88 = .ok (.iload_n 3, 1) := by decide +kernel
theorem d_Mo_lay_89 : decode b_Mo_lay 89 = .ok (.bipush 16, 2) := by decide +kernel
theorem d_Mo_lay_91 : decode b_Mo_lay 91 = .ok (.ishl, 1) := by decide +kernel
theorem d_Mo_lay_92 : decode b_Mo_lay 92 = .ok (.bipush 16, 2) := by decide +kernel
theorem d_Mo_lay_94 : decode b_Mo_lay 94 = .ok (.ishr, 1) := by decide +kernel
theorem d_Mo_lay_95 : decode b_Mo_lay 95 = .ok (.goto 4, 3) := by decide +kernel
theorem d_Mo_lay_98 : decode b_Mo_lay 98 = .ok (.iload_n 3, 1) := by decide +kernel
theorem d_Mo_lay_99 : decode b_Mo_lay 99 = .ok (.iastore, 1) := by decide +kernel
theorem d_Mo_lay_100 : decode b_Mo_lay 100 = .ok (.iconst 1, 1) := by decide +kernel
theorem d_Mo_lay_101 : decode b_Mo_lay 101 = .ok (.ireturn, 1) := by decide +kernel
theorem d_Mo_scan_0 : decode b_Mo_scan 0 = .ok (.aload_n 0, 1) := by decide +kernel
theorem d_Mo_scan_1 : decode b_Mo_scan 1 = .ok (.iload_n 1, 1) := by decide +kernel
theorem d_Mo_scan_2 : decode b_Mo_scan 2 = .ok (.invokevirtual 204, 3) := by decide +kernel
theorem d_Mo_scan_5 : decode b_Mo_scan 5 = .ok (.ifCond .eq 40, 3) := by decide +kernel
theorem d_Mo_scan_8 : decode b_Mo_scan 8 = .ok (.iload_n 2, 1) := by decide +kernel
theorem d_Mo_scan_9 : decode b_Mo_scan 9 = .ok (.i2l, 1) := by decide +kernel
theorem d_Mo_scan_10 : decode b_Mo_scan 10 = .ok (.lconst 0, 1) := by decide +kernel
theorem d_Mo_scan_11 : decode b_Mo_scan 11 = .ok (.ldc2_w 266, 3) := by decide +kernel
theorem d_Mo_scan_14 : decode b_Mo_scan 14 = .ok (.invokestatic 91, 3) := by decide +kernel
theorem d_Mo_scan_17 : decode b_Mo_scan 17 = .ok (.ifCond .eq 28, 3) := by decide +kernel
theorem d_Mo_scan_20 : decode b_Mo_scan 20 = .ok (.iload_n 3, 1) := by decide +kernel
theorem d_Mo_scan_21 : decode b_Mo_scan 21 = .ok (.i2l, 1) := by decide +kernel
theorem d_Mo_scan_22 : decode b_Mo_scan 22 = .ok (.lconst 0, 1) := by decide +kernel
theorem d_Mo_scan_23 : decode b_Mo_scan 23 = .ok (.ldc2_w 153, 3) := by decide +kernel
theorem d_Mo_scan_26 : decode b_Mo_scan 26 = .ok (.invokestatic 91, 3) := by decide +kernel
theorem d_Mo_scan_29 : decode b_Mo_scan 29 = .ok (.ifCond .eq 16, 3) := by decide +kernel
theorem d_Mo_scan_32 : decode b_Mo_scan 32 = .ok (.iload 5, 2) := by decide +kernel
theorem d_Mo_scan_34 : decode b_Mo_scan 34 = .ok (.i2l, 1) := by decide +kernel
theorem d_Mo_scan_35 : decode b_Mo_scan 35 = .ok (.lconst 0, 1) := by decide +kernel
theorem d_Mo_scan_36 : decode b_Mo_scan 36 = .ok (.ldc2_w 164, 3) := by decide +kernel
theorem d_Mo_scan_39 : decode b_Mo_scan 39 = .ok (.invokestatic 91, 3) := by decide +kernel
theorem d_Mo_scan_42 : decode b_Mo_scan 42 = .ok (.ifCond .ne 5, 3) := by decide +kernel
theorem d_Mo_scan_45 : decode b_Mo_scan 45 = .ok (.iconst (-1), 1) := by decide +kernel
theorem d_Mo_scan_46 : decode b_Mo_scan 46 = .ok (.ireturn, 1) := by decide +kernel
theorem d_Mo_scan_47 : decode b_Mo_scan 47 = .ok (.aload_n 0, 1) := by decide +kernel
theorem d_Mo_scan_48 : decode b_Mo_scan 48 = .ok (.getfield 78, 3) := by decide +kernel
theorem d_Mo_scan_51 : decode b_Mo_scan 51 = .ok (.iload_n 2, 1) := by decide +kernel
theorem d_Mo_scan_52 : decode b_Mo_scan 52 = .ok (.iaload, 1) := by decide +kernel
theorem d_Mo_scan_53 : decode b_Mo_scan 53 = .ok (.iload_n 3, 1) := by decide +kernel
theorem d_Mo_scan_54 : decode b_Mo_scan 54 = .ok (.if_icmp .eq 22, 3) := by decide +kernel
theorem d_Mo_scan_57 : decode b_Mo_scan 57 = .ok (.aload_n 0, 1) := by decide +kernel
theorem d_Mo_scan_58 : decode b_Mo_scan 58 = .ok (.getfield 78, 3) := by decide +kernel
theorem d_Mo_scan_61 : decode b_Mo_scan 61 = .ok (.iload_n 2, 1) := by decide +kernel
theorem d_Mo_scan_62 : decode b_Mo_scan 62 = .ok (.iaload, 1) := by decide +kernel
theorem d_Mo_scan_63 : decode b_Mo_scan 63 = .ok (.bipush (-4), 2) := by decide +kernel
theorem d_Mo_scan_65 : decode b_Mo_scan 65 = .ok (.if_icmp .ne 8, 3) := by decide +kernel
theorem d_Mo_scan_68 : decode b_Mo_scan 68 = .ok (.bipush (-11), 2) := by decide +kernel
theorem d_Mo_scan_70 : decode b_Mo_scan 70 = .ok (.goto 5, 3) := by decide +kernel
theorem d_Mo_scan_73 : decode b_Mo_scan 73 = .ok (.bipush (-13), 2) := by decide +kernel
theorem d_Mo_scan_75 : decode b_Mo_scan 75 = .ok (.ireturn, 1) := by decide +kernel
theorem d_Mo_scan_76 : decode b_Mo_scan 76 = .ok (.iconst 0, 1) := by decide +kernel
theorem d_Mo_scan_77 : decode b_Mo_scan 77 = .ok (.istore 6, 2) := by decide +kernel
theorem d_Mo_scan_79 : decode b_Mo_scan 79 = .ok (.iconst 0, 1) := by decide +kernel
theorem d_Mo_scan_80 : decode b_Mo_scan 80 = .ok (.istore 7, 2) := by decide +kernel
theorem d_Mo_scan_82 : decode b_Mo_scan 82 = .ok (.iload 7, 2) := by decide +kernel
theorem d_Mo_scan_84 : decode b_Mo_scan 84 = .ok (.iload 5, 2) := by decide +kernel
theorem d_Mo_scan_86 : decode b_Mo_scan 86 = .ok (.if_icmp .ge 131, 3) := by decide +kernel
theorem d_Mo_scan_89 : decode b_Mo_scan 89 = .ok (.iload 4, 2) := by decide +kernel
theorem d_Mo_scan_91 : decode b_Mo_scan 91 = .ok (.i2l, 1) := by decide +kernel
theorem d_Mo_scan_92 : decode b_Mo_scan 92 = .ok (.iconst 3, 1) := by decide +kernel
theorem d_Mo_scan_93 : decode b_Mo_scan 93 = .ok (.iload 7, 2) := by decide +kernel
theorem d_Mo_scan_95 : decode b_Mo_scan 95 = .ok (.imul, 1) := by decide +kernel
theorem d_Mo_scan_96 : decode b_Mo_scan 96 = .ok (.i2l, 1) := by decide +kernel
theorem d_Mo_scan_97 : decode b_Mo_scan 97 = .ok (.ladd, 1) := by decide +kernel
theorem d_Mo_scan_98 : decode b_Mo_scan 98 = .ok (.lstore 8, 2) := by decide +kernel
theorem d_Mo_scan_100 : decode b_Mo_scan 100 = .ok (.lload 8, 2) := by decide +kernel
theorem d_Mo_scan_102 : decode b_Mo_scan 102 = .ok (.lconst 0, 1) := by decide +kernel
theorem d_Mo_scan_103 : decode b_Mo_scan 103 = .ok (.aload_n 0, 1) := by decide +kernel
theorem d_Mo_scan_104 : decode b_Mo_scan 104 = .ok (.getfield 81, 3) := by decide +kernel
theorem d_Mo_scan_107 : decode b_Mo_scan 107 = .ok (.iload_n 2, 1) := by decide +kernel
theorem d_Mo_scan_108 : decode b_Mo_scan 108 = .ok (.iaload, 1) := by decide +kernel
theorem d_Mo_scan_109 : decode b_Mo_scan 109 = .ok (.iconst 3, 1) := by decide +kernel
theorem d_Mo_scan_110 : decode b_Mo_scan 110 = .ok (.isub, 1) := by decide +kernel
theorem d_Mo_scan_111 : decode b_Mo_scan 111 = .ok (.i2l, 1) := by decide +kernel
theorem d_Mo_scan_112 : decode b_Mo_scan 112 = .ok (.invokestatic 91, 3) := by decide +kernel
theorem d_Mo_scan_115 : decode b_Mo_scan 115 = .ok (.ifCond .ne 6, 3) := by decide +kernel
theorem d_Mo_scan_118 : decode b_Mo_scan 118 = .ok (.bipush (-12), 2) := by decide +kernel
theorem d_Mo_scan_120 : decode b_Mo_scan 120 = .ok (.ireturn, 1) := by decide +kernel
theorem d_Mo_scan_121 : decode b_Mo_scan 121 = .ok (.bipush 64, 2) := by decide +kernel
theorem d_Mo_scan_123 : decode b_Mo_scan 123 = .ok (.iload_n 2, 1) := by decide +kernel
theorem d_Mo_scan_124 : decode b_Mo_scan 124 = .ok (.imul, 1) := by decide +kernel
theorem d_Mo_scan_125 : decode b_Mo_scan 125 = .ok (.lload 8, 2) := by decide +kernel
theorem d_Mo_scan_127 : decode b_Mo_scan 127 = .ok (.l2i, 1) := by decide +kernel
theorem d_Mo_scan_128 : decode b_Mo_scan 128 = .ok (.iadd, 1) := by decide +kernel
theorem d_Mo_scan_129 : decode b_Mo_scan 129 = .ok (.istore 10, 2) := by decide +kernel
theorem d_Mo_scan_131 : decode b_Mo_scan 131 = .ok (.aload_n 0, 1) := by decide +kernel
theorem d_Mo_scan_132 : decode b_Mo_scan 132 = .ok (.getfield 84, 3) := by decide +kernel
theorem d_Mo_scan_135 : decode b_Mo_scan 135 = .ok (.iload 10, 2) := by decide +kernel
theorem d_Mo_scan_137 : decode b_Mo_scan 137 = .ok (.iaload, 1) := by decide +kernel
theorem d_Mo_scan_138 : decode b_Mo_scan 138 = .ok (.aload_n 0, 1) := by decide +kernel
theorem d_Mo_scan_139 : decode b_Mo_scan 139 = .ok (.getfield 84, 3) := by decide +kernel
theorem d_Mo_scan_142 : decode b_Mo_scan 142 = .ok (.iload 10, 2) := by decide +kernel
theorem d_Mo_scan_144 : decode b_Mo_scan 144 = .ok (.iconst 1, 1) := by decide +kernel
theorem d_Mo_scan_145 : decode b_Mo_scan 145 = .ok (.iadd, 1) := by decide +kernel
theorem d_Mo_scan_146 : decode b_Mo_scan 146 = .ok (.iaload, 1) := by decide +kernel
theorem d_Mo_scan_147 : decode b_Mo_scan 147 = .ok (.aload_n 0, 1) := by decide +kernel
theorem d_Mo_scan_148 : decode b_Mo_scan 148 = .ok (.getfield 84, 3) := by decide +kernel
theorem d_Mo_scan_151 : decode b_Mo_scan 151 = .ok (.iload 10, 2) := by decide +kernel
theorem d_Mo_scan_153 : decode b_Mo_scan 153 = .ok (.iconst 2, 1) := by decide +kernel
theorem d_Mo_scan_154 : decode b_Mo_scan 154 = .ok (.iadd, 1) := by decide +kernel
theorem d_Mo_scan_155 : decode b_Mo_scan 155 = .ok (.iaload, 1) := by decide +kernel
theorem d_Mo_scan_156 : decode b_Mo_scan 156 = .ok (.invokestatic 221, 3) := by decide +kernel
theorem d_Mo_scan_159 : decode b_Mo_scan 159 = .ok (.ifCond .ne 9, 3) := by decide +kernel
theorem d_Mo_scan_162 : decode b_Mo_scan 162 = .ok (.bipush (-20), 2) := by decide +kernel
theorem d_Mo_scan_164 : decode b_Mo_scan 164 = .ok (.iload 7, 2) := by decide +kernel
theorem d_Mo_scan_166 : decode b_Mo_scan 166 = .ok (.isub, 1) := by decide +kernel
theorem d_Mo_scan_167 : decode b_Mo_scan 167 = .ok (.ireturn, 1) := by decide +kernel
theorem d_Mo_scan_168 : decode b_Mo_scan 168 = .ok (.iload 6, 2) := by decide +kernel
theorem d_Mo_scan_170 : decode b_Mo_scan 170 = .ok (.aload_n 0, 1) := by decide +kernel
theorem d_Mo_scan_171 : decode b_Mo_scan 171 = .ok (.iload_n 1, 1) := by decide +kernel
theorem d_Mo_scan_172 : decode b_Mo_scan 172 = .ok (.aload_n 0, 1) := by decide +kernel
theorem d_Mo_scan_173 : decode b_Mo_scan 173 = .ok (.getfield 84, 3) := by decide +kernel
theorem d_Mo_scan_176 : decode b_Mo_scan 176 = .ok (.iload 10, 2) := by decide +kernel
theorem d_Mo_scan_178 : decode b_Mo_scan 178 = .ok (.iaload, 1) := by decide +kernel
theorem d_Mo_scan_179 : decode b_Mo_scan 179 = .ok (.aload_n 0, 1) := by decide +kernel
theorem d_Mo_scan_180 : decode b_Mo_scan 180 = .ok (.getfield 84, 3) := by decide +kernel
theorem d_Mo_scan_183 : decode b_Mo_scan 183 = .ok (.iload 10, 2) := by decide +kernel
theorem d_Mo_scan_185 : decode b_Mo_scan 185 = .ok (.iconst 1, 1) := by decide +kernel
theorem d_Mo_scan_186 : decode b_Mo_scan 186 = .ok (.iadd, 1) := by decide +kernel
theorem d_Mo_scan_187 : decode b_Mo_scan 187 = .ok (.iaload, 1) := by decide +kernel
theorem d_Mo_scan_188 : decode b_Mo_scan 188 = .ok (.aload_n 0, 1) := by decide +kernel
theorem d_Mo_scan_189 : decode b_Mo_scan 189 = .ok (.getfield 84, 3) := by decide +kernel
theorem d_Mo_scan_192 : decode b_Mo_scan 192 = .ok (.iload 10, 2) := by decide +kernel
theorem d_Mo_scan_194 : decode b_Mo_scan 194 = .ok (.iconst 2, 1) := by decide +kernel
theorem d_Mo_scan_195 : decode b_Mo_scan 195 = .ok (.iadd, 1) := by decide +kernel
theorem d_Mo_scan_196 : decode b_Mo_scan 196 = .ok (.iaload, 1) := by decide +kernel
theorem d_Mo_scan_197 : decode b_Mo_scan 197 = .ok (.invokevirtual 252, 3) := by decide +kernel
theorem d_Mo_scan_200 : decode b_Mo_scan 200 = .ok (.ifCond .eq 7, 3) := by decide +kernel
theorem d_Mo_scan_203 : decode b_Mo_scan 203 = .ok (.iconst 1, 1) := by decide +kernel
theorem d_Mo_scan_204 : decode b_Mo_scan 204 = .ok (.goto 4, 3) := by decide +kernel
theorem d_Mo_scan_207 : decode b_Mo_scan 207 = .ok (.iconst 0, 1) := by decide +kernel
theorem d_Mo_scan_208 : decode b_Mo_scan 208 = .ok (.iadd, 1) := by decide +kernel
theorem d_Mo_scan_209 : decode b_Mo_scan 209 = .ok (.istore 6, 2) := by decide +kernel
theorem d_Mo_scan_211 : decode b_Mo_scan 211 = .ok (.iinc 7 1, 3) := by decide +kernel
theorem d_Mo_scan_214 : decode b_Mo_scan 214 = .ok (.goto (-132), 3) := by decide +kernel
theorem d_Mo_scan_217 : decode b_Mo_scan 217 = .ok (.iload 6, 2) := by decide +kernel
theorem d_Mo_scan_219 : decode b_Mo_scan 219 = .ok (.ireturn, 1) := by decide +kernel
theorem d_Mo_count_0 : decode b_Mo_count 0 = .ok (.iload_n 1, 1) := by decide +kernel
theorem d_Mo_count_1 : decode b_Mo_count 1 = .ok (.ifCond .ne 10, 3) := by decide +kernel
theorem d_Mo_count_4 : decode b_Mo_count 4 = .ok (.aload_n 0, 1) := by decide +kernel
theorem d_Mo_count_5 : decode b_Mo_count 5 = .ok (.getfield 155, 3) := by decide +kernel
theorem d_Mo_count_8 : decode b_Mo_count 8 = .ok (.goto 77, 3) := by decide +kernel
theorem d_Mo_count_11 : decode b_Mo_count 11 = .ok (.iload_n 1, 1) := by decide +kernel
theorem d_Mo_count_12 : decode b_Mo_count 12 = .ok (.iconst 1, 1) := by decide +kernel
theorem d_Mo_count_13 : decode b_Mo_count 13 = .ok (.if_icmp .ne 28, 3) := by decide +kernel
theorem d_Mo_count_16 : decode b_Mo_count 16 = .ok (.aload_n 0, 1) := by decide +kernel
theorem d_Mo_count_17 : decode b_Mo_count 17 = .ok (.getfield 78, 3) := by decide +kernel
theorem d_Mo_count_20 : decode b_Mo_count 20 = .ok (.iconst 0, 1) := by decide +kernel
theorem d_Mo_count_21 : decode b_Mo_count 21 = .ok (.iaload, 1) := by decide +kernel
theorem d_Mo_count_22 : decode b_Mo_count 22 = .ok (.bipush (-4), 2) := by decide +kernel
theorem d_Mo_count_24 : decode b_Mo_count 24 = .ok (.if_icmp .ne 8, 3) := by decide +kernel
theorem d_Mo_count_27 : decode b_Mo_count 27 = .ok (.bipush (-4), 2) := by decide +kernel
theorem d_Mo_count_29 : decode b_Mo_count 29 = .ok (.goto 56, 3) := by decide +kernel
theorem d_Mo_count_32 : decode b_Mo_count 32 = .ok (.aload_n 0, 1) := by decide +kernel
theorem d_Mo_count_33 : decode b_Mo_count 33 = .ok (.getfield 81, 3) := by decide +kernel
theorem d_Mo_count_36 : decode b_Mo_count 36 = .ok (.iconst 0, 1) := by decide +kernel
theorem d_Mo_count_37 : decode b_Mo_count 37 = .ok (.iaload, 1) := by decide +kernel
theorem d_Mo_count_38 : decode b_Mo_count 38 = .ok (.goto 47, 3) := by decide +kernel
theorem d_Mo_count_41 : decode b_Mo_count 41 = .ok (.iload_n 1, 1) := by decide +kernel
theorem d_Mo_count_42 : decode b_Mo_count 42 = .ok (.iconst 2, 1) := by decide +kernel
theorem d_Mo_count_43 : decode b_Mo_count 43 = .ok (.if_icmp .ne 10, 3) := by decide +kernel
theorem d_Mo_count_46 : decode b_Mo_count 46 = .ok (.aload_n 0, 1) := by decide +kernel
theorem d_Mo_count_47 : decode b_Mo_count 47 = .ok (.getfield 87, 3) := by decide +kernel
theorem d_Mo_count_50 : decode b_Mo_count 50 = .ok (.goto 35, 3) := by decide +kernel
theorem d_Mo_count_53 : decode b_Mo_count 53 = .ok (.iload_n 1, 1) := by decide +kernel
theorem d_Mo_count_54 : decode b_Mo_count 54 = .ok (.iconst 3, 1) := by decide +kernel
theorem d_Mo_count_55 : decode b_Mo_count 55 = .ok (.if_icmp .ne 29, 3) := by decide +kernel
theorem d_Mo_count_58 : decode b_Mo_count 58 = .ok (.aload_n 0, 1) := by decide +kernel
theorem d_Mo_count_59 : decode b_Mo_count 59 = .ok (.getfield 155, 3) := by decide +kernel
theorem d_Mo_count_62 : decode b_Mo_count 62 = .ok (.ifCond .ne 8, 3) := by decide +kernel
theorem d_Mo_count_65 : decode b_Mo_count 65 = .ok (.bipush (-4), 2) := by decide +kernel
theorem d_Mo_count_67 : decode b_Mo_count 67 = .ok (.goto 18, 3) := by decide +kernel
theorem d_Mo_count_70 : decode b_Mo_count 70 = .ok (.aload_n 0, 1) := by decide +kernel
theorem d_Mo_count_71 : decode b_Mo_count 71 = .ok (.getfield 7, 3) := by decide +kernel
theorem d_Mo_count_74 : decode b_Mo_count 74 = .ok (.aload_n 0, 1) := by decide +kernel
theorem d_Mo_count_75 : decode b_Mo_count 75 = .ok (.getfield 155, 3) := by decide +kernel
theorem d_Mo_count_78 : decode b_Mo_count 78 = .ok (.iconst 1, 1) := by decide +kernel
theorem d_Mo_count_79 : decode b_Mo_count 79 = .ok (.isub, 1) := by decide +kernel
theorem d_Mo_count_80 : decode b_Mo_count 80 = .ok (.iaload, 1) := by decide +kernel
theorem d_Mo_count_81 : decode b_Mo_count 81 = .ok (.goto 4, 3) := by decide +kernel
theorem d_Mo_count_84 : decode b_Mo_count 84 = .ok (.iconst (-1), 1) := by decide +kernel
theorem d_Mo_count_85 : decode b_Mo_count 85 = .ok (.ireturn, 1) := by decide +kernel
