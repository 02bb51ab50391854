/-! decode rows -/
theorem dX6_init_0 : decode cX6_init 0 = .ok (.aload_n 0, 1) := by decide +kernel
theorem dX6_init_1 : decode cX6_init 1 = .ok (.invokespecial 1, 3) := by decide +kernel
theorem dX6_init_4 : decode cX6_init 4 = .ok (.aload_n 0, 1) := by decide +kernel
theorem dX6_init_5 : decode cX6_init 5 = .ok (.bipush 95, 2) := by decide +kernel
theorem dX6_init_7 : decode cX6_init 7 = .ok (.newarray .int, 2) := by decide +kernel
theorem dX6_init_9 : decode cX6_init 9 = .ok (.putfield 7, 3) := by decide +kernel
theorem dX6_init_12 : decode cX6_init 12 = .ok (.aload_n 0, 1) := by decide +kernel
theorem dX6_init_13 : decode cX6_init 13 = .ok (.sipush 190, 3) := by decide +kernel
theorem dX6_init_16 : decode cX6_init 16 = .ok (.newarray .int, 2) := by decide +kernel
theorem dX6_init_18 : decode cX6_init 18 = .ok (.putfield 13, 3) := by decide +kernel
theorem dX6_init_21 : decode cX6_init 21 = .ok (.aload_n 0, 1) := by decide +kernel
theorem dX6_init_22 : decode cX6_init 22 = .ok (.iconst 2, 1) := by decide +kernel
theorem dX6_init_23 : decode cX6_init 23 = .ok (.newarray .boolean, 2) := by decide +kernel
theorem dX6_init_25 : decode cX6_init 25 = .ok (.putfield 16, 3) := by decide +kernel
theorem dX6_init_28 : decode cX6_init 28 = .ok (.aload_n 0, 1) := by decide +kernel
theorem dX6_init_29 : decode cX6_init 29 = .ok (.bipush 20, 2) := by decide +kernel
theorem dX6_init_31 : decode cX6_init 31 = .ok (.newarray .int, 2) := by decide +kernel
theorem dX6_init_33 : decode cX6_init 33 = .ok (.putfield 20, 3) := by decide +kernel
theorem dX6_init_36 : decode cX6_init 36 = .ok (.aload_n 0, 1) := by decide +kernel
theorem dX6_init_37 : decode cX6_init 37 = .ok (.iconst 3, 1) := by decide +kernel
theorem dX6_init_38 : decode cX6_init 38 = .ok (.newarray .int, 2) := by decide +kernel
theorem dX6_init_40 : decode cX6_init 40 = .ok (.putfield 23, 3) := by decide +kernel
theorem dX6_init_43 : decode cX6_init 43 = .ok (.aload_n 0, 1) := by decide +kernel
theorem dX6_init_44 : decode cX6_init 44 = .ok (.bipush 16, 2) := by decide +kernel
theorem dX6_init_46 : decode cX6_init 46 = .ok (.newarray .int, 2) := by decide +kernel
theorem dX6_init_48 : decode cX6_init 48 = .ok (.putfield 26, 3) := by decide +kernel
theorem dX6_init_51 : decode cX6_init 51 = .ok (.aload_n 0, 1) := by decide +kernel
theorem dX6_init_52 : decode cX6_init 52 = .ok (.sipush 400, 3) := by decide +kernel
theorem dX6_init_55 : decode cX6_init 55 = .ok (.newarray .int, 2) := by decide +kernel
theorem dX6_init_57 : decode cX6_init 57 = .ok (.putfield 29, 3) := by decide +kernel
theorem dX6_init_60 : decode cX6_init 60 = .ok (.aload_n 0, 1) := by decide +kernel
theorem dX6_init_61 : decode cX6_init 61 = .ok (.sipush 400, 3) := by decide +kernel
theorem dX6_init_64 : decode cX6_init 64 = .ok (.newarray .int, 2) := by decide +kernel
theorem dX6_init_66 : decode cX6_init 66 = .ok (.putfield 32, 3) := by decide +kernel
theorem dX6_init_69 : decode cX6_init 69 = .ok (.aload_n 0, 1) := by decide +kernel
theorem dX6_init_70 : decode cX6_init 70 = .ok (.sipush 400, 3) := by decide +kernel
theorem dX6_init_73 : decode cX6_init 73 = .ok (.newarray .int, 2) := by decide +kernel
theorem dX6_init_75 : decode cX6_init 75 = .ok (.putfield 35, 3) := by decide +kernel
theorem dX6_init_78 : decode cX6_init 78 = .ok (.aload_n 0, 1) := by decide +kernel
theorem dX6_init_79 : decode cX6_init 79 = .ok (.sipush 400, 3) := by decide +kernel
theorem dX6_init_82 : decode cX6_init 82 = .ok (.newarray .int, 2) := by decide +kernel
theorem dX6_init_84 : decode cX6_init 84 = .ok (.putfield 38, 3) := by decide +kernel
theorem dX6_init_87 : decode cX6_init 87 = .ok (.aload_n 0, 1) := by decide +kernel
theorem dX6_init_88 : decode cX6_init 88 = .ok (.bipush 40, 2) := by decide +kernel
theorem dX6_init_90 : decode cX6_init 90 = .ok (.newarray .int, 2) := by decide +kernel
theorem dX6_init_92 : decode cX6_init 92 = .ok (.putfield 41, 3) := by decide +kernel
theorem dX6_init_95 : decode cX6_init 95 = .ok (.aload_n 0, 1) := by decide +kernel
theorem dX6_init_96 : decode cX6_init 96 = .ok (.bipush 40, 2) := by decide +kernel
theorem dX6_init_98 : decode cX6_init 98 = .ok (.newarray .int, 2) := by decide +kernel
theorem dX6_init_100 : decode cX6_init 100 = .ok (.putfield 44, 3) := by decide +kernel
theorem dX6_init_103 : decode cX6_init 103 = .ok (.aload_n 0, 1) := by decide +kernel
theorem dX6_init_104 : decode cX6_init 104 = .ok (.bipush 40, 2) := by decide +kernel
theorem dX6_init_106 : decode cX6_init 106 = .ok (.newarray .int, 2) := by decide +kernel
theorem dX6_init_108 : decode cX6_init 108 = .ok (.putfield 47, 3) := by decide +kernel
theorem dX6_init_111 : decode cX6_init 111 = .ok (.aload_n 0, 1) := by decide +kernel
theorem dX6_init_112 : decode cX6_init 112 = .ok (.bipush 40, 2) := by decide +kernel
theorem dX6_init_114 : decode cX6_init 114 = .ok (.newarray .boolean, 2) := by decide +kernel
theorem dX6_init_116 : decode cX6_init 116 = .ok (.putfield 50, 3) := by decide +kernel
theorem dX6_init_119 : decode cX6_init 119 = .ok (.aload_n 0, 1) := by decide +kernel
theorem dX6_init_120 : decode cX6_init 120 = .ok (.sipush 400, 3) := by decide +kernel
theorem dX6_init_123 : decode cX6_init 123 = .ok (.newarray .int, 2) := by decide +kernel
theorem dX6_init_125 : decode cX6_init 125 = .ok (.putfield 53, 3) := by decide +kernel
theorem dX6_init_128 : decode cX6_init 128 = .ok (.aload_n 0, 1) := by decide +kernel
theorem dX6_init_129 : decode cX6_init 129 = .ok (.iconst 4, 1) := by decide +kernel
theorem dX6_init_130 : decode cX6_init 130 = .ok (.newarray .int, 2) := by decide +kernel
theorem dX6_init_132 : decode cX6_init 132 = .ok (.putfield 56, 3) := by decide +kernel
theorem dX6_init_135 : decode cX6_init 135 = .ok (.aload_n 0, 1) := by decide +kernel
theorem dX6_init_136 : decode cX6_init 136 = .ok (.iconst 5, 1) := by decide +kernel
theorem dX6_init_137 : decode cX6_init 137 = .ok (.newarray .int, 2) := by decide +kernel
theorem dX6_init_139 : decode cX6_init 139 = .ok (.putfield 59, 3) := by decide +kernel
theorem dX6_init_142 : decode cX6_init 142 = .ok (.aload_n 0, 1) := by decide +kernel
theorem dX6_init_143 : decode cX6_init 143 = .ok (.iconst 4, 1) := by decide +kernel
theorem dX6_init_144 : decode cX6_init 144 = .ok (.newarray .int, 2) := by decide +kernel
theorem dX6_init_146 : decode cX6_init 146 = .ok (.putfield 62, 3) := by decide +kernel
theorem dX6_init_149 : decode cX6_init 149 = .ok (.aload_n 0, 1) := by decide +kernel
theorem dX6_init_150 : decode cX6_init 150 = .ok (.bipush (-6), 2) := by decide +kernel
theorem dX6_init_152 : decode cX6_init 152 = .ok (.putfield 65, 3) := by decide +kernel
theorem dX6_init_155 : decode cX6_init 155 = .ok (.iconst 0, 1) := by decide +kernel
theorem dX6_init_156 : decode cX6_init 156 = .ok (.istore_n 1, 1) := by decide +kernel
theorem dX6_init_157 : decode cX6_init 157 = .ok (.iload_n 1, 1) := by decide +kernel
theorem dX6_init_158 : decode cX6_init 158 = .ok (.iconst 4, 1) := by decide +kernel
theorem dX6_init_159 : decode cX6_init 159 = .ok (.if_icmp .ge 19, 3) := by decide +kernel
theorem dX6_init_162 : decode cX6_init 162 = .ok (.aload_n 0, 1) := by decide +kernel
theorem dX6_init_163 : decode cX6_init 163 = .ok (.getfield 7, 3) := by decide +kernel
theorem dX6_init_166 : decode cX6_init 166 = .ok (.iconst 0, 1) := by decide +kernel
theorem dX6_init_167 : decode cX6_init 167 = .ok (.iload_n 1, 1) := by decide +kernel
theorem dX6_init_168 : decode cX6_init 168 = .ok (.iadd, 1) := by decide +kernel
theorem dX6_init_169 : decode cX6_init 169 = .ok (.bipush 10, 2) := by decide +kernel
theorem dX6_init_171 : decode cX6_init 171 = .ok (.iastore, 1) := by decide +kernel
theorem dX6_init_172 : decode cX6_init 172 = .ok (.iinc 1 1, 3) := by decide +kernel
theorem dX6_init_175 : decode cX6_init 175 = .ok (.goto (-18), 3) := by decide +kernel
theorem dX6_init_178 : decode cX6_init 178 = .ok (.aload_n 0, 1) := by decide +kernel
theorem dX6_init_179 : decode cX6_init 179 = .ok (.getfield 7, 3) := by decide +kernel
theorem dX6_init_182 : decode cX6_init 182 = .ok (.bipush 92, 2) := by decide +kernel
theorem dX6_init_184 : decode cX6_init 184 = .ok (.bipush 20, 2) := by decide +kernel
theorem dX6_init_186 : decode cX6_init 186 = .ok (.iastore, 1) := by decide +kernel
theorem dX6_init_187 : decode cX6_init 187 = .ok (.aload_n 0, 1) := by decide +kernel
theorem dX6_init_188 : decode cX6_init 188 = .ok (.getfield 7, 3) := by decide +kernel
theorem dX6_init_191 : decode cX6_init 191 = .ok (.bipush 93, 2) := by decide +kernel
theorem dX6_init_193 : decode cX6_init 193 = .ok (.iconst 1, 1) := by decide +kernel
theorem dX6_init_194 : decode cX6_init 194 = .ok (.iastore, 1) := by decide +kernel
theorem dX6_init_195 : decode cX6_init 195 = .ok (.aload_n 0, 1) := by decide +kernel
theorem dX6_init_196 : decode cX6_init 196 = .ok (.getfield 7, 3) := by decide +kernel
theorem dX6_init_199 : decode cX6_init 199 = .ok (.bipush 94, 2) := by decide +kernel
theorem dX6_init_201 : decode cX6_init 201 = .ok (.bipush (-6), 2) := by decide +kernel
theorem dX6_init_203 : decode cX6_init 203 = .ok (.iastore, 1) := by decide +kernel
theorem dX6_init_204 : decode cX6_init 204 = .ok (.return_, 1) := by decide +kernel
theorem dX6_in_0 : decode cX6_in 0 = .ok (.iload_n 0, 1) := by decide +kernel
theorem dX6_in_1 : decode cX6_in 1 = .ok (.iload_n 1, 1) := by decide +kernel
theorem dX6_in_2 : decode cX6_in 2 = .ok (.if_icmp .lt 12, 3) := by decide +kernel
theorem dX6_in_5 : decode cX6_in 5 = .ok (.iload_n 0, 1) := by decide +kernel
theorem dX6_in_6 : decode cX6_in 6 = .ok (.iload_n 2, 1) := by decide +kernel
theorem dX6_in_7 : decode cX6_in 7 = .ok (.if_icmp .gt 7, 3) := by decide +kernel
theorem dX6_in_10 : decode cX6_in 10 = .ok (.iconst 1, 1) := by decide +kernel
theorem dX6_in_11 : decode cX6_in 11 = .ok (.goto 4, 3) := by decide +kernel
theorem dX6_in_14 : decode cX6_in 14 = .ok (.iconst 0, 1) := by decide +kernel
theorem dX6_in_15 : decode cX6_in 15 = .ok (.ireturn, 1) := by decide +kernel
theorem dX6_isProgramme_0 : decode cX6_isProgramme 0 = .ok (.iload_n 0, 1) := by decide +kernel
theorem dX6_isProgramme_1 : decode cX6_isProgramme 1 = .ok (.iconst 0, 1) := by decide +kernel
theorem dX6_isProgramme_2 : decode cX6_isProgramme 2 = .ok (.iconst 3, 1) := by decide +kernel
theorem dX6_isProgramme_3 : decode cX6_isProgramme 3 = .ok (.invokestatic 69, 3) := by decide +kernel
theorem dX6_isProgramme_6 : decode cX6_isProgramme 6 = .ok (.ireturn, 1) := by decide +kernel
theorem dX6_isFrame_0 : decode cX6_isFrame 0 = .ok (.iload_n 2, 1) := by decide +kernel
theorem dX6_isFrame_1 : decode cX6_isFrame 1 = .ok (.iconst 0, 1) := by decide +kernel
theorem dX6_isFrame_2 : decode cX6_isFrame 2 = .ok (.aload_n 0, 1) := by decide +kernel
theorem dX6_isFrame_3 : decode cX6_isFrame 3 = .ok (.getfield 7, 3) := by decide +kernel
theorem dX6_isFrame_6 : decode cX6_isFrame 6 = .ok (.bipush 8, 2) := by decide +kernel
theorem dX6_isFrame_8 : decode cX6_isFrame 8 = .ok (.iload_n 1, 1) := by decide +kernel
theorem dX6_isFrame_9 : decode cX6_isFrame 9 = .ok (.iadd, 1) := by decide +kernel
theorem dX6_isFrame_10 : decode cX6_isFrame 10 = .ok (.iaload, 1) := by decide +kernel
theorem dX6_isFrame_11 : decode cX6_isFrame 11 = .ok (.iconst 1, 1) := by decide +kernel
theorem dX6_isFrame_12 : decode cX6_isFrame 12 = .ok (.isub, 1) := by decide +kernel
theorem dX6_isFrame_13 : decode cX6_isFrame 13 = .ok (.invokestatic 69, 3) := by decide +kernel
theorem dX6_isFrame_16 : decode cX6_isFrame 16 = .ok (.ireturn, 1) := by decide +kernel
theorem dX6_sizeOf_0 : decode cX6_sizeOf 0 = .ok (.aload_n 0, 1) := by decide +kernel
theorem dX6_sizeOf_1 : decode cX6_sizeOf 1 = .ok (.getfield 7, 3) := by decide +kernel
theorem dX6_sizeOf_4 : decode cX6_sizeOf 4 = .ok (.bipush 12, 2) := by decide +kernel
theorem dX6_sizeOf_6 : decode cX6_sizeOf 6 = .ok (.bipush 10, 2) := by decide +kernel
theorem dX6_sizeOf_8 : decode cX6_sizeOf 8 = .ok (.iload_n 1, 1) := by decide +kernel
theorem dX6_sizeOf_9 : decode cX6_sizeOf 9 = .ok (.imul, 1) := by decide +kernel
theorem dX6_sizeOf_10 : decode cX6_sizeOf 10 = .ok (.iadd, 1) := by decide +kernel
theorem dX6_sizeOf_11 : decode cX6_sizeOf 11 = .ok (.iload_n 2, 1) := by decide +kernel
theorem dX6_sizeOf_12 : decode cX6_sizeOf 12 = .ok (.iadd, 1) := by decide +kernel
theorem dX6_sizeOf_13 : decode cX6_sizeOf 13 = .ok (.iaload, 1) := by decide +kernel
theorem dX6_sizeOf_14 : decode cX6_sizeOf 14 = .ok (.ireturn, 1) := by decide +kernel
theorem dX6_dueOf_0 : decode cX6_dueOf 0 = .ok (.aload_n 0, 1) := by decide +kernel
theorem dX6_dueOf_1 : decode cX6_dueOf 1 = .ok (.getfield 7, 3) := by decide +kernel
theorem dX6_dueOf_4 : decode cX6_dueOf 4 = .ok (.bipush 52, 2) := by decide +kernel
theorem dX6_dueOf_6 : decode cX6_dueOf 6 = .ok (.bipush 10, 2) := by decide +kernel
theorem dX6_dueOf_8 : decode cX6_dueOf 8 = .ok (.iload_n 1, 1) := by decide +kernel
theorem dX6_dueOf_9 : decode cX6_dueOf 9 = .ok (.imul, 1) := by decide +kernel
theorem dX6_dueOf_10 : decode cX6_dueOf 10 = .ok (.iadd, 1) := by decide +kernel
theorem dX6_dueOf_11 : decode cX6_dueOf 11 = .ok (.iload_n 2, 1) := by decide +kernel
theorem dX6_dueOf_12 : decode cX6_dueOf 12 = .ok (.iadd, 1) := by decide +kernel
theorem dX6_dueOf_13 : decode cX6_dueOf 13 = .ok (.iaload, 1) := by decide +kernel
theorem dX6_dueOf_14 : decode cX6_dueOf 14 = .ok (.ireturn, 1) := by decide +kernel
theorem dX6_say_0 : decode cX6_say 0 = .ok (.iload_n 1, 1) := by decide +kernel
theorem dX6_say_1 : decode cX6_say 1 = .ok (.bipush 32, 2) := by decide +kernel
theorem dX6_say_3 : decode cX6_say 3 = .ok (.bipush 126, 2) := by decide +kernel
theorem dX6_say_5 : decode cX6_say 5 = .ok (.invokestatic 69, 3) := by decide +kernel
theorem dX6_say_8 : decode cX6_say 8 = .ok (.ifCond .ne 6, 3) := by decide +kernel
theorem dX6_say_11 : decode cX6_say 11 = .ok (.bipush (-2), 2) := by decide +kernel
theorem dX6_say_13 : decode cX6_say 13 = .ok (.ireturn, 1) := by decide +kernel
theorem dX6_say_14 : decode cX6_say 14 = .ok (.aload_n 0, 1) := by decide +kernel
theorem dX6_say_15 : decode cX6_say 15 = .ok (.getfield 73, 3) := by decide +kernel
theorem dX6_say_18 : decode cX6_say 18 = .ok (.bipush 20, 2) := by decide +kernel
theorem dX6_say_20 : decode cX6_say 20 = .ok (.if_icmp .ne 6, 3) := by decide +kernel
theorem dX6_say_23 : decode cX6_say 23 = .ok (.bipush (-4), 2) := by decide +kernel
theorem dX6_say_25 : decode cX6_say 25 = .ok (.ireturn, 1) := by decide +kernel
theorem dX6_say_26 : decode cX6_say 26 = .ok (.aload_n 0, 1) := by decide +kernel
theorem dX6_say_27 : decode cX6_say 27 = .ok (.getfield 20, 3) := by decide +kernel
theorem dX6_say_30 : decode cX6_say 30 = .ok (.aload_n 0, 1) := by decide +kernel
theorem dX6_say_31 : decode cX6_say 31 = .ok (.getfield 73, 3) := by decide +kernel
theorem dX6_say_34 : decode cX6_say 34 = .ok (.iload_n 1, 1) := by decide +kernel
theorem dX6_say_35 : decode cX6_say 35 = .ok (.iastore, 1) := by decide +kernel
theorem dX6_say_36 : decode cX6_say 36 = .ok (.aload_n 0, 1) := by decide +kernel
theorem dX6_say_37 : decode cX6_say 37 = .ok (.dup, 1) := by decide +kernel
theorem dX6_say_38 : decode cX6_say 38 = .ok (.getfield 73, 3) := by decide +kernel
theorem dX6_say_41 : decode cX6_say 41 = .ok (.iconst 1, 1) := by decide +kernel
theorem dX6_say_42 : decode cX6_say 42 = .ok (.iadd, 1) := by decide +kernel
theorem dX6_say_43 : decode cX6_say 43 = .ok (.putfield 73, 3) := by decide +kernel
theorem dX6_say_46 : decode cX6_say 46 = .ok (.aload_n 0, 1) := by decide +kernel
theorem dX6_say_47 : decode cX6_say 47 = .ok (.getfield 73, 3) := by decide +kernel
theorem dX6_say_50 : decode cX6_say 50 = .ok (.ireturn, 1) := by decide +kernel
theorem dX6_wipe_0 : decode cX6_wipe 0 = .ok (.aload_n 0, 1) := by decide +kernel
theorem dX6_wipe_1 : decode cX6_wipe 1 = .ok (.getfield 73, 3) := by decide +kernel
theorem dX6_wipe_4 : decode cX6_wipe 4 = .ok (.istore_n 1, 1) := by decide +kernel
theorem dX6_wipe_5 : decode cX6_wipe 5 = .ok (.aload_n 0, 1) := by decide +kernel
theorem dX6_wipe_6 : decode cX6_wipe 6 = .ok (.iconst 0, 1) := by decide +kernel
theorem dX6_wipe_7 : decode cX6_wipe 7 = .ok (.putfield 73, 3) := by decide +kernel
theorem dX6_wipe_10 : decode cX6_wipe 10 = .ok (.iload_n 1, 1) := by decide +kernel
theorem dX6_wipe_11 : decode cX6_wipe 11 = .ok (.ireturn, 1) := by decide +kernel
theorem dX6_pick_0 : decode cX6_pick 0 = .ok (.iload_n 0, 1) := by decide +kernel
theorem dX6_pick_1 : decode cX6_pick 1 = .ok (.ifCond .ne 7, 3) := by decide +kernel
theorem dX6_pick_4 : decode cX6_pick 4 = .ok (.iload_n 1, 1) := by decide +kernel
theorem dX6_pick_5 : decode cX6_pick 5 = .ok (.goto 42, 3) := by decide +kernel
theorem dX6_pick_8 : decode cX6_pick 8 = .ok (.iload_n 0, 1) := by decide +kernel
theorem dX6_pick_9 : decode cX6_pick 9 = .ok (.iconst 1, 1) := by decide +kernel
theorem dX6_pick_10 : decode cX6_pick 10 = .ok (.if_icmp .ne 7, 3) := by decide +kernel
theorem dX6_pick_13 : decode cX6_pick 13 = .ok (.iload_n 2, 1) := by decide +kernel
theorem dX6_pick_14 : decode cX6_pick 14 = .ok (.goto 33, 3) := by decide +kernel
theorem dX6_pick_17 : decode cX6_pick 17 = .ok (.iload_n 0, 1) := by decide +kernel
theorem dX6_pick_18 : decode cX6_pick 18 = .ok (.iconst 2, 1) := by decide +kernel
theorem dX6_pick_19 : decode cX6_pick 19 = .ok (.if_icmp .ne 7, 3) := by decide +kernel
theorem dX6_pick_22 : decode cX6_pick 22 = .ok (.iload_n 3, 1) := by decide +kernel
theorem dX6_pick_23 : decode cX6_pick 23 = .ok (.goto 24, 3) := by decide +kernel
theorem dX6_pick_26 : decode cX6_pick 26 = .ok (.iload_n 0, 1) := by decide +kernel
theorem dX6_pick_27 : decode cX6_pick 27 = .ok (.iconst 3, 1) := by decide +kernel
theorem dX6_pick_28 : decode cX6_pick 28 = .ok (.if_icmp .ne 8, 3) := by decide +kernel
theorem dX6_pick_31 : decode cX6_pick 31 = .ok (.iload 4, 2) := by decide +kernel
theorem dX6_pick_33 : decode cX6_pick 33 = .ok (.goto 14, 3) := by decide +kernel
theorem dX6_pick_36 : decode cX6_pick 36 = .ok (.iload_n 0, 1) := by decide +kernel
theorem dX6_pick_37 : decode cX6_pick 37 = .ok (.iconst 4, 1) := by decide +kernel
theorem dX6_pick_38 : decode cX6_pick 38 = .ok (.if_icmp .ne 8, 3) := by decide +kernel
theorem dX6_pick_41 : decode cX6_pick 41 = .ok (.iload 5, 2) := by decide +kernel
theorem dX6_pick_43 : decode cX6_pick 43 = .ok (.goto 4, 3) := by decide +kernel
theorem dX6_pick_46 : decode cX6_pick 46 = .ok (.iconst 0, 1) := by decide +kernel
theorem dX6_pick_47 : decode cX6_pick 47 = .ok (.ireturn, 1) := by decide +kernel
theorem dX6_signOf_0 : decode cX6_signOf 0 = .ok (.iload_n 0, 1) := by decide +kernel
theorem dX6_signOf_1 : decode cX6_signOf 1 = .ok (.tableswitch 126 0 5 #[39, 54, 68, 83, 98, 112], 39) := by decide +kernel
theorem dX6_signOf_40 : decode cX6_signOf 40 = .ok (.iload_n 1, 1) := by decide +kernel
theorem dX6_signOf_41 : decode cX6_signOf 41 = .ok (.bipush 102, 2) := by decide +kernel
theorem dX6_signOf_43 : decode cX6_signOf 43 = .ok (.bipush 114, 2) := by decide +kernel
theorem dX6_signOf_45 : decode cX6_signOf 45 = .ok (.bipush 97, 2) := by decide +kernel
theorem dX6_signOf_47 : decode cX6_signOf 47 = .ok (.bipush 109, 2) := by decide +kernel
theorem dX6_signOf_49 : decode cX6_signOf 49 = .ok (.bipush 101, 2) := by decide +kernel
theorem dX6_signOf_51 : decode cX6_signOf 51 = .ok (.invokestatic 76, 3) := by decide +kernel
theorem dX6_signOf_54 : decode cX6_signOf 54 = .ok (.ireturn, 1) := by decide +kernel
theorem dX6_signOf_55 : decode cX6_signOf 55 = .ok (.iload_n 1, 1) := by decide +kernel
theorem dX6_signOf_56 : decode cX6_signOf 56 = .ok (.bipush 114, 2) := by decide +kernel
theorem dX6_signOf_58 : decode cX6_signOf 58 = .ok (.bipush 111, 2) := by decide +kernel
theorem dX6_signOf_60 : decode cX6_signOf 60 = .ok (.bipush 111, 2) := by decide +kernel
theorem dX6_signOf_62 : decode cX6_signOf 62 = .ok (.bipush 109, 2) := by decide +kernel
theorem dX6_signOf_64 : decode cX6_signOf 64 = .ok (.iconst 0, 1) := by decide +kernel
theorem dX6_signOf_65 : decode cX6_signOf 65 = .ok (.invokestatic 76, 3) := by decide +kernel
theorem dX6_signOf_68 : decode cX6_signOf 68 = .ok (.ireturn, 1) := by decide +kernel
theorem dX6_signOf_69 : decode cX6_signOf 69 = .ok (.iload_n 1, 1) := by decide +kernel
theorem dX6_signOf_70 : decode cX6_signOf 70 = .ok (.bipush 99, 2) := by decide +kernel
theorem dX6_signOf_72 : decode cX6_signOf 72 = .ok (.bipush 108, 2) := by decide +kernel
theorem dX6_signOf_74 : decode cX6_signOf 74 = .ok (.bipush 111, 2) := by decide +kernel
theorem dX6_signOf_76 : decode cX6_signOf 76 = .ok (.bipush 99, 2) := by decide +kernel
theorem dX6_signOf_78 : decode cX6_signOf 78 = .ok (.bipush 107, 2) := by decide +kernel
theorem dX6_signOf_80 : decode cX6_signOf 80 = .ok (.invokestatic 76, 3) := by decide +kernel
theorem dX6_signOf_83 : decode cX6_signOf 83 = .ok (.ireturn, 1) := by decide +kernel
theorem dX6_signOf_84 : decode cX6_signOf 84 = .ok (.iload_n 1, 1) := by decide +kernel
theorem dX6_signOf_85 : decode cX6_signOf 85 = .ok (.bipush 116, 2) := by decide +kernel
theorem dX6_signOf_87 : decode cX6_signOf 87 = .ok (.bipush 97, 2) := by decide +kernel
theorem dX6_signOf_89 : decode cX6_signOf 89 = .ok (.bipush 98, 2) := by decide +kernel
theorem dX6_signOf_91 : decode cX6_signOf 91 = .ok (.bipush 108, 2) := by decide +kernel
theorem dX6_signOf_93 : decode cX6_signOf 93 = .ok (.bipush 101, 2) := by decide +kernel
theorem dX6_signOf_95 : decode cX6_signOf 95 = .ok (.invokestatic 76, 3) := by decide +kernel
theorem dX6_signOf_98 : decode cX6_signOf 98 = .ok (.ireturn, 1) := by decide +kernel
theorem dX6_signOf_99 : decode cX6_signOf 99 = .ok (.iload_n 1, 1) := by decide +kernel
theorem dX6_signOf_100 : decode cX6_signOf 100 = .ok (.bipush 119, 2) := by decide +kernel
theorem dX6_signOf_102 : decode cX6_signOf 102 = .ok (.bipush 105, 2) := by decide +kernel
theorem dX6_signOf_104 : decode cX6_signOf 104 = .ok (.bipush 100, 2) := by decide +kernel
theorem dX6_signOf_106 : decode cX6_signOf 106 = .ok (.bipush 101, 2) := by decide +kernel
theorem dX6_signOf_108 : decode cX6_signOf 108 = .ok (.iconst 0, 1) := by decide +kernel
theorem dX6_signOf_109 : decode cX6_signOf 109 = .ok (.invokestatic 76, 3) := by decide +kernel
theorem dX6_signOf_112 : decode cX6_signOf 112 = .ok (.ireturn, 1) := by decide +kernel
theorem dX6_signOf_113 : decode cX6_signOf 113 = .ok (.iload_n 1, 1) := by decide +kernel
theorem dX6_signOf_114 : decode cX6_signOf 114 = .ok (.bipush 100, 2) := by decide +kernel
theorem dX6_signOf_116 : decode cX6_signOf 116 = .ok (.bipush 114, 2) := by decide +kernel
theorem dX6_signOf_118 : decode cX6_signOf 118 = .ok (.bipush 111, 2) := by decide +kernel
theorem dX6_signOf_120 : decode cX6_signOf 120 = .ok (.bipush 112, 2) := by decide +kernel
theorem dX6_signOf_122 : decode cX6_signOf 122 = .ok (.iconst 0, 1) := by decide +kernel
theorem dX6_signOf_123 : decode cX6_signOf 123 = .ok (.invokestatic 76, 3) := by decide +kernel
theorem dX6_signOf_126 : decode cX6_signOf 126 = .ok (.ireturn, 1) := by decide +kernel
theorem dX6_signOf_127 : decode cX6_signOf 127 = .ok (.iload_n 1, 1) := by decide +kernel
theorem dX6_signOf_128 : decode cX6_signOf 128 = .ok (.bipush 115, 2) := by decide +kernel
theorem dX6_signOf_130 : decode cX6_signOf 130 = .ok (.bipush 119, 2) := by decide +kernel
theorem dX6_signOf_132 : decode cX6_signOf 132 = .ok (.bipush 97, 2) := by decide +kernel
theorem dX6_signOf_134 : decode cX6_signOf 134 = .ok (.bipush 112, 2) := by decide +kernel
theorem dX6_signOf_136 : decode cX6_signOf 136 = .ok (.iconst 0, 1) := by decide +kernel
theorem dX6_signOf_137 : decode cX6_signOf 137 = .ok (.invokestatic 76, 3) := by decide +kernel
theorem dX6_signOf_140 : decode cX6_signOf 140 = .ok (.ireturn, 1) := by decide +kernel
theorem dX6_numbersOf_0 : decode cX6_numbersOf 0 = .ok (.iload_n 0, 1) := by decide +kernel
theorem dX6_numbersOf_1 : decode cX6_numbersOf 1 = .ok (.ifCond .eq 9, 3) := by decide +kernel
theorem dX6_numbersOf_4 : decode cX6_numbersOf 4 = .ok (.iload_n 0, 1) := by decide +kernel
theorem dX6_numbersOf_5 : decode cX6_numbersOf 5 = .ok (.bipush 6, 2) := by decide +kernel
theorem dX6_numbersOf_7 : decode cX6_numbersOf 7 = .ok (.if_icmp .ne 7, 3) := by decide +kernel
theorem dX6_numbersOf_10 : decode cX6_numbersOf 10 = .ok (.iconst 3, 1) := by decide +kernel
theorem dX6_numbersOf_11 : decode cX6_numbersOf 11 = .ok (.goto 18, 3) := by decide +kernel
theorem dX6_numbersOf_14 : decode cX6_numbersOf 14 = .ok (.iload_n 0, 1) := by decide +kernel
theorem dX6_numbersOf_15 : decode cX6_numbersOf 15 = .ok (.iconst 1, 1) := by decide +kernel
theorem dX6_numbersOf_16 : decode cX6_numbersOf 16 = .ok (.if_icmp .eq 8, 3) := by decide +kernel
theorem dX6_numbersOf_19 : decode cX6_numbersOf 19 = .ok (.iload_n 0, 1) := by decide +kernel
theorem dX6_numbersOf_20 : decode cX6_numbersOf 20 = .ok (.iconst 2, 1) := by decide +kernel
theorem dX6_numbersOf_21 : decode cX6_numbersOf 21 = .ok (.if_icmp .ne 7, 3) := by decide +kernel
theorem dX6_numbersOf_24 : decode cX6_numbersOf 24 = .ok (.iconst 2, 1) := by decide +kernel
theorem dX6_numbersOf_25 : decode cX6_numbersOf 25 = .ok (.goto 4, 3) := by decide +kernel
theorem dX6_numbersOf_28 : decode cX6_numbersOf 28 = .ok (.iconst 1, 1) := by decide +kernel
theorem dX6_numbersOf_29 : decode cX6_numbersOf 29 = .ok (.ireturn, 1) := by decide +kernel
theorem dX6_readAs_0 : decode cX6_readAs 0 = .ok (.aload_n 0, 1) := by decide +kernel
theorem dX6_readAs_1 : decode cX6_readAs 1 = .ok (.iconst 0, 1) := by decide +kernel
theorem dX6_readAs_2 : decode cX6_readAs 2 = .ok (.putfield 80, 3) := by decide +kernel
theorem dX6_readAs_5 : decode cX6_readAs 5 = .ok (.aload_n 0, 1) := by decide +kernel
theorem dX6_readAs_6 : decode cX6_readAs 6 = .ok (.iconst 0, 1) := by decide +kernel
theorem dX6_readAs_7 : decode cX6_readAs 7 = .ok (.putfield 83, 3) := by decide +kernel
theorem dX6_readAs_10 : decode cX6_readAs 10 = .ok (.iconst 0, 1) := by decide +kernel
theorem dX6_readAs_11 : decode cX6_readAs 11 = .ok (.istore_n 2, 1) := by decide +kernel
theorem dX6_readAs_12 : decode cX6_readAs 12 = .ok (.iload_n 1, 1) := by decide +kernel
theorem dX6_readAs_13 : decode cX6_readAs 13 = .ok (.iload_n 2, 1) := by decide +kernel
theorem dX6_readAs_14 : decode cX6_readAs 14 = .ok (.invokestatic 87, 3) := by decide +kernel
theorem dX6_readAs_17 : decode cX6_readAs 17 = .ok (.ifCond .eq 33, 3) := by decide +kernel
theorem dX6_readAs_20 : decode cX6_readAs 20 = .ok (.iload_n 2, 1) := by decide +kernel
theorem dX6_readAs_21 : decode cX6_readAs 21 = .ok (.aload_n 0, 1) := by decide +kernel
theorem dX6_readAs_22 : decode cX6_readAs 22 = .ok (.getfield 73, 3) := by decide +kernel
theorem dX6_readAs_25 : decode cX6_readAs 25 = .ok (.if_icmp .eq 17, 3) := by decide +kernel
theorem dX6_readAs_28 : decode cX6_readAs 28 = .ok (.aload_n 0, 1) := by decide +kernel
theorem dX6_readAs_29 : decode cX6_readAs 29 = .ok (.getfield 20, 3) := by decide +kernel
theorem dX6_readAs_32 : decode cX6_readAs 32 = .ok (.iload_n 2, 1) := by decide +kernel
theorem dX6_readAs_33 : decode cX6_readAs 33 = .ok (.iaload, 1) := by decide +kernel
theorem dX6_readAs_34 : decode cX6_readAs 34 = .ok (.iload_n 1, 1) := by decide +kernel
theorem dX6_readAs_35 : decode cX6_readAs 35 = .ok (.iload_n 2, 1) := by decide +kernel
theorem dX6_readAs_36 : decode cX6_readAs 36 = .ok (.invokestatic 87, 3) := by decide +kernel
theorem dX6_readAs_39 : decode cX6_readAs 39 = .ok (.if_icmp .eq 5, 3) := by decide +kernel
theorem dX6_readAs_42 : decode cX6_readAs 42 = .ok (.iload_n 2, 1) := by decide +kernel
theorem dX6_readAs_43 : decode cX6_readAs 43 = .ok (.ireturn, 1) := by decide +kernel
theorem dX6_readAs_44 : decode cX6_readAs 44 = .ok (.iinc 2 1, 3) := by decide +kernel
theorem dX6_readAs_47 : decode cX6_readAs 47 = .ok (.goto (-35), 3) := by decide +kernel
theorem dX6_readAs_50 : decode cX6_readAs 50 = .ok (.aload_n 0, 1) := by decide +kernel
theorem dX6_readAs_51 : decode cX6_readAs 51 = .ok (.getfield 80, 3) := by decide +kernel
theorem dX6_readAs_54 : decode cX6_readAs 54 = .ok (.iload_n 1, 1) := by decide +kernel
theorem dX6_readAs_55 : decode cX6_readAs 55 = .ok (.invokestatic 91, 3) := by decide +kernel
theorem dX6_readAs_58 : decode cX6_readAs 58 = .ok (.if_icmp .ge 145, 3) := by decide +kernel
theorem dX6_readAs_61 : decode cX6_readAs 61 = .ok (.iload_n 2, 1) := by decide +kernel
theorem dX6_readAs_62 : decode cX6_readAs 62 = .ok (.aload_n 0, 1) := by decide +kernel
theorem dX6_readAs_63 : decode cX6_readAs 63 = .ok (.getfield 73, 3) := by decide +kernel
theorem dX6_readAs_66 : decode cX6_readAs 66 = .ok (.if_icmp .eq 14, 3) := by decide +kernel
theorem dX6_readAs_69 : decode cX6_readAs 69 = .ok (.aload_n 0, 1) := by decide +kernel
theorem dX6_readAs_70 : decode cX6_readAs 70 = .ok (.getfield 20, 3) := by decide +kernel
theorem dX6_readAs_73 : decode cX6_readAs 73 = .ok (.iload_n 2, 1) := by decide +kernel
theorem dX6_readAs_74 : decode cX6_readAs 74 = .ok (.iaload, 1) := by decide +kernel
theorem dX6_readAs_75 : decode cX6_readAs 75 = .ok (.bipush 32, 2) := by decide +kernel
theorem dX6_readAs_77 : decode cX6_readAs 77 = .ok (.if_icmp .eq 5, 3) := by decide +kernel
theorem dX6_readAs_80 : decode cX6_readAs 80 = .ok (.iload_n 2, 1) := by decide +kernel
theorem dX6_readAs_81 : decode cX6_readAs 81 = .ok (.ireturn, 1) := by decide +kernel
theorem dX6_readAs_82 : decode cX6_readAs 82 = .ok (.iinc 2 1, 3) := by decide +kernel
theorem dX6_readAs_85 : decode cX6_readAs 85 = .ok (.iload_n 2, 1) := by decide +kernel
theorem dX6_readAs_86 : decode cX6_readAs 86 = .ok (.aload_n 0, 1) := by decide +kernel
theorem dX6_readAs_87 : decode cX6_readAs 87 = .ok (.getfield 73, 3) := by decide +kernel
theorem dX6_readAs_90 : decode cX6_readAs 90 = .ok (.if_icmp .eq 19, 3) := by decide +kernel
theorem dX6_readAs_93 : decode cX6_readAs 93 = .ok (.aload_n 0, 1) := by decide +kernel
theorem dX6_readAs_94 : decode cX6_readAs 94 = .ok (.getfield 20, 3) := by decide +kernel
theorem dX6_readAs_97 : decode cX6_readAs 97 = .ok (.iload_n 2, 1) := by decide +kernel
theorem dX6_readAs_98 : decode cX6_readAs 98 = .ok (.iaload, 1) := by decide +kernel
theorem dX6_readAs_99 : decode cX6_readAs 99 = .ok (.bipush 48, 2) := by decide +kernel
theorem dX6_readAs_101 : decode cX6_readAs 101 = .ok (.bipush 57, 2) := by decide +kernel
theorem dX6_readAs_103 : decode cX6_readAs 103 = .ok (.invokestatic 69, 3) := by decide +kernel
theorem dX6_readAs_106 : decode cX6_readAs 106 = .ok (.ifCond .ne 5, 3) := by decide +kernel
theorem dX6_readAs_109 : decode cX6_readAs 109 = .ok (.iload_n 2, 1) := by decide +kernel
theorem dX6_readAs_110 : decode cX6_readAs 110 = .ok (.ireturn, 1) := by decide +kernel
theorem dX6_readAs_111 : decode cX6_readAs 111 = .ok (.aload_n 0, 1) := by decide +kernel
theorem dX6_readAs_112 : decode cX6_readAs 112 = .ok (.getfield 23, 3) := by decide +kernel
theorem dX6_readAs_115 : decode cX6_readAs 115 = .ok (.aload_n 0, 1) := by decide +kernel
theorem dX6_readAs_116 : decode cX6_readAs 116 = .ok (.getfield 80, 3) := by decide +kernel
theorem dX6_readAs_119 : decode cX6_readAs 119 = .ok (.aload_n 0, 1) := by decide +kernel
theorem dX6_readAs_120 : decode cX6_readAs 120 = .ok (.getfield 20, 3) := by decide +kernel
theorem dX6_readAs_123 : decode cX6_readAs 123 = .ok (.iload_n 2, 1) := by decide +kernel
theorem dX6_readAs_124 : decode cX6_readAs 124 = .ok (.iaload, 1) := by decide +kernel
theorem dX6_readAs_125 : decode cX6_readAs 125 = .ok (.bipush 48, 2) := by decide +kernel
theorem dX6_readAs_127 : decode cX6_readAs 127 = .ok (.isub, 1) := by decide +kernel
theorem dX6_readAs_128 : decode cX6_readAs 128 = .ok (.iastore, 1) := by decide +kernel
theorem dX6_readAs_129 : decode cX6_readAs 129 = .ok (.iinc 2 1, 3) := by decide +kernel
theorem dX6_readAs_132 : decode cX6_readAs 132 = .ok (.iload_n 2, 1) := by decide +kernel
theorem dX6_readAs_133 : decode cX6_readAs 133 = .ok (.aload_n 0, 1) := by decide +kernel
theorem dX6_readAs_134 : decode cX6_readAs 134 = .ok (.getfield 73, 3) := by decide +kernel
theorem dX6_readAs_137 : decode cX6_readAs 137 = .ok (.if_icmp .ge 53, 3) := by decide +kernel
theorem dX6_readAs_140 : decode cX6_readAs 140 = .ok (.aload_n 0, 1) := by decide +kernel
theorem dX6_readAs_141 : decode cX6_readAs 141 = .ok (.getfield 20, 3) := by decide +kernel
theorem dX6_readAs_144 : decode cX6_readAs 144 = .ok (.iload_n 2, 1) := by decide +kernel
theorem dX6_readAs_145 : decode cX6_readAs 145 = .ok (.iaload, 1) := by decide +kernel
theorem dX6_readAs_146 : decode cX6_readAs 146 = .ok (.bipush 48, 2) := by decide +kernel
theorem dX6_readAs_148 : decode cX6_readAs 148 = .ok (.bipush 57, 2) := by decide +kernel
theorem dX6_readAs_150 : decode cX6_readAs 150 = .ok (.invokestatic 69, 3) := by decide +kernel
theorem dX6_readAs_153 : decode cX6_readAs 153 = .ok (.ifCond .eq 37, 3) := by decide +kernel
theorem dX6_readAs_156 : decode cX6_readAs 156 = .ok (.aload_n 0, 1) := by decide +kernel
theorem dX6_readAs_157 : decode cX6_readAs 157 = .ok (.getfield 23, 3) := by decide +kernel
theorem dX6_readAs_160 : decode cX6_readAs 160 = .ok (.aload_n 0, 1) := by decide +kernel
theorem dX6_readAs_161 : decode cX6_readAs 161 = .ok (.getfield 80, 3) := by decide +kernel
theorem dX6_readAs_164 : decode cX6_readAs 164 = .ok (.bipush 10, 2) := by decide +kernel
theorem dX6_readAs_166 : decode cX6_readAs 166 = .ok (.aload_n 0, 1) := by decide +kernel
theorem dX6_readAs_167 : decode cX6_readAs 167 = .ok (.getfield 23, 3) := by decide +kernel
theorem dX6_readAs_170 : decode cX6_readAs 170 = .ok (.aload_n 0, 1) := by decide +kernel
theorem dX6_readAs_171 : decode cX6_readAs 171 = .ok (.getfield 80, 3) := by decide +kernel
theorem dX6_readAs_174 : decode cX6_readAs 174 = .ok (.iaload, 1) := by decide +kernel
theorem dX6_readAs_175 : decode cX6_readAs 175 = .ok (.imul, 1) := by decide +kernel
theorem dX6_readAs_176 : decode cX6_readAs 176 = .ok (.aload_n 0, 1) := by decide +kernel
theorem dX6_readAs_177 : decode cX6_readAs 177 = .ok (.getfield 20, 3) := by decide +kernel
theorem dX6_readAs_180 : decode cX6_readAs 180 = .ok (.iload_n 2, 1) := by decide +kernel
theorem dX6_readAs_181 : decode cX6_readAs 181 = .ok (.iaload, 1) := by decide +kernel
theorem dX6_readAs_182 : decode cX6_readAs 182 = .ok (.iadd, 1) := by decide +kernel
theorem dX6_readAs_183 : decode cX6_readAs 183 = .ok (.bipush 48, 2) := by decide +kernel
theorem dX6_readAs_185 : decode cX6_readAs 185 = .ok (.isub, 1) := by decide +kernel
theorem dX6_readAs_186 : decode cX6_readAs 186 = .ok (.iastore, 1) := by decide +kernel
theorem dX6_readAs_187 : decode cX6_readAs 187 = .ok (.iinc 2 1, 3) := by decide +kernel
theorem dX6_readAs_190 : decode cX6_readAs 190 = .ok (.aload_n 0, 1) := by decide +kernel
theorem dX6_readAs_191 : decode cX6_readAs 191 = .ok (.dup, 1) := by decide +kernel
theorem dX6_readAs_192 : decode cX6_readAs 192 = .ok (.getfield 80, 3) := by decide +kernel
theorem dX6_readAs_195 : decode cX6_readAs 195 = .ok (.iconst 1, 1) := by decide +kernel
theorem dX6_readAs_196 : decode cX6_readAs 196 = .ok (.iadd, 1) := by decide +kernel
theorem dX6_readAs_197 : decode cX6_readAs 197 = .ok (.putfield 80, 3) := by decide +kernel
theorem dX6_readAs_200 : decode cX6_readAs 200 = .ok (.goto (-150), 3) := by decide +kernel
theorem dX6_readAs_203 : decode cX6_readAs 203 = .ok (.aload_n 0, 1) := by decide +kernel
theorem dX6_readAs_204 : decode cX6_readAs 204 = .ok (.iload_n 2, 1) := by decide +kernel
theorem dX6_readAs_205 : decode cX6_readAs 205 = .ok (.aload_n 0, 1) := by decide +kernel
theorem dX6_readAs_206 : decode cX6_readAs 206 = .ok (.getfield 73, 3) := by decide +kernel
theorem dX6_readAs_209 : decode cX6_readAs 209 = .ok (.if_icmp .ne 7, 3) := by decide +kernel
theorem dX6_readAs_212 : decode cX6_readAs 212 = .ok (.iconst 1, 1) := by decide +kernel
theorem dX6_readAs_213 : decode cX6_readAs 213 = .ok (.goto 4, 3) := by decide +kernel
theorem dX6_readAs_216 : decode cX6_readAs 216 = .ok (.iconst 0, 1) := by decide +kernel
theorem dX6_readAs_217 : decode cX6_readAs 217 = .ok (.putfield 83, 3) := by decide +kernel
theorem dX6_readAs_220 : decode cX6_readAs 220 = .ok (.iload_n 2, 1) := by decide +kernel
theorem dX6_readAs_221 : decode cX6_readAs 221 = .ok (.ireturn, 1) := by decide +kernel
theorem dX6_isLine_0 : decode cX6_isLine 0 = .ok (.aload_n 0, 1) := by decide +kernel
theorem dX6_isLine_1 : decode cX6_isLine 1 = .ok (.iconst 0, 1) := by decide +kernel
theorem dX6_isLine_2 : decode cX6_isLine 2 = .ok (.putfield 95, 3) := by decide +kernel
theorem dX6_isLine_5 : decode cX6_isLine 5 = .ok (.iconst 0, 1) := by decide +kernel
theorem dX6_isLine_6 : decode cX6_isLine 6 = .ok (.istore_n 1, 1) := by decide +kernel
theorem dX6_isLine_7 : decode cX6_isLine 7 = .ok (.iload_n 1, 1) := by decide +kernel
theorem dX6_isLine_8 : decode cX6_isLine 8 = .ok (.bipush 7, 2) := by decide +kernel
theorem dX6_isLine_10 : decode cX6_isLine 10 = .ok (.if_icmp .ge 49, 3) := by decide +kernel
theorem dX6_isLine_13 : decode cX6_isLine 13 = .ok (.aload_n 0, 1) := by decide +kernel
theorem dX6_isLine_14 : decode cX6_isLine 14 = .ok (.iload_n 1, 1) := by decide +kernel
theorem dX6_isLine_15 : decode cX6_isLine 15 = .ok (.invokevirtual 98, 3) := by decide +kernel
theorem dX6_isLine_18 : decode cX6_isLine 18 = .ok (.istore_n 2, 1) := by decide +kernel
theorem dX6_isLine_19 : decode cX6_isLine 19 = .ok (.aload_n 0, 1) := by decide +kernel
theorem dX6_isLine_20 : decode cX6_isLine 20 = .ok (.getfield 83, 3) := by decide +kernel
theorem dX6_isLine_23 : decode cX6_isLine 23 = .ok (.ifCond .eq 10, 3) := by decide +kernel
theorem dX6_isLine_26 : decode cX6_isLine 26 = .ok (.aload_n 0, 1) := by decide +kernel
theorem dX6_isLine_27 : decode cX6_isLine 27 = .ok (.iload_n 1, 1) := by decide +kernel
theorem dX6_isLine_28 : decode cX6_isLine 28 = .ok (.putfield 101, 3) := by decide +kernel
theorem dX6_isLine_31 : decode cX6_isLine 31 = .ok (.iconst 1, 1) := by decide +kernel
theorem dX6_isLine_32 : decode cX6_isLine 32 = .ok (.ireturn, 1) := by decide +kernel
theorem dX6_isLine_33 : decode cX6_isLine 33 = .ok (.aload_n 0, 1) := by decide +kernel
theorem dX6_isLine_34 : decode cX6_isLine 34 = .ok (.iload_n 2, 1) := by decide +kernel
theorem dX6_isLine_35 : decode cX6_isLine 35 = .ok (.aload_n 0, 1) := by decide +kernel
theorem dX6_isLine_36 : decode cX6_isLine 36 = .ok (.getfield 95, 3) := by decide +kernel
theorem dX6_isLine_39 : decode cX6_isLine 39 = .ok (.if_icmp .le 7, 3) := by decide +kernel
theorem dX6_isLine_42 : decode cX6_isLine 42 = .ok (.iload_n 2, 1) := by decide +kernel
theorem dX6_isLine_43 : decode cX6_isLine 43 = .ok (.goto 7, 3) := by decide +kernel
theorem dX6_isLine_46 : decode cX6_isLine 46 = .ok (.aload_n 0, 1) := by decide +kernel
theorem dX6_isLine_47 : decode cX6_isLine 47 = .ok (.getfield 95, 3) := by decide +kernel
theorem dX6_isLine_50 : decode cX6_isLine 50 = .ok (.putfield 95, 3) := by decide +kernel
theorem dX6_isLine_53 : decode cX6_isLine 53 = .ok (.iinc 1 1, 3) := by decide +kernel
theorem dX6_isLine_56 : decode cX6_isLine 56 = .ok (.goto (-49), 3) := by decide +kernel
theorem dX6_isLine_59 : decode cX6_isLine 59 = .ok (.iconst 0, 1) := by decide +kernel
theorem dX6_isLine_60 : decode cX6_isLine 60 = .ok (.ireturn, 1) := by decide +kernel
theorem dX6_fault_0 : decode cX6_fault 0 = .ok (.aload_n 0, 1) := by decide +kernel
theorem dX6_fault_1 : decode cX6_fault 1 = .ok (.invokevirtual 104, 3) := by decide +kernel
theorem dX6_fault_4 : decode cX6_fault 4 = .ok (.ifCond .eq 8, 3) := by decide +kernel
theorem dX6_fault_7 : decode cX6_fault 7 = .ok (.bipush (-6), 2) := by decide +kernel
theorem dX6_fault_9 : decode cX6_fault 9 = .ok (.goto 7, 3) := by decide +kernel
theorem dX6_fault_12 : decode cX6_fault 12 = .ok (.aload_n 0, 1) := by decide +kernel
theorem dX6_fault_13 : decode cX6_fault 13 = .ok (.getfield 95, 3) := by decide +kernel
theorem dX6_fault_16 : decode cX6_fault 16 = .ok (.ireturn, 1) := by decide +kernel
theorem dX6_frameMore_0 : decode cX6_frameMore 0 = .ok (.iload_n 2, 1) := by decide +kernel
theorem dX6_frameMore_1 : decode cX6_frameMore 1 = .ok (.iconst 1, 1) := by decide +kernel
theorem dX6_frameMore_2 : decode cX6_frameMore 2 = .ok (.bipush 9, 2) := by decide +kernel
theorem dX6_frameMore_4 : decode cX6_frameMore 4 = .ok (.invokestatic 69, 3) := by decide +kernel
theorem dX6_frameMore_7 : decode cX6_frameMore 7 = .ok (.ifCond .eq 13, 3) := by decide +kernel
theorem dX6_frameMore_10 : decode cX6_frameMore 10 = .ok (.iload_n 3, 1) := by decide +kernel
theorem dX6_frameMore_11 : decode cX6_frameMore 11 = .ok (.iconst 1, 1) := by decide +kernel
theorem dX6_frameMore_12 : decode cX6_frameMore 12 = .ok (.bipush 99, 2) := by decide +kernel
theorem dX6_frameMore_14 : decode cX6_frameMore 14 = .ok (.invokestatic 69, 3) := by decide +kernel
theorem dX6_frameMore_17 : decode cX6_frameMore 17 = .ok (.ifCond .ne 6, 3) := by decide +kernel
theorem dX6_frameMore_20 : decode cX6_frameMore 20 = .ok (.bipush (-2), 2) := by decide +kernel
theorem dX6_frameMore_22 : decode cX6_frameMore 22 = .ok (.ireturn, 1) := by decide +kernel
theorem dX6_frameMore_23 : decode cX6_frameMore 23 = .ok (.aload_n 0, 1) := by decide +kernel
theorem dX6_frameMore_24 : decode cX6_frameMore 24 = .ok (.getfield 7, 3) := by decide +kernel
theorem dX6_frameMore_27 : decode cX6_frameMore 27 = .ok (.bipush 8, 2) := by decide +kernel
theorem dX6_frameMore_29 : decode cX6_frameMore 29 = .ok (.iload_n 1, 1) := by decide +kernel
theorem dX6_frameMore_30 : decode cX6_frameMore 30 = .ok (.iadd, 1) := by decide +kernel
theorem dX6_frameMore_31 : decode cX6_frameMore 31 = .ok (.iaload, 1) := by decide +kernel
theorem dX6_frameMore_32 : decode cX6_frameMore 32 = .ok (.istore 4, 2) := by decide +kernel
theorem dX6_frameMore_34 : decode cX6_frameMore 34 = .ok (.iload 4, 2) := by decide +kernel
theorem dX6_frameMore_36 : decode cX6_frameMore 36 = .ok (.ifCond .le 19, 3) := by decide +kernel
theorem dX6_frameMore_39 : decode cX6_frameMore 39 = .ok (.iload_n 3, 1) := by decide +kernel
theorem dX6_frameMore_40 : decode cX6_frameMore 40 = .ok (.aload_n 0, 1) := by decide +kernel
theorem dX6_frameMore_41 : decode cX6_frameMore 41 = .ok (.iload_n 1, 1) := by decide +kernel
theorem dX6_frameMore_42 : decode cX6_frameMore 42 = .ok (.iload 4, 2) := by decide +kernel
theorem dX6_frameMore_44 : decode cX6_frameMore 44 = .ok (.iconst 1, 1) := by decide +kernel
theorem dX6_frameMore_45 : decode cX6_frameMore 45 = .ok (.isub, 1) := by decide +kernel
theorem dX6_frameMore_46 : decode cX6_frameMore 46 = .ok (.invokevirtual 108, 3) := by decide +kernel
theorem dX6_frameMore_49 : decode cX6_frameMore 49 = .ok (.if_icmp .gt 6, 3) := by decide +kernel
theorem dX6_frameMore_52 : decode cX6_frameMore 52 = .ok (.bipush (-3), 2) := by decide +kernel
theorem dX6_frameMore_54 : decode cX6_frameMore 54 = .ok (.ireturn, 1) := by decide +kernel
theorem dX6_frameMore_55 : decode cX6_frameMore 55 = .ok (.iload 4, 2) := by decide +kernel
theorem dX6_frameMore_57 : decode cX6_frameMore 57 = .ok (.bipush 10, 2) := by decide +kernel
theorem dX6_frameMore_59 : decode cX6_frameMore 59 = .ok (.if_icmp .ne 6, 3) := by decide +kernel
theorem dX6_frameMore_62 : decode cX6_frameMore 62 = .ok (.bipush (-4), 2) := by decide +kernel
theorem dX6_frameMore_64 : decode cX6_frameMore 64 = .ok (.ireturn, 1) := by decide +kernel
theorem dX6_frameMore_65 : decode cX6_frameMore 65 = .ok (.aload_n 0, 1) := by decide +kernel
theorem dX6_frameMore_66 : decode cX6_frameMore 66 = .ok (.getfield 7, 3) := by decide +kernel
theorem dX6_frameMore_69 : decode cX6_frameMore 69 = .ok (.bipush 12, 2) := by decide +kernel
theorem dX6_frameMore_71 : decode cX6_frameMore 71 = .ok (.bipush 10, 2) := by decide +kernel
theorem dX6_frameMore_73 : decode cX6_frameMore 73 = .ok (.iload_n 1, 1) := by decide +kernel
theorem dX6_frameMore_74 : decode cX6_frameMore 74 = .ok (.imul, 1) := by decide +kernel
theorem dX6_frameMore_75 : decode cX6_frameMore 75 = .ok (.iadd, 1) := by decide +kernel
theorem dX6_frameMore_76 : decode cX6_frameMore 76 = .ok (.iload 4, 2) := by decide +kernel
theorem dX6_frameMore_78 : decode cX6_frameMore 78 = .ok (.iadd, 1) := by decide +kernel
theorem dX6_frameMore_79 : decode cX6_frameMore 79 = .ok (.iload_n 2, 1) := by decide +kernel
theorem dX6_frameMore_80 : decode cX6_frameMore 80 = .ok (.iastore, 1) := by decide +kernel
theorem dX6_frameMore_81 : decode cX6_frameMore 81 = .ok (.aload_n 0, 1) := by decide +kernel
theorem dX6_frameMore_82 : decode cX6_frameMore 82 = .ok (.getfield 7, 3) := by decide +kernel
theorem dX6_frameMore_85 : decode cX6_frameMore 85 = .ok (.bipush 52, 2) := by decide +kernel
theorem dX6_frameMore_87 : decode cX6_frameMore 87 = .ok (.bipush 10, 2) := by decide +kernel
theorem dX6_frameMore_89 : decode cX6_frameMore 89 = .ok (.iload_n 1, 1) := by decide +kernel
theorem dX6_frameMore_90 : decode cX6_frameMore 90 = .ok (.imul, 1) := by decide +kernel
theorem dX6_frameMore_91 : decode cX6_frameMore 91 = .ok (.iadd, 1) := by decide +kernel
theorem dX6_frameMore_92 : decode cX6_frameMore 92 = .ok (.iload 4, 2) := by decide +kernel
theorem dX6_frameMore_94 : decode cX6_frameMore 94 = .ok (.iadd, 1) := by decide +kernel
theorem dX6_frameMore_95 : decode cX6_frameMore 95 = .ok (.iload_n 3, 1) := by decide +kernel
theorem dX6_frameMore_96 : decode cX6_frameMore 96 = .ok (.iastore, 1) := by decide +kernel
theorem dX6_frameMore_97 : decode cX6_frameMore 97 = .ok (.aload_n 0, 1) := by decide +kernel
theorem dX6_frameMore_98 : decode cX6_frameMore 98 = .ok (.getfield 7, 3) := by decide +kernel
theorem dX6_frameMore_101 : decode cX6_frameMore 101 = .ok (.bipush 8, 2) := by decide +kernel
theorem dX6_frameMore_103 : decode cX6_frameMore 103 = .ok (.iload_n 1, 1) := by decide +kernel
theorem dX6_frameMore_104 : decode cX6_frameMore 104 = .ok (.iadd, 1) := by decide +kernel
theorem dX6_frameMore_105 : decode cX6_frameMore 105 = .ok (.dup2, 1) := by decide +kernel
theorem dX6_frameMore_106 : decode cX6_frameMore 106 = .ok (.iaload, 1) := by decide +kernel
theorem dX6_frameMore_107 : decode cX6_frameMore 107 = .ok (.iconst 1, 1) := by decide +kernel
theorem dX6_frameMore_108 : decode cX6_frameMore 108 = .ok (.iadd, 1) := by decide +kernel
theorem dX6_frameMore_109 : decode cX6_frameMore 109 = .ok (.iastore, 1) := by decide +kernel
theorem dX6_frameMore_110 : decode cX6_frameMore 110 = .ok (.iload 4, 2) := by decide +kernel
theorem dX6_frameMore_112 : decode cX6_frameMore 112 = .ok (.ireturn, 1) := by decide +kernel
theorem dX6_setAt_0 : decode cX6_setAt 0 = .ok (.aload_n 0, 1) := by decide +kernel
theorem dX6_setAt_1 : decode cX6_setAt 1 = .ok (.getfield 7, 3) := by decide +kernel
theorem dX6_setAt_4 : decode cX6_setAt 4 = .ok (.iload_n 1, 1) := by decide +kernel
theorem dX6_setAt_5 : decode cX6_setAt 5 = .ok (.iaload, 1) := by decide +kernel
theorem dX6_setAt_6 : decode cX6_setAt 6 = .ok (.istore_n 3, 1) := by decide +kernel
theorem dX6_setAt_7 : decode cX6_setAt 7 = .ok (.aload_n 0, 1) := by decide +kernel
theorem dX6_setAt_8 : decode cX6_setAt 8 = .ok (.getfield 7, 3) := by decide +kernel
theorem dX6_setAt_11 : decode cX6_setAt 11 = .ok (.iload_n 1, 1) := by decide +kernel
theorem dX6_setAt_12 : decode cX6_setAt 12 = .ok (.iload_n 2, 1) := by decide +kernel
theorem dX6_setAt_13 : decode cX6_setAt 13 = .ok (.iastore, 1) := by decide +kernel
theorem dX6_setAt_14 : decode cX6_setAt 14 = .ok (.iload_n 3, 1) := by decide +kernel
theorem dX6_setAt_15 : decode cX6_setAt 15 = .ok (.ireturn, 1) := by decide +kernel
theorem dX6_before_0 : decode cX6_before 0 = .ok (.iconst 0, 1) := by decide +kernel
theorem dX6_before_1 : decode cX6_before 1 = .ok (.istore_n 3, 1) := by decide +kernel
theorem dX6_before_2 : decode cX6_before 2 = .ok (.iconst 0, 1) := by decide +kernel
theorem dX6_before_3 : decode cX6_before 3 = .ok (.istore 4, 2) := by decide +kernel
theorem dX6_before_5 : decode cX6_before 5 = .ok (.iload 4, 2) := by decide +kernel
theorem dX6_before_7 : decode cX6_before 7 = .ok (.aload_n 0, 1) := by decide +kernel
theorem dX6_before_8 : decode cX6_before 8 = .ok (.getfield 7, 3) := by decide +kernel
theorem dX6_before_11 : decode cX6_before 11 = .ok (.bipush 8, 2) := by decide +kernel
theorem dX6_before_13 : decode cX6_before 13 = .ok (.iload_n 1, 1) := by decide +kernel
theorem dX6_before_14 : decode cX6_before 14 = .ok (.iadd, 1) := by decide +kernel
theorem dX6_before_15 : decode cX6_before 15 = .ok (.iaload, 1) := by decide +kernel
theorem dX6_before_16 : decode cX6_before 16 = .ok (.if_icmp .ge 28, 3) := by decide +kernel
theorem dX6_before_19 : decode cX6_before 19 = .ok (.iload_n 3, 1) := by decide +kernel
theorem dX6_before_20 : decode cX6_before 20 = .ok (.aload_n 0, 1) := by decide +kernel
theorem dX6_before_21 : decode cX6_before 21 = .ok (.iload_n 1, 1) := by decide +kernel
theorem dX6_before_22 : decode cX6_before 22 = .ok (.iload 4, 2) := by decide +kernel
theorem dX6_before_24 : decode cX6_before 24 = .ok (.invokevirtual 108, 3) := by decide +kernel
theorem dX6_before_27 : decode cX6_before 27 = .ok (.iload_n 2, 1) := by decide +kernel
theorem dX6_before_28 : decode cX6_before 28 = .ok (.if_icmp .ge 7, 3) := by decide +kernel
theorem dX6_before_31 : decode cX6_before 31 = .ok (.iconst 1, 1) := by decide +kernel
theorem dX6_before_32 : decode cX6_before 32 = .ok (.goto 4, 3) := by decide +kernel
theorem dX6_before_35 : decode cX6_before 35 = .ok (.iconst 0, 1) := by decide +kernel
theorem dX6_before_36 : decode cX6_before 36 = .ok (.iadd, 1) := by decide +kernel
theorem dX6_before_37 : decode cX6_before 37 = .ok (.istore_n 3, 1) := by decide +kernel
theorem dX6_before_38 : decode cX6_before 38 = .ok (.iinc 4 1, 3) := by decide +kernel
theorem dX6_before_41 : decode cX6_before 41 = .ok (.goto (-36), 3) := by decide +kernel
theorem dX6_before_44 : decode cX6_before 44 = .ok (.iload_n 3, 1) := by decide +kernel
theorem dX6_before_45 : decode cX6_before 45 = .ok (.ireturn, 1) := by decide +kernel
theorem dX6_swap_0 : decode cX6_swap 0 = .ok (.iload_n 1, 1) := by decide +kernel
theorem dX6_swap_1 : decode cX6_swap 1 = .ok (.invokestatic 111, 3) := by decide +kernel
theorem dX6_swap_4 : decode cX6_swap 4 = .ok (.ifCond .eq 25, 3) := by decide +kernel
theorem dX6_swap_7 : decode cX6_swap 7 = .ok (.iload_n 2, 1) := by decide +kernel
theorem dX6_swap_8 : decode cX6_swap 8 = .ok (.invokestatic 111, 3) := by decide +kernel
theorem dX6_swap_11 : decode cX6_swap 11 = .ok (.ifCond .eq 18, 3) := by decide +kernel
theorem dX6_swap_14 : decode cX6_swap 14 = .ok (.iload_n 1, 1) := by decide +kernel
theorem dX6_swap_15 : decode cX6_swap 15 = .ok (.iload_n 2, 1) := by decide +kernel
theorem dX6_swap_16 : decode cX6_swap 16 = .ok (.if_icmp .eq 13, 3) := by decide +kernel
theorem dX6_swap_19 : decode cX6_swap 19 = .ok (.iload_n 3, 1) := by decide +kernel
theorem dX6_swap_20 : decode cX6_swap 20 = .ok (.iconst 1, 1) := by decide +kernel
theorem dX6_swap_21 : decode cX6_swap 21 = .ok (.bipush 99, 2) := by decide +kernel
theorem dX6_swap_23 : decode cX6_swap 23 = .ok (.invokestatic 69, 3) := by decide +kernel
theorem dX6_swap_26 : decode cX6_swap 26 = .ok (.ifCond .ne 6, 3) := by decide +kernel
theorem dX6_swap_29 : decode cX6_swap 29 = .ok (.bipush (-2), 2) := by decide +kernel
theorem dX6_swap_31 : decode cX6_swap 31 = .ok (.ireturn, 1) := by decide +kernel
theorem dX6_swap_32 : decode cX6_swap 32 = .ok (.aload_n 0, 1) := by decide +kernel
theorem dX6_swap_33 : decode cX6_swap 33 = .ok (.iload_n 1, 1) := by decide +kernel
theorem dX6_swap_34 : decode cX6_swap 34 = .ok (.iload_n 3, 1) := by decide +kernel
theorem dX6_swap_35 : decode cX6_swap 35 = .ok (.invokevirtual 115, 3) := by decide +kernel
theorem dX6_swap_38 : decode cX6_swap 38 = .ok (.istore 4, 2) := by decide +kernel
theorem dX6_swap_40 : decode cX6_swap 40 = .ok (.aload_n 0, 1) := by decide +kernel
theorem dX6_swap_41 : decode cX6_swap 41 = .ok (.iload_n 2, 1) := by decide +kernel
theorem dX6_swap_42 : decode cX6_swap 42 = .ok (.iload_n 3, 1) := by decide +kernel
theorem dX6_swap_43 : decode cX6_swap 43 = .ok (.invokevirtual 115, 3) := by decide +kernel
theorem dX6_swap_46 : decode cX6_swap 46 = .ok (.istore 5, 2) := by decide +kernel
theorem dX6_swap_48 : decode cX6_swap 48 = .ok (.aload_n 0, 1) := by decide +kernel
theorem dX6_swap_49 : decode cX6_swap 49 = .ok (.getfield 7, 3) := by decide +kernel
theorem dX6_swap_52 : decode cX6_swap 52 = .ok (.bipush 8, 2) := by decide +kernel
theorem dX6_swap_54 : decode cX6_swap 54 = .ok (.iload_n 2, 1) := by decide +kernel
theorem dX6_swap_55 : decode cX6_swap 55 = .ok (.iadd, 1) := by decide +kernel
theorem dX6_swap_56 : decode cX6_swap 56 = .ok (.iaload, 1) := by decide +kernel
theorem dX6_swap_57 : decode cX6_swap 57 = .ok (.iload 5, 2) := by decide +kernel
theorem dX6_swap_59 : decode cX6_swap 59 = .ok (.isub, 1) := by decide +kernel
theorem dX6_swap_60 : decode cX6_swap 60 = .ok (.istore 6, 2) := by decide +kernel
theorem dX6_swap_62 : decode cX6_swap 62 = .ok (.iload 4, 2) := by decide +kernel
theorem dX6_swap_64 : decode cX6_swap 64 = .ok (.iload 6, 2) := by decide +kernel
theorem dX6_swap_66 : decode cX6_swap 66 = .ok (.iadd, 1) := by decide +kernel
theorem dX6_swap_67 : decode cX6_swap 67 = .ok (.bipush 10, 2) := by decide +kernel
theorem dX6_swap_69 : decode cX6_swap 69 = .ok (.if_icmp .le 6, 3) := by decide +kernel
theorem dX6_swap_72 : decode cX6_swap 72 = .ok (.bipush (-4), 2) := by decide +kernel
theorem dX6_swap_74 : decode cX6_swap 74 = .ok (.ireturn, 1) := by decide +kernel
theorem dX6_swap_75 : decode cX6_swap 75 = .ok (.iconst 0, 1) := by decide +kernel
theorem dX6_swap_76 : decode cX6_swap 76 = .ok (.istore 7, 2) := by decide +kernel
theorem dX6_swap_78 : decode cX6_swap 78 = .ok (.iload 7, 2) := by decide +kernel
theorem dX6_swap_80 : decode cX6_swap 80 = .ok (.iload 6, 2) := by decide +kernel
theorem dX6_swap_82 : decode cX6_swap 82 = .ok (.if_icmp .ge 65, 3) := by decide +kernel
theorem dX6_swap_85 : decode cX6_swap 85 = .ok (.aload_n 0, 1) := by decide +kernel
theorem dX6_swap_86 : decode cX6_swap 86 = .ok (.getfield 7, 3) := by decide +kernel
theorem dX6_swap_89 : decode cX6_swap 89 = .ok (.bipush 12, 2) := by decide +kernel
theorem dX6_swap_91 : decode cX6_swap 91 = .ok (.bipush 10, 2) := by decide +kernel
theorem dX6_swap_93 : decode cX6_swap 93 = .ok (.iload_n 1, 1) := by decide +kernel
theorem dX6_swap_94 : decode cX6_swap 94 = .ok (.imul, 1) := by decide +kernel
theorem dX6_swap_95 : decode cX6_swap 95 = .ok (.iadd, 1) := by decide +kernel
theorem dX6_swap_96 : decode cX6_swap 96 = .ok (.iload 4, 2) := by decide +kernel
theorem dX6_swap_98 : decode cX6_swap 98 = .ok (.iadd, 1) := by decide +kernel
theorem dX6_swap_99 : decode cX6_swap 99 = .ok (.iload 7, 2) := by decide +kernel
theorem dX6_swap_101 : decode cX6_swap 101 = .ok (.iadd, 1) := by decide +kernel
theorem dX6_swap_102 : decode cX6_swap 102 = .ok (.aload_n 0, 1) := by decide +kernel
theorem dX6_swap_103 : decode cX6_swap 103 = .ok (.iload_n 2, 1) := by decide +kernel
theorem dX6_swap_104 : decode cX6_swap 104 = .ok (.iload 5, 2) := by decide +kernel
theorem dX6_swap_106 : decode cX6_swap 106 = .ok (.iload 7, 2) := by decide +kernel
theorem dX6_swap_108 : decode cX6_swap 108 = .ok (.iadd, 1) := by decide +kernel
theorem dX6_swap_109 : decode cX6_swap 109 = .ok (.invokevirtual 118, 3) := by decide +kernel
theorem dX6_swap_112 : decode cX6_swap 112 = .ok (.iastore, 1) := by decide +kernel
theorem dX6_swap_113 : decode cX6_swap 113 = .ok (.aload_n 0, 1) := by decide +kernel
theorem dX6_swap_114 : decode cX6_swap 114 = .ok (.getfield 7, 3) := by decide +kernel
theorem dX6_swap_117 : decode cX6_swap 117 = .ok (.bipush 52, 2) := by decide +kernel
theorem dX6_swap_119 : decode cX6_swap 119 = .ok (.bipush 10, 2) := by decide +kernel
theorem dX6_swap_121 : decode cX6_swap 121 = .ok (.iload_n 1, 1) := by decide +kernel
theorem dX6_swap_122 : decode cX6_swap 122 = .ok (.imul, 1) := by decide +kernel
theorem dX6_swap_123 : decode cX6_swap 123 = .ok (.iadd, 1) := by decide +kernel
theorem dX6_swap_124 : decode cX6_swap 124 = .ok (.iload 4, 2) := by decide +kernel
theorem dX6_swap_126 : decode cX6_swap 126 = .ok (.iadd, 1) := by decide +kernel
theorem dX6_swap_127 : decode cX6_swap 127 = .ok (.iload 7, 2) := by decide +kernel
theorem dX6_swap_129 : decode cX6_swap 129 = .ok (.iadd, 1) := by decide +kernel
theorem dX6_swap_130 : decode cX6_swap 130 = .ok (.aload_n 0, 1) := by decide +kernel
theorem dX6_swap_131 : decode cX6_swap 131 = .ok (.iload_n 2, 1) := by decide +kernel
theorem dX6_swap_132 : decode cX6_swap 132 = .ok (.iload 5, 2) := by decide +kernel
theorem dX6_swap_134 : decode cX6_swap 134 = .ok (.iload 7, 2) := by decide +kernel
theorem dX6_swap_136 : decode cX6_swap 136 = .ok (.iadd, 1) := by decide +kernel
theorem dX6_swap_137 : decode cX6_swap 137 = .ok (.invokevirtual 108, 3) := by decide +kernel
theorem dX6_swap_140 : decode cX6_swap 140 = .ok (.iastore, 1) := by decide +kernel
theorem dX6_swap_141 : decode cX6_swap 141 = .ok (.iinc 7 1, 3) := by decide +kernel
theorem dX6_swap_144 : decode cX6_swap 144 = .ok (.goto (-66), 3) := by decide +kernel
theorem dX6_swap_147 : decode cX6_swap 147 = .ok (.aload_n 0, 1) := by decide +kernel
theorem dX6_swap_148 : decode cX6_swap 148 = .ok (.getfield 7, 3) := by decide +kernel
theorem dX6_swap_151 : decode cX6_swap 151 = .ok (.bipush 8, 2) := by decide +kernel
theorem dX6_swap_153 : decode cX6_swap 153 = .ok (.iload_n 1, 1) := by decide +kernel
theorem dX6_swap_154 : decode cX6_swap 154 = .ok (.iadd, 1) := by decide +kernel
theorem dX6_swap_155 : decode cX6_swap 155 = .ok (.iload 4, 2) := by decide +kernel
theorem dX6_swap_157 : decode cX6_swap 157 = .ok (.iload 6, 2) := by decide +kernel
theorem dX6_swap_159 : decode cX6_swap 159 = .ok (.iadd, 1) := by decide +kernel
theorem dX6_swap_160 : decode cX6_swap 160 = .ok (.iastore, 1) := by decide +kernel
theorem dX6_swap_161 : decode cX6_swap 161 = .ok (.iload 4, 2) := by decide +kernel
theorem dX6_swap_163 : decode cX6_swap 163 = .ok (.iload 6, 2) := by decide +kernel
theorem dX6_swap_165 : decode cX6_swap 165 = .ok (.iadd, 1) := by decide +kernel
theorem dX6_swap_166 : decode cX6_swap 166 = .ok (.ireturn, 1) := by decide +kernel
theorem dX6_doLine_0 : decode cX6_doLine 0 = .ok (.aload_n 0, 1) := by decide +kernel
theorem dX6_doLine_1 : decode cX6_doLine 1 = .ok (.getfield 23, 3) := by decide +kernel
theorem dX6_doLine_4 : decode cX6_doLine 4 = .ok (.iconst 0, 1) := by decide +kernel
theorem dX6_doLine_5 : decode cX6_doLine 5 = .ok (.iaload, 1) := by decide +kernel
theorem dX6_doLine_6 : decode cX6_doLine 6 = .ok (.istore_n 1, 1) := by decide +kernel
theorem dX6_doLine_7 : decode cX6_doLine 7 = .ok (.aload_n 0, 1) := by decide +kernel
theorem dX6_doLine_8 : decode cX6_doLine 8 = .ok (.getfield 23, 3) := by decide +kernel
theorem dX6_doLine_11 : decode cX6_doLine 11 = .ok (.iconst 1, 1) := by decide +kernel
theorem dX6_doLine_12 : decode cX6_doLine 12 = .ok (.iaload, 1) := by decide +kernel
theorem dX6_doLine_13 : decode cX6_doLine 13 = .ok (.istore_n 2, 1) := by decide +kernel
theorem dX6_doLine_14 : decode cX6_doLine 14 = .ok (.aload_n 0, 1) := by decide +kernel
theorem dX6_doLine_15 : decode cX6_doLine 15 = .ok (.getfield 101, 3) := by decide +kernel
theorem dX6_doLine_18 : decode cX6_doLine 18 = .ok (.tableswitch 192 0 5 #[38, 63, 94, 125, 148, 170], 38) := by decide +kernel
theorem dX6_doLine_56 : decode cX6_doLine 56 = .ok (.iload_n 1, 1) := by decide +kernel
theorem dX6_doLine_57 : decode cX6_doLine 57 = .ok (.invokestatic 111, 3) := by decide +kernel
theorem dX6_doLine_60 : decode cX6_doLine 60 = .ok (.ifCond .eq 18, 3) := by decide +kernel
theorem dX6_doLine_63 : decode cX6_doLine 63 = .ok (.aload_n 0, 1) := by decide +kernel
theorem dX6_doLine_64 : decode cX6_doLine 64 = .ok (.iload_n 1, 1) := by decide +kernel
theorem dX6_doLine_65 : decode cX6_doLine 65 = .ok (.iload_n 2, 1) := by decide +kernel
theorem dX6_doLine_66 : decode cX6_doLine 66 = .ok (.aload_n 0, 1) := by decide +kernel
theorem dX6_doLine_67 : decode cX6_doLine 67 = .ok (.getfield 23, 3) := by decide +kernel
theorem dX6_doLine_70 : decode cX6_doLine 70 = .ok (.iconst 2, 1) := by decide +kernel
theorem dX6_doLine_71 : decode cX6_doLine 71 = .ok (.iaload, 1) := by decide +kernel
theorem dX6_doLine_72 : decode cX6_doLine 72 = .ok (.invokevirtual 121, 3) := by decide +kernel
theorem dX6_doLine_75 : decode cX6_doLine 75 = .ok (.goto 5, 3) := by decide +kernel
theorem dX6_doLine_78 : decode cX6_doLine 78 = .ok (.bipush (-2), 2) := by decide +kernel
theorem dX6_doLine_80 : decode cX6_doLine 80 = .ok (.ireturn, 1) := by decide +kernel
theorem dX6_doLine_81 : decode cX6_doLine 81 = .ok (.iload_n 1, 1) := by decide +kernel
theorem dX6_doLine_82 : decode cX6_doLine 82 = .ok (.invokestatic 111, 3) := by decide +kernel
theorem dX6_doLine_85 : decode cX6_doLine 85 = .ok (.ifCond .eq 24, 3) := by decide +kernel
theorem dX6_doLine_88 : decode cX6_doLine 88 = .ok (.iload_n 2, 1) := by decide +kernel
theorem dX6_doLine_89 : decode cX6_doLine 89 = .ok (.iconst 1, 1) := by decide +kernel
theorem dX6_doLine_90 : decode cX6_doLine 90 = .ok (.bipush 40, 2) := by decide +kernel
theorem dX6_doLine_92 : decode cX6_doLine 92 = .ok (.invokestatic 69, 3) := by decide +kernel
theorem dX6_doLine_95 : decode cX6_doLine 95 = .ok (.ifCond .eq 14, 3) := by decide +kernel
theorem dX6_doLine_98 : decode cX6_doLine 98 = .ok (.aload_n 0, 1) := by decide +kernel
theorem dX6_doLine_99 : decode cX6_doLine 99 = .ok (.iconst 0, 1) := by decide +kernel
theorem dX6_doLine_100 : decode cX6_doLine 100 = .ok (.iload_n 1, 1) := by decide +kernel
theorem dX6_doLine_101 : decode cX6_doLine 101 = .ok (.iadd, 1) := by decide +kernel
theorem dX6_doLine_102 : decode cX6_doLine 102 = .ok (.iload_n 2, 1) := by decide +kernel
theorem dX6_doLine_103 : decode cX6_doLine 103 = .ok (.invokevirtual 125, 3) := by decide +kernel
theorem dX6_doLine_106 : decode cX6_doLine 106 = .ok (.goto 5, 3) := by decide +kernel
theorem dX6_doLine_109 : decode cX6_doLine 109 = .ok (.bipush (-2), 2) := by decide +kernel
theorem dX6_doLine_111 : decode cX6_doLine 111 = .ok (.ireturn, 1) := by decide +kernel
theorem dX6_doLine_112 : decode cX6_doLine 112 = .ok (.iload_n 1, 1) := by decide +kernel
theorem dX6_doLine_113 : decode cX6_doLine 113 = .ok (.invokestatic 111, 3) := by decide +kernel
theorem dX6_doLine_116 : decode cX6_doLine 116 = .ok (.ifCond .eq 24, 3) := by decide +kernel
theorem dX6_doLine_119 : decode cX6_doLine 119 = .ok (.iload_n 2, 1) := by decide +kernel
theorem dX6_doLine_120 : decode cX6_doLine 120 = .ok (.iconst 0, 1) := by decide +kernel
theorem dX6_doLine_121 : decode cX6_doLine 121 = .ok (.bipush 50, 2) := by decide +kernel
theorem dX6_doLine_123 : decode cX6_doLine 123 = .ok (.invokestatic 69, 3) := by decide +kernel
theorem dX6_doLine_126 : decode cX6_doLine 126 = .ok (.ifCond .eq 14, 3) := by decide +kernel
theorem dX6_doLine_129 : decode cX6_doLine 129 = .ok (.aload_n 0, 1) := by decide +kernel
theorem dX6_doLine_130 : decode cX6_doLine 130 = .ok (.iconst 4, 1) := by decide +kernel
theorem dX6_doLine_131 : decode cX6_doLine 131 = .ok (.iload_n 1, 1) := by decide +kernel
theorem dX6_doLine_132 : decode cX6_doLine 132 = .ok (.iadd, 1) := by decide +kernel
theorem dX6_doLine_133 : decode cX6_doLine 133 = .ok (.iload_n 2, 1) := by decide +kernel
theorem dX6_doLine_134 : decode cX6_doLine 134 = .ok (.invokevirtual 125, 3) := by decide +kernel
theorem dX6_doLine_137 : decode cX6_doLine 137 = .ok (.goto 5, 3) := by decide +kernel
theorem dX6_doLine_140 : decode cX6_doLine 140 = .ok (.bipush (-2), 2) := by decide +kernel
theorem dX6_doLine_142 : decode cX6_doLine 142 = .ok (.ireturn, 1) := by decide +kernel
theorem dX6_doLine_143 : decode cX6_doLine 143 = .ok (.iload_n 1, 1) := by decide +kernel
theorem dX6_doLine_144 : decode cX6_doLine 144 = .ok (.iconst 0, 1) := by decide +kernel
theorem dX6_doLine_145 : decode cX6_doLine 145 = .ok (.bipush 50, 2) := by decide +kernel
theorem dX6_doLine_147 : decode cX6_doLine 147 = .ok (.invokestatic 69, 3) := by decide +kernel
theorem dX6_doLine_150 : decode cX6_doLine 150 = .ok (.ifCond .eq 13, 3) := by decide +kernel
theorem dX6_doLine_153 : decode cX6_doLine 153 = .ok (.aload_n 0, 1) := by decide +kernel
theorem dX6_doLine_154 : decode cX6_doLine 154 = .ok (.bipush 92, 2) := by decide +kernel
theorem dX6_doLine_156 : decode cX6_doLine 156 = .ok (.iload_n 1, 1) := by decide +kernel
theorem dX6_doLine_157 : decode cX6_doLine 157 = .ok (.invokevirtual 125, 3) := by decide +kernel
theorem dX6_doLine_160 : decode cX6_doLine 160 = .ok (.goto 5, 3) := by decide +kernel
theorem dX6_doLine_163 : decode cX6_doLine 163 = .ok (.bipush (-2), 2) := by decide +kernel
theorem dX6_doLine_165 : decode cX6_doLine 165 = .ok (.ireturn, 1) := by decide +kernel
theorem dX6_doLine_166 : decode cX6_doLine 166 = .ok (.iload_n 1, 1) := by decide +kernel
theorem dX6_doLine_167 : decode cX6_doLine 167 = .ok (.iconst 1, 1) := by decide +kernel
theorem dX6_doLine_168 : decode cX6_doLine 168 = .ok (.iconst 4, 1) := by decide +kernel
theorem dX6_doLine_169 : decode cX6_doLine 169 = .ok (.invokestatic 69, 3) := by decide +kernel
theorem dX6_doLine_172 : decode cX6_doLine 172 = .ok (.ifCond .eq 13, 3) := by decide +kernel
theorem dX6_doLine_175 : decode cX6_doLine 175 = .ok (.aload_n 0, 1) := by decide +kernel
theorem dX6_doLine_176 : decode cX6_doLine 176 = .ok (.bipush 93, 2) := by decide +kernel
theorem dX6_doLine_178 : decode cX6_doLine 178 = .ok (.iload_n 1, 1) := by decide +kernel
theorem dX6_doLine_179 : decode cX6_doLine 179 = .ok (.invokevirtual 125, 3) := by decide +kernel
theorem dX6_doLine_182 : decode cX6_doLine 182 = .ok (.goto 5, 3) := by decide +kernel
theorem dX6_doLine_185 : decode cX6_doLine 185 = .ok (.bipush (-2), 2) := by decide +kernel
theorem dX6_doLine_187 : decode cX6_doLine 187 = .ok (.ireturn, 1) := by decide +kernel
theorem dX6_doLine_188 : decode cX6_doLine 188 = .ok (.iload_n 1, 1) := by decide +kernel
theorem dX6_doLine_189 : decode cX6_doLine 189 = .ok (.invokestatic 111, 3) := by decide +kernel
theorem dX6_doLine_192 : decode cX6_doLine 192 = .ok (.ifCond .eq 15, 3) := by decide +kernel
theorem dX6_doLine_195 : decode cX6_doLine 195 = .ok (.aload_n 0, 1) := by decide +kernel
theorem dX6_doLine_196 : decode cX6_doLine 196 = .ok (.bipush 8, 2) := by decide +kernel
theorem dX6_doLine_198 : decode cX6_doLine 198 = .ok (.iload_n 1, 1) := by decide +kernel
theorem dX6_doLine_199 : decode cX6_doLine 199 = .ok (.iadd, 1) := by decide +kernel
theorem dX6_doLine_200 : decode cX6_doLine 200 = .ok (.iconst 0, 1) := by decide +kernel
theorem dX6_doLine_201 : decode cX6_doLine 201 = .ok (.invokevirtual 125, 3) := by decide +kernel
theorem dX6_doLine_204 : decode cX6_doLine 204 = .ok (.goto 5, 3) := by decide +kernel
theorem dX6_doLine_207 : decode cX6_doLine 207 = .ok (.bipush (-2), 2) := by decide +kernel
theorem dX6_doLine_209 : decode cX6_doLine 209 = .ok (.ireturn, 1) := by decide +kernel
theorem dX6_doLine_210 : decode cX6_doLine 210 = .ok (.aload_n 0, 1) := by decide +kernel
theorem dX6_doLine_211 : decode cX6_doLine 211 = .ok (.iload_n 1, 1) := by decide +kernel
theorem dX6_doLine_212 : decode cX6_doLine 212 = .ok (.iload_n 2, 1) := by decide +kernel
theorem dX6_doLine_213 : decode cX6_doLine 213 = .ok (.aload_n 0, 1) := by decide +kernel
theorem dX6_doLine_214 : decode cX6_doLine 214 = .ok (.getfield 23, 3) := by decide +kernel
theorem dX6_doLine_217 : decode cX6_doLine 217 = .ok (.iconst 2, 1) := by decide +kernel
theorem dX6_doLine_218 : decode cX6_doLine 218 = .ok (.iaload, 1) := by decide +kernel
theorem dX6_doLine_219 : decode cX6_doLine 219 = .ok (.invokevirtual 128, 3) := by decide +kernel
theorem dX6_doLine_222 : decode cX6_doLine 222 = .ok (.ireturn, 1) := by decide +kernel
theorem dX6_line_0 : decode cX6_line 0 = .ok (.aload_n 0, 1) := by decide +kernel
theorem dX6_line_1 : decode cX6_line 1 = .ok (.invokevirtual 104, 3) := by decide +kernel
theorem dX6_line_4 : decode cX6_line 4 = .ok (.ifCond .ne 17, 3) := by decide +kernel
theorem dX6_line_7 : decode cX6_line 7 = .ok (.aload_n 0, 1) := by decide +kernel
theorem dX6_line_8 : decode cX6_line 8 = .ok (.getfield 7, 3) := by decide +kernel
theorem dX6_line_11 : decode cX6_line 11 = .ok (.bipush 94, 2) := by decide +kernel
theorem dX6_line_13 : decode cX6_line 13 = .ok (.aload_n 0, 1) := by decide +kernel
theorem dX6_line_14 : decode cX6_line 14 = .ok (.getfield 95, 3) := by decide +kernel
theorem dX6_line_17 : decode cX6_line 17 = .ok (.iastore, 1) := by decide +kernel
theorem dX6_line_18 : decode cX6_line 18 = .ok (.bipush (-7), 2) := by decide +kernel
theorem dX6_line_20 : decode cX6_line 20 = .ok (.ireturn, 1) := by decide +kernel
theorem dX6_line_21 : decode cX6_line 21 = .ok (.aload_n 0, 1) := by decide +kernel
theorem dX6_line_22 : decode cX6_line 22 = .ok (.invokevirtual 131, 3) := by decide +kernel
theorem dX6_line_25 : decode cX6_line 25 = .ok (.istore_n 1, 1) := by decide +kernel
theorem dX6_line_26 : decode cX6_line 26 = .ok (.aload_n 0, 1) := by decide +kernel
theorem dX6_line_27 : decode cX6_line 27 = .ok (.iload_n 1, 1) := by decide +kernel
theorem dX6_line_28 : decode cX6_line 28 = .ok (.ifCond .lt 7, 3) := by decide +kernel
theorem dX6_line_31 : decode cX6_line 31 = .ok (.iconst 0, 1) := by decide +kernel
theorem dX6_line_32 : decode cX6_line 32 = .ok (.goto 7, 3) := by decide +kernel
theorem dX6_line_35 : decode cX6_line 35 = .ok (.aload_n 0, 1) := by decide +kernel
theorem dX6_line_36 : decode cX6_line 36 = .ok (.getfield 73, 3) := by decide +kernel
theorem dX6_line_39 : decode cX6_line 39 = .ok (.putfield 73, 3) := by decide +kernel
theorem dX6_line_42 : decode cX6_line 42 = .ok (.iload_n 1, 1) := by decide +kernel
theorem dX6_line_43 : decode cX6_line 43 = .ok (.ireturn, 1) := by decide +kernel
theorem dX6_writeNumber_0 : decode cX6_writeNumber 0 = .ok (.aload_n 0, 1) := by decide +kernel
theorem dX6_writeNumber_1 : decode cX6_writeNumber 1 = .ok (.getfield 26, 3) := by decide +kernel
theorem dX6_writeNumber_4 : decode cX6_writeNumber 4 = .ok (.aload_n 0, 1) := by decide +kernel
theorem dX6_writeNumber_5 : decode cX6_writeNumber 5 = .ok (.getfield 135, 3) := by decide +kernel
theorem dX6_writeNumber_8 : decode cX6_writeNumber 8 = .ok (.bipush 32, 2) := by decide +kernel
theorem dX6_writeNumber_10 : decode cX6_writeNumber 10 = .ok (.iastore, 1) := by decide +kernel
theorem dX6_writeNumber_11 : decode cX6_writeNumber 11 = .ok (.aload_n 0, 1) := by decide +kernel
theorem dX6_writeNumber_12 : decode cX6_writeNumber 12 = .ok (.dup, 1) := by decide +kernel
theorem dX6_writeNumber_13 : decode cX6_writeNumber 13 = .ok (.getfield 135, 3) := by decide +kernel
theorem dX6_writeNumber_16 : decode cX6_writeNumber 16 = .ok (.iconst 1, 1) := by decide +kernel
theorem dX6_writeNumber_17 : decode cX6_writeNumber 17 = .ok (.iadd, 1) := by decide +kernel
theorem dX6_writeNumber_18 : decode cX6_writeNumber 18 = .ok (.putfield 135, 3) := by decide +kernel
theorem dX6_writeNumber_21 : decode cX6_writeNumber 21 = .ok (.iload_n 1, 1) := by decide +kernel
theorem dX6_writeNumber_22 : decode cX6_writeNumber 22 = .ok (.bipush 9, 2) := by decide +kernel
theorem dX6_writeNumber_24 : decode cX6_writeNumber 24 = .ok (.if_icmp .le 29, 3) := by decide +kernel
theorem dX6_writeNumber_27 : decode cX6_writeNumber 27 = .ok (.aload_n 0, 1) := by decide +kernel
theorem dX6_writeNumber_28 : decode cX6_writeNumber 28 = .ok (.getfield 26, 3) := by decide +kernel
theorem dX6_writeNumber_31 : decode cX6_writeNumber 31 = .ok (.aload_n 0, 1) := by decide +kernel
theorem dX6_writeNumber_32 : decode cX6_writeNumber 32 = .ok (.getfield 135, 3) := by decide +kernel
theorem dX6_writeNumber_35 : decode cX6_writeNumber 35 = .ok (.bipush 48, 2) := by decide +kernel
theorem dX6_writeNumber_37 : decode cX6_writeNumber 37 = .ok (.iload_n 1, 1) := by decide +kernel
theorem dX6_writeNumber_38 : decode cX6_writeNumber 38 = .ok (.bipush 10, 2) := by decide +kernel
theorem dX6_writeNumber_40 : decode cX6_writeNumber 40 = .ok (.idiv, 1) := by decide +kernel
theorem dX6_writeNumber_41 : decode cX6_writeNumber 41 = .ok (.iadd, 1) := by decide +kernel
theorem dX6_writeNumber_42 : decode cX6_writeNumber 42 = .ok (.iastore, 1) := by decide +kernel
theorem dX6_writeNumber_43 : decode cX6_writeNumber 43 = .ok (.aload_n 0, 1) := by decide +kernel
theorem dX6_writeNumber_44 : decode cX6_writeNumber 44 = .ok (.dup, 1) := by decide +kernel
theorem dX6_writeNumber_45 : decode cX6_writeNumber 45 = .ok (.getfield 135, 3) := by decide +kernel
theorem dX6_writeNumber_48 : decode cX6_writeNumber 48 = .ok (.iconst 1, 1) := by decide +kernel
theorem dX6_writeNumber_49 : decode cX6_writeNumber 49 = .ok (.iadd, 1) := by decide +kernel
theorem dX6_writeNumber_50 : decode cX6_writeNumber 50 = .ok (.putfield 135, 3) := by decide +kernel
theorem dX6_writeNumber_53 : decode cX6_writeNumber 53 = .ok (.aload_n 0, 1) := by decide +kernel
theorem dX6_writeNumber_54 : decode cX6_writeNumber 54 = .ok (.getfield 26, 3) := by decide +kernel
theorem dX6_writeNumber_57 : decode cX6_writeNumber 57 = .ok (.aload_n 0, 1) := by decide +kernel
theorem dX6_writeNumber_58 : decode cX6_writeNumber 58 = .ok (.getfield 135, 3) := by decide +kernel
theorem dX6_writeNumber_61 : decode cX6_writeNumber 61 = .ok (.bipush 48, 2) := by decide +kernel
theorem dX6_writeNumber_63 : decode cX6_writeNumber 63 = .ok (.iload_n 1, 1) := by decide +kernel
theorem dX6_writeNumber_64 : decode cX6_writeNumber 64 = .ok (.bipush 10, 2) := by decide +kernel
theorem dX6_writeNumber_66 : decode cX6_writeNumber 66 = .ok (.irem, 1) := by decide +kernel
theorem dX6_writeNumber_67 : decode cX6_writeNumber 67 = .ok (.iadd, 1) := by decide +kernel
theorem dX6_writeNumber_68 : decode cX6_writeNumber 68 = .ok (.iastore, 1) := by decide +kernel
theorem dX6_writeNumber_69 : decode cX6_writeNumber 69 = .ok (.aload_n 0, 1) := by decide +kernel
theorem dX6_writeNumber_70 : decode cX6_writeNumber 70 = .ok (.dup, 1) := by decide +kernel
theorem dX6_writeNumber_71 : decode cX6_writeNumber 71 = .ok (.getfield 135, 3) := by decide +kernel
theorem dX6_writeNumber_74 : decode cX6_writeNumber 74 = .ok (.iconst 1, 1) := by decide +kernel
theorem dX6_writeNumber_75 : decode cX6_writeNumber 75 = .ok (.iadd, 1) := by decide +kernel
theorem dX6_writeNumber_76 : decode cX6_writeNumber 76 = .ok (.putfield 135, 3) := by decide +kernel
theorem dX6_writeNumber_79 : decode cX6_writeNumber 79 = .ok (.return_, 1) := by decide +kernel
theorem dX6_written_0 : decode cX6_written 0 = .ok (.iload_n 1, 1) := by decide +kernel
theorem dX6_written_1 : decode cX6_written 1 = .ok (.invokestatic 111, 3) := by decide +kernel
theorem dX6_written_4 : decode cX6_written 4 = .ok (.ifCond .eq 8, 3) := by decide +kernel
theorem dX6_written_7 : decode cX6_written 7 = .ok (.iload_n 3, 1) := by decide +kernel
theorem dX6_written_8 : decode cX6_written 8 = .ok (.iconst (-1), 1) := by decide +kernel
theorem dX6_written_9 : decode cX6_written 9 = .ok (.if_icmp .ge 6, 3) := by decide +kernel
theorem dX6_written_12 : decode cX6_written 12 = .ok (.bipush (-2), 2) := by decide +kernel
theorem dX6_written_14 : decode cX6_written 14 = .ok (.ireturn, 1) := by decide +kernel
theorem dX6_written_15 : decode cX6_written 15 = .ok (.aload_n 0, 1) := by decide +kernel
theorem dX6_written_16 : decode cX6_written 16 = .ok (.iload_n 1, 1) := by decide +kernel
theorem dX6_written_17 : decode cX6_written 17 = .ok (.iload_n 2, 1) := by decide +kernel
theorem dX6_written_18 : decode cX6_written 18 = .ok (.invokevirtual 138, 3) := by decide +kernel
theorem dX6_written_21 : decode cX6_written 21 = .ok (.ifCond .ne 6, 3) := by decide +kernel
theorem dX6_written_24 : decode cX6_written 24 = .ok (.bipush (-6), 2) := by decide +kernel
theorem dX6_written_26 : decode cX6_written 26 = .ok (.ireturn, 1) := by decide +kernel
theorem dX6_written_27 : decode cX6_written 27 = .ok (.aload_n 0, 1) := by decide +kernel
theorem dX6_written_28 : decode cX6_written 28 = .ok (.iconst 0, 1) := by decide +kernel
theorem dX6_written_29 : decode cX6_written 29 = .ok (.putfield 135, 3) := by decide +kernel
theorem dX6_written_32 : decode cX6_written 32 = .ok (.iconst 0, 1) := by decide +kernel
theorem dX6_written_33 : decode cX6_written 33 = .ok (.aload_n 0, 1) := by decide +kernel
theorem dX6_written_34 : decode cX6_written 34 = .ok (.getfield 135, 3) := by decide +kernel
theorem dX6_written_37 : decode cX6_written 37 = .ok (.invokestatic 87, 3) := by decide +kernel
theorem dX6_written_40 : decode cX6_written 40 = .ok (.ifCond .eq 33, 3) := by decide +kernel
theorem dX6_written_43 : decode cX6_written 43 = .ok (.aload_n 0, 1) := by decide +kernel
theorem dX6_written_44 : decode cX6_written 44 = .ok (.getfield 26, 3) := by decide +kernel
theorem dX6_written_47 : decode cX6_written 47 = .ok (.aload_n 0, 1) := by decide +kernel
theorem dX6_written_48 : decode cX6_written 48 = .ok (.getfield 135, 3) := by decide +kernel
theorem dX6_written_51 : decode cX6_written 51 = .ok (.iconst 0, 1) := by decide +kernel
theorem dX6_written_52 : decode cX6_written 52 = .ok (.aload_n 0, 1) := by decide +kernel
theorem dX6_written_53 : decode cX6_written 53 = .ok (.getfield 135, 3) := by decide +kernel
theorem dX6_written_56 : decode cX6_written 56 = .ok (.invokestatic 87, 3) := by decide +kernel
theorem dX6_written_59 : decode cX6_written 59 = .ok (.iastore, 1) := by decide +kernel
theorem dX6_written_60 : decode cX6_written 60 = .ok (.aload_n 0, 1) := by decide +kernel
theorem dX6_written_61 : decode cX6_written 61 = .ok (.dup, 1) := by decide +kernel
theorem dX6_written_62 : decode cX6_written 62 = .ok (.getfield 135, 3) := by decide +kernel
theorem dX6_written_65 : decode cX6_written 65 = .ok (.iconst 1, 1) := by decide +kernel
theorem dX6_written_66 : decode cX6_written 66 = .ok (.iadd, 1) := by decide +kernel
theorem dX6_written_67 : decode cX6_written 67 = .ok (.putfield 135, 3) := by decide +kernel
theorem dX6_written_70 : decode cX6_written 70 = .ok (.goto (-38), 3) := by decide +kernel
theorem dX6_written_73 : decode cX6_written 73 = .ok (.aload_n 0, 1) := by decide +kernel
theorem dX6_written_74 : decode cX6_written 74 = .ok (.iload_n 1, 1) := by decide +kernel
theorem dX6_written_75 : decode cX6_written 75 = .ok (.invokevirtual 142, 3) := by decide +kernel
theorem dX6_written_78 : decode cX6_written 78 = .ok (.aload_n 0, 1) := by decide +kernel
theorem dX6_written_79 : decode cX6_written 79 = .ok (.aload_n 0, 1) := by decide +kernel
theorem dX6_written_80 : decode cX6_written 80 = .ok (.iload_n 1, 1) := by decide +kernel
theorem dX6_written_81 : decode cX6_written 81 = .ok (.iload_n 2, 1) := by decide +kernel
theorem dX6_written_82 : decode cX6_written 82 = .ok (.invokevirtual 118, 3) := by decide +kernel
theorem dX6_written_85 : decode cX6_written 85 = .ok (.invokevirtual 142, 3) := by decide +kernel
theorem dX6_written_88 : decode cX6_written 88 = .ok (.aload_n 0, 1) := by decide +kernel
theorem dX6_written_89 : decode cX6_written 89 = .ok (.aload_n 0, 1) := by decide +kernel
theorem dX6_written_90 : decode cX6_written 90 = .ok (.iload_n 1, 1) := by decide +kernel
theorem dX6_written_91 : decode cX6_written 91 = .ok (.iload_n 2, 1) := by decide +kernel
theorem dX6_written_92 : decode cX6_written 92 = .ok (.invokevirtual 108, 3) := by decide +kernel
theorem dX6_written_95 : decode cX6_written 95 = .ok (.invokevirtual 142, 3) := by decide +kernel
theorem dX6_written_98 : decode cX6_written 98 = .ok (.iload_n 3, 1) := by decide +kernel
theorem dX6_written_99 : decode cX6_written 99 = .ok (.iconst (-1), 1) := by decide +kernel
theorem dX6_written_100 : decode cX6_written 100 = .ok (.if_icmp .ne 10, 3) := by decide +kernel
theorem dX6_written_103 : decode cX6_written 103 = .ok (.aload_n 0, 1) := by decide +kernel
theorem dX6_written_104 : decode cX6_written 104 = .ok (.getfield 135, 3) := by decide +kernel
theorem dX6_written_107 : decode cX6_written 107 = .ok (.goto 22, 3) := by decide +kernel
theorem dX6_written_110 : decode cX6_written 110 = .ok (.iload_n 3, 1) := by decide +kernel
theorem dX6_written_111 : decode cX6_written 111 = .ok (.aload_n 0, 1) := by decide +kernel
theorem dX6_written_112 : decode cX6_written 112 = .ok (.getfield 135, 3) := by decide +kernel
theorem dX6_written_115 : decode cX6_written 115 = .ok (.if_icmp .ge 12, 3) := by decide +kernel
theorem dX6_written_118 : decode cX6_written 118 = .ok (.aload_n 0, 1) := by decide +kernel
theorem dX6_written_119 : decode cX6_written 119 = .ok (.getfield 26, 3) := by decide +kernel
theorem dX6_written_122 : decode cX6_written 122 = .ok (.iload_n 3, 1) := by decide +kernel
theorem dX6_written_123 : decode cX6_written 123 = .ok (.iaload, 1) := by decide +kernel
theorem dX6_written_124 : decode cX6_written 124 = .ok (.goto 5, 3) := by decide +kernel
theorem dX6_written_127 : decode cX6_written 127 = .ok (.bipush (-6), 2) := by decide +kernel
theorem dX6_written_129 : decode cX6_written 129 = .ok (.ireturn, 1) := by decide +kernel
theorem dX6_packetsOf_0 : decode cX6_packetsOf 0 = .ok (.iconst 0, 1) := by decide +kernel
theorem dX6_packetsOf_1 : decode cX6_packetsOf 1 = .ok (.istore_n 2, 1) := by decide +kernel
theorem dX6_packetsOf_2 : decode cX6_packetsOf 2 = .ok (.iconst 0, 1) := by decide +kernel
theorem dX6_packetsOf_3 : decode cX6_packetsOf 3 = .ok (.istore_n 3, 1) := by decide +kernel
theorem dX6_packetsOf_4 : decode cX6_packetsOf 4 = .ok (.iload_n 3, 1) := by decide +kernel
theorem dX6_packetsOf_5 : decode cX6_packetsOf 5 = .ok (.aload_n 0, 1) := by decide +kernel
theorem dX6_packetsOf_6 : decode cX6_packetsOf 6 = .ok (.getfield 7, 3) := by decide +kernel
theorem dX6_packetsOf_9 : decode cX6_packetsOf 9 = .ok (.bipush 8, 2) := by decide +kernel
theorem dX6_packetsOf_11 : decode cX6_packetsOf 11 = .ok (.iload_n 1, 1) := by decide +kernel
theorem dX6_packetsOf_12 : decode cX6_packetsOf 12 = .ok (.iadd, 1) := by decide +kernel
theorem dX6_packetsOf_13 : decode cX6_packetsOf 13 = .ok (.iaload, 1) := by decide +kernel
theorem dX6_packetsOf_14 : decode cX6_packetsOf 14 = .ok (.if_icmp .ge 18, 3) := by decide +kernel
theorem dX6_packetsOf_17 : decode cX6_packetsOf 17 = .ok (.iload_n 2, 1) := by decide +kernel
theorem dX6_packetsOf_18 : decode cX6_packetsOf 18 = .ok (.aload_n 0, 1) := by decide +kernel
theorem dX6_packetsOf_19 : decode cX6_packetsOf 19 = .ok (.iload_n 1, 1) := by decide +kernel
theorem dX6_packetsOf_20 : decode cX6_packetsOf 20 = .ok (.iload_n 3, 1) := by decide +kernel
theorem dX6_packetsOf_21 : decode cX6_packetsOf 21 = .ok (.invokevirtual 118, 3) := by decide +kernel
theorem dX6_packetsOf_24 : decode cX6_packetsOf 24 = .ok (.iadd, 1) := by decide +kernel
theorem dX6_packetsOf_25 : decode cX6_packetsOf 25 = .ok (.istore_n 2, 1) := by decide +kernel
theorem dX6_packetsOf_26 : decode cX6_packetsOf 26 = .ok (.iinc 3 1, 3) := by decide +kernel
theorem dX6_packetsOf_29 : decode cX6_packetsOf 29 = .ok (.goto (-25), 3) := by decide +kernel
theorem dX6_packetsOf_32 : decode cX6_packetsOf 32 = .ok (.iload_n 2, 1) := by decide +kernel
theorem dX6_packetsOf_33 : decode cX6_packetsOf 33 = .ok (.ireturn, 1) := by decide +kernel
theorem dX6_told_0 : decode cX6_told 0 = .ok (.iload_n 1, 1) := by decide +kernel
theorem dX6_told_1 : decode cX6_told 1 = .ok (.invokestatic 111, 3) := by decide +kernel
theorem dX6_told_4 : decode cX6_told 4 = .ok (.ifCond .eq 12, 3) := by decide +kernel
theorem dX6_told_7 : decode cX6_told 7 = .ok (.iload_n 2, 1) := by decide +kernel
theorem dX6_told_8 : decode cX6_told 8 = .ok (.iconst 0, 1) := by decide +kernel
theorem dX6_told_9 : decode cX6_told 9 = .ok (.iconst 4, 1) := by decide +kernel
theorem dX6_told_10 : decode cX6_told 10 = .ok (.invokestatic 69, 3) := by decide +kernel
theorem dX6_told_13 : decode cX6_told 13 = .ok (.ifCond .ne 6, 3) := by decide +kernel
theorem dX6_told_16 : decode cX6_told 16 = .ok (.bipush (-2), 2) := by decide +kernel
theorem dX6_told_18 : decode cX6_told 18 = .ok (.ireturn, 1) := by decide +kernel
theorem dX6_told_19 : decode cX6_told 19 = .ok (.aload_n 0, 1) := by decide +kernel
theorem dX6_told_20 : decode cX6_told 20 = .ok (.getfield 7, 3) := by decide +kernel
theorem dX6_told_23 : decode cX6_told 23 = .ok (.bipush 8, 2) := by decide +kernel
theorem dX6_told_25 : decode cX6_told 25 = .ok (.iload_n 1, 1) := by decide +kernel
theorem dX6_told_26 : decode cX6_told 26 = .ok (.iadd, 1) := by decide +kernel
theorem dX6_told_27 : decode cX6_told 27 = .ok (.iaload, 1) := by decide +kernel
theorem dX6_told_28 : decode cX6_told 28 = .ok (.istore_n 3, 1) := by decide +kernel
theorem dX6_told_29 : decode cX6_told 29 = .ok (.iload_n 2, 1) := by decide +kernel
theorem dX6_told_30 : decode cX6_told 30 = .ok (.iconst 3, 1) := by decide +kernel
theorem dX6_told_31 : decode cX6_told 31 = .ok (.if_icmp .ne 23, 3) := by decide +kernel
theorem dX6_told_34 : decode cX6_told 34 = .ok (.iload_n 3, 1) := by decide +kernel
theorem dX6_told_35 : decode cX6_told 35 = .ok (.ifCond .ne 8, 3) := by decide +kernel
theorem dX6_told_38 : decode cX6_told 38 = .ok (.bipush (-6), 2) := by decide +kernel
theorem dX6_told_40 : decode cX6_told 40 = .ok (.goto 37, 3) := by decide +kernel
theorem dX6_told_43 : decode cX6_told 43 = .ok (.aload_n 0, 1) := by decide +kernel
theorem dX6_told_44 : decode cX6_told 44 = .ok (.iload_n 1, 1) := by decide +kernel
theorem dX6_told_45 : decode cX6_told 45 = .ok (.iload_n 3, 1) := by decide +kernel
theorem dX6_told_46 : decode cX6_told 46 = .ok (.iconst 1, 1) := by decide +kernel
theorem dX6_told_47 : decode cX6_told 47 = .ok (.isub, 1) := by decide +kernel
theorem dX6_told_48 : decode cX6_told 48 = .ok (.invokevirtual 108, 3) := by decide +kernel
theorem dX6_told_51 : decode cX6_told 51 = .ok (.goto 26, 3) := by decide +kernel
theorem dX6_told_54 : decode cX6_told 54 = .ok (.iload_n 2, 1) := by decide +kernel
theorem dX6_told_55 : decode cX6_told 55 = .ok (.iconst 4, 1) := by decide +kernel
theorem dX6_told_56 : decode cX6_told 56 = .ok (.if_icmp .ne 11, 3) := by decide +kernel
theorem dX6_told_59 : decode cX6_told 59 = .ok (.aload_n 0, 1) := by decide +kernel
theorem dX6_told_60 : decode cX6_told 60 = .ok (.iload_n 1, 1) := by decide +kernel
theorem dX6_told_61 : decode cX6_told 61 = .ok (.invokevirtual 146, 3) := by decide +kernel
theorem dX6_told_64 : decode cX6_told 64 = .ok (.goto 13, 3) := by decide +kernel
theorem dX6_told_67 : decode cX6_told 67 = .ok (.aload_n 0, 1) := by decide +kernel
theorem dX6_told_68 : decode cX6_told 68 = .ok (.getfield 7, 3) := by decide +kernel
theorem dX6_told_71 : decode cX6_told 71 = .ok (.iconst 4, 1) := by decide +kernel
theorem dX6_told_72 : decode cX6_told 72 = .ok (.iload_n 2, 1) := by decide +kernel
theorem dX6_told_73 : decode cX6_told 73 = .ok (.imul, 1) := by decide +kernel
theorem dX6_told_74 : decode cX6_told 74 = .ok (.iload_n 1, 1) := by decide +kernel
theorem dX6_told_75 : decode cX6_told 75 = .ok (.iadd, 1) := by decide +kernel
theorem dX6_told_76 : decode cX6_told 76 = .ok (.iaload, 1) := by decide +kernel
theorem dX6_told_77 : decode cX6_told 77 = .ok (.ireturn, 1) := by decide +kernel
theorem dX6_showDue_0 : decode cX6_showDue 0 = .ok (.iconst 0, 1) := by decide +kernel
theorem dX6_showDue_1 : decode cX6_showDue 1 = .ok (.istore_n 3, 1) := by decide +kernel
theorem dX6_showDue_2 : decode cX6_showDue 2 = .ok (.iload_n 3, 1) := by decide +kernel
theorem dX6_showDue_3 : decode cX6_showDue 3 = .ok (.aload_n 0, 1) := by decide +kernel
theorem dX6_showDue_4 : decode cX6_showDue 4 = .ok (.getfield 7, 3) := by decide +kernel
theorem dX6_showDue_7 : decode cX6_showDue 7 = .ok (.bipush 8, 2) := by decide +kernel
theorem dX6_showDue_9 : decode cX6_showDue 9 = .ok (.iload_n 1, 1) := by decide +kernel
theorem dX6_showDue_10 : decode cX6_showDue 10 = .ok (.iadd, 1) := by decide +kernel
theorem dX6_showDue_11 : decode cX6_showDue 11 = .ok (.iaload, 1) := by decide +kernel
theorem dX6_showDue_12 : decode cX6_showDue 12 = .ok (.if_icmp .ge 110, 3) := by decide +kernel
theorem dX6_showDue_15 : decode cX6_showDue 15 = .ok (.bipush 10, 2) := by decide +kernel
theorem dX6_showDue_17 : decode cX6_showDue 17 = .ok (.iload_n 1, 1) := by decide +kernel
theorem dX6_showDue_18 : decode cX6_showDue 18 = .ok (.imul, 1) := by decide +kernel
theorem dX6_showDue_19 : decode cX6_showDue 19 = .ok (.iload_n 3, 1) := by decide +kernel
theorem dX6_showDue_20 : decode cX6_showDue 20 = .ok (.iadd, 1) := by decide +kernel
theorem dX6_showDue_21 : decode cX6_showDue 21 = .ok (.istore 4, 2) := by decide +kernel
theorem dX6_showDue_23 : decode cX6_showDue 23 = .ok (.aload_n 0, 1) := by decide +kernel
theorem dX6_showDue_24 : decode cX6_showDue 24 = .ok (.iload_n 1, 1) := by decide +kernel
theorem dX6_showDue_25 : decode cX6_showDue 25 = .ok (.iload_n 3, 1) := by decide +kernel
theorem dX6_showDue_26 : decode cX6_showDue 26 = .ok (.invokevirtual 108, 3) := by decide +kernel
theorem dX6_showDue_29 : decode cX6_showDue 29 = .ok (.iload_n 2, 1) := by decide +kernel
theorem dX6_showDue_30 : decode cX6_showDue 30 = .ok (.if_icmp .ne 86, 3) := by decide +kernel
theorem dX6_showDue_33 : decode cX6_showDue 33 = .ok (.aload_n 0, 1) := by decide +kernel
theorem dX6_showDue_34 : decode cX6_showDue 34 = .ok (.getfield 50, 3) := by decide +kernel
theorem dX6_showDue_37 : decode cX6_showDue 37 = .ok (.iload 4, 2) := by decide +kernel
theorem dX6_showDue_39 : decode cX6_showDue 39 = .ok (.aload_n 0, 1) := by decide +kernel
theorem dX6_showDue_40 : decode cX6_showDue 40 = .ok (.getfield 41, 3) := by decide +kernel
theorem dX6_showDue_43 : decode cX6_showDue 43 = .ok (.iload 4, 2) := by decide +kernel
theorem dX6_showDue_45 : decode cX6_showDue 45 = .ok (.iaload, 1) := by decide +kernel
theorem dX6_showDue_46 : decode cX6_showDue 46 = .ok (.aload_n 0, 1) := by decide +kernel
theorem dX6_showDue_47 : decode cX6_showDue 47 = .ok (.iload_n 1, 1) := by decide +kernel
theorem dX6_showDue_48 : decode cX6_showDue 48 = .ok (.iload_n 3, 1) := by decide +kernel
theorem dX6_showDue_49 : decode cX6_showDue 49 = .ok (.invokevirtual 118, 3) := by decide +kernel
theorem dX6_showDue_52 : decode cX6_showDue 52 = .ok (.if_icmp .ne 7, 3) := by decide +kernel
theorem dX6_showDue_55 : decode cX6_showDue 55 = .ok (.iconst 1, 1) := by decide +kernel
theorem dX6_showDue_56 : decode cX6_showDue 56 = .ok (.goto 4, 3) := by decide +kernel
theorem dX6_showDue_59 : decode cX6_showDue 59 = .ok (.iconst 0, 1) := by decide +kernel
theorem dX6_showDue_60 : decode cX6_showDue 60 = .ok (.bastore, 1) := by decide +kernel
theorem dX6_showDue_61 : decode cX6_showDue 61 = .ok (.aload_n 0, 1) := by decide +kernel
theorem dX6_showDue_62 : decode cX6_showDue 62 = .ok (.getfield 56, 3) := by decide +kernel
theorem dX6_showDue_65 : decode cX6_showDue 65 = .ok (.iload_n 1, 1) := by decide +kernel
theorem dX6_showDue_66 : decode cX6_showDue 66 = .ok (.dup2, 1) := by decide +kernel
theorem dX6_showDue_67 : decode cX6_showDue 67 = .ok (.iaload, 1) := by decide +kernel
theorem dX6_showDue_68 : decode cX6_showDue 68 = .ok (.aload_n 0, 1) := by decide +kernel
theorem dX6_showDue_69 : decode cX6_showDue 69 = .ok (.getfield 41, 3) := by decide +kernel
theorem dX6_showDue_72 : decode cX6_showDue 72 = .ok (.iload 4, 2) := by decide +kernel
theorem dX6_showDue_74 : decode cX6_showDue 74 = .ok (.iaload, 1) := by decide +kernel
theorem dX6_showDue_75 : decode cX6_showDue 75 = .ok (.isub, 1) := by decide +kernel
theorem dX6_showDue_76 : decode cX6_showDue 76 = .ok (.iastore, 1) := by decide +kernel
theorem dX6_showDue_77 : decode cX6_showDue 77 = .ok (.aload_n 0, 1) := by decide +kernel
theorem dX6_showDue_78 : decode cX6_showDue 78 = .ok (.getfield 50, 3) := by decide +kernel
theorem dX6_showDue_81 : decode cX6_showDue 81 = .ok (.iload 4, 2) := by decide +kernel
theorem dX6_showDue_83 : decode cX6_showDue 83 = .ok (.baload, 1) := by decide +kernel
theorem dX6_showDue_84 : decode cX6_showDue 84 = .ok (.ifCond .ne 32, 3) := by decide +kernel
theorem dX6_showDue_87 : decode cX6_showDue 87 = .ok (.aload_n 0, 1) := by decide +kernel
theorem dX6_showDue_88 : decode cX6_showDue 88 = .ok (.dup, 1) := by decide +kernel
theorem dX6_showDue_89 : decode cX6_showDue 89 = .ok (.getfield 149, 3) := by decide +kernel
theorem dX6_showDue_92 : decode cX6_showDue 92 = .ok (.iconst 1, 1) := by decide +kernel
theorem dX6_showDue_93 : decode cX6_showDue 93 = .ok (.iadd, 1) := by decide +kernel
theorem dX6_showDue_94 : decode cX6_showDue 94 = .ok (.putfield 149, 3) := by decide +kernel
theorem dX6_showDue_97 : decode cX6_showDue 97 = .ok (.aload_n 0, 1) := by decide +kernel
theorem dX6_showDue_98 : decode cX6_showDue 98 = .ok (.aload_n 0, 1) := by decide +kernel
theorem dX6_showDue_99 : decode cX6_showDue 99 = .ok (.getfield 152, 3) := by decide +kernel
theorem dX6_showDue_102 : decode cX6_showDue 102 = .ok (.ifCond .ge 7, 3) := by decide +kernel
theorem dX6_showDue_105 : decode cX6_showDue 105 = .ok (.iload_n 2, 1) := by decide +kernel
theorem dX6_showDue_106 : decode cX6_showDue 106 = .ok (.goto 7, 3) := by decide +kernel
theorem dX6_showDue_109 : decode cX6_showDue 109 = .ok (.aload_n 0, 1) := by decide +kernel
theorem dX6_showDue_110 : decode cX6_showDue 110 = .ok (.getfield 152, 3) := by decide +kernel
theorem dX6_showDue_113 : decode cX6_showDue 113 = .ok (.putfield 152, 3) := by decide +kernel
theorem dX6_showDue_116 : decode cX6_showDue 116 = .ok (.iinc 3 1, 3) := by decide +kernel
theorem dX6_showDue_119 : decode cX6_showDue 119 = .ok (.goto (-117), 3) := by decide +kernel
theorem dX6_showDue_122 : decode cX6_showDue 122 = .ok (.return_, 1) := by decide +kernel
theorem dX6_isAgain_0 : decode cX6_isAgain 0 = .ok (.iload_n 0, 1) := by decide +kernel
theorem dX6_isAgain_1 : decode cX6_isAgain 1 = .ok (.ifCond .le 18, 3) := by decide +kernel
theorem dX6_isAgain_4 : decode cX6_isAgain 4 = .ok (.iload_n 1, 1) := by decide +kernel
theorem dX6_isAgain_5 : decode cX6_isAgain 5 = .ok (.ifCond .lt 10, 3) := by decide +kernel
theorem dX6_isAgain_8 : decode cX6_isAgain 8 = .ok (.iload_n 2, 1) := by decide +kernel
theorem dX6_isAgain_9 : decode cX6_isAgain 9 = .ok (.iload_n 1, 1) := by decide +kernel
theorem dX6_isAgain_10 : decode cX6_isAgain 10 = .ok (.isub, 1) := by decide +kernel
theorem dX6_isAgain_11 : decode cX6_isAgain 11 = .ok (.iload_n 0, 1) := by decide +kernel
theorem dX6_isAgain_12 : decode cX6_isAgain 12 = .ok (.if_icmp .lt 7, 3) := by decide +kernel
theorem dX6_isAgain_15 : decode cX6_isAgain 15 = .ok (.iconst 1, 1) := by decide +kernel
theorem dX6_isAgain_16 : decode cX6_isAgain 16 = .ok (.goto 4, 3) := by decide +kernel
theorem dX6_isAgain_19 : decode cX6_isAgain 19 = .ok (.iconst 0, 1) := by decide +kernel
theorem dX6_isAgain_20 : decode cX6_isAgain 20 = .ok (.ireturn, 1) := by decide +kernel
theorem dX6_clockNow_0 : decode cX6_clockNow 0 = .ok (.bipush (-6), 2) := by decide +kernel
theorem dX6_clockNow_2 : decode cX6_clockNow 2 = .ok (.istore_n 2, 1) := by decide +kernel
theorem dX6_clockNow_3 : decode cX6_clockNow 3 = .ok (.iconst 3, 1) := by decide +kernel
theorem dX6_clockNow_4 : decode cX6_clockNow 4 = .ok (.istore_n 3, 1) := by decide +kernel
theorem dX6_clockNow_5 : decode cX6_clockNow 5 = .ok (.iload_n 3, 1) := by decide +kernel
theorem dX6_clockNow_6 : decode cX6_clockNow 6 = .ok (.ifCond .lt 44, 3) := by decide +kernel
theorem dX6_clockNow_9 : decode cX6_clockNow 9 = .ok (.iload_n 3, 1) := by decide +kernel
theorem dX6_clockNow_10 : decode cX6_clockNow 10 = .ok (.aload_n 0, 1) := by decide +kernel
theorem dX6_clockNow_11 : decode cX6_clockNow 11 = .ok (.getfield 65, 3) := by decide +kernel
theorem dX6_clockNow_14 : decode cX6_clockNow 14 = .ok (.if_icmp .eq 28, 3) := by decide +kernel
theorem dX6_clockNow_17 : decode cX6_clockNow 17 = .ok (.aload_n 0, 1) := by decide +kernel
theorem dX6_clockNow_18 : decode cX6_clockNow 18 = .ok (.getfield 7, 3) := by decide +kernel
theorem dX6_clockNow_21 : decode cX6_clockNow 21 = .ok (.iconst 4, 1) := by decide +kernel
theorem dX6_clockNow_22 : decode cX6_clockNow 22 = .ok (.iload_n 3, 1) := by decide +kernel
theorem dX6_clockNow_23 : decode cX6_clockNow 23 = .ok (.iadd, 1) := by decide +kernel
theorem dX6_clockNow_24 : decode cX6_clockNow 24 = .ok (.iaload, 1) := by decide +kernel
theorem dX6_clockNow_25 : decode cX6_clockNow 25 = .ok (.aload_n 0, 1) := by decide +kernel
theorem dX6_clockNow_26 : decode cX6_clockNow 26 = .ok (.getfield 62, 3) := by decide +kernel
theorem dX6_clockNow_29 : decode cX6_clockNow 29 = .ok (.iload_n 3, 1) := by decide +kernel
theorem dX6_clockNow_30 : decode cX6_clockNow 30 = .ok (.iaload, 1) := by decide +kernel
theorem dX6_clockNow_31 : decode cX6_clockNow 31 = .ok (.iload_n 1, 1) := by decide +kernel
theorem dX6_clockNow_32 : decode cX6_clockNow 32 = .ok (.invokestatic 155, 3) := by decide +kernel
theorem dX6_clockNow_35 : decode cX6_clockNow 35 = .ok (.ifCond .eq 7, 3) := by decide +kernel
theorem dX6_clockNow_38 : decode cX6_clockNow 38 = .ok (.iload_n 3, 1) := by decide +kernel
theorem dX6_clockNow_39 : decode cX6_clockNow 39 = .ok (.goto 4, 3) := by decide +kernel
theorem dX6_clockNow_42 : decode cX6_clockNow 42 = .ok (.iload_n 2, 1) := by decide +kernel
theorem dX6_clockNow_43 : decode cX6_clockNow 43 = .ok (.istore_n 2, 1) := by decide +kernel
theorem dX6_clockNow_44 : decode cX6_clockNow 44 = .ok (.iinc 3 (-1), 3) := by decide +kernel
theorem dX6_clockNow_47 : decode cX6_clockNow 47 = .ok (.goto (-42), 3) := by decide +kernel
theorem dX6_clockNow_50 : decode cX6_clockNow 50 = .ok (.iload_n 2, 1) := by decide +kernel
theorem dX6_clockNow_51 : decode cX6_clockNow 51 = .ok (.ireturn, 1) := by decide +kernel
theorem dX6_frameOf_0 : decode cX6_frameOf 0 = .ok (.bipush (-6), 2) := by decide +kernel
theorem dX6_frameOf_2 : decode cX6_frameOf 2 = .ok (.istore_n 3, 1) := by decide +kernel
theorem dX6_frameOf_3 : decode cX6_frameOf 3 = .ok (.aload_n 0, 1) := by decide +kernel
theorem dX6_frameOf_4 : decode cX6_frameOf 4 = .ok (.getfield 7, 3) := by decide +kernel
theorem dX6_frameOf_7 : decode cX6_frameOf 7 = .ok (.bipush 8, 2) := by decide +kernel
theorem dX6_frameOf_9 : decode cX6_frameOf 9 = .ok (.iload_n 1, 1) := by decide +kernel
theorem dX6_frameOf_10 : decode cX6_frameOf 10 = .ok (.iadd, 1) := by decide +kernel
theorem dX6_frameOf_11 : decode cX6_frameOf 11 = .ok (.iaload, 1) := by decide +kernel
theorem dX6_frameOf_12 : decode cX6_frameOf 12 = .ok (.iconst 1, 1) := by decide +kernel
theorem dX6_frameOf_13 : decode cX6_frameOf 13 = .ok (.isub, 1) := by decide +kernel
theorem dX6_frameOf_14 : decode cX6_frameOf 14 = .ok (.istore 4, 2) := by decide +kernel
theorem dX6_frameOf_16 : decode cX6_frameOf 16 = .ok (.iload 4, 2) := by decide +kernel
theorem dX6_frameOf_18 : decode cX6_frameOf 18 = .ok (.ifCond .lt 49, 3) := by decide +kernel
theorem dX6_frameOf_21 : decode cX6_frameOf 21 = .ok (.aload_n 0, 1) := by decide +kernel
theorem dX6_frameOf_22 : decode cX6_frameOf 22 = .ok (.iload_n 1, 1) := by decide +kernel
theorem dX6_frameOf_23 : decode cX6_frameOf 23 = .ok (.iload 4, 2) := by decide +kernel
theorem dX6_frameOf_25 : decode cX6_frameOf 25 = .ok (.invokevirtual 108, 3) := by decide +kernel
theorem dX6_frameOf_28 : decode cX6_frameOf 28 = .ok (.iload_n 2, 1) := by decide +kernel
theorem dX6_frameOf_29 : decode cX6_frameOf 29 = .ok (.if_icmp .le 30, 3) := by decide +kernel
theorem dX6_frameOf_32 : decode cX6_frameOf 32 = .ok (.aload_n 0, 1) := by decide +kernel
theorem dX6_frameOf_33 : decode cX6_frameOf 33 = .ok (.getfield 41, 3) := by decide +kernel
theorem dX6_frameOf_36 : decode cX6_frameOf 36 = .ok (.bipush 10, 2) := by decide +kernel
theorem dX6_frameOf_38 : decode cX6_frameOf 38 = .ok (.iload_n 1, 1) := by decide +kernel
theorem dX6_frameOf_39 : decode cX6_frameOf 39 = .ok (.imul, 1) := by decide +kernel
theorem dX6_frameOf_40 : decode cX6_frameOf 40 = .ok (.iload 4, 2) := by decide +kernel
theorem dX6_frameOf_42 : decode cX6_frameOf 42 = .ok (.iadd, 1) := by decide +kernel
theorem dX6_frameOf_43 : decode cX6_frameOf 43 = .ok (.iaload, 1) := by decide +kernel
theorem dX6_frameOf_44 : decode cX6_frameOf 44 = .ok (.aload_n 0, 1) := by decide +kernel
theorem dX6_frameOf_45 : decode cX6_frameOf 45 = .ok (.iload_n 1, 1) := by decide +kernel
theorem dX6_frameOf_46 : decode cX6_frameOf 46 = .ok (.iload 4, 2) := by decide +kernel
theorem dX6_frameOf_48 : decode cX6_frameOf 48 = .ok (.invokevirtual 118, 3) := by decide +kernel
theorem dX6_frameOf_51 : decode cX6_frameOf 51 = .ok (.if_icmp .ge 8, 3) := by decide +kernel
theorem dX6_frameOf_54 : decode cX6_frameOf 54 = .ok (.iload 4, 2) := by decide +kernel
theorem dX6_frameOf_56 : decode cX6_frameOf 56 = .ok (.goto 4, 3) := by decide +kernel
theorem dX6_frameOf_59 : decode cX6_frameOf 59 = .ok (.iload_n 3, 1) := by decide +kernel
theorem dX6_frameOf_60 : decode cX6_frameOf 60 = .ok (.istore_n 3, 1) := by decide +kernel
theorem dX6_frameOf_61 : decode cX6_frameOf 61 = .ok (.iinc 4 (-1), 3) := by decide +kernel
theorem dX6_frameOf_64 : decode cX6_frameOf 64 = .ok (.goto (-48), 3) := by decide +kernel
theorem dX6_frameOf_67 : decode cX6_frameOf 67 = .ok (.iload_n 3, 1) := by decide +kernel
theorem dX6_frameOf_68 : decode cX6_frameOf 68 = .ok (.ireturn, 1) := by decide +kernel
theorem dX6_programmeNow_0 : decode cX6_programmeNow 0 = .ok (.bipush (-6), 2) := by decide +kernel
theorem dX6_programmeNow_2 : decode cX6_programmeNow 2 = .ok (.istore_n 2, 1) := by decide +kernel
theorem dX6_programmeNow_3 : decode cX6_programmeNow 3 = .ok (.iconst 0, 1) := by decide +kernel
theorem dX6_programmeNow_4 : decode cX6_programmeNow 4 = .ok (.istore_n 3, 1) := by decide +kernel
theorem dX6_programmeNow_5 : decode cX6_programmeNow 5 = .ok (.iconst 0, 1) := by decide +kernel
theorem dX6_programmeNow_6 : decode cX6_programmeNow 6 = .ok (.istore 4, 2) := by decide +kernel
theorem dX6_programmeNow_8 : decode cX6_programmeNow 8 = .ok (.iload 4, 2) := by decide +kernel
theorem dX6_programmeNow_10 : decode cX6_programmeNow 10 = .ok (.iconst 4, 1) := by decide +kernel
theorem dX6_programmeNow_11 : decode cX6_programmeNow 11 = .ok (.if_icmp .ge 84, 3) := by decide +kernel
theorem dX6_programmeNow_14 : decode cX6_programmeNow 14 = .ok (.iload 4, 2) := by decide +kernel
theorem dX6_programmeNow_16 : decode cX6_programmeNow 16 = .ok (.aload_n 0, 1) := by decide +kernel
theorem dX6_programmeNow_17 : decode cX6_programmeNow 17 = .ok (.getfield 65, 3) := by decide +kernel
theorem dX6_programmeNow_20 : decode cX6_programmeNow 20 = .ok (.if_icmp .eq 22, 3) := by decide +kernel
theorem dX6_programmeNow_23 : decode cX6_programmeNow 23 = .ok (.aload_n 0, 1) := by decide +kernel
theorem dX6_programmeNow_24 : decode cX6_programmeNow 24 = .ok (.getfield 56, 3) := by decide +kernel
theorem dX6_programmeNow_27 : decode cX6_programmeNow 27 = .ok (.iload 4, 2) := by decide +kernel
theorem dX6_programmeNow_29 : decode cX6_programmeNow 29 = .ok (.iaload, 1) := by decide +kernel
theorem dX6_programmeNow_30 : decode cX6_programmeNow 30 = .ok (.aload_n 0, 1) := by decide +kernel
theorem dX6_programmeNow_31 : decode cX6_programmeNow 31 = .ok (.getfield 7, 3) := by decide +kernel
theorem dX6_programmeNow_34 : decode cX6_programmeNow 34 = .ok (.iconst 0, 1) := by decide +kernel
theorem dX6_programmeNow_35 : decode cX6_programmeNow 35 = .ok (.iload 4, 2) := by decide +kernel
theorem dX6_programmeNow_37 : decode cX6_programmeNow 37 = .ok (.iadd, 1) := by decide +kernel
theorem dX6_programmeNow_38 : decode cX6_programmeNow 38 = .ok (.iaload, 1) := by decide +kernel
theorem dX6_programmeNow_39 : decode cX6_programmeNow 39 = .ok (.if_icmp .lt 8, 3) := by decide +kernel
theorem dX6_programmeNow_42 : decode cX6_programmeNow 42 = .ok (.bipush (-6), 2) := by decide +kernel
theorem dX6_programmeNow_44 : decode cX6_programmeNow 44 = .ok (.goto 10, 3) := by decide +kernel
theorem dX6_programmeNow_47 : decode cX6_programmeNow 47 = .ok (.aload_n 0, 1) := by decide +kernel
theorem dX6_programmeNow_48 : decode cX6_programmeNow 48 = .ok (.iload 4, 2) := by decide +kernel
theorem dX6_programmeNow_50 : decode cX6_programmeNow 50 = .ok (.iload_n 1, 1) := by decide +kernel
theorem dX6_programmeNow_51 : decode cX6_programmeNow 51 = .ok (.invokevirtual 158, 3) := by decide +kernel
theorem dX6_programmeNow_54 : decode cX6_programmeNow 54 = .ok (.istore 5, 2) := by decide +kernel
theorem dX6_programmeNow_56 : decode cX6_programmeNow 56 = .ok (.iload 5, 2) := by decide +kernel
theorem dX6_programmeNow_58 : decode cX6_programmeNow 58 = .ok (.ifCond .lt 31, 3) := by decide +kernel
theorem dX6_programmeNow_61 : decode cX6_programmeNow 61 = .ok (.iload_n 2, 1) := by decide +kernel
theorem dX6_programmeNow_62 : decode cX6_programmeNow 62 = .ok (.ifCond .lt 15, 3) := by decide +kernel
theorem dX6_programmeNow_65 : decode cX6_programmeNow 65 = .ok (.aload_n 0, 1) := by decide +kernel
theorem dX6_programmeNow_66 : decode cX6_programmeNow 66 = .ok (.iload 4, 2) := by decide +kernel
theorem dX6_programmeNow_68 : decode cX6_programmeNow 68 = .ok (.iload 5, 2) := by decide +kernel
theorem dX6_programmeNow_70 : decode cX6_programmeNow 70 = .ok (.invokevirtual 108, 3) := by decide +kernel
theorem dX6_programmeNow_73 : decode cX6_programmeNow 73 = .ok (.iload_n 3, 1) := by decide +kernel
theorem dX6_programmeNow_74 : decode cX6_programmeNow 74 = .ok (.if_icmp .ge 15, 3) := by decide +kernel
theorem dX6_programmeNow_77 : decode cX6_programmeNow 77 = .ok (.iload 4, 2) := by decide +kernel
theorem dX6_programmeNow_79 : decode cX6_programmeNow 79 = .ok (.istore_n 2, 1) := by decide +kernel
theorem dX6_programmeNow_80 : decode cX6_programmeNow 80 = .ok (.aload_n 0, 1) := by decide +kernel
theorem dX6_programmeNow_81 : decode cX6_programmeNow 81 = .ok (.iload 4, 2) := by decide +kernel
theorem dX6_programmeNow_83 : decode cX6_programmeNow 83 = .ok (.iload 5, 2) := by decide +kernel
theorem dX6_programmeNow_85 : decode cX6_programmeNow 85 = .ok (.invokevirtual 108, 3) := by decide +kernel
theorem dX6_programmeNow_88 : decode cX6_programmeNow 88 = .ok (.istore_n 3, 1) := by decide +kernel
theorem dX6_programmeNow_89 : decode cX6_programmeNow 89 = .ok (.iinc 4 1, 3) := by decide +kernel
theorem dX6_programmeNow_92 : decode cX6_programmeNow 92 = .ok (.goto (-84), 3) := by decide +kernel
theorem dX6_programmeNow_95 : decode cX6_programmeNow 95 = .ok (.iload_n 2, 1) := by decide +kernel
theorem dX6_programmeNow_96 : decode cX6_programmeNow 96 = .ok (.ireturn, 1) := by decide +kernel
theorem dX6_put_0 : decode cX6_put 0 = .ok (.iload_n 2, 1) := by decide +kernel
theorem dX6_put_1 : decode cX6_put 1 = .ok (.ifCond .ne 8, 3) := by decide +kernel
theorem dX6_put_4 : decode cX6_put 4 = .ok (.bipush (-6), 2) := by decide +kernel
theorem dX6_put_6 : decode cX6_put 6 = .ok (.goto 13, 3) := by decide +kernel
theorem dX6_put_9 : decode cX6_put 9 = .ok (.iload_n 2, 1) := by decide +kernel
theorem dX6_put_10 : decode cX6_put 10 = .ok (.iconst 1, 1) := by decide +kernel
theorem dX6_put_11 : decode cX6_put 11 = .ok (.if_icmp .ne 7, 3) := by decide +kernel
theorem dX6_put_14 : decode cX6_put 14 = .ok (.iconst 4, 1) := by decide +kernel
theorem dX6_put_15 : decode cX6_put 15 = .ok (.goto 4, 3) := by decide +kernel
theorem dX6_put_18 : decode cX6_put 18 = .ok (.iload_n 3, 1) := by decide +kernel
theorem dX6_put_19 : decode cX6_put 19 = .ok (.istore 5, 2) := by decide +kernel
theorem dX6_put_21 : decode cX6_put 21 = .ok (.aload_n 0, 1) := by decide +kernel
theorem dX6_put_22 : decode cX6_put 22 = .ok (.getfield 29, 3) := by decide +kernel
theorem dX6_put_25 : decode cX6_put 25 = .ok (.iload_n 1, 1) := by decide +kernel
theorem dX6_put_26 : decode cX6_put 26 = .ok (.iload_n 2, 1) := by decide +kernel
theorem dX6_put_27 : decode cX6_put 27 = .ok (.iastore, 1) := by decide +kernel
theorem dX6_put_28 : decode cX6_put 28 = .ok (.aload_n 0, 1) := by decide +kernel
theorem dX6_put_29 : decode cX6_put 29 = .ok (.getfield 32, 3) := by decide +kernel
theorem dX6_put_32 : decode cX6_put 32 = .ok (.iload_n 1, 1) := by decide +kernel
theorem dX6_put_33 : decode cX6_put 33 = .ok (.iload_n 3, 1) := by decide +kernel
theorem dX6_put_34 : decode cX6_put 34 = .ok (.iastore, 1) := by decide +kernel
theorem dX6_put_35 : decode cX6_put 35 = .ok (.aload_n 0, 1) := by decide +kernel
theorem dX6_put_36 : decode cX6_put 36 = .ok (.getfield 35, 3) := by decide +kernel
theorem dX6_put_39 : decode cX6_put 39 = .ok (.iload_n 1, 1) := by decide +kernel
theorem dX6_put_40 : decode cX6_put 40 = .ok (.iload 4, 2) := by decide +kernel
theorem dX6_put_42 : decode cX6_put 42 = .ok (.iastore, 1) := by decide +kernel
theorem dX6_put_43 : decode cX6_put 43 = .ok (.aload_n 0, 1) := by decide +kernel
theorem dX6_put_44 : decode cX6_put 44 = .ok (.getfield 38, 3) := by decide +kernel
theorem dX6_put_47 : decode cX6_put 47 = .ok (.iload_n 1, 1) := by decide +kernel
theorem dX6_put_48 : decode cX6_put 48 = .ok (.iload 5, 2) := by decide +kernel
theorem dX6_put_50 : decode cX6_put 50 = .ok (.ifCond .ge 7, 3) := by decide +kernel
theorem dX6_put_53 : decode cX6_put 53 = .ok (.iconst 0, 1) := by decide +kernel
theorem dX6_put_54 : decode cX6_put 54 = .ok (.goto 13, 3) := by decide +kernel
theorem dX6_put_57 : decode cX6_put 57 = .ok (.aload_n 0, 1) := by decide +kernel
theorem dX6_put_58 : decode cX6_put 58 = .ok (.getfield 59, 3) := by decide +kernel
theorem dX6_put_61 : decode cX6_put 61 = .ok (.iload 5, 2) := by decide +kernel
theorem dX6_put_63 : decode cX6_put 63 = .ok (.iaload, 1) := by decide +kernel
theorem dX6_put_64 : decode cX6_put 64 = .ok (.bipush 16, 2) := by decide +kernel
theorem dX6_put_66 : decode cX6_put 66 = .ok (.irem, 1) := by decide +kernel
theorem dX6_put_67 : decode cX6_put 67 = .ok (.iastore, 1) := by decide +kernel
theorem dX6_put_68 : decode cX6_put 68 = .ok (.iload 5, 2) := by decide +kernel
theorem dX6_put_70 : decode cX6_put 70 = .ok (.ifCond .lt 14, 3) := by decide +kernel
theorem dX6_put_73 : decode cX6_put 73 = .ok (.aload_n 0, 1) := by decide +kernel
theorem dX6_put_74 : decode cX6_put 74 = .ok (.getfield 59, 3) := by decide +kernel
theorem dX6_put_77 : decode cX6_put 77 = .ok (.iload 5, 2) := by decide +kernel
theorem dX6_put_79 : decode cX6_put 79 = .ok (.dup2, 1) := by decide +kernel
theorem dX6_put_80 : decode cX6_put 80 = .ok (.iaload, 1) := by decide +kernel
theorem dX6_put_81 : decode cX6_put 81 = .ok (.iconst 1, 1) := by decide +kernel
theorem dX6_put_82 : decode cX6_put 82 = .ok (.iadd, 1) := by decide +kernel
theorem dX6_put_83 : decode cX6_put 83 = .ok (.iastore, 1) := by decide +kernel
theorem dX6_put_84 : decode cX6_put 84 = .ok (.return_, 1) := by decide +kernel
theorem dX6_sendOne_0 : decode cX6_sendOne 0 = .ok (.aload_n 0, 1) := by decide +kernel
theorem dX6_sendOne_1 : decode cX6_sendOne 1 = .ok (.getfield 7, 3) := by decide +kernel
theorem dX6_sendOne_4 : decode cX6_sendOne 4 = .ok (.bipush 92, 2) := by decide +kernel
theorem dX6_sendOne_6 : decode cX6_sendOne 6 = .ok (.iaload, 1) := by decide +kernel
theorem dX6_sendOne_7 : decode cX6_sendOne 7 = .ok (.aload_n 0, 1) := by decide +kernel
theorem dX6_sendOne_8 : decode cX6_sendOne 8 = .ok (.getfield 161, 3) := by decide +kernel
theorem dX6_sendOne_11 : decode cX6_sendOne 11 = .ok (.iload_n 1, 1) := by decide +kernel
theorem dX6_sendOne_12 : decode cX6_sendOne 12 = .ok (.invokestatic 155, 3) := by decide +kernel
theorem dX6_sendOne_15 : decode cX6_sendOne 15 = .ok (.ifCond .eq 19, 3) := by decide +kernel
theorem dX6_sendOne_18 : decode cX6_sendOne 18 = .ok (.aload_n 0, 1) := by decide +kernel
theorem dX6_sendOne_19 : decode cX6_sendOne 19 = .ok (.iload_n 1, 1) := by decide +kernel
theorem dX6_sendOne_20 : decode cX6_sendOne 20 = .ok (.putfield 161, 3) := by decide +kernel
theorem dX6_sendOne_23 : decode cX6_sendOne 23 = .ok (.aload_n 0, 1) := by decide +kernel
theorem dX6_sendOne_24 : decode cX6_sendOne 24 = .ok (.iload_n 2, 1) := by decide +kernel
theorem dX6_sendOne_25 : decode cX6_sendOne 25 = .ok (.iconst 1, 1) := by decide +kernel
theorem dX6_sendOne_26 : decode cX6_sendOne 26 = .ok (.bipush (-6), 2) := by decide +kernel
theorem dX6_sendOne_28 : decode cX6_sendOne 28 = .ok (.bipush (-6), 2) := by decide +kernel
theorem dX6_sendOne_30 : decode cX6_sendOne 30 = .ok (.invokevirtual 164, 3) := by decide +kernel
theorem dX6_sendOne_33 : decode cX6_sendOne 33 = .ok (.return_, 1) := by decide +kernel
theorem dX6_sendOne_34 : decode cX6_sendOne 34 = .ok (.aload_n 0, 1) := by decide +kernel
theorem dX6_sendOne_35 : decode cX6_sendOne 35 = .ok (.iload_n 1, 1) := by decide +kernel
theorem dX6_sendOne_36 : decode cX6_sendOne 36 = .ok (.invokevirtual 168, 3) := by decide +kernel
theorem dX6_sendOne_39 : decode cX6_sendOne 39 = .ok (.istore_n 3, 1) := by decide +kernel
theorem dX6_sendOne_40 : decode cX6_sendOne 40 = .ok (.iload_n 3, 1) := by decide +kernel
theorem dX6_sendOne_41 : decode cX6_sendOne 41 = .ok (.ifCond .lt 20, 3) := by decide +kernel
theorem dX6_sendOne_44 : decode cX6_sendOne 44 = .ok (.aload_n 0, 1) := by decide +kernel
theorem dX6_sendOne_45 : decode cX6_sendOne 45 = .ok (.getfield 62, 3) := by decide +kernel
theorem dX6_sendOne_48 : decode cX6_sendOne 48 = .ok (.iload_n 3, 1) := by decide +kernel
theorem dX6_sendOne_49 : decode cX6_sendOne 49 = .ok (.iload_n 1, 1) := by decide +kernel
theorem dX6_sendOne_50 : decode cX6_sendOne 50 = .ok (.iastore, 1) := by decide +kernel
theorem dX6_sendOne_51 : decode cX6_sendOne 51 = .ok (.aload_n 0, 1) := by decide +kernel
theorem dX6_sendOne_52 : decode cX6_sendOne 52 = .ok (.iload_n 2, 1) := by decide +kernel
theorem dX6_sendOne_53 : decode cX6_sendOne 53 = .ok (.iconst 2, 1) := by decide +kernel
theorem dX6_sendOne_54 : decode cX6_sendOne 54 = .ok (.iload_n 3, 1) := by decide +kernel
theorem dX6_sendOne_55 : decode cX6_sendOne 55 = .ok (.bipush (-6), 2) := by decide +kernel
theorem dX6_sendOne_57 : decode cX6_sendOne 57 = .ok (.invokevirtual 164, 3) := by decide +kernel
theorem dX6_sendOne_60 : decode cX6_sendOne 60 = .ok (.return_, 1) := by decide +kernel
theorem dX6_sendOne_61 : decode cX6_sendOne 61 = .ok (.aload_n 0, 1) := by decide +kernel
theorem dX6_sendOne_62 : decode cX6_sendOne 62 = .ok (.iload_n 1, 1) := by decide +kernel
theorem dX6_sendOne_63 : decode cX6_sendOne 63 = .ok (.invokevirtual 171, 3) := by decide +kernel
theorem dX6_sendOne_66 : decode cX6_sendOne 66 = .ok (.istore_n 3, 1) := by decide +kernel
theorem dX6_sendOne_67 : decode cX6_sendOne 67 = .ok (.iload_n 3, 1) := by decide +kernel
theorem dX6_sendOne_68 : decode cX6_sendOne 68 = .ok (.ifCond .ge 14, 3) := by decide +kernel
theorem dX6_sendOne_71 : decode cX6_sendOne 71 = .ok (.aload_n 0, 1) := by decide +kernel
theorem dX6_sendOne_72 : decode cX6_sendOne 72 = .ok (.iload_n 2, 1) := by decide +kernel
theorem dX6_sendOne_73 : decode cX6_sendOne 73 = .ok (.iconst 0, 1) := by decide +kernel
theorem dX6_sendOne_74 : decode cX6_sendOne 74 = .ok (.bipush (-6), 2) := by decide +kernel
theorem dX6_sendOne_76 : decode cX6_sendOne 76 = .ok (.bipush (-6), 2) := by decide +kernel
theorem dX6_sendOne_78 : decode cX6_sendOne 78 = .ok (.invokevirtual 164, 3) := by decide +kernel
theorem dX6_sendOne_81 : decode cX6_sendOne 81 = .ok (.return_, 1) := by decide +kernel
theorem dX6_sendOne_82 : decode cX6_sendOne 82 = .ok (.aload_n 0, 1) := by decide +kernel
theorem dX6_sendOne_83 : decode cX6_sendOne 83 = .ok (.iload_n 3, 1) := by decide +kernel
theorem dX6_sendOne_84 : decode cX6_sendOne 84 = .ok (.iload_n 1, 1) := by decide +kernel
theorem dX6_sendOne_85 : decode cX6_sendOne 85 = .ok (.invokevirtual 158, 3) := by decide +kernel
theorem dX6_sendOne_88 : decode cX6_sendOne 88 = .ok (.istore 4, 2) := by decide +kernel
theorem dX6_sendOne_90 : decode cX6_sendOne 90 = .ok (.bipush 10, 2) := by decide +kernel
theorem dX6_sendOne_92 : decode cX6_sendOne 92 = .ok (.iload_n 3, 1) := by decide +kernel
theorem dX6_sendOne_93 : decode cX6_sendOne 93 = .ok (.imul, 1) := by decide +kernel
theorem dX6_sendOne_94 : decode cX6_sendOne 94 = .ok (.iload 4, 2) := by decide +kernel
theorem dX6_sendOne_96 : decode cX6_sendOne 96 = .ok (.iadd, 1) := by decide +kernel
theorem dX6_sendOne_97 : decode cX6_sendOne 97 = .ok (.istore 5, 2) := by decide +kernel
theorem dX6_sendOne_99 : decode cX6_sendOne 99 = .ok (.aload_n 0, 1) := by decide +kernel
theorem dX6_sendOne_100 : decode cX6_sendOne 100 = .ok (.getfield 44, 3) := by decide +kernel
theorem dX6_sendOne_103 : decode cX6_sendOne 103 = .ok (.iload 5, 2) := by decide +kernel
theorem dX6_sendOne_105 : decode cX6_sendOne 105 = .ok (.aload_n 0, 1) := by decide +kernel
theorem dX6_sendOne_106 : decode cX6_sendOne 106 = .ok (.getfield 44, 3) := by decide +kernel
theorem dX6_sendOne_109 : decode cX6_sendOne 109 = .ok (.iload 5, 2) := by decide +kernel
theorem dX6_sendOne_111 : decode cX6_sendOne 111 = .ok (.iaload, 1) := by decide +kernel
theorem dX6_sendOne_112 : decode cX6_sendOne 112 = .ok (.ifCond .ge 7, 3) := by decide +kernel
theorem dX6_sendOne_115 : decode cX6_sendOne 115 = .ok (.iload_n 1, 1) := by decide +kernel
theorem dX6_sendOne_116 : decode cX6_sendOne 116 = .ok (.goto 10, 3) := by decide +kernel
theorem dX6_sendOne_119 : decode cX6_sendOne 119 = .ok (.aload_n 0, 1) := by decide +kernel
theorem dX6_sendOne_120 : decode cX6_sendOne 120 = .ok (.getfield 44, 3) := by decide +kernel
theorem dX6_sendOne_123 : decode cX6_sendOne 123 = .ok (.iload 5, 2) := by decide +kernel
theorem dX6_sendOne_125 : decode cX6_sendOne 125 = .ok (.iaload, 1) := by decide +kernel
theorem dX6_sendOne_126 : decode cX6_sendOne 126 = .ok (.iastore, 1) := by decide +kernel
theorem dX6_sendOne_127 : decode cX6_sendOne 127 = .ok (.aload_n 0, 1) := by decide +kernel
theorem dX6_sendOne_128 : decode cX6_sendOne 128 = .ok (.getfield 47, 3) := by decide +kernel
theorem dX6_sendOne_131 : decode cX6_sendOne 131 = .ok (.iload 5, 2) := by decide +kernel
theorem dX6_sendOne_133 : decode cX6_sendOne 133 = .ok (.iload_n 1, 1) := by decide +kernel
theorem dX6_sendOne_134 : decode cX6_sendOne 134 = .ok (.iastore, 1) := by decide +kernel
theorem dX6_sendOne_135 : decode cX6_sendOne 135 = .ok (.aload_n 0, 1) := by decide +kernel
theorem dX6_sendOne_136 : decode cX6_sendOne 136 = .ok (.getfield 41, 3) := by decide +kernel
theorem dX6_sendOne_139 : decode cX6_sendOne 139 = .ok (.iload 5, 2) := by decide +kernel
theorem dX6_sendOne_141 : decode cX6_sendOne 141 = .ok (.dup2, 1) := by decide +kernel
theorem dX6_sendOne_142 : decode cX6_sendOne 142 = .ok (.iaload, 1) := by decide +kernel
theorem dX6_sendOne_143 : decode cX6_sendOne 143 = .ok (.iconst 1, 1) := by decide +kernel
theorem dX6_sendOne_144 : decode cX6_sendOne 144 = .ok (.iadd, 1) := by decide +kernel
theorem dX6_sendOne_145 : decode cX6_sendOne 145 = .ok (.iastore, 1) := by decide +kernel
theorem dX6_sendOne_146 : decode cX6_sendOne 146 = .ok (.aload_n 0, 1) := by decide +kernel
theorem dX6_sendOne_147 : decode cX6_sendOne 147 = .ok (.getfield 56, 3) := by decide +kernel
theorem dX6_sendOne_150 : decode cX6_sendOne 150 = .ok (.iload_n 3, 1) := by decide +kernel
theorem dX6_sendOne_151 : decode cX6_sendOne 151 = .ok (.dup2, 1) := by decide +kernel
theorem dX6_sendOne_152 : decode cX6_sendOne 152 = .ok (.iaload, 1) := by decide +kernel
theorem dX6_sendOne_153 : decode cX6_sendOne 153 = .ok (.iconst 1, 1) := by decide +kernel
theorem dX6_sendOne_154 : decode cX6_sendOne 154 = .ok (.iadd, 1) := by decide +kernel
theorem dX6_sendOne_155 : decode cX6_sendOne 155 = .ok (.iastore, 1) := by decide +kernel
theorem dX6_sendOne_156 : decode cX6_sendOne 156 = .ok (.aload_n 0, 1) := by decide +kernel
theorem dX6_sendOne_157 : decode cX6_sendOne 157 = .ok (.iload_n 2, 1) := by decide +kernel
theorem dX6_sendOne_158 : decode cX6_sendOne 158 = .ok (.iconst 3, 1) := by decide +kernel
theorem dX6_sendOne_159 : decode cX6_sendOne 159 = .ok (.iload_n 3, 1) := by decide +kernel
theorem dX6_sendOne_160 : decode cX6_sendOne 160 = .ok (.iload 4, 2) := by decide +kernel
theorem dX6_sendOne_162 : decode cX6_sendOne 162 = .ok (.invokevirtual 164, 3) := by decide +kernel
theorem dX6_sendOne_165 : decode cX6_sendOne 165 = .ok (.return_, 1) := by decide +kernel
theorem dX6_send_0 : decode cX6_send 0 = .ok (.aload_n 0, 1) := by decide +kernel
theorem dX6_send_1 : decode cX6_send 1 = .ok (.iconst 0, 1) := by decide +kernel
theorem dX6_send_2 : decode cX6_send 2 = .ok (.putfield 149, 3) := by decide +kernel
theorem dX6_send_5 : decode cX6_send 5 = .ok (.aload_n 0, 1) := by decide +kernel
theorem dX6_send_6 : decode cX6_send 6 = .ok (.bipush (-6), 2) := by decide +kernel
theorem dX6_send_8 : decode cX6_send 8 = .ok (.putfield 152, 3) := by decide +kernel
theorem dX6_send_11 : decode cX6_send 11 = .ok (.aload_n 0, 1) := by decide +kernel
theorem dX6_send_12 : decode cX6_send 12 = .ok (.bipush (-6), 2) := by decide +kernel
theorem dX6_send_14 : decode cX6_send 14 = .ok (.putfield 161, 3) := by decide +kernel
theorem dX6_send_17 : decode cX6_send 17 = .ok (.aload_n 0, 1) := by decide +kernel
theorem dX6_send_18 : decode cX6_send 18 = .ok (.getfield 59, 3) := by decide +kernel
theorem dX6_send_21 : decode cX6_send 21 = .ok (.iconst 4, 1) := by decide +kernel
theorem dX6_send_22 : decode cX6_send 22 = .ok (.iconst 0, 1) := by decide +kernel
theorem dX6_send_23 : decode cX6_send 23 = .ok (.iastore, 1) := by decide +kernel
theorem dX6_send_24 : decode cX6_send 24 = .ok (.iconst 0, 1) := by decide +kernel
theorem dX6_send_25 : decode cX6_send 25 = .ok (.istore_n 1, 1) := by decide +kernel
theorem dX6_send_26 : decode cX6_send 26 = .ok (.iload_n 1, 1) := by decide +kernel
theorem dX6_send_27 : decode cX6_send 27 = .ok (.iconst 4, 1) := by decide +kernel
theorem dX6_send_28 : decode cX6_send 28 = .ok (.if_icmp .ge 31, 3) := by decide +kernel
theorem dX6_send_31 : decode cX6_send 31 = .ok (.aload_n 0, 1) := by decide +kernel
theorem dX6_send_32 : decode cX6_send 32 = .ok (.getfield 56, 3) := by decide +kernel
theorem dX6_send_35 : decode cX6_send 35 = .ok (.iload_n 1, 1) := by decide +kernel
theorem dX6_send_36 : decode cX6_send 36 = .ok (.iconst 0, 1) := by decide +kernel
theorem dX6_send_37 : decode cX6_send 37 = .ok (.iastore, 1) := by decide +kernel
theorem dX6_send_38 : decode cX6_send 38 = .ok (.aload_n 0, 1) := by decide +kernel
theorem dX6_send_39 : decode cX6_send 39 = .ok (.getfield 59, 3) := by decide +kernel
theorem dX6_send_42 : decode cX6_send 42 = .ok (.iload_n 1, 1) := by decide +kernel
theorem dX6_send_43 : decode cX6_send 43 = .ok (.iconst 0, 1) := by decide +kernel
theorem dX6_send_44 : decode cX6_send 44 = .ok (.iastore, 1) := by decide +kernel
theorem dX6_send_45 : decode cX6_send 45 = .ok (.aload_n 0, 1) := by decide +kernel
theorem dX6_send_46 : decode cX6_send 46 = .ok (.getfield 62, 3) := by decide +kernel
theorem dX6_send_49 : decode cX6_send 49 = .ok (.iload_n 1, 1) := by decide +kernel
theorem dX6_send_50 : decode cX6_send 50 = .ok (.bipush (-6), 2) := by decide +kernel
theorem dX6_send_52 : decode cX6_send 52 = .ok (.iastore, 1) := by decide +kernel
theorem dX6_send_53 : decode cX6_send 53 = .ok (.iinc 1 1, 3) := by decide +kernel
theorem dX6_send_56 : decode cX6_send 56 = .ok (.goto (-30), 3) := by decide +kernel
theorem dX6_send_59 : decode cX6_send 59 = .ok (.iconst 0, 1) := by decide +kernel
theorem dX6_send_60 : decode cX6_send 60 = .ok (.istore_n 1, 1) := by decide +kernel
theorem dX6_send_61 : decode cX6_send 61 = .ok (.iload_n 1, 1) := by decide +kernel
theorem dX6_send_62 : decode cX6_send 62 = .ok (.bipush 40, 2) := by decide +kernel
theorem dX6_send_64 : decode cX6_send 64 = .ok (.if_icmp .ge 39, 3) := by decide +kernel
theorem dX6_send_67 : decode cX6_send 67 = .ok (.aload_n 0, 1) := by decide +kernel
theorem dX6_send_68 : decode cX6_send 68 = .ok (.getfield 41, 3) := by decide +kernel
theorem dX6_send_71 : decode cX6_send 71 = .ok (.iload_n 1, 1) := by decide +kernel
theorem dX6_send_72 : decode cX6_send 72 = .ok (.iconst 0, 1) := by decide +kernel
theorem dX6_send_73 : decode cX6_send 73 = .ok (.iastore, 1) := by decide +kernel
theorem dX6_send_74 : decode cX6_send 74 = .ok (.aload_n 0, 1) := by decide +kernel
theorem dX6_send_75 : decode cX6_send 75 = .ok (.getfield 44, 3) := by decide +kernel
theorem dX6_send_78 : decode cX6_send 78 = .ok (.iload_n 1, 1) := by decide +kernel
theorem dX6_send_79 : decode cX6_send 79 = .ok (.bipush (-6), 2) := by decide +kernel
theorem dX6_send_81 : decode cX6_send 81 = .ok (.iastore, 1) := by decide +kernel
theorem dX6_send_82 : decode cX6_send 82 = .ok (.aload_n 0, 1) := by decide +kernel
theorem dX6_send_83 : decode cX6_send 83 = .ok (.getfield 47, 3) := by decide +kernel
theorem dX6_send_86 : decode cX6_send 86 = .ok (.iload_n 1, 1) := by decide +kernel
theorem dX6_send_87 : decode cX6_send 87 = .ok (.bipush (-6), 2) := by decide +kernel
theorem dX6_send_89 : decode cX6_send 89 = .ok (.iastore, 1) := by decide +kernel
theorem dX6_send_90 : decode cX6_send 90 = .ok (.aload_n 0, 1) := by decide +kernel
theorem dX6_send_91 : decode cX6_send 91 = .ok (.getfield 50, 3) := by decide +kernel
theorem dX6_send_94 : decode cX6_send 94 = .ok (.iload_n 1, 1) := by decide +kernel
theorem dX6_send_95 : decode cX6_send 95 = .ok (.iconst 0, 1) := by decide +kernel
theorem dX6_send_96 : decode cX6_send 96 = .ok (.bastore, 1) := by decide +kernel
theorem dX6_send_97 : decode cX6_send 97 = .ok (.iinc 1 1, 3) := by decide +kernel
theorem dX6_send_100 : decode cX6_send 100 = .ok (.goto (-39), 3) := by decide +kernel
theorem dX6_send_103 : decode cX6_send 103 = .ok (.iconst 0, 1) := by decide +kernel
theorem dX6_send_104 : decode cX6_send 104 = .ok (.istore_n 1, 1) := by decide +kernel
theorem dX6_send_105 : decode cX6_send 105 = .ok (.iload_n 1, 1) := by decide +kernel
theorem dX6_send_106 : decode cX6_send 106 = .ok (.bipush 100, 2) := by decide +kernel
theorem dX6_send_108 : decode cX6_send 108 = .ok (.if_icmp .ge 94, 3) := by decide +kernel
theorem dX6_send_111 : decode cX6_send 111 = .ok (.iconst 0, 1) := by decide +kernel
theorem dX6_send_112 : decode cX6_send 112 = .ok (.istore_n 2, 1) := by decide +kernel
theorem dX6_send_113 : decode cX6_send 113 = .ok (.iload_n 2, 1) := by decide +kernel
theorem dX6_send_114 : decode cX6_send 114 = .ok (.iconst 4, 1) := by decide +kernel
theorem dX6_send_115 : decode cX6_send 115 = .ok (.if_icmp .ge 23, 3) := by decide +kernel
theorem dX6_send_118 : decode cX6_send 118 = .ok (.iload_n 2, 1) := by decide +kernel
theorem dX6_send_119 : decode cX6_send 119 = .ok (.aload_n 0, 1) := by decide +kernel
theorem dX6_send_120 : decode cX6_send 120 = .ok (.getfield 65, 3) := by decide +kernel
theorem dX6_send_123 : decode cX6_send 123 = .ok (.if_icmp .eq 9, 3) := by decide +kernel
theorem dX6_send_126 : decode cX6_send 126 = .ok (.aload_n 0, 1) := by decide +kernel
theorem dX6_send_127 : decode cX6_send 127 = .ok (.iload_n 2, 1) := by decide +kernel
theorem dX6_send_128 : decode cX6_send 128 = .ok (.iload_n 1, 1) := by decide +kernel
theorem dX6_send_129 : decode cX6_send 129 = .ok (.invokevirtual 174, 3) := by decide +kernel
theorem dX6_send_132 : decode cX6_send 132 = .ok (.iinc 2 1, 3) := by decide +kernel
theorem dX6_send_135 : decode cX6_send 135 = .ok (.goto (-22), 3) := by decide +kernel
theorem dX6_send_138 : decode cX6_send 138 = .ok (.iconst 0, 1) := by decide +kernel
theorem dX6_send_139 : decode cX6_send 139 = .ok (.istore_n 2, 1) := by decide +kernel
theorem dX6_send_140 : decode cX6_send 140 = .ok (.iload_n 2, 1) := by decide +kernel
theorem dX6_send_141 : decode cX6_send 141 = .ok (.aload_n 0, 1) := by decide +kernel
theorem dX6_send_142 : decode cX6_send 142 = .ok (.getfield 7, 3) := by decide +kernel
theorem dX6_send_145 : decode cX6_send 145 = .ok (.bipush 93, 2) := by decide +kernel
theorem dX6_send_147 : decode cX6_send 147 = .ok (.iaload, 1) := by decide +kernel
theorem dX6_send_148 : decode cX6_send 148 = .ok (.if_icmp .ge 19, 3) := by decide +kernel
theorem dX6_send_151 : decode cX6_send 151 = .ok (.aload_n 0, 1) := by decide +kernel
theorem dX6_send_152 : decode cX6_send 152 = .ok (.iload_n 1, 1) := by decide +kernel
theorem dX6_send_153 : decode cX6_send 153 = .ok (.iconst 4, 1) := by decide +kernel
theorem dX6_send_154 : decode cX6_send 154 = .ok (.iload_n 1, 1) := by decide +kernel
theorem dX6_send_155 : decode cX6_send 155 = .ok (.imul, 1) := by decide +kernel
theorem dX6_send_156 : decode cX6_send 156 = .ok (.iload_n 2, 1) := by decide +kernel
theorem dX6_send_157 : decode cX6_send 157 = .ok (.iadd, 1) := by decide +kernel
theorem dX6_send_158 : decode cX6_send 158 = .ok (.invokevirtual 178, 3) := by decide +kernel
theorem dX6_send_161 : decode cX6_send 161 = .ok (.iinc 2 1, 3) := by decide +kernel
theorem dX6_send_164 : decode cX6_send 164 = .ok (.goto (-24), 3) := by decide +kernel
theorem dX6_send_167 : decode cX6_send 167 = .ok (.iconst 0, 1) := by decide +kernel
theorem dX6_send_168 : decode cX6_send 168 = .ok (.istore_n 2, 1) := by decide +kernel
theorem dX6_send_169 : decode cX6_send 169 = .ok (.iload_n 2, 1) := by decide +kernel
theorem dX6_send_170 : decode cX6_send 170 = .ok (.iconst 4, 1) := by decide +kernel
theorem dX6_send_171 : decode cX6_send 171 = .ok (.if_icmp .ge 25, 3) := by decide +kernel
theorem dX6_send_174 : decode cX6_send 174 = .ok (.aload_n 0, 1) := by decide +kernel
theorem dX6_send_175 : decode cX6_send 175 = .ok (.getfield 53, 3) := by decide +kernel
theorem dX6_send_178 : decode cX6_send 178 = .ok (.iconst 4, 1) := by decide +kernel
theorem dX6_send_179 : decode cX6_send 179 = .ok (.iload_n 1, 1) := by decide +kernel
theorem dX6_send_180 : decode cX6_send 180 = .ok (.imul, 1) := by decide +kernel
theorem dX6_send_181 : decode cX6_send 181 = .ok (.iload_n 2, 1) := by decide +kernel
theorem dX6_send_182 : decode cX6_send 182 = .ok (.iadd, 1) := by decide +kernel
theorem dX6_send_183 : decode cX6_send 183 = .ok (.aload_n 0, 1) := by decide +kernel
theorem dX6_send_184 : decode cX6_send 184 = .ok (.getfield 56, 3) := by decide +kernel
theorem dX6_send_187 : decode cX6_send 187 = .ok (.iload_n 2, 1) := by decide +kernel
theorem dX6_send_188 : decode cX6_send 188 = .ok (.iaload, 1) := by decide +kernel
theorem dX6_send_189 : decode cX6_send 189 = .ok (.iastore, 1) := by decide +kernel
theorem dX6_send_190 : decode cX6_send 190 = .ok (.iinc 2 1, 3) := by decide +kernel
theorem dX6_send_193 : decode cX6_send 193 = .ok (.goto (-24), 3) := by decide +kernel
theorem dX6_send_196 : decode cX6_send 196 = .ok (.iinc 1 1, 3) := by decide +kernel
theorem dX6_send_199 : decode cX6_send 199 = .ok (.goto (-94), 3) := by decide +kernel
theorem dX6_send_202 : decode cX6_send 202 = .ok (.aload_n 0, 1) := by decide +kernel
theorem dX6_send_203 : decode cX6_send 203 = .ok (.getfield 149, 3) := by decide +kernel
theorem dX6_send_206 : decode cX6_send 206 = .ok (.ireturn, 1) := by decide +kernel
theorem dX6_packet_0 : decode cX6_packet 0 = .ok (.iload_n 1, 1) := by decide +kernel
theorem dX6_packet_1 : decode cX6_packet 1 = .ok (.iconst 0, 1) := by decide +kernel
theorem dX6_packet_2 : decode cX6_packet 2 = .ok (.bipush 99, 2) := by decide +kernel
theorem dX6_packet_4 : decode cX6_packet 4 = .ok (.invokestatic 69, 3) := by decide +kernel
theorem dX6_packet_7 : decode cX6_packet 7 = .ok (.ifCond .eq 29, 3) := by decide +kernel
theorem dX6_packet_10 : decode cX6_packet 10 = .ok (.iload_n 2, 1) := by decide +kernel
theorem dX6_packet_11 : decode cX6_packet 11 = .ok (.iconst 0, 1) := by decide +kernel
theorem dX6_packet_12 : decode cX6_packet 12 = .ok (.aload_n 0, 1) := by decide +kernel
theorem dX6_packet_13 : decode cX6_packet 13 = .ok (.getfield 7, 3) := by decide +kernel
theorem dX6_packet_16 : decode cX6_packet 16 = .ok (.bipush 93, 2) := by decide +kernel
theorem dX6_packet_18 : decode cX6_packet 18 = .ok (.iaload, 1) := by decide +kernel
theorem dX6_packet_19 : decode cX6_packet 19 = .ok (.iconst 1, 1) := by decide +kernel
theorem dX6_packet_20 : decode cX6_packet 20 = .ok (.isub, 1) := by decide +kernel
theorem dX6_packet_21 : decode cX6_packet 21 = .ok (.invokestatic 69, 3) := by decide +kernel
theorem dX6_packet_24 : decode cX6_packet 24 = .ok (.ifCond .eq 12, 3) := by decide +kernel
theorem dX6_packet_27 : decode cX6_packet 27 = .ok (.iload_n 3, 1) := by decide +kernel
theorem dX6_packet_28 : decode cX6_packet 28 = .ok (.iconst 0, 1) := by decide +kernel
theorem dX6_packet_29 : decode cX6_packet 29 = .ok (.iconst 3, 1) := by decide +kernel
theorem dX6_packet_30 : decode cX6_packet 30 = .ok (.invokestatic 69, 3) := by decide +kernel
theorem dX6_packet_33 : decode cX6_packet 33 = .ok (.ifCond .ne 6, 3) := by decide +kernel
theorem dX6_packet_36 : decode cX6_packet 36 = .ok (.bipush (-2), 2) := by decide +kernel
theorem dX6_packet_38 : decode cX6_packet 38 = .ok (.ireturn, 1) := by decide +kernel
theorem dX6_packet_39 : decode cX6_packet 39 = .ok (.aload_n 0, 1) := by decide +kernel
theorem dX6_packet_40 : decode cX6_packet 40 = .ok (.invokevirtual 181, 3) := by decide +kernel
theorem dX6_packet_43 : decode cX6_packet 43 = .ok (.pop, 1) := by decide +kernel
theorem dX6_packet_44 : decode cX6_packet 44 = .ok (.iconst 4, 1) := by decide +kernel
theorem dX6_packet_45 : decode cX6_packet 45 = .ok (.iload_n 1, 1) := by decide +kernel
theorem dX6_packet_46 : decode cX6_packet 46 = .ok (.imul, 1) := by decide +kernel
theorem dX6_packet_47 : decode cX6_packet 47 = .ok (.iload_n 2, 1) := by decide +kernel
theorem dX6_packet_48 : decode cX6_packet 48 = .ok (.iadd, 1) := by decide +kernel
theorem dX6_packet_49 : decode cX6_packet 49 = .ok (.istore 4, 2) := by decide +kernel
theorem dX6_packet_51 : decode cX6_packet 51 = .ok (.iload_n 3, 1) := by decide +kernel
theorem dX6_packet_52 : decode cX6_packet 52 = .ok (.ifCond .ne 13, 3) := by decide +kernel
theorem dX6_packet_55 : decode cX6_packet 55 = .ok (.aload_n 0, 1) := by decide +kernel
theorem dX6_packet_56 : decode cX6_packet 56 = .ok (.getfield 29, 3) := by decide +kernel
theorem dX6_packet_59 : decode cX6_packet 59 = .ok (.iload 4, 2) := by decide +kernel
theorem dX6_packet_61 : decode cX6_packet 61 = .ok (.iaload, 1) := by decide +kernel
theorem dX6_packet_62 : decode cX6_packet 62 = .ok (.goto 40, 3) := by decide +kernel
theorem dX6_packet_65 : decode cX6_packet 65 = .ok (.iload_n 3, 1) := by decide +kernel
theorem dX6_packet_66 : decode cX6_packet 66 = .ok (.iconst 1, 1) := by decide +kernel
theorem dX6_packet_67 : decode cX6_packet 67 = .ok (.if_icmp .ne 13, 3) := by decide +kernel
theorem dX6_packet_70 : decode cX6_packet 70 = .ok (.aload_n 0, 1) := by decide +kernel
theorem dX6_packet_71 : decode cX6_packet 71 = .ok (.getfield 32, 3) := by decide +kernel
theorem dX6_packet_74 : decode cX6_packet 74 = .ok (.iload 4, 2) := by decide +kernel
theorem dX6_packet_76 : decode cX6_packet 76 = .ok (.iaload, 1) := by decide +kernel
theorem dX6_packet_77 : decode cX6_packet 77 = .ok (.goto 25, 3) := by decide +kernel
theorem dX6_packet_80 : decode cX6_packet 80 = .ok (.iload_n 3, 1) := by decide +kernel
theorem dX6_packet_81 : decode cX6_packet 81 = .ok (.iconst 2, 1) := by decide +kernel
theorem dX6_packet_82 : decode cX6_packet 82 = .ok (.if_icmp .ne 13, 3) := by decide +kernel
theorem dX6_packet_85 : decode cX6_packet 85 = .ok (.aload_n 0, 1) := by decide +kernel
theorem dX6_packet_86 : decode cX6_packet 86 = .ok (.getfield 35, 3) := by decide +kernel
theorem dX6_packet_89 : decode cX6_packet 89 = .ok (.iload 4, 2) := by decide +kernel
theorem dX6_packet_91 : decode cX6_packet 91 = .ok (.iaload, 1) := by decide +kernel
theorem dX6_packet_92 : decode cX6_packet 92 = .ok (.goto 10, 3) := by decide +kernel
theorem dX6_packet_95 : decode cX6_packet 95 = .ok (.aload_n 0, 1) := by decide +kernel
theorem dX6_packet_96 : decode cX6_packet 96 = .ok (.getfield 38, 3) := by decide +kernel
theorem dX6_packet_99 : decode cX6_packet 99 = .ok (.iload 4, 2) := by decide +kernel
theorem dX6_packet_101 : decode cX6_packet 101 = .ok (.iaload, 1) := by decide +kernel
theorem dX6_packet_102 : decode cX6_packet 102 = .ok (.ireturn, 1) := by decide +kernel
theorem dX6_held_0 : decode cX6_held 0 = .ok (.iload_n 1, 1) := by decide +kernel
theorem dX6_held_1 : decode cX6_held 1 = .ok (.invokestatic 111, 3) := by decide +kernel
theorem dX6_held_4 : decode cX6_held 4 = .ok (.ifCond .eq 13, 3) := by decide +kernel
theorem dX6_held_7 : decode cX6_held 7 = .ok (.iload_n 2, 1) := by decide +kernel
theorem dX6_held_8 : decode cX6_held 8 = .ok (.iconst 0, 1) := by decide +kernel
theorem dX6_held_9 : decode cX6_held 9 = .ok (.bipush 99, 2) := by decide +kernel
theorem dX6_held_11 : decode cX6_held 11 = .ok (.invokestatic 69, 3) := by decide +kernel
theorem dX6_held_14 : decode cX6_held 14 = .ok (.ifCond .ne 6, 3) := by decide +kernel
theorem dX6_held_17 : decode cX6_held 17 = .ok (.bipush (-2), 2) := by decide +kernel
theorem dX6_held_19 : decode cX6_held 19 = .ok (.ireturn, 1) := by decide +kernel
theorem dX6_held_20 : decode cX6_held 20 = .ok (.aload_n 0, 1) := by decide +kernel
theorem dX6_held_21 : decode cX6_held 21 = .ok (.invokevirtual 181, 3) := by decide +kernel
theorem dX6_held_24 : decode cX6_held 24 = .ok (.pop, 1) := by decide +kernel
theorem dX6_held_25 : decode cX6_held 25 = .ok (.aload_n 0, 1) := by decide +kernel
theorem dX6_held_26 : decode cX6_held 26 = .ok (.getfield 53, 3) := by decide +kernel
theorem dX6_held_29 : decode cX6_held 29 = .ok (.iconst 4, 1) := by decide +kernel
theorem dX6_held_30 : decode cX6_held 30 = .ok (.iload_n 2, 1) := by decide +kernel
theorem dX6_held_31 : decode cX6_held 31 = .ok (.imul, 1) := by decide +kernel
theorem dX6_held_32 : decode cX6_held 32 = .ok (.iload_n 1, 1) := by decide +kernel
theorem dX6_held_33 : decode cX6_held 33 = .ok (.iadd, 1) := by decide +kernel
theorem dX6_held_34 : decode cX6_held 34 = .ok (.iaload, 1) := by decide +kernel
theorem dX6_held_35 : decode cX6_held 35 = .ok (.ireturn, 1) := by decide +kernel
theorem dX6_frame_0 : decode cX6_frame 0 = .ok (.iload_n 1, 1) := by decide +kernel
theorem dX6_frame_1 : decode cX6_frame 1 = .ok (.invokestatic 111, 3) := by decide +kernel
theorem dX6_frame_4 : decode cX6_frame 4 = .ok (.ifCond .eq 12, 3) := by decide +kernel
theorem dX6_frame_7 : decode cX6_frame 7 = .ok (.iload_n 3, 1) := by decide +kernel
theorem dX6_frame_8 : decode cX6_frame 8 = .ok (.iconst 0, 1) := by decide +kernel
theorem dX6_frame_9 : decode cX6_frame 9 = .ok (.iconst 5, 1) := by decide +kernel
theorem dX6_frame_10 : decode cX6_frame 10 = .ok (.invokestatic 69, 3) := by decide +kernel
theorem dX6_frame_13 : decode cX6_frame 13 = .ok (.ifCond .ne 6, 3) := by decide +kernel
theorem dX6_frame_16 : decode cX6_frame 16 = .ok (.bipush (-2), 2) := by decide +kernel
theorem dX6_frame_18 : decode cX6_frame 18 = .ok (.ireturn, 1) := by decide +kernel
theorem dX6_frame_19 : decode cX6_frame 19 = .ok (.aload_n 0, 1) := by decide +kernel
theorem dX6_frame_20 : decode cX6_frame 20 = .ok (.iload_n 1, 1) := by decide +kernel
theorem dX6_frame_21 : decode cX6_frame 21 = .ok (.iload_n 2, 1) := by decide +kernel
theorem dX6_frame_22 : decode cX6_frame 22 = .ok (.invokevirtual 138, 3) := by decide +kernel
theorem dX6_frame_25 : decode cX6_frame 25 = .ok (.ifCond .ne 6, 3) := by decide +kernel
theorem dX6_frame_28 : decode cX6_frame 28 = .ok (.bipush (-6), 2) := by decide +kernel
theorem dX6_frame_30 : decode cX6_frame 30 = .ok (.ireturn, 1) := by decide +kernel
theorem dX6_frame_31 : decode cX6_frame 31 = .ok (.aload_n 0, 1) := by decide +kernel
theorem dX6_frame_32 : decode cX6_frame 32 = .ok (.invokevirtual 181, 3) := by decide +kernel
theorem dX6_frame_35 : decode cX6_frame 35 = .ok (.pop, 1) := by decide +kernel
theorem dX6_frame_36 : decode cX6_frame 36 = .ok (.bipush 10, 2) := by decide +kernel
theorem dX6_frame_38 : decode cX6_frame 38 = .ok (.iload_n 1, 1) := by decide +kernel
theorem dX6_frame_39 : decode cX6_frame 39 = .ok (.imul, 1) := by decide +kernel
theorem dX6_frame_40 : decode cX6_frame 40 = .ok (.iload_n 2, 1) := by decide +kernel
theorem dX6_frame_41 : decode cX6_frame 41 = .ok (.iadd, 1) := by decide +kernel
theorem dX6_frame_42 : decode cX6_frame 42 = .ok (.istore 4, 2) := by decide +kernel
theorem dX6_frame_44 : decode cX6_frame 44 = .ok (.iload_n 3, 1) := by decide +kernel
theorem dX6_frame_45 : decode cX6_frame 45 = .ok (.tableswitch 73 0 4 #[35, 42, 49, 57, 65], 35) := by decide +kernel
theorem dX6_frame_80 : decode cX6_frame 80 = .ok (.aload_n 0, 1) := by decide +kernel
theorem dX6_frame_81 : decode cX6_frame 81 = .ok (.iload_n 1, 1) := by decide +kernel
theorem dX6_frame_82 : decode cX6_frame 82 = .ok (.iload_n 2, 1) := by decide +kernel
theorem dX6_frame_83 : decode cX6_frame 83 = .ok (.invokevirtual 118, 3) := by decide +kernel
theorem dX6_frame_86 : decode cX6_frame 86 = .ok (.ireturn, 1) := by decide +kernel
theorem dX6_frame_87 : decode cX6_frame 87 = .ok (.aload_n 0, 1) := by decide +kernel
theorem dX6_frame_88 : decode cX6_frame 88 = .ok (.iload_n 1, 1) := by decide +kernel
theorem dX6_frame_89 : decode cX6_frame 89 = .ok (.iload_n 2, 1) := by decide +kernel
theorem dX6_frame_90 : decode cX6_frame 90 = .ok (.invokevirtual 108, 3) := by decide +kernel
theorem dX6_frame_93 : decode cX6_frame 93 = .ok (.ireturn, 1) := by decide +kernel
theorem dX6_frame_94 : decode cX6_frame 94 = .ok (.aload_n 0, 1) := by decide +kernel
theorem dX6_frame_95 : decode cX6_frame 95 = .ok (.getfield 41, 3) := by decide +kernel
theorem dX6_frame_98 : decode cX6_frame 98 = .ok (.iload 4, 2) := by decide +kernel
theorem dX6_frame_100 : decode cX6_frame 100 = .ok (.iaload, 1) := by decide +kernel
theorem dX6_frame_101 : decode cX6_frame 101 = .ok (.ireturn, 1) := by decide +kernel
theorem dX6_frame_102 : decode cX6_frame 102 = .ok (.aload_n 0, 1) := by decide +kernel
theorem dX6_frame_103 : decode cX6_frame 103 = .ok (.getfield 44, 3) := by decide +kernel
theorem dX6_frame_106 : decode cX6_frame 106 = .ok (.iload 4, 2) := by decide +kernel
theorem dX6_frame_108 : decode cX6_frame 108 = .ok (.iaload, 1) := by decide +kernel
theorem dX6_frame_109 : decode cX6_frame 109 = .ok (.ireturn, 1) := by decide +kernel
theorem dX6_frame_110 : decode cX6_frame 110 = .ok (.aload_n 0, 1) := by decide +kernel
theorem dX6_frame_111 : decode cX6_frame 111 = .ok (.getfield 47, 3) := by decide +kernel
theorem dX6_frame_114 : decode cX6_frame 114 = .ok (.iload 4, 2) := by decide +kernel
theorem dX6_frame_116 : decode cX6_frame 116 = .ok (.iaload, 1) := by decide +kernel
theorem dX6_frame_117 : decode cX6_frame 117 = .ok (.ireturn, 1) := by decide +kernel
theorem dX6_frame_118 : decode cX6_frame 118 = .ok (.aload_n 0, 1) := by decide +kernel
theorem dX6_frame_119 : decode cX6_frame 119 = .ok (.getfield 50, 3) := by decide +kernel
theorem dX6_frame_122 : decode cX6_frame 122 = .ok (.iload 4, 2) := by decide +kernel
theorem dX6_frame_124 : decode cX6_frame 124 = .ok (.baload, 1) := by decide +kernel
theorem dX6_frame_125 : decode cX6_frame 125 = .ok (.ifCond .eq 7, 3) := by decide +kernel
theorem dX6_frame_128 : decode cX6_frame 128 = .ok (.iconst 1, 1) := by decide +kernel
theorem dX6_frame_129 : decode cX6_frame 129 = .ok (.goto 4, 3) := by decide +kernel
theorem dX6_frame_132 : decode cX6_frame 132 = .ok (.iconst 0, 1) := by decide +kernel
theorem dX6_frame_133 : decode cX6_frame 133 = .ok (.ireturn, 1) := by decide +kernel
theorem dX6_ofSort_0 : decode cX6_ofSort 0 = .ok (.iconst 0, 1) := by decide +kernel
theorem dX6_ofSort_1 : decode cX6_ofSort 1 = .ok (.istore_n 2, 1) := by decide +kernel
theorem dX6_ofSort_2 : decode cX6_ofSort 2 = .ok (.iconst 0, 1) := by decide +kernel
theorem dX6_ofSort_3 : decode cX6_ofSort 3 = .ok (.istore_n 3, 1) := by decide +kernel
theorem dX6_ofSort_4 : decode cX6_ofSort 4 = .ok (.iload_n 3, 1) := by decide +kernel
theorem dX6_ofSort_5 : decode cX6_ofSort 5 = .ok (.bipush 100, 2) := by decide +kernel
theorem dX6_ofSort_7 : decode cX6_ofSort 7 = .ok (.if_icmp .ge 53, 3) := by decide +kernel
theorem dX6_ofSort_10 : decode cX6_ofSort 10 = .ok (.iconst 0, 1) := by decide +kernel
theorem dX6_ofSort_11 : decode cX6_ofSort 11 = .ok (.istore 4, 2) := by decide +kernel
theorem dX6_ofSort_13 : decode cX6_ofSort 13 = .ok (.iload 4, 2) := by decide +kernel
theorem dX6_ofSort_15 : decode cX6_ofSort 15 = .ok (.aload_n 0, 1) := by decide +kernel
theorem dX6_ofSort_16 : decode cX6_ofSort 16 = .ok (.getfield 7, 3) := by decide +kernel
theorem dX6_ofSort_19 : decode cX6_ofSort 19 = .ok (.bipush 93, 2) := by decide +kernel
theorem dX6_ofSort_21 : decode cX6_ofSort 21 = .ok (.iaload, 1) := by decide +kernel
theorem dX6_ofSort_22 : decode cX6_ofSort 22 = .ok (.if_icmp .ge 32, 3) := by decide +kernel
theorem dX6_ofSort_25 : decode cX6_ofSort 25 = .ok (.iload_n 2, 1) := by decide +kernel
theorem dX6_ofSort_26 : decode cX6_ofSort 26 = .ok (.aload_n 0, 1) := by decide +kernel
theorem dX6_ofSort_27 : decode cX6_ofSort 27 = .ok (.getfield 29, 3) := by decide +kernel
theorem dX6_ofSort_30 : decode cX6_ofSort 30 = .ok (.iconst 4, 1) := by decide +kernel
theorem dX6_ofSort_31 : decode cX6_ofSort 31 = .ok (.iload_n 3, 1) := by decide +kernel
theorem dX6_ofSort_32 : decode cX6_ofSort 32 = .ok (.imul, 1) := by decide +kernel
theorem dX6_ofSort_33 : decode cX6_ofSort 33 = .ok (.iload 4, 2) := by decide +kernel
theorem dX6_ofSort_35 : decode cX6_ofSort 35 = .ok (.iadd, 1) := by decide +kernel
theorem dX6_ofSort_36 : decode cX6_ofSort 36 = .ok (.iaload, 1) := by decide +kernel
theorem dX6_ofSort_37 : decode cX6_ofSort 37 = .ok (.iload_n 1, 1) := by decide +kernel
theorem dX6_ofSort_38 : decode cX6_ofSort 38 = .ok (.if_icmp .ne 7, 3) := by decide +kernel
theorem dX6_ofSort_41 : decode cX6_ofSort 41 = .ok (.iconst 1, 1) := by decide +kernel
theorem dX6_ofSort_42 : decode cX6_ofSort 42 = .ok (.goto 4, 3) := by decide +kernel
theorem dX6_ofSort_45 : decode cX6_ofSort 45 = .ok (.iconst 0, 1) := by decide +kernel
theorem dX6_ofSort_46 : decode cX6_ofSort 46 = .ok (.iadd, 1) := by decide +kernel
theorem dX6_ofSort_47 : decode cX6_ofSort 47 = .ok (.istore_n 2, 1) := by decide +kernel
theorem dX6_ofSort_48 : decode cX6_ofSort 48 = .ok (.iinc 4 1, 3) := by decide +kernel
theorem dX6_ofSort_51 : decode cX6_ofSort 51 = .ok (.goto (-38), 3) := by decide +kernel
theorem dX6_ofSort_54 : decode cX6_ofSort 54 = .ok (.iinc 3 1, 3) := by decide +kernel
theorem dX6_ofSort_57 : decode cX6_ofSort 57 = .ok (.goto (-53), 3) := by decide +kernel
theorem dX6_ofSort_60 : decode cX6_ofSort 60 = .ok (.iload_n 2, 1) := by decide +kernel
theorem dX6_ofSort_61 : decode cX6_ofSort 61 = .ok (.ireturn, 1) := by decide +kernel
theorem dX6_allFrames_0 : decode cX6_allFrames 0 = .ok (.iconst 0, 1) := by decide +kernel
theorem dX6_allFrames_1 : decode cX6_allFrames 1 = .ok (.istore_n 1, 1) := by decide +kernel
theorem dX6_allFrames_2 : decode cX6_allFrames 2 = .ok (.iconst 0, 1) := by decide +kernel
theorem dX6_allFrames_3 : decode cX6_allFrames 3 = .ok (.istore_n 2, 1) := by decide +kernel
theorem dX6_allFrames_4 : decode cX6_allFrames 4 = .ok (.iload_n 2, 1) := by decide +kernel
theorem dX6_allFrames_5 : decode cX6_allFrames 5 = .ok (.iconst 4, 1) := by decide +kernel
theorem dX6_allFrames_6 : decode cX6_allFrames 6 = .ok (.if_icmp .ge 21, 3) := by decide +kernel
theorem dX6_allFrames_9 : decode cX6_allFrames 9 = .ok (.iload_n 1, 1) := by decide +kernel
theorem dX6_allFrames_10 : decode cX6_allFrames 10 = .ok (.aload_n 0, 1) := by decide +kernel
theorem dX6_allFrames_11 : decode cX6_allFrames 11 = .ok (.getfield 7, 3) := by decide +kernel
theorem dX6_allFrames_14 : decode cX6_allFrames 14 = .ok (.bipush 8, 2) := by decide +kernel
theorem dX6_allFrames_16 : decode cX6_allFrames 16 = .ok (.iload_n 2, 1) := by decide +kernel
theorem dX6_allFrames_17 : decode cX6_allFrames 17 = .ok (.iadd, 1) := by decide +kernel
theorem dX6_allFrames_18 : decode cX6_allFrames 18 = .ok (.iaload, 1) := by decide +kernel
theorem dX6_allFrames_19 : decode cX6_allFrames 19 = .ok (.iadd, 1) := by decide +kernel
theorem dX6_allFrames_20 : decode cX6_allFrames 20 = .ok (.istore_n 1, 1) := by decide +kernel
theorem dX6_allFrames_21 : decode cX6_allFrames 21 = .ok (.iinc 2 1, 3) := by decide +kernel
theorem dX6_allFrames_24 : decode cX6_allFrames 24 = .ok (.goto (-20), 3) := by decide +kernel
theorem dX6_allFrames_27 : decode cX6_allFrames 27 = .ok (.iload_n 1, 1) := by decide +kernel
theorem dX6_allFrames_28 : decode cX6_allFrames 28 = .ok (.ireturn, 1) := by decide +kernel
theorem dX6_allPackets_0 : decode cX6_allPackets 0 = .ok (.iconst 0, 1) := by decide +kernel
theorem dX6_allPackets_1 : decode cX6_allPackets 1 = .ok (.istore_n 1, 1) := by decide +kernel
theorem dX6_allPackets_2 : decode cX6_allPackets 2 = .ok (.iconst 0, 1) := by decide +kernel
theorem dX6_allPackets_3 : decode cX6_allPackets 3 = .ok (.istore_n 2, 1) := by decide +kernel
theorem dX6_allPackets_4 : decode cX6_allPackets 4 = .ok (.iload_n 2, 1) := by decide +kernel
theorem dX6_allPackets_5 : decode cX6_allPackets 5 = .ok (.iconst 4, 1) := by decide +kernel
theorem dX6_allPackets_6 : decode cX6_allPackets 6 = .ok (.if_icmp .ge 17, 3) := by decide +kernel
theorem dX6_allPackets_9 : decode cX6_allPackets 9 = .ok (.iload_n 1, 1) := by decide +kernel
theorem dX6_allPackets_10 : decode cX6_allPackets 10 = .ok (.aload_n 0, 1) := by decide +kernel
theorem dX6_allPackets_11 : decode cX6_allPackets 11 = .ok (.iload_n 2, 1) := by decide +kernel
theorem dX6_allPackets_12 : decode cX6_allPackets 12 = .ok (.invokevirtual 146, 3) := by decide +kernel
theorem dX6_allPackets_15 : decode cX6_allPackets 15 = .ok (.iadd, 1) := by decide +kernel
theorem dX6_allPackets_16 : decode cX6_allPackets 16 = .ok (.istore_n 1, 1) := by decide +kernel
theorem dX6_allPackets_17 : decode cX6_allPackets 17 = .ok (.iinc 2 1, 3) := by decide +kernel
theorem dX6_allPackets_20 : decode cX6_allPackets 20 = .ok (.goto (-16), 3) := by decide +kernel
theorem dX6_allPackets_23 : decode cX6_allPackets 23 = .ok (.iload_n 1, 1) := by decide +kernel
theorem dX6_allPackets_24 : decode cX6_allPackets 24 = .ok (.ireturn, 1) := by decide +kernel
theorem dX6_sent_0 : decode cX6_sent 0 = .ok (.iload_n 1, 1) := by decide +kernel
theorem dX6_sent_1 : decode cX6_sent 1 = .ok (.iconst 0, 1) := by decide +kernel
theorem dX6_sent_2 : decode cX6_sent 2 = .ok (.bipush 7, 2) := by decide +kernel
theorem dX6_sent_4 : decode cX6_sent 4 = .ok (.invokestatic 69, 3) := by decide +kernel
theorem dX6_sent_7 : decode cX6_sent 7 = .ok (.ifCond .ne 6, 3) := by decide +kernel
theorem dX6_sent_10 : decode cX6_sent 10 = .ok (.bipush (-2), 2) := by decide +kernel
theorem dX6_sent_12 : decode cX6_sent 12 = .ok (.ireturn, 1) := by decide +kernel
theorem dX6_sent_13 : decode cX6_sent 13 = .ok (.aload_n 0, 1) := by decide +kernel
theorem dX6_sent_14 : decode cX6_sent 14 = .ok (.invokevirtual 181, 3) := by decide +kernel
theorem dX6_sent_17 : decode cX6_sent 17 = .ok (.pop, 1) := by decide +kernel
theorem dX6_sent_18 : decode cX6_sent 18 = .ok (.iload_n 1, 1) := by decide +kernel
theorem dX6_sent_19 : decode cX6_sent 19 = .ok (.tableswitch 60 4 7 #[29, 39, 44, 55], 29) := by decide +kernel
theorem dX6_sent_48 : decode cX6_sent 48 = .ok (.aload_n 0, 1) := by decide +kernel
theorem dX6_sent_49 : decode cX6_sent 49 = .ok (.invokevirtual 184, 3) := by decide +kernel
theorem dX6_sent_52 : decode cX6_sent 52 = .ok (.aload_n 0, 1) := by decide +kernel
theorem dX6_sent_53 : decode cX6_sent 53 = .ok (.getfield 149, 3) := by decide +kernel
theorem dX6_sent_56 : decode cX6_sent 56 = .ok (.isub, 1) := by decide +kernel
theorem dX6_sent_57 : decode cX6_sent 57 = .ok (.ireturn, 1) := by decide +kernel
theorem dX6_sent_58 : decode cX6_sent 58 = .ok (.aload_n 0, 1) := by decide +kernel
theorem dX6_sent_59 : decode cX6_sent 59 = .ok (.getfield 149, 3) := by decide +kernel
theorem dX6_sent_62 : decode cX6_sent 62 = .ok (.ireturn, 1) := by decide +kernel
theorem dX6_sent_63 : decode cX6_sent 63 = .ok (.aload_n 0, 1) := by decide +kernel
theorem dX6_sent_64 : decode cX6_sent 64 = .ok (.invokevirtual 187, 3) := by decide +kernel
theorem dX6_sent_67 : decode cX6_sent 67 = .ok (.aload_n 0, 1) := by decide +kernel
theorem dX6_sent_68 : decode cX6_sent 68 = .ok (.iconst 3, 1) := by decide +kernel
theorem dX6_sent_69 : decode cX6_sent 69 = .ok (.invokevirtual 190, 3) := by decide +kernel
theorem dX6_sent_72 : decode cX6_sent 72 = .ok (.isub, 1) := by decide +kernel
theorem dX6_sent_73 : decode cX6_sent 73 = .ok (.ireturn, 1) := by decide +kernel
theorem dX6_sent_74 : decode cX6_sent 74 = .ok (.aload_n 0, 1) := by decide +kernel
theorem dX6_sent_75 : decode cX6_sent 75 = .ok (.getfield 152, 3) := by decide +kernel
theorem dX6_sent_78 : decode cX6_sent 78 = .ok (.ireturn, 1) := by decide +kernel
theorem dX6_sent_79 : decode cX6_sent 79 = .ok (.aload_n 0, 1) := by decide +kernel
theorem dX6_sent_80 : decode cX6_sent 80 = .ok (.iload_n 1, 1) := by decide +kernel
theorem dX6_sent_81 : decode cX6_sent 81 = .ok (.invokevirtual 190, 3) := by decide +kernel
theorem dX6_sent_84 : decode cX6_sent 84 = .ok (.ireturn, 1) := by decide +kernel
theorem dX6_most_0 : decode cX6_most 0 = .ok (.iload_n 1, 1) := by decide +kernel
theorem dX6_most_1 : decode cX6_most 1 = .ok (.invokestatic 111, 3) := by decide +kernel
theorem dX6_most_4 : decode cX6_most 4 = .ok (.ifCond .ne 6, 3) := by decide +kernel
theorem dX6_most_7 : decode cX6_most 7 = .ok (.bipush (-2), 2) := by decide +kernel
theorem dX6_most_9 : decode cX6_most 9 = .ok (.ireturn, 1) := by decide +kernel
theorem dX6_most_10 : decode cX6_most 10 = .ok (.aload_n 0, 1) := by decide +kernel
theorem dX6_most_11 : decode cX6_most 11 = .ok (.invokevirtual 181, 3) := by decide +kernel
theorem dX6_most_14 : decode cX6_most 14 = .ok (.pop, 1) := by decide +kernel
theorem dX6_most_15 : decode cX6_most 15 = .ok (.iconst 0, 1) := by decide +kernel
theorem dX6_most_16 : decode cX6_most 16 = .ok (.istore_n 2, 1) := by decide +kernel
theorem dX6_most_17 : decode cX6_most 17 = .ok (.iconst 0, 1) := by decide +kernel
theorem dX6_most_18 : decode cX6_most 18 = .ok (.istore_n 3, 1) := by decide +kernel
theorem dX6_most_19 : decode cX6_most 19 = .ok (.iload_n 3, 1) := by decide +kernel
theorem dX6_most_20 : decode cX6_most 20 = .ok (.bipush 100, 2) := by decide +kernel
theorem dX6_most_22 : decode cX6_most 22 = .ok (.if_icmp .ge 34, 3) := by decide +kernel
theorem dX6_most_25 : decode cX6_most 25 = .ok (.aload_n 0, 1) := by decide +kernel
theorem dX6_most_26 : decode cX6_most 26 = .ok (.getfield 53, 3) := by decide +kernel
theorem dX6_most_29 : decode cX6_most 29 = .ok (.iconst 4, 1) := by decide +kernel
theorem dX6_most_30 : decode cX6_most 30 = .ok (.iload_n 3, 1) := by decide +kernel
theorem dX6_most_31 : decode cX6_most 31 = .ok (.imul, 1) := by decide +kernel
theorem dX6_most_32 : decode cX6_most 32 = .ok (.iload_n 1, 1) := by decide +kernel
theorem dX6_most_33 : decode cX6_most 33 = .ok (.iadd, 1) := by decide +kernel
theorem dX6_most_34 : decode cX6_most 34 = .ok (.iaload, 1) := by decide +kernel
theorem dX6_most_35 : decode cX6_most 35 = .ok (.istore 4, 2) := by decide +kernel
theorem dX6_most_37 : decode cX6_most 37 = .ok (.iload 4, 2) := by decide +kernel
theorem dX6_most_39 : decode cX6_most 39 = .ok (.iload_n 2, 1) := by decide +kernel
theorem dX6_most_40 : decode cX6_most 40 = .ok (.if_icmp .le 8, 3) := by decide +kernel
theorem dX6_most_43 : decode cX6_most 43 = .ok (.iload 4, 2) := by decide +kernel
theorem dX6_most_45 : decode cX6_most 45 = .ok (.goto 4, 3) := by decide +kernel
theorem dX6_most_48 : decode cX6_most 48 = .ok (.iload_n 2, 1) := by decide +kernel
theorem dX6_most_49 : decode cX6_most 49 = .ok (.istore_n 2, 1) := by decide +kernel
theorem dX6_most_50 : decode cX6_most 50 = .ok (.iinc 3 1, 3) := by decide +kernel
theorem dX6_most_53 : decode cX6_most 53 = .ok (.goto (-34), 3) := by decide +kernel
theorem dX6_most_56 : decode cX6_most 56 = .ok (.iload_n 2, 1) := by decide +kernel
theorem dX6_most_57 : decode cX6_most 57 = .ok (.ireturn, 1) := by decide +kernel
theorem dX6_leastAt_0 : decode cX6_leastAt 0 = .ok (.aload_n 0, 1) := by decide +kernel
theorem dX6_leastAt_1 : decode cX6_leastAt 1 = .ok (.getfield 7, 3) := by decide +kernel
theorem dX6_leastAt_4 : decode cX6_leastAt 4 = .ok (.iload_n 1, 1) := by decide +kernel
theorem dX6_leastAt_5 : decode cX6_leastAt 5 = .ok (.iaload, 1) := by decide +kernel
theorem dX6_leastAt_6 : decode cX6_leastAt 6 = .ok (.istore_n 3, 1) := by decide +kernel
theorem dX6_leastAt_7 : decode cX6_leastAt 7 = .ok (.bipush (-6), 2) := by decide +kernel
theorem dX6_leastAt_9 : decode cX6_leastAt 9 = .ok (.istore 4, 2) := by decide +kernel
theorem dX6_leastAt_11 : decode cX6_leastAt 11 = .ok (.iload_n 2, 1) := by decide +kernel
theorem dX6_leastAt_12 : decode cX6_leastAt 12 = .ok (.istore 5, 2) := by decide +kernel
theorem dX6_leastAt_14 : decode cX6_leastAt 14 = .ok (.iload 5, 2) := by decide +kernel
theorem dX6_leastAt_16 : decode cX6_leastAt 16 = .ok (.ifCond .le 33, 3) := by decide +kernel
theorem dX6_leastAt_19 : decode cX6_leastAt 19 = .ok (.aload_n 0, 1) := by decide +kernel
theorem dX6_leastAt_20 : decode cX6_leastAt 20 = .ok (.getfield 7, 3) := by decide +kernel
theorem dX6_leastAt_23 : decode cX6_leastAt 23 = .ok (.iload_n 1, 1) := by decide +kernel
theorem dX6_leastAt_24 : decode cX6_leastAt 24 = .ok (.iload 5, 2) := by decide +kernel
theorem dX6_leastAt_26 : decode cX6_leastAt 26 = .ok (.iastore, 1) := by decide +kernel
theorem dX6_leastAt_27 : decode cX6_leastAt 27 = .ok (.aload_n 0, 1) := by decide +kernel
theorem dX6_leastAt_28 : decode cX6_leastAt 28 = .ok (.invokevirtual 181, 3) := by decide +kernel
theorem dX6_leastAt_31 : decode cX6_leastAt 31 = .ok (.ifCond .ne 8, 3) := by decide +kernel
theorem dX6_leastAt_34 : decode cX6_leastAt 34 = .ok (.iload 5, 2) := by decide +kernel
theorem dX6_leastAt_36 : decode cX6_leastAt 36 = .ok (.goto 5, 3) := by decide +kernel
theorem dX6_leastAt_39 : decode cX6_leastAt 39 = .ok (.iload 4, 2) := by decide +kernel
theorem dX6_leastAt_41 : decode cX6_leastAt 41 = .ok (.istore 4, 2) := by decide +kernel
theorem dX6_leastAt_43 : decode cX6_leastAt 43 = .ok (.iinc 5 (-1), 3) := by decide +kernel
theorem dX6_leastAt_46 : decode cX6_leastAt 46 = .ok (.goto (-32), 3) := by decide +kernel
theorem dX6_leastAt_49 : decode cX6_leastAt 49 = .ok (.aload_n 0, 1) := by decide +kernel
theorem dX6_leastAt_50 : decode cX6_leastAt 50 = .ok (.getfield 7, 3) := by decide +kernel
theorem dX6_leastAt_53 : decode cX6_leastAt 53 = .ok (.iload_n 1, 1) := by decide +kernel
theorem dX6_leastAt_54 : decode cX6_leastAt 54 = .ok (.iload_n 3, 1) := by decide +kernel
theorem dX6_leastAt_55 : decode cX6_leastAt 55 = .ok (.iastore, 1) := by decide +kernel
theorem dX6_leastAt_56 : decode cX6_leastAt 56 = .ok (.iload 4, 2) := by decide +kernel
theorem dX6_leastAt_58 : decode cX6_leastAt 58 = .ok (.ireturn, 1) := by decide +kernel
theorem dX6_needs_0 : decode cX6_needs 0 = .ok (.aload_n 0, 1) := by decide +kernel
theorem dX6_needs_1 : decode cX6_needs 1 = .ok (.bipush 93, 2) := by decide +kernel
theorem dX6_needs_3 : decode cX6_needs 3 = .ok (.iconst 4, 1) := by decide +kernel
theorem dX6_needs_4 : decode cX6_needs 4 = .ok (.invokevirtual 193, 3) := by decide +kernel
theorem dX6_needs_7 : decode cX6_needs 7 = .ok (.ireturn, 1) := by decide +kernel
theorem dX6_room_0 : decode cX6_room 0 = .ok (.iload_n 1, 1) := by decide +kernel
theorem dX6_room_1 : decode cX6_room 1 = .ok (.invokestatic 111, 3) := by decide +kernel
theorem dX6_room_4 : decode cX6_room 4 = .ok (.ifCond .eq 15, 3) := by decide +kernel
theorem dX6_room_7 : decode cX6_room 7 = .ok (.aload_n 0, 1) := by decide +kernel
theorem dX6_room_8 : decode cX6_room 8 = .ok (.iconst 0, 1) := by decide +kernel
theorem dX6_room_9 : decode cX6_room 9 = .ok (.iload_n 1, 1) := by decide +kernel
theorem dX6_room_10 : decode cX6_room 10 = .ok (.iadd, 1) := by decide +kernel
theorem dX6_room_11 : decode cX6_room 11 = .ok (.bipush 40, 2) := by decide +kernel
theorem dX6_room_13 : decode cX6_room 13 = .ok (.invokevirtual 193, 3) := by decide +kernel
theorem dX6_room_16 : decode cX6_room 16 = .ok (.goto 5, 3) := by decide +kernel
theorem dX6_room_19 : decode cX6_room 19 = .ok (.bipush (-2), 2) := by decide +kernel
theorem dX6_room_21 : decode cX6_room 21 = .ok (.ireturn, 1) := by decide +kernel
theorem dX6_without_0 : decode cX6_without 0 = .ok (.iload_n 1, 1) := by decide +kernel
theorem dX6_without_1 : decode cX6_without 1 = .ok (.invokestatic 111, 3) := by decide +kernel
theorem dX6_without_4 : decode cX6_without 4 = .ok (.ifCond .ne 6, 3) := by decide +kernel
theorem dX6_without_7 : decode cX6_without 7 = .ok (.bipush (-2), 2) := by decide +kernel
theorem dX6_without_9 : decode cX6_without 9 = .ok (.ireturn, 1) := by decide +kernel
theorem dX6_without_10 : decode cX6_without 10 = .ok (.aload_n 0, 1) := by decide +kernel
theorem dX6_without_11 : decode cX6_without 11 = .ok (.iload_n 1, 1) := by decide +kernel
theorem dX6_without_12 : decode cX6_without 12 = .ok (.putfield 65, 3) := by decide +kernel
theorem dX6_without_15 : decode cX6_without 15 = .ok (.aload_n 0, 1) := by decide +kernel
theorem dX6_without_16 : decode cX6_without 16 = .ok (.invokevirtual 181, 3) := by decide +kernel
theorem dX6_without_19 : decode cX6_without 19 = .ok (.istore_n 2, 1) := by decide +kernel
theorem dX6_without_20 : decode cX6_without 20 = .ok (.aload_n 0, 1) := by decide +kernel
theorem dX6_without_21 : decode cX6_without 21 = .ok (.bipush (-6), 2) := by decide +kernel
theorem dX6_without_23 : decode cX6_without 23 = .ok (.putfield 65, 3) := by decide +kernel
theorem dX6_without_26 : decode cX6_without 26 = .ok (.iload_n 2, 1) := by decide +kernel
theorem dX6_without_27 : decode cX6_without 27 = .ok (.ireturn, 1) := by decide +kernel
theorem dX6_image_0 : decode cX6_image 0 = .ok (.iload_n 1, 1) := by decide +kernel
theorem dX6_image_1 : decode cX6_image 1 = .ok (.iconst 0, 1) := by decide +kernel
theorem dX6_image_2 : decode cX6_image 2 = .ok (.iconst 1, 1) := by decide +kernel
theorem dX6_image_3 : decode cX6_image 3 = .ok (.invokestatic 69, 3) := by decide +kernel
theorem dX6_image_6 : decode cX6_image 6 = .ok (.ifCond .ne 6, 3) := by decide +kernel
theorem dX6_image_9 : decode cX6_image 9 = .ok (.bipush (-2), 2) := by decide +kernel
theorem dX6_image_11 : decode cX6_image 11 = .ok (.ireturn, 1) := by decide +kernel
theorem dX6_image_12 : decode cX6_image 12 = .ok (.iconst 0, 1) := by decide +kernel
theorem dX6_image_13 : decode cX6_image 13 = .ok (.istore_n 2, 1) := by decide +kernel
theorem dX6_image_14 : decode cX6_image 14 = .ok (.iload_n 2, 1) := by decide +kernel
theorem dX6_image_15 : decode cX6_image 15 = .ok (.bipush 94, 2) := by decide +kernel
theorem dX6_image_17 : decode cX6_image 17 = .ok (.if_icmp .ge 26, 3) := by decide +kernel
theorem dX6_image_20 : decode cX6_image 20 = .ok (.aload_n 0, 1) := by decide +kernel
theorem dX6_image_21 : decode cX6_image 21 = .ok (.getfield 13, 3) := by decide +kernel
theorem dX6_image_24 : decode cX6_image 24 = .ok (.bipush 95, 2) := by decide +kernel
theorem dX6_image_26 : decode cX6_image 26 = .ok (.iload_n 1, 1) := by decide +kernel
theorem dX6_image_27 : decode cX6_image 27 = .ok (.imul, 1) := by decide +kernel
theorem dX6_image_28 : decode cX6_image 28 = .ok (.iload_n 2, 1) := by decide +kernel
theorem dX6_image_29 : decode cX6_image 29 = .ok (.iadd, 1) := by decide +kernel
theorem dX6_image_30 : decode cX6_image 30 = .ok (.aload_n 0, 1) := by decide +kernel
theorem dX6_image_31 : decode cX6_image 31 = .ok (.getfield 7, 3) := by decide +kernel
theorem dX6_image_34 : decode cX6_image 34 = .ok (.iload_n 2, 1) := by decide +kernel
theorem dX6_image_35 : decode cX6_image 35 = .ok (.iaload, 1) := by decide +kernel
theorem dX6_image_36 : decode cX6_image 36 = .ok (.iastore, 1) := by decide +kernel
theorem dX6_image_37 : decode cX6_image 37 = .ok (.iinc 2 1, 3) := by decide +kernel
theorem dX6_image_40 : decode cX6_image 40 = .ok (.goto (-26), 3) := by decide +kernel
theorem dX6_image_43 : decode cX6_image 43 = .ok (.aload_n 0, 1) := by decide +kernel
theorem dX6_image_44 : decode cX6_image 44 = .ok (.getfield 16, 3) := by decide +kernel
theorem dX6_image_47 : decode cX6_image 47 = .ok (.iload_n 1, 1) := by decide +kernel
theorem dX6_image_48 : decode cX6_image 48 = .ok (.iconst 1, 1) := by decide +kernel
theorem dX6_image_49 : decode cX6_image 49 = .ok (.bastore, 1) := by decide +kernel
theorem dX6_image_50 : decode cX6_image 50 = .ok (.iconst 1, 1) := by decide +kernel
theorem dX6_image_51 : decode cX6_image 51 = .ok (.ireturn, 1) := by decide +kernel
theorem dX6_restore_0 : decode cX6_restore 0 = .ok (.iload_n 1, 1) := by decide +kernel
theorem dX6_restore_1 : decode cX6_restore 1 = .ok (.iconst 0, 1) := by decide +kernel
theorem dX6_restore_2 : decode cX6_restore 2 = .ok (.iconst 1, 1) := by decide +kernel
theorem dX6_restore_3 : decode cX6_restore 3 = .ok (.invokestatic 69, 3) := by decide +kernel
theorem dX6_restore_6 : decode cX6_restore 6 = .ok (.ifCond .ne 6, 3) := by decide +kernel
theorem dX6_restore_9 : decode cX6_restore 9 = .ok (.bipush (-2), 2) := by decide +kernel
theorem dX6_restore_11 : decode cX6_restore 11 = .ok (.ireturn, 1) := by decide +kernel
theorem dX6_restore_12 : decode cX6_restore 12 = .ok (.aload_n 0, 1) := by decide +kernel
theorem dX6_restore_13 : decode cX6_restore 13 = .ok (.getfield 16, 3) := by decide +kernel
theorem dX6_restore_16 : decode cX6_restore 16 = .ok (.iload_n 1, 1) := by decide +kernel
theorem dX6_restore_17 : decode cX6_restore 17 = .ok (.baload, 1) := by decide +kernel
theorem dX6_restore_18 : decode cX6_restore 18 = .ok (.ifCond .ne 6, 3) := by decide +kernel
theorem dX6_restore_21 : decode cX6_restore 21 = .ok (.bipush (-3), 2) := by decide +kernel
theorem dX6_restore_23 : decode cX6_restore 23 = .ok (.ireturn, 1) := by decide +kernel
theorem dX6_restore_24 : decode cX6_restore 24 = .ok (.iconst 0, 1) := by decide +kernel
theorem dX6_restore_25 : decode cX6_restore 25 = .ok (.istore_n 2, 1) := by decide +kernel
theorem dX6_restore_26 : decode cX6_restore 26 = .ok (.iload_n 2, 1) := by decide +kernel
theorem dX6_restore_27 : decode cX6_restore 27 = .ok (.bipush 94, 2) := by decide +kernel
theorem dX6_restore_29 : decode cX6_restore 29 = .ok (.if_icmp .ge 26, 3) := by decide +kernel
theorem dX6_restore_32 : decode cX6_restore 32 = .ok (.aload_n 0, 1) := by decide +kernel
theorem dX6_restore_33 : decode cX6_restore 33 = .ok (.getfield 7, 3) := by decide +kernel
theorem dX6_restore_36 : decode cX6_restore 36 = .ok (.iload_n 2, 1) := by decide +kernel
theorem dX6_restore_37 : decode cX6_restore 37 = .ok (.aload_n 0, 1) := by decide +kernel
theorem dX6_restore_38 : decode cX6_restore 38 = .ok (.getfield 13, 3) := by decide +kernel
theorem dX6_restore_41 : decode cX6_restore 41 = .ok (.bipush 95, 2) := by decide +kernel
theorem dX6_restore_43 : decode cX6_restore 43 = .ok (.iload_n 1, 1) := by decide +kernel
theorem dX6_restore_44 : decode cX6_restore 44 = .ok (.imul, 1) := by decide +kernel
theorem dX6_restore_45 : decode cX6_restore 45 = .ok (.iload_n 2, 1) := by decide +kernel
theorem dX6_restore_46 : decode cX6_restore 46 = .ok (.iadd, 1) := by decide +kernel
theorem dX6_restore_47 : decode cX6_restore 47 = .ok (.iaload, 1) := by decide +kernel
theorem dX6_restore_48 : decode cX6_restore 48 = .ok (.iastore, 1) := by decide +kernel
theorem dX6_restore_49 : decode cX6_restore 49 = .ok (.iinc 2 1, 3) := by decide +kernel
theorem dX6_restore_52 : decode cX6_restore 52 = .ok (.goto (-26), 3) := by decide +kernel
theorem dX6_restore_55 : decode cX6_restore 55 = .ok (.iconst 1, 1) := by decide +kernel
theorem dX6_restore_56 : decode cX6_restore 56 = .ok (.ireturn, 1) := by decide +kernel
theorem dX6_count_0 : decode cX6_count 0 = .ok (.iload_n 1, 1) := by decide +kernel
theorem dX6_count_1 : decode cX6_count 1 = .ok (.tableswitch 103 0 5 #[39, 47, 55, 60, 65, 73], 39) := by decide +kernel
theorem dX6_count_40 : decode cX6_count 40 = .ok (.aload_n 0, 1) := by decide +kernel
theorem dX6_count_41 : decode cX6_count 41 = .ok (.getfield 7, 3) := by decide +kernel
theorem dX6_count_44 : decode cX6_count 44 = .ok (.bipush 93, 2) := by decide +kernel
theorem dX6_count_46 : decode cX6_count 46 = .ok (.iaload, 1) := by decide +kernel
theorem dX6_count_47 : decode cX6_count 47 = .ok (.ireturn, 1) := by decide +kernel
theorem dX6_count_48 : decode cX6_count 48 = .ok (.aload_n 0, 1) := by decide +kernel
theorem dX6_count_49 : decode cX6_count 49 = .ok (.getfield 7, 3) := by decide +kernel
theorem dX6_count_52 : decode cX6_count 52 = .ok (.bipush 92, 2) := by decide +kernel
theorem dX6_count_54 : decode cX6_count 54 = .ok (.iaload, 1) := by decide +kernel
theorem dX6_count_55 : decode cX6_count 55 = .ok (.ireturn, 1) := by decide +kernel
theorem dX6_count_56 : decode cX6_count 56 = .ok (.aload_n 0, 1) := by decide +kernel
theorem dX6_count_57 : decode cX6_count 57 = .ok (.invokevirtual 184, 3) := by decide +kernel
theorem dX6_count_60 : decode cX6_count 60 = .ok (.ireturn, 1) := by decide +kernel
theorem dX6_count_61 : decode cX6_count 61 = .ok (.aload_n 0, 1) := by decide +kernel
theorem dX6_count_62 : decode cX6_count 62 = .ok (.getfield 73, 3) := by decide +kernel
theorem dX6_count_65 : decode cX6_count 65 = .ok (.ireturn, 1) := by decide +kernel
theorem dX6_count_66 : decode cX6_count 66 = .ok (.aload_n 0, 1) := by decide +kernel
theorem dX6_count_67 : decode cX6_count 67 = .ok (.getfield 7, 3) := by decide +kernel
theorem dX6_count_70 : decode cX6_count 70 = .ok (.bipush 94, 2) := by decide +kernel
theorem dX6_count_72 : decode cX6_count 72 = .ok (.iaload, 1) := by decide +kernel
theorem dX6_count_73 : decode cX6_count 73 = .ok (.ireturn, 1) := by decide +kernel
theorem dX6_count_74 : decode cX6_count 74 = .ok (.aload_n 0, 1) := by decide +kernel
theorem dX6_count_75 : decode cX6_count 75 = .ok (.getfield 16, 3) := by decide +kernel
theorem dX6_count_78 : decode cX6_count 78 = .ok (.iconst 0, 1) := by decide +kernel
theorem dX6_count_79 : decode cX6_count 79 = .ok (.baload, 1) := by decide +kernel
theorem dX6_count_80 : decode cX6_count 80 = .ok (.ifCond .eq 7, 3) := by decide +kernel
theorem dX6_count_83 : decode cX6_count 83 = .ok (.iconst 1, 1) := by decide +kernel
theorem dX6_count_84 : decode cX6_count 84 = .ok (.goto 4, 3) := by decide +kernel
theorem dX6_count_87 : decode cX6_count 87 = .ok (.iconst 0, 1) := by decide +kernel
theorem dX6_count_88 : decode cX6_count 88 = .ok (.aload_n 0, 1) := by decide +kernel
theorem dX6_count_89 : decode cX6_count 89 = .ok (.getfield 16, 3) := by decide +kernel
theorem dX6_count_92 : decode cX6_count 92 = .ok (.iconst 1, 1) := by decide +kernel
theorem dX6_count_93 : decode cX6_count 93 = .ok (.baload, 1) := by decide +kernel
theorem dX6_count_94 : decode cX6_count 94 = .ok (.ifCond .eq 7, 3) := by decide +kernel
theorem dX6_count_97 : decode cX6_count 97 = .ok (.iconst 2, 1) := by decide +kernel
theorem dX6_count_98 : decode cX6_count 98 = .ok (.goto 4, 3) := by decide +kernel
theorem dX6_count_101 : decode cX6_count 101 = .ok (.iconst 0, 1) := by decide +kernel
theorem dX6_count_102 : decode cX6_count 102 = .ok (.iadd, 1) := by decide +kernel
theorem dX6_count_103 : decode cX6_count 103 = .ok (.ireturn, 1) := by decide +kernel
theorem dX6_count_104 : decode cX6_count 104 = .ok (.bipush (-2), 2) := by decide +kernel
theorem dX6_count_106 : decode cX6_count 106 = .ok (.ireturn, 1) := by decide +kernel
