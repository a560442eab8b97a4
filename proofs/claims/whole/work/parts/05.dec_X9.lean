theorem dX9_init_0 : decode cX9_init 0 = .ok (.aload_n 0, 1) := by decide +kernel
theorem dX9_init_1 : decode cX9_init 1 = .ok (.invokespecial 1, 3) := by decide +kernel
theorem dX9_init_4 : decode cX9_init 4 = .ok (.aload_n 0, 1) := by decide +kernel
theorem dX9_init_5 : decode cX9_init 5 = .ok (.bipush 8, 2) := by decide +kernel
theorem dX9_init_7 : decode cX9_init 7 = .ok (.newarray .int, 2) := by decide +kernel
theorem dX9_init_9 : decode cX9_init 9 = .ok (.putfield 7, 3) := by decide +kernel
theorem dX9_init_12 : decode cX9_init 12 = .ok (.aload_n 0, 1) := by decide +kernel
theorem dX9_init_13 : decode cX9_init 13 = .ok (.bipush 8, 2) := by decide +kernel
theorem dX9_init_15 : decode cX9_init 15 = .ok (.newarray .int, 2) := by decide +kernel
theorem dX9_init_17 : decode cX9_init 17 = .ok (.putfield 13, 3) := by decide +kernel
theorem dX9_init_20 : decode cX9_init 20 = .ok (.aload_n 0, 1) := by decide +kernel
theorem dX9_init_21 : decode cX9_init 21 = .ok (.bipush 8, 2) := by decide +kernel
theorem dX9_init_23 : decode cX9_init 23 = .ok (.newarray .int, 2) := by decide +kernel
theorem dX9_init_25 : decode cX9_init 25 = .ok (.putfield 16, 3) := by decide +kernel
theorem dX9_init_28 : decode cX9_init 28 = .ok (.aload_n 0, 1) := by decide +kernel
theorem dX9_init_29 : decode cX9_init 29 = .ok (.bipush 8, 2) := by decide +kernel
theorem dX9_init_31 : decode cX9_init 31 = .ok (.newarray .int, 2) := by decide +kernel
theorem dX9_init_33 : decode cX9_init 33 = .ok (.putfield 19, 3) := by decide +kernel
theorem dX9_init_36 : decode cX9_init 36 = .ok (.aload_n 0, 1) := by decide +kernel
theorem dX9_init_37 : decode cX9_init 37 = .ok (.bipush 8, 2) := by decide +kernel
theorem dX9_init_39 : decode cX9_init 39 = .ok (.newarray .int, 2) := by decide +kernel
theorem dX9_init_41 : decode cX9_init 41 = .ok (.putfield 22, 3) := by decide +kernel
theorem dX9_init_44 : decode cX9_init 44 = .ok (.aload_n 0, 1) := by decide +kernel
theorem dX9_init_45 : decode cX9_init 45 = .ok (.bipush 8, 2) := by decide +kernel
theorem dX9_init_47 : decode cX9_init 47 = .ok (.newarray .int, 2) := by decide +kernel
theorem dX9_init_49 : decode cX9_init 49 = .ok (.putfield 25, 3) := by decide +kernel
theorem dX9_init_52 : decode cX9_init 52 = .ok (.aload_n 0, 1) := by decide +kernel
theorem dX9_init_53 : decode cX9_init 53 = .ok (.sipush 240, 3) := by decide +kernel
theorem dX9_init_56 : decode cX9_init 56 = .ok (.newarray .int, 2) := by decide +kernel
theorem dX9_init_58 : decode cX9_init 58 = .ok (.putfield 28, 3) := by decide +kernel
theorem dX9_init_61 : decode cX9_init 61 = .ok (.aload_n 0, 1) := by decide +kernel
theorem dX9_init_62 : decode cX9_init 62 = .ok (.bipush 8, 2) := by decide +kernel
theorem dX9_init_64 : decode cX9_init 64 = .ok (.newarray .boolean, 2) := by decide +kernel
theorem dX9_init_66 : decode cX9_init 66 = .ok (.putfield 31, 3) := by decide +kernel
theorem dX9_init_69 : decode cX9_init 69 = .ok (.aload_n 0, 1) := by decide +kernel
theorem dX9_init_70 : decode cX9_init 70 = .ok (.bipush 16, 2) := by decide +kernel
theorem dX9_init_72 : decode cX9_init 72 = .ok (.newarray .boolean, 2) := by decide +kernel
theorem dX9_init_74 : decode cX9_init 74 = .ok (.putfield 35, 3) := by decide +kernel
theorem dX9_init_77 : decode cX9_init 77 = .ok (.aload_n 0, 1) := by decide +kernel
theorem dX9_init_78 : decode cX9_init 78 = .ok (.bipush 16, 2) := by decide +kernel
theorem dX9_init_80 : decode cX9_init 80 = .ok (.newarray .int, 2) := by decide +kernel
theorem dX9_init_82 : decode cX9_init 82 = .ok (.putfield 38, 3) := by decide +kernel
theorem dX9_init_85 : decode cX9_init 85 = .ok (.aload_n 0, 1) := by decide +kernel
theorem dX9_init_86 : decode cX9_init 86 = .ok (.bipush 16, 2) := by decide +kernel
theorem dX9_init_88 : decode cX9_init 88 = .ok (.newarray .int, 2) := by decide +kernel
theorem dX9_init_90 : decode cX9_init 90 = .ok (.putfield 41, 3) := by decide +kernel
theorem dX9_init_93 : decode cX9_init 93 = .ok (.aload_n 0, 1) := by decide +kernel
theorem dX9_init_94 : decode cX9_init 94 = .ok (.bipush 16, 2) := by decide +kernel
theorem dX9_init_96 : decode cX9_init 96 = .ok (.newarray .int, 2) := by decide +kernel
theorem dX9_init_98 : decode cX9_init 98 = .ok (.putfield 44, 3) := by decide +kernel
theorem dX9_init_101 : decode cX9_init 101 = .ok (.aload_n 0, 1) := by decide +kernel
theorem dX9_init_102 : decode cX9_init 102 = .ok (.bipush 16, 2) := by decide +kernel
theorem dX9_init_104 : decode cX9_init 104 = .ok (.newarray .int, 2) := by decide +kernel
theorem dX9_init_106 : decode cX9_init 106 = .ok (.putfield 47, 3) := by decide +kernel
theorem dX9_init_109 : decode cX9_init 109 = .ok (.aload_n 0, 1) := by decide +kernel
theorem dX9_init_110 : decode cX9_init 110 = .ok (.bipush 16, 2) := by decide +kernel
theorem dX9_init_112 : decode cX9_init 112 = .ok (.newarray .int, 2) := by decide +kernel
theorem dX9_init_114 : decode cX9_init 114 = .ok (.putfield 50, 3) := by decide +kernel
theorem dX9_init_117 : decode cX9_init 117 = .ok (.aload_n 0, 1) := by decide +kernel
theorem dX9_init_118 : decode cX9_init 118 = .ok (.bipush 16, 2) := by decide +kernel
theorem dX9_init_120 : decode cX9_init 120 = .ok (.newarray .int, 2) := by decide +kernel
theorem dX9_init_122 : decode cX9_init 122 = .ok (.putfield 53, 3) := by decide +kernel
theorem dX9_init_125 : decode cX9_init 125 = .ok (.aload_n 0, 1) := by decide +kernel
theorem dX9_init_126 : decode cX9_init 126 = .ok (.iconst 4, 1) := by decide +kernel
theorem dX9_init_127 : decode cX9_init 127 = .ok (.newarray .int, 2) := by decide +kernel
theorem dX9_init_129 : decode cX9_init 129 = .ok (.putfield 56, 3) := by decide +kernel
theorem dX9_init_132 : decode cX9_init 132 = .ok (.aload_n 0, 1) := by decide +kernel
theorem dX9_init_133 : decode cX9_init 133 = .ok (.bipush 96, 2) := by decide +kernel
theorem dX9_init_135 : decode cX9_init 135 = .ok (.newarray .int, 2) := by decide +kernel
theorem dX9_init_137 : decode cX9_init 137 = .ok (.putfield 59, 3) := by decide +kernel
theorem dX9_init_140 : decode cX9_init 140 = .ok (.aload_n 0, 1) := by decide +kernel
theorem dX9_init_141 : decode cX9_init 141 = .ok (.bipush 16, 2) := by decide +kernel
theorem dX9_init_143 : decode cX9_init 143 = .ok (.newarray .int, 2) := by decide +kernel
theorem dX9_init_145 : decode cX9_init 145 = .ok (.putfield 62, 3) := by decide +kernel
theorem dX9_init_148 : decode cX9_init 148 = .ok (.aload_n 0, 1) := by decide +kernel
theorem dX9_init_149 : decode cX9_init 149 = .ok (.iconst 3, 1) := by decide +kernel
theorem dX9_init_150 : decode cX9_init 150 = .ok (.newarray .int, 2) := by decide +kernel
theorem dX9_init_152 : decode cX9_init 152 = .ok (.putfield 65, 3) := by decide +kernel
theorem dX9_init_155 : decode cX9_init 155 = .ok (.aload_n 0, 1) := by decide +kernel
theorem dX9_init_156 : decode cX9_init 156 = .ok (.bipush 16, 2) := by decide +kernel
theorem dX9_init_158 : decode cX9_init 158 = .ok (.newarray .int, 2) := by decide +kernel
theorem dX9_init_160 : decode cX9_init 160 = .ok (.putfield 68, 3) := by decide +kernel
theorem dX9_init_163 : decode cX9_init 163 = .ok (.aload_n 0, 1) := by decide +kernel
theorem dX9_init_164 : decode cX9_init 164 = .ok (.iconst 0, 1) := by decide +kernel
theorem dX9_init_165 : decode cX9_init 165 = .ok (.putfield 71, 3) := by decide +kernel
theorem dX9_init_168 : decode cX9_init 168 = .ok (.aload_n 0, 1) := by decide +kernel
theorem dX9_init_169 : decode cX9_init 169 = .ok (.iconst 0, 1) := by decide +kernel
theorem dX9_init_170 : decode cX9_init 170 = .ok (.putfield 75, 3) := by decide +kernel
theorem dX9_init_173 : decode cX9_init 173 = .ok (.aload_n 0, 1) := by decide +kernel
theorem dX9_init_174 : decode cX9_init 174 = .ok (.iconst 0, 1) := by decide +kernel
theorem dX9_init_175 : decode cX9_init 175 = .ok (.putfield 78, 3) := by decide +kernel
theorem dX9_init_178 : decode cX9_init 178 = .ok (.aload_n 0, 1) := by decide +kernel
theorem dX9_init_179 : decode cX9_init 179 = .ok (.iconst 0, 1) := by decide +kernel
theorem dX9_init_180 : decode cX9_init 180 = .ok (.putfield 81, 3) := by decide +kernel
theorem dX9_init_183 : decode cX9_init 183 = .ok (.aload_n 0, 1) := by decide +kernel
theorem dX9_init_184 : decode cX9_init 184 = .ok (.iconst 0, 1) := by decide +kernel
theorem dX9_init_185 : decode cX9_init 185 = .ok (.putfield 84, 3) := by decide +kernel
theorem dX9_init_188 : decode cX9_init 188 = .ok (.aload_n 0, 1) := by decide +kernel
theorem dX9_init_189 : decode cX9_init 189 = .ok (.iconst 0, 1) := by decide +kernel
theorem dX9_init_190 : decode cX9_init 190 = .ok (.putfield 87, 3) := by decide +kernel
theorem dX9_init_193 : decode cX9_init 193 = .ok (.aload_n 0, 1) := by decide +kernel
theorem dX9_init_194 : decode cX9_init 194 = .ok (.iconst 0, 1) := by decide +kernel
theorem dX9_init_195 : decode cX9_init 195 = .ok (.putfield 90, 3) := by decide +kernel
theorem dX9_init_198 : decode cX9_init 198 = .ok (.aload_n 0, 1) := by decide +kernel
theorem dX9_init_199 : decode cX9_init 199 = .ok (.iconst 0, 1) := by decide +kernel
theorem dX9_init_200 : decode cX9_init 200 = .ok (.putfield 93, 3) := by decide +kernel
theorem dX9_init_203 : decode cX9_init 203 = .ok (.iconst 0, 1) := by decide +kernel
theorem dX9_init_204 : decode cX9_init 204 = .ok (.istore_n 1, 1) := by decide +kernel
theorem dX9_init_205 : decode cX9_init 205 = .ok (.iload_n 1, 1) := by decide +kernel
theorem dX9_init_206 : decode cX9_init 206 = .ok (.iconst 4, 1) := by decide +kernel
theorem dX9_init_207 : decode cX9_init 207 = .ok (.if_icmp .ge 16, 3) := by decide +kernel
theorem dX9_init_210 : decode cX9_init 210 = .ok (.aload_n 0, 1) := by decide +kernel
theorem dX9_init_211 : decode cX9_init 211 = .ok (.getfield 56, 3) := by decide +kernel
theorem dX9_init_214 : decode cX9_init 214 = .ok (.iload_n 1, 1) := by decide +kernel
theorem dX9_init_215 : decode cX9_init 215 = .ok (.iconst 1, 1) := by decide +kernel
theorem dX9_init_216 : decode cX9_init 216 = .ok (.iastore, 1) := by decide +kernel
theorem dX9_init_217 : decode cX9_init 217 = .ok (.iinc 1 1, 3) := by decide +kernel
theorem dX9_init_220 : decode cX9_init 220 = .ok (.goto (-15), 3) := by decide +kernel
theorem dX9_init_223 : decode cX9_init 223 = .ok (.return_, 1) := by decide +kernel
theorem dX9_thrown_0 : decode cX9_thrown 0 = .ok (.aload_n 0, 1) := by decide +kernel
theorem dX9_thrown_1 : decode cX9_thrown 1 = .ok (.getfield 71, 3) := by decide +kernel
theorem dX9_thrown_4 : decode cX9_thrown 4 = .ok (.ireturn, 1) := by decide +kernel
theorem dX9_in_0 : decode cX9_in 0 = .ok (.iload_n 0, 1) := by decide +kernel
theorem dX9_in_1 : decode cX9_in 1 = .ok (.iload_n 1, 1) := by decide +kernel
theorem dX9_in_2 : decode cX9_in 2 = .ok (.if_icmp .lt 12, 3) := by decide +kernel
theorem dX9_in_5 : decode cX9_in 5 = .ok (.iload_n 0, 1) := by decide +kernel
theorem dX9_in_6 : decode cX9_in 6 = .ok (.iload_n 2, 1) := by decide +kernel
theorem dX9_in_7 : decode cX9_in 7 = .ok (.if_icmp .gt 7, 3) := by decide +kernel
theorem dX9_in_10 : decode cX9_in 10 = .ok (.iconst 1, 1) := by decide +kernel
theorem dX9_in_11 : decode cX9_in 11 = .ok (.goto 4, 3) := by decide +kernel
theorem dX9_in_14 : decode cX9_in 14 = .ok (.iconst 0, 1) := by decide +kernel
theorem dX9_in_15 : decode cX9_in 15 = .ok (.ireturn, 1) := by decide +kernel
theorem dX9_plain_0 : decode cX9_plain 0 = .ok (.aload_n 0, 1) := by decide +kernel
theorem dX9_plain_1 : decode cX9_plain 1 = .ok (.iconst 0, 1) := by decide +kernel
theorem dX9_plain_2 : decode cX9_plain 2 = .ok (.putfield 71, 3) := by decide +kernel
theorem dX9_plain_5 : decode cX9_plain 5 = .ok (.iload_n 1, 1) := by decide +kernel
theorem dX9_plain_6 : decode cX9_plain 6 = .ok (.ireturn, 1) := by decide +kernel
theorem dX9_checked_0 : decode cX9_checked 0 = .ok (.aload_n 0, 1) := by decide +kernel
theorem dX9_checked_1 : decode cX9_checked 1 = .ok (.iload_n 1, 1) := by decide +kernel
theorem dX9_checked_2 : decode cX9_checked 2 = .ok (.ifCond .eq 7, 3) := by decide +kernel
theorem dX9_checked_5 : decode cX9_checked 5 = .ok (.iconst 0, 1) := by decide +kernel
theorem dX9_checked_6 : decode cX9_checked 6 = .ok (.goto 4, 3) := by decide +kernel
theorem dX9_checked_9 : decode cX9_checked 9 = .ok (.iconst 1, 1) := by decide +kernel
theorem dX9_checked_10 : decode cX9_checked 10 = .ok (.putfield 71, 3) := by decide +kernel
theorem dX9_checked_13 : decode cX9_checked 13 = .ok (.aload_n 0, 1) := by decide +kernel
theorem dX9_checked_14 : decode cX9_checked 14 = .ok (.getfield 71, 3) := by decide +kernel
theorem dX9_checked_17 : decode cX9_checked 17 = .ok (.ireturn, 1) := by decide +kernel
theorem dX9_isLesson_0 : decode cX9_isLesson 0 = .ok (.iload_n 1, 1) := by decide +kernel
theorem dX9_isLesson_1 : decode cX9_isLesson 1 = .ok (.iconst 0, 1) := by decide +kernel
theorem dX9_isLesson_2 : decode cX9_isLesson 2 = .ok (.aload_n 0, 1) := by decide +kernel
theorem dX9_isLesson_3 : decode cX9_isLesson 3 = .ok (.getfield 84, 3) := by decide +kernel
theorem dX9_isLesson_6 : decode cX9_isLesson 6 = .ok (.iconst 1, 1) := by decide +kernel
theorem dX9_isLesson_7 : decode cX9_isLesson 7 = .ok (.isub, 1) := by decide +kernel
theorem dX9_isLesson_8 : decode cX9_isLesson 8 = .ok (.invokestatic 96, 3) := by decide +kernel
theorem dX9_isLesson_11 : decode cX9_isLesson 11 = .ok (.ireturn, 1) := by decide +kernel
theorem dX9_isTeacher_0 : decode cX9_isTeacher 0 = .ok (.iload_n 1, 1) := by decide +kernel
theorem dX9_isTeacher_1 : decode cX9_isTeacher 1 = .ok (.iconst 0, 1) := by decide +kernel
theorem dX9_isTeacher_2 : decode cX9_isTeacher 2 = .ok (.aload_n 0, 1) := by decide +kernel
theorem dX9_isTeacher_3 : decode cX9_isTeacher 3 = .ok (.getfield 78, 3) := by decide +kernel
theorem dX9_isTeacher_6 : decode cX9_isTeacher 6 = .ok (.iconst 1, 1) := by decide +kernel
theorem dX9_isTeacher_7 : decode cX9_isTeacher 7 = .ok (.isub, 1) := by decide +kernel
theorem dX9_isTeacher_8 : decode cX9_isTeacher 8 = .ok (.invokestatic 96, 3) := by decide +kernel
theorem dX9_isTeacher_11 : decode cX9_isTeacher 11 = .ok (.ireturn, 1) := by decide +kernel
theorem dX9_isGroup_0 : decode cX9_isGroup 0 = .ok (.iload_n 1, 1) := by decide +kernel
theorem dX9_isGroup_1 : decode cX9_isGroup 1 = .ok (.iconst 0, 1) := by decide +kernel
theorem dX9_isGroup_2 : decode cX9_isGroup 2 = .ok (.aload_n 0, 1) := by decide +kernel
theorem dX9_isGroup_3 : decode cX9_isGroup 3 = .ok (.getfield 81, 3) := by decide +kernel
theorem dX9_isGroup_6 : decode cX9_isGroup 6 = .ok (.iconst 1, 1) := by decide +kernel
theorem dX9_isGroup_7 : decode cX9_isGroup 7 = .ok (.isub, 1) := by decide +kernel
theorem dX9_isGroup_8 : decode cX9_isGroup 8 = .ok (.invokestatic 96, 3) := by decide +kernel
theorem dX9_isGroup_11 : decode cX9_isGroup 11 = .ok (.ireturn, 1) := by decide +kernel
theorem dX9_isRoom_0 : decode cX9_isRoom 0 = .ok (.iload_n 1, 1) := by decide +kernel
theorem dX9_isRoom_1 : decode cX9_isRoom 1 = .ok (.iconst 0, 1) := by decide +kernel
theorem dX9_isRoom_2 : decode cX9_isRoom 2 = .ok (.aload_n 0, 1) := by decide +kernel
theorem dX9_isRoom_3 : decode cX9_isRoom 3 = .ok (.getfield 75, 3) := by decide +kernel
theorem dX9_isRoom_6 : decode cX9_isRoom 6 = .ok (.iconst 1, 1) := by decide +kernel
theorem dX9_isRoom_7 : decode cX9_isRoom 7 = .ok (.isub, 1) := by decide +kernel
theorem dX9_isRoom_8 : decode cX9_isRoom 8 = .ok (.invokestatic 96, 3) := by decide +kernel
theorem dX9_isRoom_11 : decode cX9_isRoom 11 = .ok (.ireturn, 1) := by decide +kernel
theorem dX9_isSlot_0 : decode cX9_isSlot 0 = .ok (.iload_n 0, 1) := by decide +kernel
theorem dX9_isSlot_1 : decode cX9_isSlot 1 = .ok (.iconst 0, 1) := by decide +kernel
theorem dX9_isSlot_2 : decode cX9_isSlot 2 = .ok (.bipush 29, 2) := by decide +kernel
theorem dX9_isSlot_4 : decode cX9_isSlot 4 = .ok (.invokestatic 96, 3) := by decide +kernel
theorem dX9_isSlot_7 : decode cX9_isSlot 7 = .ok (.ireturn, 1) := by decide +kernel
theorem dX9_addRoom_0 : decode cX9_addRoom 0 = .ok (.aload_n 0, 1) := by decide +kernel
theorem dX9_addRoom_1 : decode cX9_addRoom 1 = .ok (.iload_n 1, 1) := by decide +kernel
theorem dX9_addRoom_2 : decode cX9_addRoom 2 = .ok (.iconst 0, 1) := by decide +kernel
theorem dX9_addRoom_3 : decode cX9_addRoom 3 = .ok (.iconst 2, 1) := by decide +kernel
theorem dX9_addRoom_4 : decode cX9_addRoom 4 = .ok (.invokestatic 96, 3) := by decide +kernel
theorem dX9_addRoom_7 : decode cX9_addRoom 7 = .ok (.ifCond .eq 22, 3) := by decide +kernel
theorem dX9_addRoom_10 : decode cX9_addRoom 10 = .ok (.iload_n 2, 1) := by decide +kernel
theorem dX9_addRoom_11 : decode cX9_addRoom 11 = .ok (.iconst 0, 1) := by decide +kernel
theorem dX9_addRoom_12 : decode cX9_addRoom 12 = .ok (.iconst 3, 1) := by decide +kernel
theorem dX9_addRoom_13 : decode cX9_addRoom 13 = .ok (.invokestatic 96, 3) := by decide +kernel
theorem dX9_addRoom_16 : decode cX9_addRoom 16 = .ok (.ifCond .eq 13, 3) := by decide +kernel
theorem dX9_addRoom_19 : decode cX9_addRoom 19 = .ok (.iload_n 3, 1) := by decide +kernel
theorem dX9_addRoom_20 : decode cX9_addRoom 20 = .ok (.iconst 1, 1) := by decide +kernel
theorem dX9_addRoom_21 : decode cX9_addRoom 21 = .ok (.bipush 99, 2) := by decide +kernel
theorem dX9_addRoom_23 : decode cX9_addRoom 23 = .ok (.invokestatic 96, 3) := by decide +kernel
theorem dX9_addRoom_26 : decode cX9_addRoom 26 = .ok (.ifCond .ne 7, 3) := by decide +kernel
theorem dX9_addRoom_29 : decode cX9_addRoom 29 = .ok (.iconst 1, 1) := by decide +kernel
theorem dX9_addRoom_30 : decode cX9_addRoom 30 = .ok (.goto 17, 3) := by decide +kernel
theorem dX9_addRoom_33 : decode cX9_addRoom 33 = .ok (.aload_n 0, 1) := by decide +kernel
theorem dX9_addRoom_34 : decode cX9_addRoom 34 = .ok (.getfield 75, 3) := by decide +kernel
theorem dX9_addRoom_37 : decode cX9_addRoom 37 = .ok (.bipush 8, 2) := by decide +kernel
theorem dX9_addRoom_39 : decode cX9_addRoom 39 = .ok (.if_icmp .ne 7, 3) := by decide +kernel
theorem dX9_addRoom_42 : decode cX9_addRoom 42 = .ok (.iconst 2, 1) := by decide +kernel
theorem dX9_addRoom_43 : decode cX9_addRoom 43 = .ok (.goto 4, 3) := by decide +kernel
theorem dX9_addRoom_46 : decode cX9_addRoom 46 = .ok (.iconst 0, 1) := by decide +kernel
theorem dX9_addRoom_47 : decode cX9_addRoom 47 = .ok (.putfield 71, 3) := by decide +kernel
theorem dX9_addRoom_50 : decode cX9_addRoom 50 = .ok (.aload_n 0, 1) := by decide +kernel
theorem dX9_addRoom_51 : decode cX9_addRoom 51 = .ok (.getfield 71, 3) := by decide +kernel
theorem dX9_addRoom_54 : decode cX9_addRoom 54 = .ok (.ifCond .le 5, 3) := by decide +kernel
theorem dX9_addRoom_57 : decode cX9_addRoom 57 = .ok (.iconst 0, 1) := by decide +kernel
theorem dX9_addRoom_58 : decode cX9_addRoom 58 = .ok (.ireturn, 1) := by decide +kernel
theorem dX9_addRoom_59 : decode cX9_addRoom 59 = .ok (.aload_n 0, 1) := by decide +kernel
theorem dX9_addRoom_60 : decode cX9_addRoom 60 = .ok (.getfield 7, 3) := by decide +kernel
theorem dX9_addRoom_63 : decode cX9_addRoom 63 = .ok (.aload_n 0, 1) := by decide +kernel
theorem dX9_addRoom_64 : decode cX9_addRoom 64 = .ok (.getfield 75, 3) := by decide +kernel
theorem dX9_addRoom_67 : decode cX9_addRoom 67 = .ok (.iload_n 1, 1) := by decide +kernel
theorem dX9_addRoom_68 : decode cX9_addRoom 68 = .ok (.iastore, 1) := by decide +kernel
theorem dX9_addRoom_69 : decode cX9_addRoom 69 = .ok (.aload_n 0, 1) := by decide +kernel
theorem dX9_addRoom_70 : decode cX9_addRoom 70 = .ok (.getfield 13, 3) := by decide +kernel
theorem dX9_addRoom_73 : decode cX9_addRoom 73 = .ok (.aload_n 0, 1) := by decide +kernel
theorem dX9_addRoom_74 : decode cX9_addRoom 74 = .ok (.getfield 75, 3) := by decide +kernel
theorem dX9_addRoom_77 : decode cX9_addRoom 77 = .ok (.iload_n 2, 1) := by decide +kernel
theorem dX9_addRoom_78 : decode cX9_addRoom 78 = .ok (.iastore, 1) := by decide +kernel
theorem dX9_addRoom_79 : decode cX9_addRoom 79 = .ok (.aload_n 0, 1) := by decide +kernel
theorem dX9_addRoom_80 : decode cX9_addRoom 80 = .ok (.getfield 16, 3) := by decide +kernel
theorem dX9_addRoom_83 : decode cX9_addRoom 83 = .ok (.aload_n 0, 1) := by decide +kernel
theorem dX9_addRoom_84 : decode cX9_addRoom 84 = .ok (.getfield 75, 3) := by decide +kernel
theorem dX9_addRoom_87 : decode cX9_addRoom 87 = .ok (.iload_n 3, 1) := by decide +kernel
theorem dX9_addRoom_88 : decode cX9_addRoom 88 = .ok (.iastore, 1) := by decide +kernel
theorem dX9_addRoom_89 : decode cX9_addRoom 89 = .ok (.aload_n 0, 1) := by decide +kernel
theorem dX9_addRoom_90 : decode cX9_addRoom 90 = .ok (.dup, 1) := by decide +kernel
theorem dX9_addRoom_91 : decode cX9_addRoom 91 = .ok (.getfield 75, 3) := by decide +kernel
theorem dX9_addRoom_94 : decode cX9_addRoom 94 = .ok (.iconst 1, 1) := by decide +kernel
theorem dX9_addRoom_95 : decode cX9_addRoom 95 = .ok (.iadd, 1) := by decide +kernel
theorem dX9_addRoom_96 : decode cX9_addRoom 96 = .ok (.putfield 75, 3) := by decide +kernel
theorem dX9_addRoom_99 : decode cX9_addRoom 99 = .ok (.aload_n 0, 1) := by decide +kernel
theorem dX9_addRoom_100 : decode cX9_addRoom 100 = .ok (.getfield 75, 3) := by decide +kernel
theorem dX9_addRoom_103 : decode cX9_addRoom 103 = .ok (.iconst 1, 1) := by decide +kernel
theorem dX9_addRoom_104 : decode cX9_addRoom 104 = .ok (.isub, 1) := by decide +kernel
theorem dX9_addRoom_105 : decode cX9_addRoom 105 = .ok (.ireturn, 1) := by decide +kernel
theorem dX9_addTeacher_0 : decode cX9_addTeacher 0 = .ok (.aload_n 0, 1) := by decide +kernel
theorem dX9_addTeacher_1 : decode cX9_addTeacher 1 = .ok (.iload_n 1, 1) := by decide +kernel
theorem dX9_addTeacher_2 : decode cX9_addTeacher 2 = .ok (.iconst 0, 1) := by decide +kernel
theorem dX9_addTeacher_3 : decode cX9_addTeacher 3 = .ok (.bipush 31, 2) := by decide +kernel
theorem dX9_addTeacher_5 : decode cX9_addTeacher 5 = .ok (.invokestatic 96, 3) := by decide +kernel
theorem dX9_addTeacher_8 : decode cX9_addTeacher 8 = .ok (.ifCond .ne 7, 3) := by decide +kernel
theorem dX9_addTeacher_11 : decode cX9_addTeacher 11 = .ok (.iconst 1, 1) := by decide +kernel
theorem dX9_addTeacher_12 : decode cX9_addTeacher 12 = .ok (.goto 17, 3) := by decide +kernel
theorem dX9_addTeacher_15 : decode cX9_addTeacher 15 = .ok (.aload_n 0, 1) := by decide +kernel
theorem dX9_addTeacher_16 : decode cX9_addTeacher 16 = .ok (.getfield 78, 3) := by decide +kernel
theorem dX9_addTeacher_19 : decode cX9_addTeacher 19 = .ok (.bipush 8, 2) := by decide +kernel
theorem dX9_addTeacher_21 : decode cX9_addTeacher 21 = .ok (.if_icmp .ne 7, 3) := by decide +kernel
theorem dX9_addTeacher_24 : decode cX9_addTeacher 24 = .ok (.iconst 2, 1) := by decide +kernel
theorem dX9_addTeacher_25 : decode cX9_addTeacher 25 = .ok (.goto 4, 3) := by decide +kernel
theorem dX9_addTeacher_28 : decode cX9_addTeacher 28 = .ok (.iconst 0, 1) := by decide +kernel
theorem dX9_addTeacher_29 : decode cX9_addTeacher 29 = .ok (.putfield 71, 3) := by decide +kernel
theorem dX9_addTeacher_32 : decode cX9_addTeacher 32 = .ok (.aload_n 0, 1) := by decide +kernel
theorem dX9_addTeacher_33 : decode cX9_addTeacher 33 = .ok (.getfield 71, 3) := by decide +kernel
theorem dX9_addTeacher_36 : decode cX9_addTeacher 36 = .ok (.ifCond .le 5, 3) := by decide +kernel
theorem dX9_addTeacher_39 : decode cX9_addTeacher 39 = .ok (.iconst 0, 1) := by decide +kernel
theorem dX9_addTeacher_40 : decode cX9_addTeacher 40 = .ok (.ireturn, 1) := by decide +kernel
theorem dX9_addTeacher_41 : decode cX9_addTeacher 41 = .ok (.aload_n 0, 1) := by decide +kernel
theorem dX9_addTeacher_42 : decode cX9_addTeacher 42 = .ok (.getfield 19, 3) := by decide +kernel
theorem dX9_addTeacher_45 : decode cX9_addTeacher 45 = .ok (.aload_n 0, 1) := by decide +kernel
theorem dX9_addTeacher_46 : decode cX9_addTeacher 46 = .ok (.getfield 78, 3) := by decide +kernel
theorem dX9_addTeacher_49 : decode cX9_addTeacher 49 = .ok (.iload_n 1, 1) := by decide +kernel
theorem dX9_addTeacher_50 : decode cX9_addTeacher 50 = .ok (.iastore, 1) := by decide +kernel
theorem dX9_addTeacher_51 : decode cX9_addTeacher 51 = .ok (.aload_n 0, 1) := by decide +kernel
theorem dX9_addTeacher_52 : decode cX9_addTeacher 52 = .ok (.dup, 1) := by decide +kernel
theorem dX9_addTeacher_53 : decode cX9_addTeacher 53 = .ok (.getfield 78, 3) := by decide +kernel
theorem dX9_addTeacher_56 : decode cX9_addTeacher 56 = .ok (.iconst 1, 1) := by decide +kernel
theorem dX9_addTeacher_57 : decode cX9_addTeacher 57 = .ok (.iadd, 1) := by decide +kernel
theorem dX9_addTeacher_58 : decode cX9_addTeacher 58 = .ok (.putfield 78, 3) := by decide +kernel
theorem dX9_addTeacher_61 : decode cX9_addTeacher 61 = .ok (.aload_n 0, 1) := by decide +kernel
theorem dX9_addTeacher_62 : decode cX9_addTeacher 62 = .ok (.getfield 78, 3) := by decide +kernel
theorem dX9_addTeacher_65 : decode cX9_addTeacher 65 = .ok (.iconst 1, 1) := by decide +kernel
theorem dX9_addTeacher_66 : decode cX9_addTeacher 66 = .ok (.isub, 1) := by decide +kernel
theorem dX9_addTeacher_67 : decode cX9_addTeacher 67 = .ok (.ireturn, 1) := by decide +kernel
theorem dX9_addGroup_0 : decode cX9_addGroup 0 = .ok (.aload_n 0, 1) := by decide +kernel
theorem dX9_addGroup_1 : decode cX9_addGroup 1 = .ok (.iload_n 1, 1) := by decide +kernel
theorem dX9_addGroup_2 : decode cX9_addGroup 2 = .ok (.iconst 1, 1) := by decide +kernel
theorem dX9_addGroup_3 : decode cX9_addGroup 3 = .ok (.bipush 99, 2) := by decide +kernel
theorem dX9_addGroup_5 : decode cX9_addGroup 5 = .ok (.invokestatic 96, 3) := by decide +kernel
theorem dX9_addGroup_8 : decode cX9_addGroup 8 = .ok (.ifCond .ne 7, 3) := by decide +kernel
theorem dX9_addGroup_11 : decode cX9_addGroup 11 = .ok (.iconst 1, 1) := by decide +kernel
theorem dX9_addGroup_12 : decode cX9_addGroup 12 = .ok (.goto 17, 3) := by decide +kernel
theorem dX9_addGroup_15 : decode cX9_addGroup 15 = .ok (.aload_n 0, 1) := by decide +kernel
theorem dX9_addGroup_16 : decode cX9_addGroup 16 = .ok (.getfield 81, 3) := by decide +kernel
theorem dX9_addGroup_19 : decode cX9_addGroup 19 = .ok (.bipush 8, 2) := by decide +kernel
theorem dX9_addGroup_21 : decode cX9_addGroup 21 = .ok (.if_icmp .ne 7, 3) := by decide +kernel
theorem dX9_addGroup_24 : decode cX9_addGroup 24 = .ok (.iconst 2, 1) := by decide +kernel
theorem dX9_addGroup_25 : decode cX9_addGroup 25 = .ok (.goto 4, 3) := by decide +kernel
theorem dX9_addGroup_28 : decode cX9_addGroup 28 = .ok (.iconst 0, 1) := by decide +kernel
theorem dX9_addGroup_29 : decode cX9_addGroup 29 = .ok (.putfield 71, 3) := by decide +kernel
theorem dX9_addGroup_32 : decode cX9_addGroup 32 = .ok (.aload_n 0, 1) := by decide +kernel
theorem dX9_addGroup_33 : decode cX9_addGroup 33 = .ok (.getfield 71, 3) := by decide +kernel
theorem dX9_addGroup_36 : decode cX9_addGroup 36 = .ok (.ifCond .le 5, 3) := by decide +kernel
theorem dX9_addGroup_39 : decode cX9_addGroup 39 = .ok (.iconst 0, 1) := by decide +kernel
theorem dX9_addGroup_40 : decode cX9_addGroup 40 = .ok (.ireturn, 1) := by decide +kernel
theorem dX9_addGroup_41 : decode cX9_addGroup 41 = .ok (.aload_n 0, 1) := by decide +kernel
theorem dX9_addGroup_42 : decode cX9_addGroup 42 = .ok (.getfield 25, 3) := by decide +kernel
theorem dX9_addGroup_45 : decode cX9_addGroup 45 = .ok (.aload_n 0, 1) := by decide +kernel
theorem dX9_addGroup_46 : decode cX9_addGroup 46 = .ok (.getfield 81, 3) := by decide +kernel
theorem dX9_addGroup_49 : decode cX9_addGroup 49 = .ok (.iload_n 1, 1) := by decide +kernel
theorem dX9_addGroup_50 : decode cX9_addGroup 50 = .ok (.iastore, 1) := by decide +kernel
theorem dX9_addGroup_51 : decode cX9_addGroup 51 = .ok (.aload_n 0, 1) := by decide +kernel
theorem dX9_addGroup_52 : decode cX9_addGroup 52 = .ok (.dup, 1) := by decide +kernel
theorem dX9_addGroup_53 : decode cX9_addGroup 53 = .ok (.getfield 81, 3) := by decide +kernel
theorem dX9_addGroup_56 : decode cX9_addGroup 56 = .ok (.iconst 1, 1) := by decide +kernel
theorem dX9_addGroup_57 : decode cX9_addGroup 57 = .ok (.iadd, 1) := by decide +kernel
theorem dX9_addGroup_58 : decode cX9_addGroup 58 = .ok (.putfield 81, 3) := by decide +kernel
theorem dX9_addGroup_61 : decode cX9_addGroup 61 = .ok (.aload_n 0, 1) := by decide +kernel
theorem dX9_addGroup_62 : decode cX9_addGroup 62 = .ok (.getfield 81, 3) := by decide +kernel
theorem dX9_addGroup_65 : decode cX9_addGroup 65 = .ok (.iconst 1, 1) := by decide +kernel
theorem dX9_addGroup_66 : decode cX9_addGroup 66 = .ok (.isub, 1) := by decide +kernel
theorem dX9_addGroup_67 : decode cX9_addGroup 67 = .ok (.ireturn, 1) := by decide +kernel
theorem dX9_addLesson_0 : decode cX9_addLesson 0 = .ok (.aload_n 0, 1) := by decide +kernel
theorem dX9_addLesson_1 : decode cX9_addLesson 1 = .ok (.aload_n 0, 1) := by decide +kernel
theorem dX9_addLesson_2 : decode cX9_addLesson 2 = .ok (.iload_n 1, 1) := by decide +kernel
theorem dX9_addLesson_3 : decode cX9_addLesson 3 = .ok (.invokevirtual 100, 3) := by decide +kernel
theorem dX9_addLesson_6 : decode cX9_addLesson 6 = .ok (.ifCond .eq 11, 3) := by decide +kernel
theorem dX9_addLesson_9 : decode cX9_addLesson 9 = .ok (.aload_n 0, 1) := by decide +kernel
theorem dX9_addLesson_10 : decode cX9_addLesson 10 = .ok (.iload_n 2, 1) := by decide +kernel
theorem dX9_addLesson_11 : decode cX9_addLesson 11 = .ok (.invokevirtual 104, 3) := by decide +kernel
theorem dX9_addLesson_14 : decode cX9_addLesson 14 = .ok (.ifCond .ne 7, 3) := by decide +kernel
theorem dX9_addLesson_17 : decode cX9_addLesson 17 = .ok (.iconst 1, 1) := by decide +kernel
theorem dX9_addLesson_18 : decode cX9_addLesson 18 = .ok (.goto 51, 3) := by decide +kernel
theorem dX9_addLesson_21 : decode cX9_addLesson 21 = .ok (.iload_n 3, 1) := by decide +kernel
theorem dX9_addLesson_22 : decode cX9_addLesson 22 = .ok (.iconst 0, 1) := by decide +kernel
theorem dX9_addLesson_23 : decode cX9_addLesson 23 = .ok (.iconst 3, 1) := by decide +kernel
theorem dX9_addLesson_24 : decode cX9_addLesson 24 = .ok (.invokestatic 96, 3) := by decide +kernel
theorem dX9_addLesson_27 : decode cX9_addLesson 27 = .ok (.ifCond .eq 24, 3) := by decide +kernel
theorem dX9_addLesson_30 : decode cX9_addLesson 30 = .ok (.iload 4, 2) := by decide +kernel
theorem dX9_addLesson_32 : decode cX9_addLesson 32 = .ok (.iconst 1, 1) := by decide +kernel
theorem dX9_addLesson_33 : decode cX9_addLesson 33 = .ok (.iconst 3, 1) := by decide +kernel
theorem dX9_addLesson_34 : decode cX9_addLesson 34 = .ok (.invokestatic 96, 3) := by decide +kernel
theorem dX9_addLesson_37 : decode cX9_addLesson 37 = .ok (.ifCond .eq 14, 3) := by decide +kernel
theorem dX9_addLesson_40 : decode cX9_addLesson 40 = .ok (.iload 5, 2) := by decide +kernel
theorem dX9_addLesson_42 : decode cX9_addLesson 42 = .ok (.iconst 0, 1) := by decide +kernel
theorem dX9_addLesson_43 : decode cX9_addLesson 43 = .ok (.bipush 9, 2) := by decide +kernel
theorem dX9_addLesson_45 : decode cX9_addLesson 45 = .ok (.invokestatic 96, 3) := by decide +kernel
theorem dX9_addLesson_48 : decode cX9_addLesson 48 = .ok (.ifCond .ne 7, 3) := by decide +kernel
theorem dX9_addLesson_51 : decode cX9_addLesson 51 = .ok (.iconst 2, 1) := by decide +kernel
theorem dX9_addLesson_52 : decode cX9_addLesson 52 = .ok (.goto 17, 3) := by decide +kernel
theorem dX9_addLesson_55 : decode cX9_addLesson 55 = .ok (.aload_n 0, 1) := by decide +kernel
theorem dX9_addLesson_56 : decode cX9_addLesson 56 = .ok (.getfield 84, 3) := by decide +kernel
theorem dX9_addLesson_59 : decode cX9_addLesson 59 = .ok (.bipush 16, 2) := by decide +kernel
theorem dX9_addLesson_61 : decode cX9_addLesson 61 = .ok (.if_icmp .ne 7, 3) := by decide +kernel
theorem dX9_addLesson_64 : decode cX9_addLesson 64 = .ok (.iconst 3, 1) := by decide +kernel
theorem dX9_addLesson_65 : decode cX9_addLesson 65 = .ok (.goto 4, 3) := by decide +kernel
theorem dX9_addLesson_68 : decode cX9_addLesson 68 = .ok (.iconst 0, 1) := by decide +kernel
theorem dX9_addLesson_69 : decode cX9_addLesson 69 = .ok (.putfield 71, 3) := by decide +kernel
theorem dX9_addLesson_72 : decode cX9_addLesson 72 = .ok (.aload_n 0, 1) := by decide +kernel
theorem dX9_addLesson_73 : decode cX9_addLesson 73 = .ok (.getfield 71, 3) := by decide +kernel
theorem dX9_addLesson_76 : decode cX9_addLesson 76 = .ok (.ifCond .le 5, 3) := by decide +kernel
theorem dX9_addLesson_79 : decode cX9_addLesson 79 = .ok (.iconst 0, 1) := by decide +kernel
theorem dX9_addLesson_80 : decode cX9_addLesson 80 = .ok (.ireturn, 1) := by decide +kernel
theorem dX9_addLesson_81 : decode cX9_addLesson 81 = .ok (.aload_n 0, 1) := by decide +kernel
theorem dX9_addLesson_82 : decode cX9_addLesson 82 = .ok (.getfield 38, 3) := by decide +kernel
theorem dX9_addLesson_85 : decode cX9_addLesson 85 = .ok (.aload_n 0, 1) := by decide +kernel
theorem dX9_addLesson_86 : decode cX9_addLesson 86 = .ok (.getfield 84, 3) := by decide +kernel
theorem dX9_addLesson_89 : decode cX9_addLesson 89 = .ok (.iload_n 1, 1) := by decide +kernel
theorem dX9_addLesson_90 : decode cX9_addLesson 90 = .ok (.iastore, 1) := by decide +kernel
theorem dX9_addLesson_91 : decode cX9_addLesson 91 = .ok (.aload_n 0, 1) := by decide +kernel
theorem dX9_addLesson_92 : decode cX9_addLesson 92 = .ok (.getfield 41, 3) := by decide +kernel
theorem dX9_addLesson_95 : decode cX9_addLesson 95 = .ok (.aload_n 0, 1) := by decide +kernel
theorem dX9_addLesson_96 : decode cX9_addLesson 96 = .ok (.getfield 84, 3) := by decide +kernel
theorem dX9_addLesson_99 : decode cX9_addLesson 99 = .ok (.iload_n 2, 1) := by decide +kernel
theorem dX9_addLesson_100 : decode cX9_addLesson 100 = .ok (.iastore, 1) := by decide +kernel
theorem dX9_addLesson_101 : decode cX9_addLesson 101 = .ok (.aload_n 0, 1) := by decide +kernel
theorem dX9_addLesson_102 : decode cX9_addLesson 102 = .ok (.getfield 44, 3) := by decide +kernel
theorem dX9_addLesson_105 : decode cX9_addLesson 105 = .ok (.aload_n 0, 1) := by decide +kernel
theorem dX9_addLesson_106 : decode cX9_addLesson 106 = .ok (.getfield 84, 3) := by decide +kernel
theorem dX9_addLesson_109 : decode cX9_addLesson 109 = .ok (.iload_n 3, 1) := by decide +kernel
theorem dX9_addLesson_110 : decode cX9_addLesson 110 = .ok (.iastore, 1) := by decide +kernel
theorem dX9_addLesson_111 : decode cX9_addLesson 111 = .ok (.aload_n 0, 1) := by decide +kernel
theorem dX9_addLesson_112 : decode cX9_addLesson 112 = .ok (.getfield 47, 3) := by decide +kernel
theorem dX9_addLesson_115 : decode cX9_addLesson 115 = .ok (.aload_n 0, 1) := by decide +kernel
theorem dX9_addLesson_116 : decode cX9_addLesson 116 = .ok (.getfield 84, 3) := by decide +kernel
theorem dX9_addLesson_119 : decode cX9_addLesson 119 = .ok (.iload 4, 2) := by decide +kernel
theorem dX9_addLesson_121 : decode cX9_addLesson 121 = .ok (.iastore, 1) := by decide +kernel
theorem dX9_addLesson_122 : decode cX9_addLesson 122 = .ok (.aload_n 0, 1) := by decide +kernel
theorem dX9_addLesson_123 : decode cX9_addLesson 123 = .ok (.getfield 50, 3) := by decide +kernel
theorem dX9_addLesson_126 : decode cX9_addLesson 126 = .ok (.aload_n 0, 1) := by decide +kernel
theorem dX9_addLesson_127 : decode cX9_addLesson 127 = .ok (.getfield 84, 3) := by decide +kernel
theorem dX9_addLesson_130 : decode cX9_addLesson 130 = .ok (.iload 5, 2) := by decide +kernel
theorem dX9_addLesson_132 : decode cX9_addLesson 132 = .ok (.iastore, 1) := by decide +kernel
theorem dX9_addLesson_133 : decode cX9_addLesson 133 = .ok (.aload_n 0, 1) := by decide +kernel
theorem dX9_addLesson_134 : decode cX9_addLesson 134 = .ok (.getfield 53, 3) := by decide +kernel
theorem dX9_addLesson_137 : decode cX9_addLesson 137 = .ok (.aload_n 0, 1) := by decide +kernel
theorem dX9_addLesson_138 : decode cX9_addLesson 138 = .ok (.getfield 84, 3) := by decide +kernel
theorem dX9_addLesson_141 : decode cX9_addLesson 141 = .ok (.iconst (-1), 1) := by decide +kernel
theorem dX9_addLesson_142 : decode cX9_addLesson 142 = .ok (.iastore, 1) := by decide +kernel
theorem dX9_addLesson_143 : decode cX9_addLesson 143 = .ok (.aload_n 0, 1) := by decide +kernel
theorem dX9_addLesson_144 : decode cX9_addLesson 144 = .ok (.dup, 1) := by decide +kernel
theorem dX9_addLesson_145 : decode cX9_addLesson 145 = .ok (.getfield 84, 3) := by decide +kernel
theorem dX9_addLesson_148 : decode cX9_addLesson 148 = .ok (.iconst 1, 1) := by decide +kernel
theorem dX9_addLesson_149 : decode cX9_addLesson 149 = .ok (.iadd, 1) := by decide +kernel
theorem dX9_addLesson_150 : decode cX9_addLesson 150 = .ok (.putfield 84, 3) := by decide +kernel
theorem dX9_addLesson_153 : decode cX9_addLesson 153 = .ok (.aload_n 0, 1) := by decide +kernel
theorem dX9_addLesson_154 : decode cX9_addLesson 154 = .ok (.getfield 84, 3) := by decide +kernel
theorem dX9_addLesson_157 : decode cX9_addLesson 157 = .ok (.iconst 1, 1) := by decide +kernel
theorem dX9_addLesson_158 : decode cX9_addLesson 158 = .ok (.isub, 1) := by decide +kernel
theorem dX9_addLesson_159 : decode cX9_addLesson 159 = .ok (.ireturn, 1) := by decide +kernel
theorem dX9_setWish_0 : decode cX9_setWish 0 = .ok (.aload_n 0, 1) := by decide +kernel
theorem dX9_setWish_1 : decode cX9_setWish 1 = .ok (.aload_n 0, 1) := by decide +kernel
theorem dX9_setWish_2 : decode cX9_setWish 2 = .ok (.iload_n 1, 1) := by decide +kernel
theorem dX9_setWish_3 : decode cX9_setWish 3 = .ok (.invokevirtual 104, 3) := by decide +kernel
theorem dX9_setWish_6 : decode cX9_setWish 6 = .ok (.ifCond .ne 7, 3) := by decide +kernel
theorem dX9_setWish_9 : decode cX9_setWish 9 = .ok (.iconst 1, 1) := by decide +kernel
theorem dX9_setWish_10 : decode cX9_setWish 10 = .ok (.goto 25, 3) := by decide +kernel
theorem dX9_setWish_13 : decode cX9_setWish 13 = .ok (.iload_n 2, 1) := by decide +kernel
theorem dX9_setWish_14 : decode cX9_setWish 14 = .ok (.invokestatic 107, 3) := by decide +kernel
theorem dX9_setWish_17 : decode cX9_setWish 17 = .ok (.ifCond .eq 13, 3) := by decide +kernel
theorem dX9_setWish_20 : decode cX9_setWish 20 = .ok (.iload_n 3, 1) := by decide +kernel
theorem dX9_setWish_21 : decode cX9_setWish 21 = .ok (.iconst 0, 1) := by decide +kernel
theorem dX9_setWish_22 : decode cX9_setWish 22 = .ok (.bipush 9, 2) := by decide +kernel
theorem dX9_setWish_24 : decode cX9_setWish 24 = .ok (.invokestatic 96, 3) := by decide +kernel
theorem dX9_setWish_27 : decode cX9_setWish 27 = .ok (.ifCond .ne 7, 3) := by decide +kernel
theorem dX9_setWish_30 : decode cX9_setWish 30 = .ok (.iconst 2, 1) := by decide +kernel
theorem dX9_setWish_31 : decode cX9_setWish 31 = .ok (.goto 4, 3) := by decide +kernel
theorem dX9_setWish_34 : decode cX9_setWish 34 = .ok (.iconst 0, 1) := by decide +kernel
theorem dX9_setWish_35 : decode cX9_setWish 35 = .ok (.putfield 71, 3) := by decide +kernel
theorem dX9_setWish_38 : decode cX9_setWish 38 = .ok (.aload_n 0, 1) := by decide +kernel
theorem dX9_setWish_39 : decode cX9_setWish 39 = .ok (.getfield 71, 3) := by decide +kernel
theorem dX9_setWish_42 : decode cX9_setWish 42 = .ok (.ifCond .le 5, 3) := by decide +kernel
theorem dX9_setWish_45 : decode cX9_setWish 45 = .ok (.iconst 0, 1) := by decide +kernel
theorem dX9_setWish_46 : decode cX9_setWish 46 = .ok (.ireturn, 1) := by decide +kernel
theorem dX9_setWish_47 : decode cX9_setWish 47 = .ok (.aload_n 0, 1) := by decide +kernel
theorem dX9_setWish_48 : decode cX9_setWish 48 = .ok (.getfield 28, 3) := by decide +kernel
theorem dX9_setWish_51 : decode cX9_setWish 51 = .ok (.bipush 30, 2) := by decide +kernel
theorem dX9_setWish_53 : decode cX9_setWish 53 = .ok (.iload_n 1, 1) := by decide +kernel
theorem dX9_setWish_54 : decode cX9_setWish 54 = .ok (.imul, 1) := by decide +kernel
theorem dX9_setWish_55 : decode cX9_setWish 55 = .ok (.iload_n 2, 1) := by decide +kernel
theorem dX9_setWish_56 : decode cX9_setWish 56 = .ok (.iadd, 1) := by decide +kernel
theorem dX9_setWish_57 : decode cX9_setWish 57 = .ok (.iaload, 1) := by decide +kernel
theorem dX9_setWish_58 : decode cX9_setWish 58 = .ok (.istore 4, 2) := by decide +kernel
theorem dX9_setWish_60 : decode cX9_setWish 60 = .ok (.aload_n 0, 1) := by decide +kernel
theorem dX9_setWish_61 : decode cX9_setWish 61 = .ok (.getfield 28, 3) := by decide +kernel
theorem dX9_setWish_64 : decode cX9_setWish 64 = .ok (.bipush 30, 2) := by decide +kernel
theorem dX9_setWish_66 : decode cX9_setWish 66 = .ok (.iload_n 1, 1) := by decide +kernel
theorem dX9_setWish_67 : decode cX9_setWish 67 = .ok (.imul, 1) := by decide +kernel
theorem dX9_setWish_68 : decode cX9_setWish 68 = .ok (.iload_n 2, 1) := by decide +kernel
theorem dX9_setWish_69 : decode cX9_setWish 69 = .ok (.iadd, 1) := by decide +kernel
theorem dX9_setWish_70 : decode cX9_setWish 70 = .ok (.iload_n 3, 1) := by decide +kernel
theorem dX9_setWish_71 : decode cX9_setWish 71 = .ok (.iastore, 1) := by decide +kernel
theorem dX9_setWish_72 : decode cX9_setWish 72 = .ok (.iload 4, 2) := by decide +kernel
theorem dX9_setWish_74 : decode cX9_setWish 74 = .ok (.ireturn, 1) := by decide +kernel
theorem dX9_setWeight_0 : decode cX9_setWeight 0 = .ok (.aload_n 0, 1) := by decide +kernel
theorem dX9_setWeight_1 : decode cX9_setWeight 1 = .ok (.iload_n 1, 1) := by decide +kernel
theorem dX9_setWeight_2 : decode cX9_setWeight 2 = .ok (.iconst 0, 1) := by decide +kernel
theorem dX9_setWeight_3 : decode cX9_setWeight 3 = .ok (.iconst 3, 1) := by decide +kernel
theorem dX9_setWeight_4 : decode cX9_setWeight 4 = .ok (.invokestatic 96, 3) := by decide +kernel
theorem dX9_setWeight_7 : decode cX9_setWeight 7 = .ok (.ifCond .eq 17, 3) := by decide +kernel
theorem dX9_setWeight_10 : decode cX9_setWeight 10 = .ok (.iload_n 2, 1) := by decide +kernel
theorem dX9_setWeight_11 : decode cX9_setWeight 11 = .ok (.iconst 0, 1) := by decide +kernel
theorem dX9_setWeight_12 : decode cX9_setWeight 12 = .ok (.bipush 9, 2) := by decide +kernel
theorem dX9_setWeight_14 : decode cX9_setWeight 14 = .ok (.invokestatic 96, 3) := by decide +kernel
theorem dX9_setWeight_17 : decode cX9_setWeight 17 = .ok (.ifCond .eq 7, 3) := by decide +kernel
theorem dX9_setWeight_20 : decode cX9_setWeight 20 = .ok (.iconst 1, 1) := by decide +kernel
theorem dX9_setWeight_21 : decode cX9_setWeight 21 = .ok (.goto 4, 3) := by decide +kernel
theorem dX9_setWeight_24 : decode cX9_setWeight 24 = .ok (.iconst 0, 1) := by decide +kernel
theorem dX9_setWeight_25 : decode cX9_setWeight 25 = .ok (.invokevirtual 110, 3) := by decide +kernel
theorem dX9_setWeight_28 : decode cX9_setWeight 28 = .ok (.ifCond .le 5, 3) := by decide +kernel
theorem dX9_setWeight_31 : decode cX9_setWeight 31 = .ok (.iconst 0, 1) := by decide +kernel
theorem dX9_setWeight_32 : decode cX9_setWeight 32 = .ok (.ireturn, 1) := by decide +kernel
theorem dX9_setWeight_33 : decode cX9_setWeight 33 = .ok (.aload_n 0, 1) := by decide +kernel
theorem dX9_setWeight_34 : decode cX9_setWeight 34 = .ok (.getfield 56, 3) := by decide +kernel
theorem dX9_setWeight_37 : decode cX9_setWeight 37 = .ok (.iload_n 1, 1) := by decide +kernel
theorem dX9_setWeight_38 : decode cX9_setWeight 38 = .ok (.iaload, 1) := by decide +kernel
theorem dX9_setWeight_39 : decode cX9_setWeight 39 = .ok (.istore_n 3, 1) := by decide +kernel
theorem dX9_setWeight_40 : decode cX9_setWeight 40 = .ok (.aload_n 0, 1) := by decide +kernel
theorem dX9_setWeight_41 : decode cX9_setWeight 41 = .ok (.getfield 56, 3) := by decide +kernel
theorem dX9_setWeight_44 : decode cX9_setWeight 44 = .ok (.iload_n 1, 1) := by decide +kernel
theorem dX9_setWeight_45 : decode cX9_setWeight 45 = .ok (.iload_n 2, 1) := by decide +kernel
theorem dX9_setWeight_46 : decode cX9_setWeight 46 = .ok (.iastore, 1) := by decide +kernel
theorem dX9_setWeight_47 : decode cX9_setWeight 47 = .ok (.iload_n 3, 1) := by decide +kernel
theorem dX9_setWeight_48 : decode cX9_setWeight 48 = .ok (.ireturn, 1) := by decide +kernel
theorem dX9_slotOf_0 : decode cX9_slotOf 0 = .ok (.aload_n 0, 1) := by decide +kernel
theorem dX9_slotOf_1 : decode cX9_slotOf 1 = .ok (.getfield 53, 3) := by decide +kernel
theorem dX9_slotOf_4 : decode cX9_slotOf 4 = .ok (.iload_n 1, 1) := by decide +kernel
theorem dX9_slotOf_5 : decode cX9_slotOf 5 = .ok (.iaload, 1) := by decide +kernel
theorem dX9_slotOf_6 : decode cX9_slotOf 6 = .ok (.bipush 8, 2) := by decide +kernel
theorem dX9_slotOf_8 : decode cX9_slotOf 8 = .ok (.idiv, 1) := by decide +kernel
theorem dX9_slotOf_9 : decode cX9_slotOf 9 = .ok (.ireturn, 1) := by decide +kernel
theorem dX9_endOf_0 : decode cX9_endOf 0 = .ok (.aload_n 0, 1) := by decide +kernel
theorem dX9_endOf_1 : decode cX9_endOf 1 = .ok (.iload_n 1, 1) := by decide +kernel
theorem dX9_endOf_2 : decode cX9_endOf 2 = .ok (.invokevirtual 114, 3) := by decide +kernel
theorem dX9_endOf_5 : decode cX9_endOf 5 = .ok (.aload_n 0, 1) := by decide +kernel
theorem dX9_endOf_6 : decode cX9_endOf 6 = .ok (.getfield 47, 3) := by decide +kernel
theorem dX9_endOf_9 : decode cX9_endOf 9 = .ok (.iload_n 1, 1) := by decide +kernel
theorem dX9_endOf_10 : decode cX9_endOf 10 = .ok (.iaload, 1) := by decide +kernel
theorem dX9_endOf_11 : decode cX9_endOf 11 = .ok (.iadd, 1) := by decide +kernel
theorem dX9_endOf_12 : decode cX9_endOf 12 = .ok (.ireturn, 1) := by decide +kernel
theorem dX9_isPlaced_0 : decode cX9_isPlaced 0 = .ok (.aload_n 0, 1) := by decide +kernel
theorem dX9_isPlaced_1 : decode cX9_isPlaced 1 = .ok (.getfield 53, 3) := by decide +kernel
theorem dX9_isPlaced_4 : decode cX9_isPlaced 4 = .ok (.iload_n 1, 1) := by decide +kernel
theorem dX9_isPlaced_5 : decode cX9_isPlaced 5 = .ok (.iaload, 1) := by decide +kernel
theorem dX9_isPlaced_6 : decode cX9_isPlaced 6 = .ok (.ifCond .lt 7, 3) := by decide +kernel
theorem dX9_isPlaced_9 : decode cX9_isPlaced 9 = .ok (.iconst 1, 1) := by decide +kernel
theorem dX9_isPlaced_10 : decode cX9_isPlaced 10 = .ok (.goto 4, 3) := by decide +kernel
theorem dX9_isPlaced_13 : decode cX9_isPlaced 13 = .ok (.iconst 0, 1) := by decide +kernel
theorem dX9_isPlaced_14 : decode cX9_isPlaced 14 = .ok (.ireturn, 1) := by decide +kernel
theorem dX9_isPast_0 : decode cX9_isPast 0 = .ok (.aload_n 0, 1) := by decide +kernel
theorem dX9_isPast_1 : decode cX9_isPast 1 = .ok (.iload_n 1, 1) := by decide +kernel
theorem dX9_isPast_2 : decode cX9_isPast 2 = .ok (.invokevirtual 118, 3) := by decide +kernel
theorem dX9_isPast_5 : decode cX9_isPast 5 = .ok (.ifCond .eq 22, 3) := by decide +kernel
theorem dX9_isPast_8 : decode cX9_isPast 8 = .ok (.aload_n 0, 1) := by decide +kernel
theorem dX9_isPast_9 : decode cX9_isPast 9 = .ok (.iload_n 1, 1) := by decide +kernel
theorem dX9_isPast_10 : decode cX9_isPast 10 = .ok (.invokevirtual 114, 3) := by decide +kernel
theorem dX9_isPast_13 : decode cX9_isPast 13 = .ok (.bipush 6, 2) := by decide +kernel
theorem dX9_isPast_15 : decode cX9_isPast 15 = .ok (.idiv, 1) := by decide +kernel
theorem dX9_isPast_16 : decode cX9_isPast 16 = .ok (.aload_n 0, 1) := by decide +kernel
theorem dX9_isPast_17 : decode cX9_isPast 17 = .ok (.getfield 90, 3) := by decide +kernel
theorem dX9_isPast_20 : decode cX9_isPast 20 = .ok (.if_icmp .ge 7, 3) := by decide +kernel
theorem dX9_isPast_23 : decode cX9_isPast 23 = .ok (.iconst 1, 1) := by decide +kernel
theorem dX9_isPast_24 : decode cX9_isPast 24 = .ok (.goto 4, 3) := by decide +kernel
theorem dX9_isPast_27 : decode cX9_isPast 27 = .ok (.iconst 0, 1) := by decide +kernel
theorem dX9_isPast_28 : decode cX9_isPast 28 = .ok (.ireturn, 1) := by decide +kernel
theorem dX9_endFrom_0 : decode cX9_endFrom 0 = .ok (.iload_n 2, 1) := by decide +kernel
theorem dX9_endFrom_1 : decode cX9_endFrom 1 = .ok (.aload_n 0, 1) := by decide +kernel
theorem dX9_endFrom_2 : decode cX9_endFrom 2 = .ok (.getfield 47, 3) := by decide +kernel
theorem dX9_endFrom_5 : decode cX9_endFrom 5 = .ok (.iload_n 1, 1) := by decide +kernel
theorem dX9_endFrom_6 : decode cX9_endFrom 6 = .ok (.iaload, 1) := by decide +kernel
theorem dX9_endFrom_7 : decode cX9_endFrom 7 = .ok (.iadd, 1) := by decide +kernel
theorem dX9_endFrom_8 : decode cX9_endFrom 8 = .ok (.istore_n 3, 1) := by decide +kernel
theorem dX9_endFrom_9 : decode cX9_endFrom 9 = .ok (.bipush 6, 2) := by decide +kernel
theorem dX9_endFrom_11 : decode cX9_endFrom 11 = .ok (.iload_n 2, 1) := by decide +kernel
theorem dX9_endFrom_12 : decode cX9_endFrom 12 = .ok (.bipush 6, 2) := by decide +kernel
theorem dX9_endFrom_14 : decode cX9_endFrom 14 = .ok (.idiv, 1) := by decide +kernel
theorem dX9_endFrom_15 : decode cX9_endFrom 15 = .ok (.imul, 1) := by decide +kernel
theorem dX9_endFrom_16 : decode cX9_endFrom 16 = .ok (.bipush 6, 2) := by decide +kernel
theorem dX9_endFrom_18 : decode cX9_endFrom 18 = .ok (.iadd, 1) := by decide +kernel
theorem dX9_endFrom_19 : decode cX9_endFrom 19 = .ok (.istore 4, 2) := by decide +kernel
theorem dX9_endFrom_21 : decode cX9_endFrom 21 = .ok (.iload_n 3, 1) := by decide +kernel
theorem dX9_endFrom_22 : decode cX9_endFrom 22 = .ok (.iload 4, 2) := by decide +kernel
theorem dX9_endFrom_24 : decode cX9_endFrom 24 = .ok (.if_icmp .ge 7, 3) := by decide +kernel
theorem dX9_endFrom_27 : decode cX9_endFrom 27 = .ok (.iload_n 3, 1) := by decide +kernel
theorem dX9_endFrom_28 : decode cX9_endFrom 28 = .ok (.goto 5, 3) := by decide +kernel
theorem dX9_endFrom_31 : decode cX9_endFrom 31 = .ok (.iload 4, 2) := by decide +kernel
theorem dX9_endFrom_33 : decode cX9_endFrom 33 = .ok (.ireturn, 1) := by decide +kernel
theorem dX9_meets_0 : decode cX9_meets 0 = .ok (.aload_n 0, 1) := by decide +kernel
theorem dX9_meets_1 : decode cX9_meets 1 = .ok (.iload_n 1, 1) := by decide +kernel
theorem dX9_meets_2 : decode cX9_meets 2 = .ok (.invokevirtual 114, 3) := by decide +kernel
theorem dX9_meets_5 : decode cX9_meets 5 = .ok (.iload_n 3, 1) := by decide +kernel
theorem dX9_meets_6 : decode cX9_meets 6 = .ok (.if_icmp .ge 16, 3) := by decide +kernel
theorem dX9_meets_9 : decode cX9_meets 9 = .ok (.iload_n 2, 1) := by decide +kernel
theorem dX9_meets_10 : decode cX9_meets 10 = .ok (.aload_n 0, 1) := by decide +kernel
theorem dX9_meets_11 : decode cX9_meets 11 = .ok (.iload_n 1, 1) := by decide +kernel
theorem dX9_meets_12 : decode cX9_meets 12 = .ok (.invokevirtual 121, 3) := by decide +kernel
theorem dX9_meets_15 : decode cX9_meets 15 = .ok (.if_icmp .ge 7, 3) := by decide +kernel
theorem dX9_meets_18 : decode cX9_meets 18 = .ok (.iconst 1, 1) := by decide +kernel
theorem dX9_meets_19 : decode cX9_meets 19 = .ok (.goto 4, 3) := by decide +kernel
theorem dX9_meets_22 : decode cX9_meets 22 = .ok (.iconst 0, 1) := by decide +kernel
theorem dX9_meets_23 : decode cX9_meets 23 = .ok (.ireturn, 1) := by decide +kernel
theorem dX9_touches_0 : decode cX9_touches 0 = .ok (.aload_n 0, 1) := by decide +kernel
theorem dX9_touches_1 : decode cX9_touches 1 = .ok (.iload_n 1, 1) := by decide +kernel
theorem dX9_touches_2 : decode cX9_touches 2 = .ok (.invokevirtual 114, 3) := by decide +kernel
theorem dX9_touches_5 : decode cX9_touches 5 = .ok (.bipush 6, 2) := by decide +kernel
theorem dX9_touches_7 : decode cX9_touches 7 = .ok (.idiv, 1) := by decide +kernel
theorem dX9_touches_8 : decode cX9_touches 8 = .ok (.iload_n 2, 1) := by decide +kernel
theorem dX9_touches_9 : decode cX9_touches 9 = .ok (.bipush 6, 2) := by decide +kernel
theorem dX9_touches_11 : decode cX9_touches 11 = .ok (.idiv, 1) := by decide +kernel
theorem dX9_touches_12 : decode cX9_touches 12 = .ok (.if_icmp .eq 5, 3) := by decide +kernel
theorem dX9_touches_15 : decode cX9_touches 15 = .ok (.iconst 0, 1) := by decide +kernel
theorem dX9_touches_16 : decode cX9_touches 16 = .ok (.ireturn, 1) := by decide +kernel
theorem dX9_touches_17 : decode cX9_touches 17 = .ok (.aload_n 0, 1) := by decide +kernel
theorem dX9_touches_18 : decode cX9_touches 18 = .ok (.iload_n 1, 1) := by decide +kernel
theorem dX9_touches_19 : decode cX9_touches 19 = .ok (.invokevirtual 121, 3) := by decide +kernel
theorem dX9_touches_22 : decode cX9_touches 22 = .ok (.iload_n 2, 1) := by decide +kernel
theorem dX9_touches_23 : decode cX9_touches 23 = .ok (.if_icmp .eq 12, 3) := by decide +kernel
theorem dX9_touches_26 : decode cX9_touches 26 = .ok (.aload_n 0, 1) := by decide +kernel
theorem dX9_touches_27 : decode cX9_touches 27 = .ok (.iload_n 1, 1) := by decide +kernel
theorem dX9_touches_28 : decode cX9_touches 28 = .ok (.invokevirtual 114, 3) := by decide +kernel
theorem dX9_touches_31 : decode cX9_touches 31 = .ok (.iload_n 3, 1) := by decide +kernel
theorem dX9_touches_32 : decode cX9_touches 32 = .ok (.if_icmp .ne 7, 3) := by decide +kernel
theorem dX9_touches_35 : decode cX9_touches 35 = .ok (.iconst 1, 1) := by decide +kernel
theorem dX9_touches_36 : decode cX9_touches 36 = .ok (.goto 4, 3) := by decide +kernel
theorem dX9_touches_39 : decode cX9_touches 39 = .ok (.iconst 0, 1) := by decide +kernel
theorem dX9_touches_40 : decode cX9_touches 40 = .ok (.ireturn, 1) := by decide +kernel
theorem dX9_lettersBy_0 : decode cX9_lettersBy 0 = .ok (.iload_n 1, 1) := by decide +kernel
theorem dX9_lettersBy_1 : decode cX9_lettersBy 1 = .ok (.iload_n 2, 1) := by decide +kernel
theorem dX9_lettersBy_2 : decode cX9_lettersBy 2 = .ok (.if_icmp .eq 11, 3) := by decide +kernel
theorem dX9_lettersBy_5 : decode cX9_lettersBy 5 = .ok (.aload_n 0, 1) := by decide +kernel
theorem dX9_lettersBy_6 : decode cX9_lettersBy 6 = .ok (.iload_n 1, 1) := by decide +kernel
theorem dX9_lettersBy_7 : decode cX9_lettersBy 7 = .ok (.invokevirtual 118, 3) := by decide +kernel
theorem dX9_lettersBy_10 : decode cX9_lettersBy 10 = .ok (.ifCond .ne 5, 3) := by decide +kernel
theorem dX9_lettersBy_13 : decode cX9_lettersBy 13 = .ok (.iconst 0, 1) := by decide +kernel
theorem dX9_lettersBy_14 : decode cX9_lettersBy 14 = .ok (.ireturn, 1) := by decide +kernel
theorem dX9_lettersBy_15 : decode cX9_lettersBy 15 = .ok (.aload_n 0, 1) := by decide +kernel
theorem dX9_lettersBy_16 : decode cX9_lettersBy 16 = .ok (.iload_n 2, 1) := by decide +kernel
theorem dX9_lettersBy_17 : decode cX9_lettersBy 17 = .ok (.iload_n 3, 1) := by decide +kernel
theorem dX9_lettersBy_18 : decode cX9_lettersBy 18 = .ok (.invokevirtual 124, 3) := by decide +kernel
theorem dX9_lettersBy_21 : decode cX9_lettersBy 21 = .ok (.istore 5, 2) := by decide +kernel
theorem dX9_lettersBy_23 : decode cX9_lettersBy 23 = .ok (.aload_n 0, 1) := by decide +kernel
theorem dX9_lettersBy_24 : decode cX9_lettersBy 24 = .ok (.iload_n 1, 1) := by decide +kernel
theorem dX9_lettersBy_25 : decode cX9_lettersBy 25 = .ok (.iload_n 3, 1) := by decide +kernel
theorem dX9_lettersBy_26 : decode cX9_lettersBy 26 = .ok (.iload 5, 2) := by decide +kernel
theorem dX9_lettersBy_28 : decode cX9_lettersBy 28 = .ok (.invokevirtual 128, 3) := by decide +kernel
theorem dX9_lettersBy_31 : decode cX9_lettersBy 31 = .ok (.istore 6, 2) := by decide +kernel
theorem dX9_lettersBy_33 : decode cX9_lettersBy 33 = .ok (.aload_n 0, 1) := by decide +kernel
theorem dX9_lettersBy_34 : decode cX9_lettersBy 34 = .ok (.getfield 41, 3) := by decide +kernel
theorem dX9_lettersBy_37 : decode cX9_lettersBy 37 = .ok (.iload_n 1, 1) := by decide +kernel
theorem dX9_lettersBy_38 : decode cX9_lettersBy 38 = .ok (.iaload, 1) := by decide +kernel
theorem dX9_lettersBy_39 : decode cX9_lettersBy 39 = .ok (.aload_n 0, 1) := by decide +kernel
theorem dX9_lettersBy_40 : decode cX9_lettersBy 40 = .ok (.getfield 41, 3) := by decide +kernel
theorem dX9_lettersBy_43 : decode cX9_lettersBy 43 = .ok (.iload_n 2, 1) := by decide +kernel
theorem dX9_lettersBy_44 : decode cX9_lettersBy 44 = .ok (.iaload, 1) := by decide +kernel
theorem dX9_lettersBy_45 : decode cX9_lettersBy 45 = .ok (.if_icmp .eq 18, 3) := by decide +kernel
theorem dX9_lettersBy_48 : decode cX9_lettersBy 48 = .ok (.aload_n 0, 1) := by decide +kernel
theorem dX9_lettersBy_49 : decode cX9_lettersBy 49 = .ok (.getfield 38, 3) := by decide +kernel
theorem dX9_lettersBy_52 : decode cX9_lettersBy 52 = .ok (.iload_n 1, 1) := by decide +kernel
theorem dX9_lettersBy_53 : decode cX9_lettersBy 53 = .ok (.iaload, 1) := by decide +kernel
theorem dX9_lettersBy_54 : decode cX9_lettersBy 54 = .ok (.aload_n 0, 1) := by decide +kernel
theorem dX9_lettersBy_55 : decode cX9_lettersBy 55 = .ok (.getfield 38, 3) := by decide +kernel
theorem dX9_lettersBy_58 : decode cX9_lettersBy 58 = .ok (.iload_n 2, 1) := by decide +kernel
theorem dX9_lettersBy_59 : decode cX9_lettersBy 59 = .ok (.iaload, 1) := by decide +kernel
theorem dX9_lettersBy_60 : decode cX9_lettersBy 60 = .ok (.if_icmp .ne 7, 3) := by decide +kernel
theorem dX9_lettersBy_63 : decode cX9_lettersBy 63 = .ok (.iconst 1, 1) := by decide +kernel
theorem dX9_lettersBy_64 : decode cX9_lettersBy 64 = .ok (.goto 4, 3) := by decide +kernel
theorem dX9_lettersBy_67 : decode cX9_lettersBy 67 = .ok (.iconst 0, 1) := by decide +kernel
theorem dX9_lettersBy_68 : decode cX9_lettersBy 68 = .ok (.istore 7, 2) := by decide +kernel
theorem dX9_lettersBy_70 : decode cX9_lettersBy 70 = .ok (.iload 6, 2) := by decide +kernel
theorem dX9_lettersBy_72 : decode cX9_lettersBy 72 = .ok (.ifCond .eq 22, 3) := by decide +kernel
theorem dX9_lettersBy_75 : decode cX9_lettersBy 75 = .ok (.aload_n 0, 1) := by decide +kernel
theorem dX9_lettersBy_76 : decode cX9_lettersBy 76 = .ok (.getfield 53, 3) := by decide +kernel
theorem dX9_lettersBy_79 : decode cX9_lettersBy 79 = .ok (.iload_n 1, 1) := by decide +kernel
theorem dX9_lettersBy_80 : decode cX9_lettersBy 80 = .ok (.iaload, 1) := by decide +kernel
theorem dX9_lettersBy_81 : decode cX9_lettersBy 81 = .ok (.bipush 8, 2) := by decide +kernel
theorem dX9_lettersBy_83 : decode cX9_lettersBy 83 = .ok (.irem, 1) := by decide +kernel
theorem dX9_lettersBy_84 : decode cX9_lettersBy 84 = .ok (.iload 4, 2) := by decide +kernel
theorem dX9_lettersBy_86 : decode cX9_lettersBy 86 = .ok (.if_icmp .ne 8, 3) := by decide +kernel
theorem dX9_lettersBy_89 : decode cX9_lettersBy 89 = .ok (.bipush 64, 2) := by decide +kernel
theorem dX9_lettersBy_91 : decode cX9_lettersBy 91 = .ok (.goto 4, 3) := by decide +kernel
theorem dX9_lettersBy_94 : decode cX9_lettersBy 94 = .ok (.iconst 0, 1) := by decide +kernel
theorem dX9_lettersBy_95 : decode cX9_lettersBy 95 = .ok (.istore 8, 2) := by decide +kernel
theorem dX9_lettersBy_97 : decode cX9_lettersBy 97 = .ok (.iload 8, 2) := by decide +kernel
theorem dX9_lettersBy_99 : decode cX9_lettersBy 99 = .ok (.iload 6, 2) := by decide +kernel
theorem dX9_lettersBy_101 : decode cX9_lettersBy 101 = .ok (.ifCond .eq 24, 3) := by decide +kernel
theorem dX9_lettersBy_104 : decode cX9_lettersBy 104 = .ok (.aload_n 0, 1) := by decide +kernel
theorem dX9_lettersBy_105 : decode cX9_lettersBy 105 = .ok (.getfield 41, 3) := by decide +kernel
theorem dX9_lettersBy_108 : decode cX9_lettersBy 108 = .ok (.iload_n 1, 1) := by decide +kernel
theorem dX9_lettersBy_109 : decode cX9_lettersBy 109 = .ok (.iaload, 1) := by decide +kernel
theorem dX9_lettersBy_110 : decode cX9_lettersBy 110 = .ok (.aload_n 0, 1) := by decide +kernel
theorem dX9_lettersBy_111 : decode cX9_lettersBy 111 = .ok (.getfield 41, 3) := by decide +kernel
theorem dX9_lettersBy_114 : decode cX9_lettersBy 114 = .ok (.iload_n 2, 1) := by decide +kernel
theorem dX9_lettersBy_115 : decode cX9_lettersBy 115 = .ok (.iaload, 1) := by decide +kernel
theorem dX9_lettersBy_116 : decode cX9_lettersBy 116 = .ok (.if_icmp .ne 9, 3) := by decide +kernel
theorem dX9_lettersBy_119 : decode cX9_lettersBy 119 = .ok (.sipush 128, 3) := by decide +kernel
theorem dX9_lettersBy_122 : decode cX9_lettersBy 122 = .ok (.goto 4, 3) := by decide +kernel
theorem dX9_lettersBy_125 : decode cX9_lettersBy 125 = .ok (.iconst 0, 1) := by decide +kernel
theorem dX9_lettersBy_126 : decode cX9_lettersBy 126 = .ok (.iadd, 1) := by decide +kernel
theorem dX9_lettersBy_127 : decode cX9_lettersBy 127 = .ok (.istore 8, 2) := by decide +kernel
theorem dX9_lettersBy_129 : decode cX9_lettersBy 129 = .ok (.iload 8, 2) := by decide +kernel
theorem dX9_lettersBy_131 : decode cX9_lettersBy 131 = .ok (.iload 6, 2) := by decide +kernel
theorem dX9_lettersBy_133 : decode cX9_lettersBy 133 = .ok (.ifCond .eq 24, 3) := by decide +kernel
theorem dX9_lettersBy_136 : decode cX9_lettersBy 136 = .ok (.aload_n 0, 1) := by decide +kernel
theorem dX9_lettersBy_137 : decode cX9_lettersBy 137 = .ok (.getfield 38, 3) := by decide +kernel
theorem dX9_lettersBy_140 : decode cX9_lettersBy 140 = .ok (.iload_n 1, 1) := by decide +kernel
theorem dX9_lettersBy_141 : decode cX9_lettersBy 141 = .ok (.iaload, 1) := by decide +kernel
theorem dX9_lettersBy_142 : decode cX9_lettersBy 142 = .ok (.aload_n 0, 1) := by decide +kernel
theorem dX9_lettersBy_143 : decode cX9_lettersBy 143 = .ok (.getfield 38, 3) := by decide +kernel
theorem dX9_lettersBy_146 : decode cX9_lettersBy 146 = .ok (.iload_n 2, 1) := by decide +kernel
theorem dX9_lettersBy_147 : decode cX9_lettersBy 147 = .ok (.iaload, 1) := by decide +kernel
theorem dX9_lettersBy_148 : decode cX9_lettersBy 148 = .ok (.if_icmp .ne 9, 3) := by decide +kernel
theorem dX9_lettersBy_151 : decode cX9_lettersBy 151 = .ok (.sipush 256, 3) := by decide +kernel
theorem dX9_lettersBy_154 : decode cX9_lettersBy 154 = .ok (.goto 4, 3) := by decide +kernel
theorem dX9_lettersBy_157 : decode cX9_lettersBy 157 = .ok (.iconst 0, 1) := by decide +kernel
theorem dX9_lettersBy_158 : decode cX9_lettersBy 158 = .ok (.iadd, 1) := by decide +kernel
theorem dX9_lettersBy_159 : decode cX9_lettersBy 159 = .ok (.istore 8, 2) := by decide +kernel
theorem dX9_lettersBy_161 : decode cX9_lettersBy 161 = .ok (.iload 8, 2) := by decide +kernel
theorem dX9_lettersBy_163 : decode cX9_lettersBy 163 = .ok (.iload 7, 2) := by decide +kernel
theorem dX9_lettersBy_165 : decode cX9_lettersBy 165 = .ok (.ifCond .eq 44, 3) := by decide +kernel
theorem dX9_lettersBy_168 : decode cX9_lettersBy 168 = .ok (.aload_n 0, 1) := by decide +kernel
theorem dX9_lettersBy_169 : decode cX9_lettersBy 169 = .ok (.getfield 7, 3) := by decide +kernel
theorem dX9_lettersBy_172 : decode cX9_lettersBy 172 = .ok (.aload_n 0, 1) := by decide +kernel
theorem dX9_lettersBy_173 : decode cX9_lettersBy 173 = .ok (.getfield 53, 3) := by decide +kernel
theorem dX9_lettersBy_176 : decode cX9_lettersBy 176 = .ok (.iload_n 1, 1) := by decide +kernel
theorem dX9_lettersBy_177 : decode cX9_lettersBy 177 = .ok (.iaload, 1) := by decide +kernel
theorem dX9_lettersBy_178 : decode cX9_lettersBy 178 = .ok (.bipush 8, 2) := by decide +kernel
theorem dX9_lettersBy_180 : decode cX9_lettersBy 180 = .ok (.irem, 1) := by decide +kernel
theorem dX9_lettersBy_181 : decode cX9_lettersBy 181 = .ok (.iaload, 1) := by decide +kernel
theorem dX9_lettersBy_182 : decode cX9_lettersBy 182 = .ok (.aload_n 0, 1) := by decide +kernel
theorem dX9_lettersBy_183 : decode cX9_lettersBy 183 = .ok (.getfield 7, 3) := by decide +kernel
theorem dX9_lettersBy_186 : decode cX9_lettersBy 186 = .ok (.iload 4, 2) := by decide +kernel
theorem dX9_lettersBy_188 : decode cX9_lettersBy 188 = .ok (.iaload, 1) := by decide +kernel
theorem dX9_lettersBy_189 : decode cX9_lettersBy 189 = .ok (.if_icmp .eq 20, 3) := by decide +kernel
theorem dX9_lettersBy_192 : decode cX9_lettersBy 192 = .ok (.aload_n 0, 1) := by decide +kernel
theorem dX9_lettersBy_193 : decode cX9_lettersBy 193 = .ok (.iload_n 1, 1) := by decide +kernel
theorem dX9_lettersBy_194 : decode cX9_lettersBy 194 = .ok (.iload_n 3, 1) := by decide +kernel
theorem dX9_lettersBy_195 : decode cX9_lettersBy 195 = .ok (.iload 5, 2) := by decide +kernel
theorem dX9_lettersBy_197 : decode cX9_lettersBy 197 = .ok (.invokevirtual 131, 3) := by decide +kernel
theorem dX9_lettersBy_200 : decode cX9_lettersBy 200 = .ok (.ifCond .eq 9, 3) := by decide +kernel
theorem dX9_lettersBy_203 : decode cX9_lettersBy 203 = .ok (.sipush 512, 3) := by decide +kernel
theorem dX9_lettersBy_206 : decode cX9_lettersBy 206 = .ok (.goto 4, 3) := by decide +kernel
theorem dX9_lettersBy_209 : decode cX9_lettersBy 209 = .ok (.iconst 0, 1) := by decide +kernel
theorem dX9_lettersBy_210 : decode cX9_lettersBy 210 = .ok (.iadd, 1) := by decide +kernel
theorem dX9_lettersBy_211 : decode cX9_lettersBy 211 = .ok (.ireturn, 1) := by decide +kernel
theorem dX9_plainLetters_0 : decode cX9_plainLetters 0 = .ok (.iload_n 2, 1) := by decide +kernel
theorem dX9_plainLetters_1 : decode cX9_plainLetters 1 = .ok (.bipush 6, 2) := by decide +kernel
theorem dX9_plainLetters_3 : decode cX9_plainLetters 3 = .ok (.idiv, 1) := by decide +kernel
theorem dX9_plainLetters_4 : decode cX9_plainLetters 4 = .ok (.istore 4, 2) := by decide +kernel
theorem dX9_plainLetters_6 : decode cX9_plainLetters 6 = .ok (.iload_n 2, 1) := by decide +kernel
theorem dX9_plainLetters_7 : decode cX9_plainLetters 7 = .ok (.bipush 6, 2) := by decide +kernel
theorem dX9_plainLetters_9 : decode cX9_plainLetters 9 = .ok (.irem, 1) := by decide +kernel
theorem dX9_plainLetters_10 : decode cX9_plainLetters 10 = .ok (.aload_n 0, 1) := by decide +kernel
theorem dX9_plainLetters_11 : decode cX9_plainLetters 11 = .ok (.getfield 47, 3) := by decide +kernel
theorem dX9_plainLetters_14 : decode cX9_plainLetters 14 = .ok (.iload_n 1, 1) := by decide +kernel
theorem dX9_plainLetters_15 : decode cX9_plainLetters 15 = .ok (.iaload, 1) := by decide +kernel
theorem dX9_plainLetters_16 : decode cX9_plainLetters 16 = .ok (.iadd, 1) := by decide +kernel
theorem dX9_plainLetters_17 : decode cX9_plainLetters 17 = .ok (.bipush 6, 2) := by decide +kernel
theorem dX9_plainLetters_19 : decode cX9_plainLetters 19 = .ok (.if_icmp .le 7, 3) := by decide +kernel
theorem dX9_plainLetters_22 : decode cX9_plainLetters 22 = .ok (.iconst 1, 1) := by decide +kernel
theorem dX9_plainLetters_23 : decode cX9_plainLetters 23 = .ok (.goto 4, 3) := by decide +kernel
theorem dX9_plainLetters_26 : decode cX9_plainLetters 26 = .ok (.iconst 0, 1) := by decide +kernel
theorem dX9_plainLetters_27 : decode cX9_plainLetters 27 = .ok (.istore 5, 2) := by decide +kernel
theorem dX9_plainLetters_29 : decode cX9_plainLetters 29 = .ok (.iload 5, 2) := by decide +kernel
theorem dX9_plainLetters_31 : decode cX9_plainLetters 31 = .ok (.iload 4, 2) := by decide +kernel
theorem dX9_plainLetters_33 : decode cX9_plainLetters 33 = .ok (.aload_n 0, 1) := by decide +kernel
theorem dX9_plainLetters_34 : decode cX9_plainLetters 34 = .ok (.getfield 90, 3) := by decide +kernel
theorem dX9_plainLetters_37 : decode cX9_plainLetters 37 = .ok (.if_icmp .ge 7, 3) := by decide +kernel
theorem dX9_plainLetters_40 : decode cX9_plainLetters 40 = .ok (.iconst 2, 1) := by decide +kernel
theorem dX9_plainLetters_41 : decode cX9_plainLetters 41 = .ok (.goto 4, 3) := by decide +kernel
theorem dX9_plainLetters_44 : decode cX9_plainLetters 44 = .ok (.iconst 0, 1) := by decide +kernel
theorem dX9_plainLetters_45 : decode cX9_plainLetters 45 = .ok (.iadd, 1) := by decide +kernel
theorem dX9_plainLetters_46 : decode cX9_plainLetters 46 = .ok (.istore 5, 2) := by decide +kernel
theorem dX9_plainLetters_48 : decode cX9_plainLetters 48 = .ok (.iload 5, 2) := by decide +kernel
theorem dX9_plainLetters_50 : decode cX9_plainLetters 50 = .ok (.aload_n 0, 1) := by decide +kernel
theorem dX9_plainLetters_51 : decode cX9_plainLetters 51 = .ok (.getfield 19, 3) := by decide +kernel
theorem dX9_plainLetters_54 : decode cX9_plainLetters 54 = .ok (.aload_n 0, 1) := by decide +kernel
theorem dX9_plainLetters_55 : decode cX9_plainLetters 55 = .ok (.getfield 41, 3) := by decide +kernel
theorem dX9_plainLetters_58 : decode cX9_plainLetters 58 = .ok (.iload_n 1, 1) := by decide +kernel
theorem dX9_plainLetters_59 : decode cX9_plainLetters 59 = .ok (.iaload, 1) := by decide +kernel
theorem dX9_plainLetters_60 : decode cX9_plainLetters 60 = .ok (.iaload, 1) := by decide +kernel
theorem dX9_plainLetters_61 : decode cX9_plainLetters 61 = .ok (.iload 4, 2) := by decide +kernel
theorem dX9_plainLetters_63 : decode cX9_plainLetters 63 = .ok (.ishr, 1) := by decide +kernel
theorem dX9_plainLetters_64 : decode cX9_plainLetters 64 = .ok (.iconst 2, 1) := by decide +kernel
theorem dX9_plainLetters_65 : decode cX9_plainLetters 65 = .ok (.irem, 1) := by decide +kernel
theorem dX9_plainLetters_66 : decode cX9_plainLetters 66 = .ok (.iconst 1, 1) := by decide +kernel
theorem dX9_plainLetters_67 : decode cX9_plainLetters 67 = .ok (.if_icmp .ne 7, 3) := by decide +kernel
theorem dX9_plainLetters_70 : decode cX9_plainLetters 70 = .ok (.iconst 4, 1) := by decide +kernel
theorem dX9_plainLetters_71 : decode cX9_plainLetters 71 = .ok (.goto 4, 3) := by decide +kernel
theorem dX9_plainLetters_74 : decode cX9_plainLetters 74 = .ok (.iconst 0, 1) := by decide +kernel
theorem dX9_plainLetters_75 : decode cX9_plainLetters 75 = .ok (.iadd, 1) := by decide +kernel
theorem dX9_plainLetters_76 : decode cX9_plainLetters 76 = .ok (.istore 5, 2) := by decide +kernel
theorem dX9_plainLetters_78 : decode cX9_plainLetters 78 = .ok (.iload 5, 2) := by decide +kernel
theorem dX9_plainLetters_80 : decode cX9_plainLetters 80 = .ok (.aload_n 0, 1) := by decide +kernel
theorem dX9_plainLetters_81 : decode cX9_plainLetters 81 = .ok (.getfield 13, 3) := by decide +kernel
theorem dX9_plainLetters_84 : decode cX9_plainLetters 84 = .ok (.iload_n 3, 1) := by decide +kernel
theorem dX9_plainLetters_85 : decode cX9_plainLetters 85 = .ok (.iaload, 1) := by decide +kernel
theorem dX9_plainLetters_86 : decode cX9_plainLetters 86 = .ok (.aload_n 0, 1) := by decide +kernel
theorem dX9_plainLetters_87 : decode cX9_plainLetters 87 = .ok (.getfield 44, 3) := by decide +kernel
theorem dX9_plainLetters_90 : decode cX9_plainLetters 90 = .ok (.iload_n 1, 1) := by decide +kernel
theorem dX9_plainLetters_91 : decode cX9_plainLetters 91 = .ok (.iaload, 1) := by decide +kernel
theorem dX9_plainLetters_92 : decode cX9_plainLetters 92 = .ok (.if_icmp .eq 8, 3) := by decide +kernel
theorem dX9_plainLetters_95 : decode cX9_plainLetters 95 = .ok (.bipush 8, 2) := by decide +kernel
theorem dX9_plainLetters_97 : decode cX9_plainLetters 97 = .ok (.goto 4, 3) := by decide +kernel
theorem dX9_plainLetters_100 : decode cX9_plainLetters 100 = .ok (.iconst 0, 1) := by decide +kernel
theorem dX9_plainLetters_101 : decode cX9_plainLetters 101 = .ok (.iadd, 1) := by decide +kernel
theorem dX9_plainLetters_102 : decode cX9_plainLetters 102 = .ok (.istore 5, 2) := by decide +kernel
theorem dX9_plainLetters_104 : decode cX9_plainLetters 104 = .ok (.iload 5, 2) := by decide +kernel
theorem dX9_plainLetters_106 : decode cX9_plainLetters 106 = .ok (.aload_n 0, 1) := by decide +kernel
theorem dX9_plainLetters_107 : decode cX9_plainLetters 107 = .ok (.getfield 16, 3) := by decide +kernel
theorem dX9_plainLetters_110 : decode cX9_plainLetters 110 = .ok (.iload_n 3, 1) := by decide +kernel
theorem dX9_plainLetters_111 : decode cX9_plainLetters 111 = .ok (.iaload, 1) := by decide +kernel
theorem dX9_plainLetters_112 : decode cX9_plainLetters 112 = .ok (.aload_n 0, 1) := by decide +kernel
theorem dX9_plainLetters_113 : decode cX9_plainLetters 113 = .ok (.getfield 25, 3) := by decide +kernel
theorem dX9_plainLetters_116 : decode cX9_plainLetters 116 = .ok (.aload_n 0, 1) := by decide +kernel
theorem dX9_plainLetters_117 : decode cX9_plainLetters 117 = .ok (.getfield 38, 3) := by decide +kernel
theorem dX9_plainLetters_120 : decode cX9_plainLetters 120 = .ok (.iload_n 1, 1) := by decide +kernel
theorem dX9_plainLetters_121 : decode cX9_plainLetters 121 = .ok (.iaload, 1) := by decide +kernel
theorem dX9_plainLetters_122 : decode cX9_plainLetters 122 = .ok (.iaload, 1) := by decide +kernel
theorem dX9_plainLetters_123 : decode cX9_plainLetters 123 = .ok (.if_icmp .ge 8, 3) := by decide +kernel
theorem dX9_plainLetters_126 : decode cX9_plainLetters 126 = .ok (.bipush 16, 2) := by decide +kernel
theorem dX9_plainLetters_128 : decode cX9_plainLetters 128 = .ok (.goto 4, 3) := by decide +kernel
theorem dX9_plainLetters_131 : decode cX9_plainLetters 131 = .ok (.iconst 0, 1) := by decide +kernel
theorem dX9_plainLetters_132 : decode cX9_plainLetters 132 = .ok (.iadd, 1) := by decide +kernel
theorem dX9_plainLetters_133 : decode cX9_plainLetters 133 = .ok (.istore 5, 2) := by decide +kernel
theorem dX9_plainLetters_135 : decode cX9_plainLetters 135 = .ok (.iload 5, 2) := by decide +kernel
theorem dX9_plainLetters_137 : decode cX9_plainLetters 137 = .ok (.aload_n 0, 1) := by decide +kernel
theorem dX9_plainLetters_138 : decode cX9_plainLetters 138 = .ok (.getfield 31, 3) := by decide +kernel
theorem dX9_plainLetters_141 : decode cX9_plainLetters 141 = .ok (.iload_n 3, 1) := by decide +kernel
theorem dX9_plainLetters_142 : decode cX9_plainLetters 142 = .ok (.baload, 1) := by decide +kernel
theorem dX9_plainLetters_143 : decode cX9_plainLetters 143 = .ok (.ifCond .eq 8, 3) := by decide +kernel
theorem dX9_plainLetters_146 : decode cX9_plainLetters 146 = .ok (.bipush 32, 2) := by decide +kernel
theorem dX9_plainLetters_148 : decode cX9_plainLetters 148 = .ok (.goto 4, 3) := by decide +kernel
theorem dX9_plainLetters_151 : decode cX9_plainLetters 151 = .ok (.iconst 0, 1) := by decide +kernel
theorem dX9_plainLetters_152 : decode cX9_plainLetters 152 = .ok (.iadd, 1) := by decide +kernel
theorem dX9_plainLetters_153 : decode cX9_plainLetters 153 = .ok (.ireturn, 1) := by decide +kernel
theorem dX9_both_0 : decode cX9_both 0 = .ok (.iload_n 0, 1) := by decide +kernel
theorem dX9_both_1 : decode cX9_both 1 = .ok (.iload_n 1, 1) := by decide +kernel
theorem dX9_both_2 : decode cX9_both 2 = .ok (.ior, 1) := by decide +kernel
theorem dX9_both_3 : decode cX9_both 3 = .ok (.ireturn, 1) := by decide +kernel
theorem dX9_letters_0 : decode cX9_letters 0 = .ok (.aload_n 0, 1) := by decide +kernel
theorem dX9_letters_1 : decode cX9_letters 1 = .ok (.iload_n 1, 1) := by decide +kernel
theorem dX9_letters_2 : decode cX9_letters 2 = .ok (.iload_n 2, 1) := by decide +kernel
theorem dX9_letters_3 : decode cX9_letters 3 = .ok (.iload_n 3, 1) := by decide +kernel
theorem dX9_letters_4 : decode cX9_letters 4 = .ok (.invokevirtual 134, 3) := by decide +kernel
theorem dX9_letters_7 : decode cX9_letters 7 = .ok (.istore 4, 2) := by decide +kernel
theorem dX9_letters_9 : decode cX9_letters 9 = .ok (.iconst 0, 1) := by decide +kernel
theorem dX9_letters_10 : decode cX9_letters 10 = .ok (.istore 5, 2) := by decide +kernel
theorem dX9_letters_12 : decode cX9_letters 12 = .ok (.iload 5, 2) := by decide +kernel
theorem dX9_letters_14 : decode cX9_letters 14 = .ok (.aload_n 0, 1) := by decide +kernel
theorem dX9_letters_15 : decode cX9_letters 15 = .ok (.getfield 84, 3) := by decide +kernel
theorem dX9_letters_18 : decode cX9_letters 18 = .ok (.if_icmp .ge 25, 3) := by decide +kernel
theorem dX9_letters_21 : decode cX9_letters 21 = .ok (.iload 4, 2) := by decide +kernel
theorem dX9_letters_23 : decode cX9_letters 23 = .ok (.aload_n 0, 1) := by decide +kernel
theorem dX9_letters_24 : decode cX9_letters 24 = .ok (.iload 5, 2) := by decide +kernel
theorem dX9_letters_26 : decode cX9_letters 26 = .ok (.iload_n 1, 1) := by decide +kernel
theorem dX9_letters_27 : decode cX9_letters 27 = .ok (.iload_n 2, 1) := by decide +kernel
theorem dX9_letters_28 : decode cX9_letters 28 = .ok (.iload_n 3, 1) := by decide +kernel
theorem dX9_letters_29 : decode cX9_letters 29 = .ok (.invokevirtual 138, 3) := by decide +kernel
theorem dX9_letters_32 : decode cX9_letters 32 = .ok (.invokestatic 142, 3) := by decide +kernel
theorem dX9_letters_35 : decode cX9_letters 35 = .ok (.istore 4, 2) := by decide +kernel
theorem dX9_letters_37 : decode cX9_letters 37 = .ok (.iinc 5 1, 3) := by decide +kernel
theorem dX9_letters_40 : decode cX9_letters 40 = .ok (.goto (-28), 3) := by decide +kernel
theorem dX9_letters_43 : decode cX9_letters 43 = .ok (.iload 4, 2) := by decide +kernel
theorem dX9_letters_45 : decode cX9_letters 45 = .ok (.ireturn, 1) := by decide +kernel
theorem dX9_isPossible_0 : decode cX9_isPossible 0 = .ok (.iload_n 2, 1) := by decide +kernel
theorem dX9_isPossible_1 : decode cX9_isPossible 1 = .ok (.bipush 8, 2) := by decide +kernel
theorem dX9_isPossible_3 : decode cX9_isPossible 3 = .ok (.irem, 1) := by decide +kernel
theorem dX9_isPossible_4 : decode cX9_isPossible 4 = .ok (.aload_n 0, 1) := by decide +kernel
theorem dX9_isPossible_5 : decode cX9_isPossible 5 = .ok (.getfield 75, 3) := by decide +kernel
theorem dX9_isPossible_8 : decode cX9_isPossible 8 = .ok (.if_icmp .ge 23, 3) := by decide +kernel
theorem dX9_isPossible_11 : decode cX9_isPossible 11 = .ok (.aload_n 0, 1) := by decide +kernel
theorem dX9_isPossible_12 : decode cX9_isPossible 12 = .ok (.iload_n 1, 1) := by decide +kernel
theorem dX9_isPossible_13 : decode cX9_isPossible 13 = .ok (.iload_n 2, 1) := by decide +kernel
theorem dX9_isPossible_14 : decode cX9_isPossible 14 = .ok (.bipush 8, 2) := by decide +kernel
theorem dX9_isPossible_16 : decode cX9_isPossible 16 = .ok (.idiv, 1) := by decide +kernel
theorem dX9_isPossible_17 : decode cX9_isPossible 17 = .ok (.iload_n 2, 1) := by decide +kernel
theorem dX9_isPossible_18 : decode cX9_isPossible 18 = .ok (.bipush 8, 2) := by decide +kernel
theorem dX9_isPossible_20 : decode cX9_isPossible 20 = .ok (.irem, 1) := by decide +kernel
theorem dX9_isPossible_21 : decode cX9_isPossible 21 = .ok (.invokevirtual 145, 3) := by decide +kernel
theorem dX9_isPossible_24 : decode cX9_isPossible 24 = .ok (.ifCond .ne 7, 3) := by decide +kernel
theorem dX9_isPossible_27 : decode cX9_isPossible 27 = .ok (.iconst 1, 1) := by decide +kernel
theorem dX9_isPossible_28 : decode cX9_isPossible 28 = .ok (.goto 4, 3) := by decide +kernel
theorem dX9_isPossible_31 : decode cX9_isPossible 31 = .ok (.iconst 0, 1) := by decide +kernel
theorem dX9_isPossible_32 : decode cX9_isPossible 32 = .ok (.ireturn, 1) := by decide +kernel
theorem dX9_wrongPlace_0 : decode cX9_wrongPlace 0 = .ok (.aload_n 0, 1) := by decide +kernel
theorem dX9_wrongPlace_1 : decode cX9_wrongPlace 1 = .ok (.iload_n 1, 1) := by decide +kernel
theorem dX9_wrongPlace_2 : decode cX9_wrongPlace 2 = .ok (.invokevirtual 148, 3) := by decide +kernel
theorem dX9_wrongPlace_5 : decode cX9_wrongPlace 5 = .ok (.ifCond .ne 7, 3) := by decide +kernel
theorem dX9_wrongPlace_8 : decode cX9_wrongPlace 8 = .ok (.iconst 1, 1) := by decide +kernel
theorem dX9_wrongPlace_9 : decode cX9_wrongPlace 9 = .ok (.goto 23, 3) := by decide +kernel
theorem dX9_wrongPlace_12 : decode cX9_wrongPlace 12 = .ok (.iload_n 2, 1) := by decide +kernel
theorem dX9_wrongPlace_13 : decode cX9_wrongPlace 13 = .ok (.invokestatic 107, 3) := by decide +kernel
theorem dX9_wrongPlace_16 : decode cX9_wrongPlace 16 = .ok (.ifCond .eq 11, 3) := by decide +kernel
theorem dX9_wrongPlace_19 : decode cX9_wrongPlace 19 = .ok (.aload_n 0, 1) := by decide +kernel
theorem dX9_wrongPlace_20 : decode cX9_wrongPlace 20 = .ok (.iload_n 3, 1) := by decide +kernel
theorem dX9_wrongPlace_21 : decode cX9_wrongPlace 21 = .ok (.invokevirtual 151, 3) := by decide +kernel
theorem dX9_wrongPlace_24 : decode cX9_wrongPlace 24 = .ok (.ifCond .ne 7, 3) := by decide +kernel
theorem dX9_wrongPlace_27 : decode cX9_wrongPlace 27 = .ok (.iconst 2, 1) := by decide +kernel
theorem dX9_wrongPlace_28 : decode cX9_wrongPlace 28 = .ok (.goto 4, 3) := by decide +kernel
theorem dX9_wrongPlace_31 : decode cX9_wrongPlace 31 = .ok (.iconst 0, 1) := by decide +kernel
theorem dX9_wrongPlace_32 : decode cX9_wrongPlace 32 = .ok (.ireturn, 1) := by decide +kernel
theorem dX9_letter_0 : decode cX9_letter 0 = .ok (.iload_n 0, 1) := by decide +kernel
theorem dX9_letter_1 : decode cX9_letter 1 = .ok (.iconst 5, 1) := by decide +kernel
theorem dX9_letter_2 : decode cX9_letter 2 = .ok (.if_icmp .ge 45, 3) := by decide +kernel
theorem dX9_letter_5 : decode cX9_letter 5 = .ok (.iload_n 0, 1) := by decide +kernel
theorem dX9_letter_6 : decode cX9_letter 6 = .ok (.ifCond .ne 8, 3) := by decide +kernel
theorem dX9_letter_9 : decode cX9_letter 9 = .ok (.bipush 104, 2) := by decide +kernel
theorem dX9_letter_11 : decode cX9_letter 11 = .ok (.goto 35, 3) := by decide +kernel
theorem dX9_letter_14 : decode cX9_letter 14 = .ok (.iload_n 0, 1) := by decide +kernel
theorem dX9_letter_15 : decode cX9_letter 15 = .ok (.iconst 1, 1) := by decide +kernel
theorem dX9_letter_16 : decode cX9_letter 16 = .ok (.if_icmp .ne 8, 3) := by decide +kernel
theorem dX9_letter_19 : decode cX9_letter 19 = .ok (.bipush 112, 2) := by decide +kernel
theorem dX9_letter_21 : decode cX9_letter 21 = .ok (.goto 25, 3) := by decide +kernel
theorem dX9_letter_24 : decode cX9_letter 24 = .ok (.iload_n 0, 1) := by decide +kernel
theorem dX9_letter_25 : decode cX9_letter 25 = .ok (.iconst 2, 1) := by decide +kernel
theorem dX9_letter_26 : decode cX9_letter 26 = .ok (.if_icmp .ne 8, 3) := by decide +kernel
theorem dX9_letter_29 : decode cX9_letter 29 = .ok (.bipush 111, 2) := by decide +kernel
theorem dX9_letter_31 : decode cX9_letter 31 = .ok (.goto 15, 3) := by decide +kernel
theorem dX9_letter_34 : decode cX9_letter 34 = .ok (.iload_n 0, 1) := by decide +kernel
theorem dX9_letter_35 : decode cX9_letter 35 = .ok (.iconst 3, 1) := by decide +kernel
theorem dX9_letter_36 : decode cX9_letter 36 = .ok (.if_icmp .ne 8, 3) := by decide +kernel
theorem dX9_letter_39 : decode cX9_letter 39 = .ok (.bipush 107, 2) := by decide +kernel
theorem dX9_letter_41 : decode cX9_letter 41 = .ok (.goto 5, 3) := by decide +kernel
theorem dX9_letter_44 : decode cX9_letter 44 = .ok (.bipush 115, 2) := by decide +kernel
theorem dX9_letter_46 : decode cX9_letter 46 = .ok (.ireturn, 1) := by decide +kernel
theorem dX9_letter_47 : decode cX9_letter 47 = .ok (.iload_n 0, 1) := by decide +kernel
theorem dX9_letter_48 : decode cX9_letter 48 = .ok (.iconst 5, 1) := by decide +kernel
theorem dX9_letter_49 : decode cX9_letter 49 = .ok (.if_icmp .ne 8, 3) := by decide +kernel
theorem dX9_letter_52 : decode cX9_letter 52 = .ok (.bipush 99, 2) := by decide +kernel
theorem dX9_letter_54 : decode cX9_letter 54 = .ok (.goto 38, 3) := by decide +kernel
theorem dX9_letter_57 : decode cX9_letter 57 = .ok (.iload_n 0, 1) := by decide +kernel
theorem dX9_letter_58 : decode cX9_letter 58 = .ok (.bipush 6, 2) := by decide +kernel
theorem dX9_letter_60 : decode cX9_letter 60 = .ok (.if_icmp .ne 8, 3) := by decide +kernel
theorem dX9_letter_63 : decode cX9_letter 63 = .ok (.bipush 114, 2) := by decide +kernel
theorem dX9_letter_65 : decode cX9_letter 65 = .ok (.goto 27, 3) := by decide +kernel
theorem dX9_letter_68 : decode cX9_letter 68 = .ok (.iload_n 0, 1) := by decide +kernel
theorem dX9_letter_69 : decode cX9_letter 69 = .ok (.bipush 7, 2) := by decide +kernel
theorem dX9_letter_71 : decode cX9_letter 71 = .ok (.if_icmp .ne 8, 3) := by decide +kernel
theorem dX9_letter_74 : decode cX9_letter 74 = .ok (.bipush 116, 2) := by decide +kernel
theorem dX9_letter_76 : decode cX9_letter 76 = .ok (.goto 16, 3) := by decide +kernel
theorem dX9_letter_79 : decode cX9_letter 79 = .ok (.iload_n 0, 1) := by decide +kernel
theorem dX9_letter_80 : decode cX9_letter 80 = .ok (.bipush 8, 2) := by decide +kernel
theorem dX9_letter_82 : decode cX9_letter 82 = .ok (.if_icmp .ne 8, 3) := by decide +kernel
theorem dX9_letter_85 : decode cX9_letter 85 = .ok (.bipush 103, 2) := by decide +kernel
theorem dX9_letter_87 : decode cX9_letter 87 = .ok (.goto 5, 3) := by decide +kernel
theorem dX9_letter_90 : decode cX9_letter 90 = .ok (.bipush 118, 2) := by decide +kernel
theorem dX9_letter_92 : decode cX9_letter 92 = .ok (.ireturn, 1) := by decide +kernel
theorem dX9_reason_0 : decode cX9_reason 0 = .ok (.aload_n 0, 1) := by decide +kernel
theorem dX9_reason_1 : decode cX9_reason 1 = .ok (.aload_n 0, 1) := by decide +kernel
theorem dX9_reason_2 : decode cX9_reason 2 = .ok (.iload_n 1, 1) := by decide +kernel
theorem dX9_reason_3 : decode cX9_reason 3 = .ok (.iload_n 2, 1) := by decide +kernel
theorem dX9_reason_4 : decode cX9_reason 4 = .ok (.iload_n 3, 1) := by decide +kernel
theorem dX9_reason_5 : decode cX9_reason 5 = .ok (.invokevirtual 154, 3) := by decide +kernel
theorem dX9_reason_8 : decode cX9_reason 8 = .ok (.putfield 71, 3) := by decide +kernel
theorem dX9_reason_11 : decode cX9_reason 11 = .ok (.aload_n 0, 1) := by decide +kernel
theorem dX9_reason_12 : decode cX9_reason 12 = .ok (.getfield 71, 3) := by decide +kernel
theorem dX9_reason_15 : decode cX9_reason 15 = .ok (.ifCond .le 6, 3) := by decide +kernel
theorem dX9_reason_18 : decode cX9_reason 18 = .ok (.bipush 32, 2) := by decide +kernel
theorem dX9_reason_20 : decode cX9_reason 20 = .ok (.ireturn, 1) := by decide +kernel
theorem dX9_reason_21 : decode cX9_reason 21 = .ok (.aload_n 0, 1) := by decide +kernel
theorem dX9_reason_22 : decode cX9_reason 22 = .ok (.iload_n 1, 1) := by decide +kernel
theorem dX9_reason_23 : decode cX9_reason 23 = .ok (.iload_n 2, 1) := by decide +kernel
theorem dX9_reason_24 : decode cX9_reason 24 = .ok (.iload_n 3, 1) := by decide +kernel
theorem dX9_reason_25 : decode cX9_reason 25 = .ok (.invokevirtual 145, 3) := by decide +kernel
theorem dX9_reason_28 : decode cX9_reason 28 = .ok (.istore 4, 2) := by decide +kernel
theorem dX9_reason_30 : decode cX9_reason 30 = .ok (.iconst 0, 1) := by decide +kernel
theorem dX9_reason_31 : decode cX9_reason 31 = .ok (.istore 5, 2) := by decide +kernel
theorem dX9_reason_33 : decode cX9_reason 33 = .ok (.iload 5, 2) := by decide +kernel
theorem dX9_reason_35 : decode cX9_reason 35 = .ok (.bipush 10, 2) := by decide +kernel
theorem dX9_reason_37 : decode cX9_reason 37 = .ok (.if_icmp .ge 26, 3) := by decide +kernel
theorem dX9_reason_40 : decode cX9_reason 40 = .ok (.iload 4, 2) := by decide +kernel
theorem dX9_reason_42 : decode cX9_reason 42 = .ok (.iload 5, 2) := by decide +kernel
theorem dX9_reason_44 : decode cX9_reason 44 = .ok (.ishr, 1) := by decide +kernel
theorem dX9_reason_45 : decode cX9_reason 45 = .ok (.iconst 2, 1) := by decide +kernel
theorem dX9_reason_46 : decode cX9_reason 46 = .ok (.irem, 1) := by decide +kernel
theorem dX9_reason_47 : decode cX9_reason 47 = .ok (.iconst 1, 1) := by decide +kernel
theorem dX9_reason_48 : decode cX9_reason 48 = .ok (.if_icmp .ne 9, 3) := by decide +kernel
theorem dX9_reason_51 : decode cX9_reason 51 = .ok (.iload 5, 2) := by decide +kernel
theorem dX9_reason_53 : decode cX9_reason 53 = .ok (.invokestatic 157, 3) := by decide +kernel
theorem dX9_reason_56 : decode cX9_reason 56 = .ok (.ireturn, 1) := by decide +kernel
theorem dX9_reason_57 : decode cX9_reason 57 = .ok (.iinc 5 1, 3) := by decide +kernel
theorem dX9_reason_60 : decode cX9_reason 60 = .ok (.goto (-27), 3) := by decide +kernel
theorem dX9_reason_63 : decode cX9_reason 63 = .ok (.bipush 45, 2) := by decide +kernel
theorem dX9_reason_65 : decode cX9_reason 65 = .ok (.ireturn, 1) := by decide +kernel
theorem dX9_manyBits_0 : decode cX9_manyBits 0 = .ok (.iconst 0, 1) := by decide +kernel
theorem dX9_manyBits_1 : decode cX9_manyBits 1 = .ok (.istore_n 1, 1) := by decide +kernel
theorem dX9_manyBits_2 : decode cX9_manyBits 2 = .ok (.iload_n 0, 1) := by decide +kernel
theorem dX9_manyBits_3 : decode cX9_manyBits 3 = .ok (.istore_n 2, 1) := by decide +kernel
theorem dX9_manyBits_4 : decode cX9_manyBits 4 = .ok (.iload_n 2, 1) := by decide +kernel
theorem dX9_manyBits_5 : decode cX9_manyBits 5 = .ok (.ifCond .le 16, 3) := by decide +kernel
theorem dX9_manyBits_8 : decode cX9_manyBits 8 = .ok (.iload_n 1, 1) := by decide +kernel
theorem dX9_manyBits_9 : decode cX9_manyBits 9 = .ok (.iload_n 2, 1) := by decide +kernel
theorem dX9_manyBits_10 : decode cX9_manyBits 10 = .ok (.iconst 2, 1) := by decide +kernel
theorem dX9_manyBits_11 : decode cX9_manyBits 11 = .ok (.irem, 1) := by decide +kernel
theorem dX9_manyBits_12 : decode cX9_manyBits 12 = .ok (.iadd, 1) := by decide +kernel
theorem dX9_manyBits_13 : decode cX9_manyBits 13 = .ok (.istore_n 1, 1) := by decide +kernel
theorem dX9_manyBits_14 : decode cX9_manyBits 14 = .ok (.iload_n 2, 1) := by decide +kernel
theorem dX9_manyBits_15 : decode cX9_manyBits 15 = .ok (.iconst 2, 1) := by decide +kernel
theorem dX9_manyBits_16 : decode cX9_manyBits 16 = .ok (.idiv, 1) := by decide +kernel
theorem dX9_manyBits_17 : decode cX9_manyBits 17 = .ok (.istore_n 2, 1) := by decide +kernel
theorem dX9_manyBits_18 : decode cX9_manyBits 18 = .ok (.goto (-14), 3) := by decide +kernel
theorem dX9_manyBits_21 : decode cX9_manyBits 21 = .ok (.iload_n 1, 1) := by decide +kernel
theorem dX9_manyBits_22 : decode cX9_manyBits 22 = .ok (.ireturn, 1) := by decide +kernel
theorem dX9_barsAll_0 : decode cX9_barsAll 0 = .ok (.iconst 0, 1) := by decide +kernel
theorem dX9_barsAll_1 : decode cX9_barsAll 1 = .ok (.istore 4, 2) := by decide +kernel
theorem dX9_barsAll_3 : decode cX9_barsAll 3 = .ok (.iload 4, 2) := by decide +kernel
theorem dX9_barsAll_5 : decode cX9_barsAll 5 = .ok (.aload_n 0, 1) := by decide +kernel
theorem dX9_barsAll_6 : decode cX9_barsAll 6 = .ok (.getfield 75, 3) := by decide +kernel
theorem dX9_barsAll_9 : decode cX9_barsAll 9 = .ok (.if_icmp .ge 24, 3) := by decide +kernel
theorem dX9_barsAll_12 : decode cX9_barsAll 12 = .ok (.aload_n 0, 1) := by decide +kernel
theorem dX9_barsAll_13 : decode cX9_barsAll 13 = .ok (.iload_n 2, 1) := by decide +kernel
theorem dX9_barsAll_14 : decode cX9_barsAll 14 = .ok (.iload_n 3, 1) := by decide +kernel
theorem dX9_barsAll_15 : decode cX9_barsAll 15 = .ok (.iload 4, 2) := by decide +kernel
theorem dX9_barsAll_17 : decode cX9_barsAll 17 = .ok (.invokevirtual 145, 3) := by decide +kernel
theorem dX9_barsAll_20 : decode cX9_barsAll 20 = .ok (.iload_n 1, 1) := by decide +kernel
theorem dX9_barsAll_21 : decode cX9_barsAll 21 = .ok (.iand, 1) := by decide +kernel
theorem dX9_barsAll_22 : decode cX9_barsAll 22 = .ok (.ifCond .ne 5, 3) := by decide +kernel
theorem dX9_barsAll_25 : decode cX9_barsAll 25 = .ok (.iconst 0, 1) := by decide +kernel
theorem dX9_barsAll_26 : decode cX9_barsAll 26 = .ok (.ireturn, 1) := by decide +kernel
theorem dX9_barsAll_27 : decode cX9_barsAll 27 = .ok (.iinc 4 1, 3) := by decide +kernel
theorem dX9_barsAll_30 : decode cX9_barsAll 30 = .ok (.goto (-27), 3) := by decide +kernel
theorem dX9_barsAll_33 : decode cX9_barsAll 33 = .ok (.iconst 1, 1) := by decide +kernel
theorem dX9_barsAll_34 : decode cX9_barsAll 34 = .ok (.ireturn, 1) := by decide +kernel
theorem dX9_isOpenAt_0 : decode cX9_isOpenAt 0 = .ok (.iconst 0, 1) := by decide +kernel
theorem dX9_isOpenAt_1 : decode cX9_isOpenAt 1 = .ok (.istore_n 3, 1) := by decide +kernel
theorem dX9_isOpenAt_2 : decode cX9_isOpenAt 2 = .ok (.iload_n 3, 1) := by decide +kernel
theorem dX9_isOpenAt_3 : decode cX9_isOpenAt 3 = .ok (.aload_n 0, 1) := by decide +kernel
theorem dX9_isOpenAt_4 : decode cX9_isOpenAt 4 = .ok (.getfield 75, 3) := by decide +kernel
theorem dX9_isOpenAt_7 : decode cX9_isOpenAt 7 = .ok (.if_icmp .ge 21, 3) := by decide +kernel
theorem dX9_isOpenAt_10 : decode cX9_isOpenAt 10 = .ok (.aload_n 0, 1) := by decide +kernel
theorem dX9_isOpenAt_11 : decode cX9_isOpenAt 11 = .ok (.iload_n 1, 1) := by decide +kernel
theorem dX9_isOpenAt_12 : decode cX9_isOpenAt 12 = .ok (.iload_n 2, 1) := by decide +kernel
theorem dX9_isOpenAt_13 : decode cX9_isOpenAt 13 = .ok (.iload_n 3, 1) := by decide +kernel
theorem dX9_isOpenAt_14 : decode cX9_isOpenAt 14 = .ok (.invokevirtual 145, 3) := by decide +kernel
theorem dX9_isOpenAt_17 : decode cX9_isOpenAt 17 = .ok (.ifCond .ne 5, 3) := by decide +kernel
theorem dX9_isOpenAt_20 : decode cX9_isOpenAt 20 = .ok (.iconst 1, 1) := by decide +kernel
theorem dX9_isOpenAt_21 : decode cX9_isOpenAt 21 = .ok (.ireturn, 1) := by decide +kernel
theorem dX9_isOpenAt_22 : decode cX9_isOpenAt 22 = .ok (.iinc 3 1, 3) := by decide +kernel
theorem dX9_isOpenAt_25 : decode cX9_isOpenAt 25 = .ok (.goto (-23), 3) := by decide +kernel
theorem dX9_isOpenAt_28 : decode cX9_isOpenAt 28 = .ok (.iconst 0, 1) := by decide +kernel
theorem dX9_isOpenAt_29 : decode cX9_isOpenAt 29 = .ok (.ireturn, 1) := by decide +kernel
theorem dX9_reasons_0 : decode cX9_reasons 0 = .ok (.aload_n 0, 1) := by decide +kernel
theorem dX9_reasons_1 : decode cX9_reasons 1 = .ok (.aload_n 0, 1) := by decide +kernel
theorem dX9_reasons_2 : decode cX9_reasons 2 = .ok (.iload_n 1, 1) := by decide +kernel
theorem dX9_reasons_3 : decode cX9_reasons 3 = .ok (.invokevirtual 148, 3) := by decide +kernel
theorem dX9_reasons_6 : decode cX9_reasons 6 = .ok (.ifCond .ne 7, 3) := by decide +kernel
theorem dX9_reasons_9 : decode cX9_reasons 9 = .ok (.iconst 1, 1) := by decide +kernel
theorem dX9_reasons_10 : decode cX9_reasons 10 = .ok (.goto 28, 3) := by decide +kernel
theorem dX9_reasons_13 : decode cX9_reasons 13 = .ok (.iload_n 2, 1) := by decide +kernel
theorem dX9_reasons_14 : decode cX9_reasons 14 = .ok (.invokestatic 107, 3) := by decide +kernel
theorem dX9_reasons_17 : decode cX9_reasons 17 = .ok (.ifCond .ne 7, 3) := by decide +kernel
theorem dX9_reasons_20 : decode cX9_reasons 20 = .ok (.iconst 2, 1) := by decide +kernel
theorem dX9_reasons_21 : decode cX9_reasons 21 = .ok (.goto 17, 3) := by decide +kernel
theorem dX9_reasons_24 : decode cX9_reasons 24 = .ok (.aload_n 0, 1) := by decide +kernel
theorem dX9_reasons_25 : decode cX9_reasons 25 = .ok (.iload_n 1, 1) := by decide +kernel
theorem dX9_reasons_26 : decode cX9_reasons 26 = .ok (.iload_n 2, 1) := by decide +kernel
theorem dX9_reasons_27 : decode cX9_reasons 27 = .ok (.invokevirtual 161, 3) := by decide +kernel
theorem dX9_reasons_30 : decode cX9_reasons 30 = .ok (.ifCond .eq 7, 3) := by decide +kernel
theorem dX9_reasons_33 : decode cX9_reasons 33 = .ok (.iconst 3, 1) := by decide +kernel
theorem dX9_reasons_34 : decode cX9_reasons 34 = .ok (.goto 4, 3) := by decide +kernel
theorem dX9_reasons_37 : decode cX9_reasons 37 = .ok (.iconst 0, 1) := by decide +kernel
theorem dX9_reasons_38 : decode cX9_reasons 38 = .ok (.putfield 71, 3) := by decide +kernel
theorem dX9_reasons_41 : decode cX9_reasons 41 = .ok (.aload_n 0, 1) := by decide +kernel
theorem dX9_reasons_42 : decode cX9_reasons 42 = .ok (.getfield 71, 3) := by decide +kernel
theorem dX9_reasons_45 : decode cX9_reasons 45 = .ok (.ifCond .le 5, 3) := by decide +kernel
theorem dX9_reasons_48 : decode cX9_reasons 48 = .ok (.iconst 0, 1) := by decide +kernel
theorem dX9_reasons_49 : decode cX9_reasons 49 = .ok (.ireturn, 1) := by decide +kernel
theorem dX9_reasons_50 : decode cX9_reasons 50 = .ok (.sipush 1023, 3) := by decide +kernel
theorem dX9_reasons_53 : decode cX9_reasons 53 = .ok (.istore_n 3, 1) := by decide +kernel
theorem dX9_reasons_54 : decode cX9_reasons 54 = .ok (.sipush 1022, 3) := by decide +kernel
theorem dX9_reasons_57 : decode cX9_reasons 57 = .ok (.istore 4, 2) := by decide +kernel
theorem dX9_reasons_59 : decode cX9_reasons 59 = .ok (.iload 4, 2) := by decide +kernel
theorem dX9_reasons_61 : decode cX9_reasons 61 = .ok (.ifCond .lt 35, 3) := by decide +kernel
theorem dX9_reasons_64 : decode cX9_reasons 64 = .ok (.aload_n 0, 1) := by decide +kernel
theorem dX9_reasons_65 : decode cX9_reasons 65 = .ok (.iload 4, 2) := by decide +kernel
theorem dX9_reasons_67 : decode cX9_reasons 67 = .ok (.iload_n 1, 1) := by decide +kernel
theorem dX9_reasons_68 : decode cX9_reasons 68 = .ok (.iload_n 2, 1) := by decide +kernel
theorem dX9_reasons_69 : decode cX9_reasons 69 = .ok (.invokevirtual 165, 3) := by decide +kernel
theorem dX9_reasons_72 : decode cX9_reasons 72 = .ok (.ifCond .eq 18, 3) := by decide +kernel
theorem dX9_reasons_75 : decode cX9_reasons 75 = .ok (.iload 4, 2) := by decide +kernel
theorem dX9_reasons_77 : decode cX9_reasons 77 = .ok (.invokestatic 168, 3) := by decide +kernel
theorem dX9_reasons_80 : decode cX9_reasons 80 = .ok (.iload_n 3, 1) := by decide +kernel
theorem dX9_reasons_81 : decode cX9_reasons 81 = .ok (.invokestatic 168, 3) := by decide +kernel
theorem dX9_reasons_84 : decode cX9_reasons 84 = .ok (.if_icmp .gt 6, 3) := by decide +kernel
theorem dX9_reasons_87 : decode cX9_reasons 87 = .ok (.iload 4, 2) := by decide +kernel
theorem dX9_reasons_89 : decode cX9_reasons 89 = .ok (.istore_n 3, 1) := by decide +kernel
theorem dX9_reasons_90 : decode cX9_reasons 90 = .ok (.iinc 4 (-1), 3) := by decide +kernel
theorem dX9_reasons_93 : decode cX9_reasons 93 = .ok (.goto (-34), 3) := by decide +kernel
theorem dX9_reasons_96 : decode cX9_reasons 96 = .ok (.iload_n 3, 1) := by decide +kernel
theorem dX9_reasons_97 : decode cX9_reasons 97 = .ok (.ireturn, 1) := by decide +kernel
theorem dX9_hasAt_0 : decode cX9_hasAt 0 = .ok (.aload_n 0, 1) := by decide +kernel
theorem dX9_hasAt_1 : decode cX9_hasAt 1 = .ok (.iload_n 1, 1) := by decide +kernel
theorem dX9_hasAt_2 : decode cX9_hasAt 2 = .ok (.invokevirtual 118, 3) := by decide +kernel
theorem dX9_hasAt_5 : decode cX9_hasAt 5 = .ok (.ifCond .eq 26, 3) := by decide +kernel
theorem dX9_hasAt_8 : decode cX9_hasAt 8 = .ok (.iload_n 2, 1) := by decide +kernel
theorem dX9_hasAt_9 : decode cX9_hasAt 9 = .ok (.aload_n 0, 1) := by decide +kernel
theorem dX9_hasAt_10 : decode cX9_hasAt 10 = .ok (.iload_n 1, 1) := by decide +kernel
theorem dX9_hasAt_11 : decode cX9_hasAt 11 = .ok (.invokevirtual 114, 3) := by decide +kernel
theorem dX9_hasAt_14 : decode cX9_hasAt 14 = .ok (.aload_n 0, 1) := by decide +kernel
theorem dX9_hasAt_15 : decode cX9_hasAt 15 = .ok (.iload_n 1, 1) := by decide +kernel
theorem dX9_hasAt_16 : decode cX9_hasAt 16 = .ok (.invokevirtual 121, 3) := by decide +kernel
theorem dX9_hasAt_19 : decode cX9_hasAt 19 = .ok (.iconst 1, 1) := by decide +kernel
theorem dX9_hasAt_20 : decode cX9_hasAt 20 = .ok (.isub, 1) := by decide +kernel
theorem dX9_hasAt_21 : decode cX9_hasAt 21 = .ok (.invokestatic 96, 3) := by decide +kernel
theorem dX9_hasAt_24 : decode cX9_hasAt 24 = .ok (.ifCond .eq 7, 3) := by decide +kernel
theorem dX9_hasAt_27 : decode cX9_hasAt 27 = .ok (.iconst 1, 1) := by decide +kernel
theorem dX9_hasAt_28 : decode cX9_hasAt 28 = .ok (.goto 4, 3) := by decide +kernel
theorem dX9_hasAt_31 : decode cX9_hasAt 31 = .ok (.iconst 0, 1) := by decide +kernel
theorem dX9_hasAt_32 : decode cX9_hasAt 32 = .ok (.ireturn, 1) := by decide +kernel
theorem dX9_isBusy_0 : decode cX9_isBusy 0 = .ok (.iconst 0, 1) := by decide +kernel
theorem dX9_isBusy_1 : decode cX9_isBusy 1 = .ok (.istore_n 3, 1) := by decide +kernel
theorem dX9_isBusy_2 : decode cX9_isBusy 2 = .ok (.iload_n 3, 1) := by decide +kernel
theorem dX9_isBusy_3 : decode cX9_isBusy 3 = .ok (.aload_n 0, 1) := by decide +kernel
theorem dX9_isBusy_4 : decode cX9_isBusy 4 = .ok (.getfield 84, 3) := by decide +kernel
theorem dX9_isBusy_7 : decode cX9_isBusy 7 = .ok (.if_icmp .ge 30, 3) := by decide +kernel
theorem dX9_isBusy_10 : decode cX9_isBusy 10 = .ok (.aload_n 0, 1) := by decide +kernel
theorem dX9_isBusy_11 : decode cX9_isBusy 11 = .ok (.getfield 38, 3) := by decide +kernel
theorem dX9_isBusy_14 : decode cX9_isBusy 14 = .ok (.iload_n 3, 1) := by decide +kernel
theorem dX9_isBusy_15 : decode cX9_isBusy 15 = .ok (.iaload, 1) := by decide +kernel
theorem dX9_isBusy_16 : decode cX9_isBusy 16 = .ok (.iload_n 1, 1) := by decide +kernel
theorem dX9_isBusy_17 : decode cX9_isBusy 17 = .ok (.if_icmp .ne 14, 3) := by decide +kernel
theorem dX9_isBusy_20 : decode cX9_isBusy 20 = .ok (.aload_n 0, 1) := by decide +kernel
theorem dX9_isBusy_21 : decode cX9_isBusy 21 = .ok (.iload_n 3, 1) := by decide +kernel
theorem dX9_isBusy_22 : decode cX9_isBusy 22 = .ok (.iload_n 2, 1) := by decide +kernel
theorem dX9_isBusy_23 : decode cX9_isBusy 23 = .ok (.invokevirtual 171, 3) := by decide +kernel
theorem dX9_isBusy_26 : decode cX9_isBusy 26 = .ok (.ifCond .eq 5, 3) := by decide +kernel
theorem dX9_isBusy_29 : decode cX9_isBusy 29 = .ok (.iconst 1, 1) := by decide +kernel
theorem dX9_isBusy_30 : decode cX9_isBusy 30 = .ok (.ireturn, 1) := by decide +kernel
theorem dX9_isBusy_31 : decode cX9_isBusy 31 = .ok (.iinc 3 1, 3) := by decide +kernel
theorem dX9_isBusy_34 : decode cX9_isBusy 34 = .ok (.goto (-32), 3) := by decide +kernel
theorem dX9_isBusy_37 : decode cX9_isBusy 37 = .ok (.iconst 0, 1) := by decide +kernel
theorem dX9_isBusy_38 : decode cX9_isBusy 38 = .ok (.ireturn, 1) := by decide +kernel
theorem dX9_gapsOn_0 : decode cX9_gapsOn 0 = .ok (.iconst 0, 1) := by decide +kernel
theorem dX9_gapsOn_1 : decode cX9_gapsOn 1 = .ok (.istore_n 3, 1) := by decide +kernel
theorem dX9_gapsOn_2 : decode cX9_gapsOn 2 = .ok (.iconst (-1), 1) := by decide +kernel
theorem dX9_gapsOn_3 : decode cX9_gapsOn 3 = .ok (.istore 4, 2) := by decide +kernel
theorem dX9_gapsOn_5 : decode cX9_gapsOn 5 = .ok (.bipush 6, 2) := by decide +kernel
theorem dX9_gapsOn_7 : decode cX9_gapsOn 7 = .ok (.iload_n 2, 1) := by decide +kernel
theorem dX9_gapsOn_8 : decode cX9_gapsOn 8 = .ok (.imul, 1) := by decide +kernel
theorem dX9_gapsOn_9 : decode cX9_gapsOn 9 = .ok (.istore 5, 2) := by decide +kernel
theorem dX9_gapsOn_11 : decode cX9_gapsOn 11 = .ok (.iload 5, 2) := by decide +kernel
theorem dX9_gapsOn_13 : decode cX9_gapsOn 13 = .ok (.bipush 6, 2) := by decide +kernel
theorem dX9_gapsOn_15 : decode cX9_gapsOn 15 = .ok (.iload_n 2, 1) := by decide +kernel
theorem dX9_gapsOn_16 : decode cX9_gapsOn 16 = .ok (.imul, 1) := by decide +kernel
theorem dX9_gapsOn_17 : decode cX9_gapsOn 17 = .ok (.bipush 6, 2) := by decide +kernel
theorem dX9_gapsOn_19 : decode cX9_gapsOn 19 = .ok (.iadd, 1) := by decide +kernel
theorem dX9_gapsOn_20 : decode cX9_gapsOn 20 = .ok (.if_icmp .ge 47, 3) := by decide +kernel
theorem dX9_gapsOn_23 : decode cX9_gapsOn 23 = .ok (.aload_n 0, 1) := by decide +kernel
theorem dX9_gapsOn_24 : decode cX9_gapsOn 24 = .ok (.iload_n 1, 1) := by decide +kernel
theorem dX9_gapsOn_25 : decode cX9_gapsOn 25 = .ok (.iload 5, 2) := by decide +kernel
theorem dX9_gapsOn_27 : decode cX9_gapsOn 27 = .ok (.invokevirtual 174, 3) := by decide +kernel
theorem dX9_gapsOn_30 : decode cX9_gapsOn 30 = .ok (.ifCond .eq 23, 3) := by decide +kernel
theorem dX9_gapsOn_33 : decode cX9_gapsOn 33 = .ok (.iload_n 3, 1) := by decide +kernel
theorem dX9_gapsOn_34 : decode cX9_gapsOn 34 = .ok (.iload 4, 2) := by decide +kernel
theorem dX9_gapsOn_36 : decode cX9_gapsOn 36 = .ok (.ifCond .le 8, 3) := by decide +kernel
theorem dX9_gapsOn_39 : decode cX9_gapsOn 39 = .ok (.iload 4, 2) := by decide +kernel
theorem dX9_gapsOn_41 : decode cX9_gapsOn 41 = .ok (.goto 4, 3) := by decide +kernel
theorem dX9_gapsOn_44 : decode cX9_gapsOn 44 = .ok (.iconst 0, 1) := by decide +kernel
theorem dX9_gapsOn_45 : decode cX9_gapsOn 45 = .ok (.iadd, 1) := by decide +kernel
theorem dX9_gapsOn_46 : decode cX9_gapsOn 46 = .ok (.istore_n 3, 1) := by decide +kernel
theorem dX9_gapsOn_47 : decode cX9_gapsOn 47 = .ok (.iconst 0, 1) := by decide +kernel
theorem dX9_gapsOn_48 : decode cX9_gapsOn 48 = .ok (.istore 4, 2) := by decide +kernel
theorem dX9_gapsOn_50 : decode cX9_gapsOn 50 = .ok (.goto 11, 3) := by decide +kernel
theorem dX9_gapsOn_53 : decode cX9_gapsOn 53 = .ok (.iload 4, 2) := by decide +kernel
theorem dX9_gapsOn_55 : decode cX9_gapsOn 55 = .ok (.ifCond .lt 6, 3) := by decide +kernel
theorem dX9_gapsOn_58 : decode cX9_gapsOn 58 = .ok (.iinc 4 1, 3) := by decide +kernel
theorem dX9_gapsOn_61 : decode cX9_gapsOn 61 = .ok (.iinc 5 1, 3) := by decide +kernel
theorem dX9_gapsOn_64 : decode cX9_gapsOn 64 = .ok (.goto (-53), 3) := by decide +kernel
theorem dX9_gapsOn_67 : decode cX9_gapsOn 67 = .ok (.iload_n 3, 1) := by decide +kernel
theorem dX9_gapsOn_68 : decode cX9_gapsOn 68 = .ok (.ireturn, 1) := by decide +kernel
theorem dX9_isLate_0 : decode cX9_isLate 0 = .ok (.aload_n 0, 1) := by decide +kernel
theorem dX9_isLate_1 : decode cX9_isLate 1 = .ok (.iload_n 1, 1) := by decide +kernel
theorem dX9_isLate_2 : decode cX9_isLate 2 = .ok (.invokevirtual 118, 3) := by decide +kernel
theorem dX9_isLate_5 : decode cX9_isLate 5 = .ok (.ifCond .eq 18, 3) := by decide +kernel
theorem dX9_isLate_8 : decode cX9_isLate 8 = .ok (.aload_n 0, 1) := by decide +kernel
theorem dX9_isLate_9 : decode cX9_isLate 9 = .ok (.iload_n 1, 1) := by decide +kernel
theorem dX9_isLate_10 : decode cX9_isLate 10 = .ok (.invokevirtual 121, 3) := by decide +kernel
theorem dX9_isLate_13 : decode cX9_isLate 13 = .ok (.bipush 6, 2) := by decide +kernel
theorem dX9_isLate_15 : decode cX9_isLate 15 = .ok (.irem, 1) := by decide +kernel
theorem dX9_isLate_16 : decode cX9_isLate 16 = .ok (.ifCond .ne 7, 3) := by decide +kernel
theorem dX9_isLate_19 : decode cX9_isLate 19 = .ok (.iconst 1, 1) := by decide +kernel
theorem dX9_isLate_20 : decode cX9_isLate 20 = .ok (.goto 4, 3) := by decide +kernel
theorem dX9_isLate_23 : decode cX9_isLate 23 = .ok (.iconst 0, 1) := by decide +kernel
theorem dX9_isLate_24 : decode cX9_isLate 24 = .ok (.ireturn, 1) := by decide +kernel
theorem dX9_amountOf_0 : decode cX9_amountOf 0 = .ok (.iconst 0, 1) := by decide +kernel
theorem dX9_amountOf_1 : decode cX9_amountOf 1 = .ok (.istore_n 2, 1) := by decide +kernel
theorem dX9_amountOf_2 : decode cX9_amountOf 2 = .ok (.iconst 0, 1) := by decide +kernel
theorem dX9_amountOf_3 : decode cX9_amountOf 3 = .ok (.istore_n 3, 1) := by decide +kernel
theorem dX9_amountOf_4 : decode cX9_amountOf 4 = .ok (.iload_n 1, 1) := by decide +kernel
theorem dX9_amountOf_5 : decode cX9_amountOf 5 = .ok (.ifCond .ne 32, 3) := by decide +kernel
theorem dX9_amountOf_8 : decode cX9_amountOf 8 = .ok (.iload_n 3, 1) := by decide +kernel
theorem dX9_amountOf_9 : decode cX9_amountOf 9 = .ok (.aload_n 0, 1) := by decide +kernel
theorem dX9_amountOf_10 : decode cX9_amountOf 10 = .ok (.getfield 81, 3) := by decide +kernel
theorem dX9_amountOf_13 : decode cX9_amountOf 13 = .ok (.iconst 5, 1) := by decide +kernel
theorem dX9_amountOf_14 : decode cX9_amountOf 14 = .ok (.imul, 1) := by decide +kernel
theorem dX9_amountOf_15 : decode cX9_amountOf 15 = .ok (.if_icmp .ge 22, 3) := by decide +kernel
theorem dX9_amountOf_18 : decode cX9_amountOf 18 = .ok (.iload_n 2, 1) := by decide +kernel
theorem dX9_amountOf_19 : decode cX9_amountOf 19 = .ok (.aload_n 0, 1) := by decide +kernel
theorem dX9_amountOf_20 : decode cX9_amountOf 20 = .ok (.iload_n 3, 1) := by decide +kernel
theorem dX9_amountOf_21 : decode cX9_amountOf 21 = .ok (.iconst 5, 1) := by decide +kernel
theorem dX9_amountOf_22 : decode cX9_amountOf 22 = .ok (.idiv, 1) := by decide +kernel
theorem dX9_amountOf_23 : decode cX9_amountOf 23 = .ok (.iload_n 3, 1) := by decide +kernel
theorem dX9_amountOf_24 : decode cX9_amountOf 24 = .ok (.iconst 5, 1) := by decide +kernel
theorem dX9_amountOf_25 : decode cX9_amountOf 25 = .ok (.irem, 1) := by decide +kernel
theorem dX9_amountOf_26 : decode cX9_amountOf 26 = .ok (.invokevirtual 177, 3) := by decide +kernel
theorem dX9_amountOf_29 : decode cX9_amountOf 29 = .ok (.iadd, 1) := by decide +kernel
theorem dX9_amountOf_30 : decode cX9_amountOf 30 = .ok (.istore_n 2, 1) := by decide +kernel
theorem dX9_amountOf_31 : decode cX9_amountOf 31 = .ok (.iinc 3 1, 3) := by decide +kernel
theorem dX9_amountOf_34 : decode cX9_amountOf 34 = .ok (.goto (-30), 3) := by decide +kernel
theorem dX9_amountOf_37 : decode cX9_amountOf 37 = .ok (.iconst 0, 1) := by decide +kernel
theorem dX9_amountOf_38 : decode cX9_amountOf 38 = .ok (.istore_n 3, 1) := by decide +kernel
theorem dX9_amountOf_39 : decode cX9_amountOf 39 = .ok (.iload_n 1, 1) := by decide +kernel
theorem dX9_amountOf_40 : decode cX9_amountOf 40 = .ok (.iconst 1, 1) := by decide +kernel
theorem dX9_amountOf_41 : decode cX9_amountOf 41 = .ok (.if_icmp .ne 45, 3) := by decide +kernel
theorem dX9_amountOf_44 : decode cX9_amountOf 44 = .ok (.iload_n 3, 1) := by decide +kernel
theorem dX9_amountOf_45 : decode cX9_amountOf 45 = .ok (.aload_n 0, 1) := by decide +kernel
theorem dX9_amountOf_46 : decode cX9_amountOf 46 = .ok (.getfield 84, 3) := by decide +kernel
theorem dX9_amountOf_49 : decode cX9_amountOf 49 = .ok (.if_icmp .ge 37, 3) := by decide +kernel
theorem dX9_amountOf_52 : decode cX9_amountOf 52 = .ok (.iload_n 2, 1) := by decide +kernel
theorem dX9_amountOf_53 : decode cX9_amountOf 53 = .ok (.aload_n 0, 1) := by decide +kernel
theorem dX9_amountOf_54 : decode cX9_amountOf 54 = .ok (.iload_n 3, 1) := by decide +kernel
theorem dX9_amountOf_55 : decode cX9_amountOf 55 = .ok (.invokevirtual 180, 3) := by decide +kernel
theorem dX9_amountOf_58 : decode cX9_amountOf 58 = .ok (.ifCond .eq 19, 3) := by decide +kernel
theorem dX9_amountOf_61 : decode cX9_amountOf 61 = .ok (.iconst 1, 1) := by decide +kernel
theorem dX9_amountOf_62 : decode cX9_amountOf 62 = .ok (.aload_n 0, 1) := by decide +kernel
theorem dX9_amountOf_63 : decode cX9_amountOf 63 = .ok (.getfield 22, 3) := by decide +kernel
theorem dX9_amountOf_66 : decode cX9_amountOf 66 = .ok (.aload_n 0, 1) := by decide +kernel
theorem dX9_amountOf_67 : decode cX9_amountOf 67 = .ok (.getfield 41, 3) := by decide +kernel
theorem dX9_amountOf_70 : decode cX9_amountOf 70 = .ok (.iload_n 3, 1) := by decide +kernel
theorem dX9_amountOf_71 : decode cX9_amountOf 71 = .ok (.iaload, 1) := by decide +kernel
theorem dX9_amountOf_72 : decode cX9_amountOf 72 = .ok (.iaload, 1) := by decide +kernel
theorem dX9_amountOf_73 : decode cX9_amountOf 73 = .ok (.iadd, 1) := by decide +kernel
theorem dX9_amountOf_74 : decode cX9_amountOf 74 = .ok (.goto 4, 3) := by decide +kernel
theorem dX9_amountOf_77 : decode cX9_amountOf 77 = .ok (.iconst 0, 1) := by decide +kernel
theorem dX9_amountOf_78 : decode cX9_amountOf 78 = .ok (.iadd, 1) := by decide +kernel
theorem dX9_amountOf_79 : decode cX9_amountOf 79 = .ok (.istore_n 2, 1) := by decide +kernel
theorem dX9_amountOf_80 : decode cX9_amountOf 80 = .ok (.iinc 3 1, 3) := by decide +kernel
theorem dX9_amountOf_83 : decode cX9_amountOf 83 = .ok (.goto (-44), 3) := by decide +kernel
theorem dX9_amountOf_86 : decode cX9_amountOf 86 = .ok (.iconst 0, 1) := by decide +kernel
theorem dX9_amountOf_87 : decode cX9_amountOf 87 = .ok (.istore_n 3, 1) := by decide +kernel
theorem dX9_amountOf_88 : decode cX9_amountOf 88 = .ok (.iload_n 1, 1) := by decide +kernel
theorem dX9_amountOf_89 : decode cX9_amountOf 89 = .ok (.iconst 2, 1) := by decide +kernel
theorem dX9_amountOf_90 : decode cX9_amountOf 90 = .ok (.if_icmp .ne 71, 3) := by decide +kernel
theorem dX9_amountOf_93 : decode cX9_amountOf 93 = .ok (.iload_n 3, 1) := by decide +kernel
theorem dX9_amountOf_94 : decode cX9_amountOf 94 = .ok (.aload_n 0, 1) := by decide +kernel
theorem dX9_amountOf_95 : decode cX9_amountOf 95 = .ok (.getfield 84, 3) := by decide +kernel
theorem dX9_amountOf_98 : decode cX9_amountOf 98 = .ok (.if_icmp .ge 63, 3) := by decide +kernel
theorem dX9_amountOf_101 : decode cX9_amountOf 101 = .ok (.iconst 0, 1) := by decide +kernel
theorem dX9_amountOf_102 : decode cX9_amountOf 102 = .ok (.istore 4, 2) := by decide +kernel
theorem dX9_amountOf_104 : decode cX9_amountOf 104 = .ok (.iload 4, 2) := by decide +kernel
theorem dX9_amountOf_106 : decode cX9_amountOf 106 = .ok (.aload_n 0, 1) := by decide +kernel
theorem dX9_amountOf_107 : decode cX9_amountOf 107 = .ok (.getfield 47, 3) := by decide +kernel
theorem dX9_amountOf_110 : decode cX9_amountOf 110 = .ok (.iload_n 3, 1) := by decide +kernel
theorem dX9_amountOf_111 : decode cX9_amountOf 111 = .ok (.iaload, 1) := by decide +kernel
theorem dX9_amountOf_112 : decode cX9_amountOf 112 = .ok (.if_icmp .ge 43, 3) := by decide +kernel
theorem dX9_amountOf_115 : decode cX9_amountOf 115 = .ok (.aload_n 0, 1) := by decide +kernel
theorem dX9_amountOf_116 : decode cX9_amountOf 116 = .ok (.iload_n 3, 1) := by decide +kernel
theorem dX9_amountOf_117 : decode cX9_amountOf 117 = .ok (.invokevirtual 118, 3) := by decide +kernel
theorem dX9_amountOf_120 : decode cX9_amountOf 120 = .ok (.ifCond .eq 35, 3) := by decide +kernel
theorem dX9_amountOf_123 : decode cX9_amountOf 123 = .ok (.iload_n 2, 1) := by decide +kernel
theorem dX9_amountOf_124 : decode cX9_amountOf 124 = .ok (.aload_n 0, 1) := by decide +kernel
theorem dX9_amountOf_125 : decode cX9_amountOf 125 = .ok (.getfield 28, 3) := by decide +kernel
theorem dX9_amountOf_128 : decode cX9_amountOf 128 = .ok (.bipush 30, 2) := by decide +kernel
theorem dX9_amountOf_130 : decode cX9_amountOf 130 = .ok (.aload_n 0, 1) := by decide +kernel
theorem dX9_amountOf_131 : decode cX9_amountOf 131 = .ok (.getfield 41, 3) := by decide +kernel
theorem dX9_amountOf_134 : decode cX9_amountOf 134 = .ok (.iload_n 3, 1) := by decide +kernel
theorem dX9_amountOf_135 : decode cX9_amountOf 135 = .ok (.iaload, 1) := by decide +kernel
theorem dX9_amountOf_136 : decode cX9_amountOf 136 = .ok (.imul, 1) := by decide +kernel
theorem dX9_amountOf_137 : decode cX9_amountOf 137 = .ok (.aload_n 0, 1) := by decide +kernel
theorem dX9_amountOf_138 : decode cX9_amountOf 138 = .ok (.iload_n 3, 1) := by decide +kernel
theorem dX9_amountOf_139 : decode cX9_amountOf 139 = .ok (.invokevirtual 114, 3) := by decide +kernel
theorem dX9_amountOf_142 : decode cX9_amountOf 142 = .ok (.iadd, 1) := by decide +kernel
theorem dX9_amountOf_143 : decode cX9_amountOf 143 = .ok (.iload 4, 2) := by decide +kernel
theorem dX9_amountOf_145 : decode cX9_amountOf 145 = .ok (.iadd, 1) := by decide +kernel
theorem dX9_amountOf_146 : decode cX9_amountOf 146 = .ok (.iaload, 1) := by decide +kernel
theorem dX9_amountOf_147 : decode cX9_amountOf 147 = .ok (.iadd, 1) := by decide +kernel
theorem dX9_amountOf_148 : decode cX9_amountOf 148 = .ok (.istore_n 2, 1) := by decide +kernel
theorem dX9_amountOf_149 : decode cX9_amountOf 149 = .ok (.iinc 4 1, 3) := by decide +kernel
theorem dX9_amountOf_152 : decode cX9_amountOf 152 = .ok (.goto (-48), 3) := by decide +kernel
theorem dX9_amountOf_155 : decode cX9_amountOf 155 = .ok (.iinc 3 1, 3) := by decide +kernel
theorem dX9_amountOf_158 : decode cX9_amountOf 158 = .ok (.goto (-70), 3) := by decide +kernel
theorem dX9_amountOf_161 : decode cX9_amountOf 161 = .ok (.iconst 0, 1) := by decide +kernel
theorem dX9_amountOf_162 : decode cX9_amountOf 162 = .ok (.istore_n 3, 1) := by decide +kernel
theorem dX9_amountOf_163 : decode cX9_amountOf 163 = .ok (.iload_n 1, 1) := by decide +kernel
theorem dX9_amountOf_164 : decode cX9_amountOf 164 = .ok (.iconst 3, 1) := by decide +kernel
theorem dX9_amountOf_165 : decode cX9_amountOf 165 = .ok (.if_icmp .ne 50, 3) := by decide +kernel
theorem dX9_amountOf_168 : decode cX9_amountOf 168 = .ok (.iload_n 3, 1) := by decide +kernel
theorem dX9_amountOf_169 : decode cX9_amountOf 169 = .ok (.aload_n 0, 1) := by decide +kernel
theorem dX9_amountOf_170 : decode cX9_amountOf 170 = .ok (.getfield 84, 3) := by decide +kernel
theorem dX9_amountOf_173 : decode cX9_amountOf 173 = .ok (.if_icmp .ge 42, 3) := by decide +kernel
theorem dX9_amountOf_176 : decode cX9_amountOf 176 = .ok (.iconst 0, 1) := by decide +kernel
theorem dX9_amountOf_177 : decode cX9_amountOf 177 = .ok (.istore 4, 2) := by decide +kernel
theorem dX9_amountOf_179 : decode cX9_amountOf 179 = .ok (.iload 4, 2) := by decide +kernel
theorem dX9_amountOf_181 : decode cX9_amountOf 181 = .ok (.iload_n 3, 1) := by decide +kernel
theorem dX9_amountOf_182 : decode cX9_amountOf 182 = .ok (.if_icmp .ge 27, 3) := by decide +kernel
theorem dX9_amountOf_185 : decode cX9_amountOf 185 = .ok (.iload_n 2, 1) := by decide +kernel
theorem dX9_amountOf_186 : decode cX9_amountOf 186 = .ok (.aload_n 0, 1) := by decide +kernel
theorem dX9_amountOf_187 : decode cX9_amountOf 187 = .ok (.iload_n 3, 1) := by decide +kernel
theorem dX9_amountOf_188 : decode cX9_amountOf 188 = .ok (.iload 4, 2) := by decide +kernel
theorem dX9_amountOf_190 : decode cX9_amountOf 190 = .ok (.invokevirtual 183, 3) := by decide +kernel
theorem dX9_amountOf_193 : decode cX9_amountOf 193 = .ok (.ifCond .eq 7, 3) := by decide +kernel
theorem dX9_amountOf_196 : decode cX9_amountOf 196 = .ok (.iconst 1, 1) := by decide +kernel
theorem dX9_amountOf_197 : decode cX9_amountOf 197 = .ok (.goto 4, 3) := by decide +kernel
theorem dX9_amountOf_200 : decode cX9_amountOf 200 = .ok (.iconst 0, 1) := by decide +kernel
theorem dX9_amountOf_201 : decode cX9_amountOf 201 = .ok (.iadd, 1) := by decide +kernel
theorem dX9_amountOf_202 : decode cX9_amountOf 202 = .ok (.istore_n 2, 1) := by decide +kernel
theorem dX9_amountOf_203 : decode cX9_amountOf 203 = .ok (.iinc 4 1, 3) := by decide +kernel
theorem dX9_amountOf_206 : decode cX9_amountOf 206 = .ok (.goto (-27), 3) := by decide +kernel
theorem dX9_amountOf_209 : decode cX9_amountOf 209 = .ok (.iinc 3 1, 3) := by decide +kernel
theorem dX9_amountOf_212 : decode cX9_amountOf 212 = .ok (.goto (-49), 3) := by decide +kernel
theorem dX9_amountOf_215 : decode cX9_amountOf 215 = .ok (.iload_n 2, 1) := by decide +kernel
theorem dX9_amountOf_216 : decode cX9_amountOf 216 = .ok (.ireturn, 1) := by decide +kernel
theorem dX9_isCrowd_0 : decode cX9_isCrowd 0 = .ok (.aload_n 0, 1) := by decide +kernel
theorem dX9_isCrowd_1 : decode cX9_isCrowd 1 = .ok (.iload_n 1, 1) := by decide +kernel
theorem dX9_isCrowd_2 : decode cX9_isCrowd 2 = .ok (.invokevirtual 118, 3) := by decide +kernel
theorem dX9_isCrowd_5 : decode cX9_isCrowd 5 = .ok (.ifCond .eq 64, 3) := by decide +kernel
theorem dX9_isCrowd_8 : decode cX9_isCrowd 8 = .ok (.aload_n 0, 1) := by decide +kernel
theorem dX9_isCrowd_9 : decode cX9_isCrowd 9 = .ok (.iload_n 2, 1) := by decide +kernel
theorem dX9_isCrowd_10 : decode cX9_isCrowd 10 = .ok (.invokevirtual 118, 3) := by decide +kernel
theorem dX9_isCrowd_13 : decode cX9_isCrowd 13 = .ok (.ifCond .eq 56, 3) := by decide +kernel
theorem dX9_isCrowd_16 : decode cX9_isCrowd 16 = .ok (.aload_n 0, 1) := by decide +kernel
theorem dX9_isCrowd_17 : decode cX9_isCrowd 17 = .ok (.getfield 38, 3) := by decide +kernel
theorem dX9_isCrowd_20 : decode cX9_isCrowd 20 = .ok (.iload_n 1, 1) := by decide +kernel
theorem dX9_isCrowd_21 : decode cX9_isCrowd 21 = .ok (.iaload, 1) := by decide +kernel
theorem dX9_isCrowd_22 : decode cX9_isCrowd 22 = .ok (.aload_n 0, 1) := by decide +kernel
theorem dX9_isCrowd_23 : decode cX9_isCrowd 23 = .ok (.getfield 38, 3) := by decide +kernel
theorem dX9_isCrowd_26 : decode cX9_isCrowd 26 = .ok (.iload_n 2, 1) := by decide +kernel
theorem dX9_isCrowd_27 : decode cX9_isCrowd 27 = .ok (.iaload, 1) := by decide +kernel
theorem dX9_isCrowd_28 : decode cX9_isCrowd 28 = .ok (.if_icmp .ne 41, 3) := by decide +kernel
theorem dX9_isCrowd_31 : decode cX9_isCrowd 31 = .ok (.aload_n 0, 1) := by decide +kernel
theorem dX9_isCrowd_32 : decode cX9_isCrowd 32 = .ok (.getfield 50, 3) := by decide +kernel
theorem dX9_isCrowd_35 : decode cX9_isCrowd 35 = .ok (.iload_n 1, 1) := by decide +kernel
theorem dX9_isCrowd_36 : decode cX9_isCrowd 36 = .ok (.iaload, 1) := by decide +kernel
theorem dX9_isCrowd_37 : decode cX9_isCrowd 37 = .ok (.aload_n 0, 1) := by decide +kernel
theorem dX9_isCrowd_38 : decode cX9_isCrowd 38 = .ok (.getfield 50, 3) := by decide +kernel
theorem dX9_isCrowd_41 : decode cX9_isCrowd 41 = .ok (.iload_n 2, 1) := by decide +kernel
theorem dX9_isCrowd_42 : decode cX9_isCrowd 42 = .ok (.iaload, 1) := by decide +kernel
theorem dX9_isCrowd_43 : decode cX9_isCrowd 43 = .ok (.if_icmp .ne 26, 3) := by decide +kernel
theorem dX9_isCrowd_46 : decode cX9_isCrowd 46 = .ok (.aload_n 0, 1) := by decide +kernel
theorem dX9_isCrowd_47 : decode cX9_isCrowd 47 = .ok (.iload_n 1, 1) := by decide +kernel
theorem dX9_isCrowd_48 : decode cX9_isCrowd 48 = .ok (.invokevirtual 114, 3) := by decide +kernel
theorem dX9_isCrowd_51 : decode cX9_isCrowd 51 = .ok (.bipush 6, 2) := by decide +kernel
theorem dX9_isCrowd_53 : decode cX9_isCrowd 53 = .ok (.idiv, 1) := by decide +kernel
theorem dX9_isCrowd_54 : decode cX9_isCrowd 54 = .ok (.aload_n 0, 1) := by decide +kernel
theorem dX9_isCrowd_55 : decode cX9_isCrowd 55 = .ok (.iload_n 2, 1) := by decide +kernel
theorem dX9_isCrowd_56 : decode cX9_isCrowd 56 = .ok (.invokevirtual 114, 3) := by decide +kernel
theorem dX9_isCrowd_59 : decode cX9_isCrowd 59 = .ok (.bipush 6, 2) := by decide +kernel
theorem dX9_isCrowd_61 : decode cX9_isCrowd 61 = .ok (.idiv, 1) := by decide +kernel
theorem dX9_isCrowd_62 : decode cX9_isCrowd 62 = .ok (.if_icmp .ne 7, 3) := by decide +kernel
theorem dX9_isCrowd_65 : decode cX9_isCrowd 65 = .ok (.iconst 1, 1) := by decide +kernel
theorem dX9_isCrowd_66 : decode cX9_isCrowd 66 = .ok (.goto 4, 3) := by decide +kernel
theorem dX9_isCrowd_69 : decode cX9_isCrowd 69 = .ok (.iconst 0, 1) := by decide +kernel
theorem dX9_isCrowd_70 : decode cX9_isCrowd 70 = .ok (.ireturn, 1) := by decide +kernel
theorem dX9_costNow_0 : decode cX9_costNow 0 = .ok (.iconst 0, 1) := by decide +kernel
theorem dX9_costNow_1 : decode cX9_costNow 1 = .ok (.istore_n 1, 1) := by decide +kernel
theorem dX9_costNow_2 : decode cX9_costNow 2 = .ok (.iconst 0, 1) := by decide +kernel
theorem dX9_costNow_3 : decode cX9_costNow 3 = .ok (.istore_n 2, 1) := by decide +kernel
theorem dX9_costNow_4 : decode cX9_costNow 4 = .ok (.iload_n 2, 1) := by decide +kernel
theorem dX9_costNow_5 : decode cX9_costNow 5 = .ok (.iconst 4, 1) := by decide +kernel
theorem dX9_costNow_6 : decode cX9_costNow 6 = .ok (.if_icmp .ge 37, 3) := by decide +kernel
theorem dX9_costNow_9 : decode cX9_costNow 9 = .ok (.iload_n 1, 1) := by decide +kernel
theorem dX9_costNow_10 : decode cX9_costNow 10 = .ok (.aload_n 0, 1) := by decide +kernel
theorem dX9_costNow_11 : decode cX9_costNow 11 = .ok (.getfield 56, 3) := by decide +kernel
theorem dX9_costNow_14 : decode cX9_costNow 14 = .ok (.iload_n 2, 1) := by decide +kernel
theorem dX9_costNow_15 : decode cX9_costNow 15 = .ok (.iaload, 1) := by decide +kernel
theorem dX9_costNow_16 : decode cX9_costNow 16 = .ok (.ifCond .le 18, 3) := by decide +kernel
theorem dX9_costNow_19 : decode cX9_costNow 19 = .ok (.aload_n 0, 1) := by decide +kernel
theorem dX9_costNow_20 : decode cX9_costNow 20 = .ok (.getfield 56, 3) := by decide +kernel
theorem dX9_costNow_23 : decode cX9_costNow 23 = .ok (.iload_n 2, 1) := by decide +kernel
theorem dX9_costNow_24 : decode cX9_costNow 24 = .ok (.iaload, 1) := by decide +kernel
theorem dX9_costNow_25 : decode cX9_costNow 25 = .ok (.aload_n 0, 1) := by decide +kernel
theorem dX9_costNow_26 : decode cX9_costNow 26 = .ok (.iload_n 2, 1) := by decide +kernel
theorem dX9_costNow_27 : decode cX9_costNow 27 = .ok (.invokevirtual 186, 3) := by decide +kernel
theorem dX9_costNow_30 : decode cX9_costNow 30 = .ok (.imul, 1) := by decide +kernel
theorem dX9_costNow_31 : decode cX9_costNow 31 = .ok (.goto 4, 3) := by decide +kernel
theorem dX9_costNow_34 : decode cX9_costNow 34 = .ok (.iconst 0, 1) := by decide +kernel
theorem dX9_costNow_35 : decode cX9_costNow 35 = .ok (.iadd, 1) := by decide +kernel
theorem dX9_costNow_36 : decode cX9_costNow 36 = .ok (.istore_n 1, 1) := by decide +kernel
theorem dX9_costNow_37 : decode cX9_costNow 37 = .ok (.iinc 2 1, 3) := by decide +kernel
theorem dX9_costNow_40 : decode cX9_costNow 40 = .ok (.goto (-36), 3) := by decide +kernel
theorem dX9_costNow_43 : decode cX9_costNow 43 = .ok (.iload_n 1, 1) := by decide +kernel
theorem dX9_costNow_44 : decode cX9_costNow 44 = .ok (.ireturn, 1) := by decide +kernel
theorem dX9_costAt_0 : decode cX9_costAt 0 = .ok (.aload_n 0, 1) := by decide +kernel
theorem dX9_costAt_1 : decode cX9_costAt 1 = .ok (.getfield 53, 3) := by decide +kernel
theorem dX9_costAt_4 : decode cX9_costAt 4 = .ok (.iload_n 1, 1) := by decide +kernel
theorem dX9_costAt_5 : decode cX9_costAt 5 = .ok (.iaload, 1) := by decide +kernel
theorem dX9_costAt_6 : decode cX9_costAt 6 = .ok (.istore_n 3, 1) := by decide +kernel
theorem dX9_costAt_7 : decode cX9_costAt 7 = .ok (.aload_n 0, 1) := by decide +kernel
theorem dX9_costAt_8 : decode cX9_costAt 8 = .ok (.getfield 53, 3) := by decide +kernel
theorem dX9_costAt_11 : decode cX9_costAt 11 = .ok (.iload_n 1, 1) := by decide +kernel
theorem dX9_costAt_12 : decode cX9_costAt 12 = .ok (.iload_n 2, 1) := by decide +kernel
theorem dX9_costAt_13 : decode cX9_costAt 13 = .ok (.iastore, 1) := by decide +kernel
theorem dX9_costAt_14 : decode cX9_costAt 14 = .ok (.aload_n 0, 1) := by decide +kernel
theorem dX9_costAt_15 : decode cX9_costAt 15 = .ok (.invokevirtual 189, 3) := by decide +kernel
theorem dX9_costAt_18 : decode cX9_costAt 18 = .ok (.istore 4, 2) := by decide +kernel
theorem dX9_costAt_20 : decode cX9_costAt 20 = .ok (.aload_n 0, 1) := by decide +kernel
theorem dX9_costAt_21 : decode cX9_costAt 21 = .ok (.getfield 53, 3) := by decide +kernel
theorem dX9_costAt_24 : decode cX9_costAt 24 = .ok (.iload_n 1, 1) := by decide +kernel
theorem dX9_costAt_25 : decode cX9_costAt 25 = .ok (.iload_n 3, 1) := by decide +kernel
theorem dX9_costAt_26 : decode cX9_costAt 26 = .ok (.iastore, 1) := by decide +kernel
theorem dX9_costAt_27 : decode cX9_costAt 27 = .ok (.iload 4, 2) := by decide +kernel
theorem dX9_costAt_29 : decode cX9_costAt 29 = .ok (.ireturn, 1) := by decide +kernel
theorem dX9_manyPossible_0 : decode cX9_manyPossible 0 = .ok (.iconst 0, 1) := by decide +kernel
theorem dX9_manyPossible_1 : decode cX9_manyPossible 1 = .ok (.istore_n 2, 1) := by decide +kernel
theorem dX9_manyPossible_2 : decode cX9_manyPossible 2 = .ok (.iconst 0, 1) := by decide +kernel
theorem dX9_manyPossible_3 : decode cX9_manyPossible 3 = .ok (.istore_n 3, 1) := by decide +kernel
theorem dX9_manyPossible_4 : decode cX9_manyPossible 4 = .ok (.iload_n 3, 1) := by decide +kernel
theorem dX9_manyPossible_5 : decode cX9_manyPossible 5 = .ok (.sipush 240, 3) := by decide +kernel
theorem dX9_manyPossible_8 : decode cX9_manyPossible 8 = .ok (.if_icmp .ge 26, 3) := by decide +kernel
theorem dX9_manyPossible_11 : decode cX9_manyPossible 11 = .ok (.iload_n 2, 1) := by decide +kernel
theorem dX9_manyPossible_12 : decode cX9_manyPossible 12 = .ok (.aload_n 0, 1) := by decide +kernel
theorem dX9_manyPossible_13 : decode cX9_manyPossible 13 = .ok (.iload_n 1, 1) := by decide +kernel
theorem dX9_manyPossible_14 : decode cX9_manyPossible 14 = .ok (.iload_n 3, 1) := by decide +kernel
theorem dX9_manyPossible_15 : decode cX9_manyPossible 15 = .ok (.invokevirtual 193, 3) := by decide +kernel
theorem dX9_manyPossible_18 : decode cX9_manyPossible 18 = .ok (.ifCond .eq 7, 3) := by decide +kernel
theorem dX9_manyPossible_21 : decode cX9_manyPossible 21 = .ok (.iconst 1, 1) := by decide +kernel
theorem dX9_manyPossible_22 : decode cX9_manyPossible 22 = .ok (.goto 4, 3) := by decide +kernel
theorem dX9_manyPossible_25 : decode cX9_manyPossible 25 = .ok (.iconst 0, 1) := by decide +kernel
theorem dX9_manyPossible_26 : decode cX9_manyPossible 26 = .ok (.iadd, 1) := by decide +kernel
theorem dX9_manyPossible_27 : decode cX9_manyPossible 27 = .ok (.istore_n 2, 1) := by decide +kernel
theorem dX9_manyPossible_28 : decode cX9_manyPossible 28 = .ok (.iinc 3 1, 3) := by decide +kernel
theorem dX9_manyPossible_31 : decode cX9_manyPossible 31 = .ok (.goto (-27), 3) := by decide +kernel
theorem dX9_manyPossible_34 : decode cX9_manyPossible 34 = .ok (.iload_n 2, 1) := by decide +kernel
theorem dX9_manyPossible_35 : decode cX9_manyPossible 35 = .ok (.ireturn, 1) := by decide +kernel
theorem dX9_cheapestOf_0 : decode cX9_cheapestOf 0 = .ok (.iconst (-1), 1) := by decide +kernel
theorem dX9_cheapestOf_1 : decode cX9_cheapestOf 1 = .ok (.istore_n 2, 1) := by decide +kernel
theorem dX9_cheapestOf_2 : decode cX9_cheapestOf 2 = .ok (.iconst 0, 1) := by decide +kernel
theorem dX9_cheapestOf_3 : decode cX9_cheapestOf 3 = .ok (.istore_n 3, 1) := by decide +kernel
theorem dX9_cheapestOf_4 : decode cX9_cheapestOf 4 = .ok (.iconst 0, 1) := by decide +kernel
theorem dX9_cheapestOf_5 : decode cX9_cheapestOf 5 = .ok (.istore 4, 2) := by decide +kernel
theorem dX9_cheapestOf_7 : decode cX9_cheapestOf 7 = .ok (.iload 4, 2) := by decide +kernel
theorem dX9_cheapestOf_9 : decode cX9_cheapestOf 9 = .ok (.sipush 240, 3) := by decide +kernel
theorem dX9_cheapestOf_12 : decode cX9_cheapestOf 12 = .ok (.if_icmp .ge 50, 3) := by decide +kernel
theorem dX9_cheapestOf_15 : decode cX9_cheapestOf 15 = .ok (.aload_n 0, 1) := by decide +kernel
theorem dX9_cheapestOf_16 : decode cX9_cheapestOf 16 = .ok (.iload_n 1, 1) := by decide +kernel
theorem dX9_cheapestOf_17 : decode cX9_cheapestOf 17 = .ok (.iload 4, 2) := by decide +kernel
theorem dX9_cheapestOf_19 : decode cX9_cheapestOf 19 = .ok (.invokevirtual 193, 3) := by decide +kernel
theorem dX9_cheapestOf_22 : decode cX9_cheapestOf 22 = .ok (.ifCond .ne 6, 3) := by decide +kernel
theorem dX9_cheapestOf_25 : decode cX9_cheapestOf 25 = .ok (.goto 31, 3) := by decide +kernel
theorem dX9_cheapestOf_28 : decode cX9_cheapestOf 28 = .ok (.aload_n 0, 1) := by decide +kernel
theorem dX9_cheapestOf_29 : decode cX9_cheapestOf 29 = .ok (.iload_n 1, 1) := by decide +kernel
theorem dX9_cheapestOf_30 : decode cX9_cheapestOf 30 = .ok (.iload 4, 2) := by decide +kernel
theorem dX9_cheapestOf_32 : decode cX9_cheapestOf 32 = .ok (.invokevirtual 196, 3) := by decide +kernel
theorem dX9_cheapestOf_35 : decode cX9_cheapestOf 35 = .ok (.istore 5, 2) := by decide +kernel
theorem dX9_cheapestOf_37 : decode cX9_cheapestOf 37 = .ok (.iload_n 2, 1) := by decide +kernel
theorem dX9_cheapestOf_38 : decode cX9_cheapestOf 38 = .ok (.ifCond .lt 12, 3) := by decide +kernel
theorem dX9_cheapestOf_41 : decode cX9_cheapestOf 41 = .ok (.iload 5, 2) := by decide +kernel
theorem dX9_cheapestOf_43 : decode cX9_cheapestOf 43 = .ok (.iload_n 3, 1) := by decide +kernel
theorem dX9_cheapestOf_44 : decode cX9_cheapestOf 44 = .ok (.if_icmp .lt 6, 3) := by decide +kernel
theorem dX9_cheapestOf_47 : decode cX9_cheapestOf 47 = .ok (.goto 9, 3) := by decide +kernel
theorem dX9_cheapestOf_50 : decode cX9_cheapestOf 50 = .ok (.iload 4, 2) := by decide +kernel
theorem dX9_cheapestOf_52 : decode cX9_cheapestOf 52 = .ok (.istore_n 2, 1) := by decide +kernel
theorem dX9_cheapestOf_53 : decode cX9_cheapestOf 53 = .ok (.iload 5, 2) := by decide +kernel
theorem dX9_cheapestOf_55 : decode cX9_cheapestOf 55 = .ok (.istore_n 3, 1) := by decide +kernel
theorem dX9_cheapestOf_56 : decode cX9_cheapestOf 56 = .ok (.iinc 4 1, 3) := by decide +kernel
theorem dX9_cheapestOf_59 : decode cX9_cheapestOf 59 = .ok (.goto (-52), 3) := by decide +kernel
theorem dX9_cheapestOf_62 : decode cX9_cheapestOf 62 = .ok (.iload_n 2, 1) := by decide +kernel
theorem dX9_cheapestOf_63 : decode cX9_cheapestOf 63 = .ok (.ireturn, 1) := by decide +kernel
theorem dX9_hardestOf_0 : decode cX9_hardestOf 0 = .ok (.iconst (-1), 1) := by decide +kernel
theorem dX9_hardestOf_1 : decode cX9_hardestOf 1 = .ok (.istore_n 2, 1) := by decide +kernel
theorem dX9_hardestOf_2 : decode cX9_hardestOf 2 = .ok (.iconst 0, 1) := by decide +kernel
theorem dX9_hardestOf_3 : decode cX9_hardestOf 3 = .ok (.istore_n 3, 1) := by decide +kernel
theorem dX9_hardestOf_4 : decode cX9_hardestOf 4 = .ok (.iconst 0, 1) := by decide +kernel
theorem dX9_hardestOf_5 : decode cX9_hardestOf 5 = .ok (.istore 4, 2) := by decide +kernel
theorem dX9_hardestOf_7 : decode cX9_hardestOf 7 = .ok (.iload 4, 2) := by decide +kernel
theorem dX9_hardestOf_9 : decode cX9_hardestOf 9 = .ok (.aload_n 0, 1) := by decide +kernel
theorem dX9_hardestOf_10 : decode cX9_hardestOf 10 = .ok (.getfield 84, 3) := by decide +kernel
theorem dX9_hardestOf_13 : decode cX9_hardestOf 13 = .ok (.if_icmp .ge 46, 3) := by decide +kernel
theorem dX9_hardestOf_16 : decode cX9_hardestOf 16 = .ok (.aload_n 1, 1) := by decide +kernel
theorem dX9_hardestOf_17 : decode cX9_hardestOf 17 = .ok (.iload 4, 2) := by decide +kernel
theorem dX9_hardestOf_19 : decode cX9_hardestOf 19 = .ok (.baload, 1) := by decide +kernel
theorem dX9_hardestOf_20 : decode cX9_hardestOf 20 = .ok (.ifCond .ne 6, 3) := by decide +kernel
theorem dX9_hardestOf_23 : decode cX9_hardestOf 23 = .ok (.goto 30, 3) := by decide +kernel
theorem dX9_hardestOf_26 : decode cX9_hardestOf 26 = .ok (.aload_n 0, 1) := by decide +kernel
theorem dX9_hardestOf_27 : decode cX9_hardestOf 27 = .ok (.iload 4, 2) := by decide +kernel
theorem dX9_hardestOf_29 : decode cX9_hardestOf 29 = .ok (.invokevirtual 199, 3) := by decide +kernel
theorem dX9_hardestOf_32 : decode cX9_hardestOf 32 = .ok (.istore 5, 2) := by decide +kernel
theorem dX9_hardestOf_34 : decode cX9_hardestOf 34 = .ok (.iload_n 2, 1) := by decide +kernel
theorem dX9_hardestOf_35 : decode cX9_hardestOf 35 = .ok (.ifCond .lt 12, 3) := by decide +kernel
theorem dX9_hardestOf_38 : decode cX9_hardestOf 38 = .ok (.iload 5, 2) := by decide +kernel
theorem dX9_hardestOf_40 : decode cX9_hardestOf 40 = .ok (.iload_n 3, 1) := by decide +kernel
theorem dX9_hardestOf_41 : decode cX9_hardestOf 41 = .ok (.if_icmp .lt 6, 3) := by decide +kernel
theorem dX9_hardestOf_44 : decode cX9_hardestOf 44 = .ok (.goto 9, 3) := by decide +kernel
theorem dX9_hardestOf_47 : decode cX9_hardestOf 47 = .ok (.iload 4, 2) := by decide +kernel
theorem dX9_hardestOf_49 : decode cX9_hardestOf 49 = .ok (.istore_n 2, 1) := by decide +kernel
theorem dX9_hardestOf_50 : decode cX9_hardestOf 50 = .ok (.iload 5, 2) := by decide +kernel
theorem dX9_hardestOf_52 : decode cX9_hardestOf 52 = .ok (.istore_n 3, 1) := by decide +kernel
theorem dX9_hardestOf_53 : decode cX9_hardestOf 53 = .ok (.iinc 4 1, 3) := by decide +kernel
theorem dX9_hardestOf_56 : decode cX9_hardestOf 56 = .ok (.goto (-49), 3) := by decide +kernel
theorem dX9_hardestOf_59 : decode cX9_hardestOf 59 = .ok (.iload_n 2, 1) := by decide +kernel
theorem dX9_hardestOf_60 : decode cX9_hardestOf 60 = .ok (.ireturn, 1) := by decide +kernel
theorem dX9_place_0 : decode cX9_place 0 = .ok (.aload_n 0, 1) := by decide +kernel
theorem dX9_place_1 : decode cX9_place 1 = .ok (.aload_n 0, 1) := by decide +kernel
theorem dX9_place_2 : decode cX9_place 2 = .ok (.iload_n 1, 1) := by decide +kernel
theorem dX9_place_3 : decode cX9_place 3 = .ok (.iload_n 2, 1) := by decide +kernel
theorem dX9_place_4 : decode cX9_place 4 = .ok (.iload_n 3, 1) := by decide +kernel
theorem dX9_place_5 : decode cX9_place 5 = .ok (.invokevirtual 154, 3) := by decide +kernel
theorem dX9_place_8 : decode cX9_place 8 = .ok (.putfield 71, 3) := by decide +kernel
theorem dX9_place_11 : decode cX9_place 11 = .ok (.aload_n 0, 1) := by decide +kernel
theorem dX9_place_12 : decode cX9_place 12 = .ok (.getfield 71, 3) := by decide +kernel
theorem dX9_place_15 : decode cX9_place 15 = .ok (.ifCond .ne 43, 3) := by decide +kernel
theorem dX9_place_18 : decode cX9_place 18 = .ok (.aload_n 0, 1) := by decide +kernel
theorem dX9_place_19 : decode cX9_place 19 = .ok (.aload_n 0, 1) := by decide +kernel
theorem dX9_place_20 : decode cX9_place 20 = .ok (.getfield 35, 3) := by decide +kernel
theorem dX9_place_23 : decode cX9_place 23 = .ok (.iload_n 1, 1) := by decide +kernel
theorem dX9_place_24 : decode cX9_place 24 = .ok (.baload, 1) := by decide +kernel
theorem dX9_place_25 : decode cX9_place 25 = .ok (.ifCond .ne 11, 3) := by decide +kernel
theorem dX9_place_28 : decode cX9_place 28 = .ok (.aload_n 0, 1) := by decide +kernel
theorem dX9_place_29 : decode cX9_place 29 = .ok (.iload_n 1, 1) := by decide +kernel
theorem dX9_place_30 : decode cX9_place 30 = .ok (.invokevirtual 202, 3) := by decide +kernel
theorem dX9_place_33 : decode cX9_place 33 = .ok (.ifCond .eq 7, 3) := by decide +kernel
theorem dX9_place_36 : decode cX9_place 36 = .ok (.iconst 3, 1) := by decide +kernel
theorem dX9_place_37 : decode cX9_place 37 = .ok (.goto 18, 3) := by decide +kernel
theorem dX9_place_40 : decode cX9_place 40 = .ok (.aload_n 0, 1) := by decide +kernel
theorem dX9_place_41 : decode cX9_place 41 = .ok (.iload_n 1, 1) := by decide +kernel
theorem dX9_place_42 : decode cX9_place 42 = .ok (.iload_n 2, 1) := by decide +kernel
theorem dX9_place_43 : decode cX9_place 43 = .ok (.iload_n 3, 1) := by decide +kernel
theorem dX9_place_44 : decode cX9_place 44 = .ok (.invokevirtual 145, 3) := by decide +kernel
theorem dX9_place_47 : decode cX9_place 47 = .ok (.ifCond .le 7, 3) := by decide +kernel
theorem dX9_place_50 : decode cX9_place 50 = .ok (.iconst 4, 1) := by decide +kernel
theorem dX9_place_51 : decode cX9_place 51 = .ok (.goto 4, 3) := by decide +kernel
theorem dX9_place_54 : decode cX9_place 54 = .ok (.iconst 0, 1) := by decide +kernel
theorem dX9_place_55 : decode cX9_place 55 = .ok (.putfield 71, 3) := by decide +kernel
theorem dX9_place_58 : decode cX9_place 58 = .ok (.aload_n 0, 1) := by decide +kernel
theorem dX9_place_59 : decode cX9_place 59 = .ok (.getfield 71, 3) := by decide +kernel
theorem dX9_place_62 : decode cX9_place 62 = .ok (.ifCond .le 5, 3) := by decide +kernel
theorem dX9_place_65 : decode cX9_place 65 = .ok (.iconst 0, 1) := by decide +kernel
theorem dX9_place_66 : decode cX9_place 66 = .ok (.ireturn, 1) := by decide +kernel
theorem dX9_place_67 : decode cX9_place 67 = .ok (.aload_n 0, 1) := by decide +kernel
theorem dX9_place_68 : decode cX9_place 68 = .ok (.getfield 53, 3) := by decide +kernel
theorem dX9_place_71 : decode cX9_place 71 = .ok (.iload_n 1, 1) := by decide +kernel
theorem dX9_place_72 : decode cX9_place 72 = .ok (.bipush 8, 2) := by decide +kernel
theorem dX9_place_74 : decode cX9_place 74 = .ok (.iload_n 2, 1) := by decide +kernel
theorem dX9_place_75 : decode cX9_place 75 = .ok (.imul, 1) := by decide +kernel
theorem dX9_place_76 : decode cX9_place 76 = .ok (.iload_n 3, 1) := by decide +kernel
theorem dX9_place_77 : decode cX9_place 77 = .ok (.iadd, 1) := by decide +kernel
theorem dX9_place_78 : decode cX9_place 78 = .ok (.iastore, 1) := by decide +kernel
theorem dX9_place_79 : decode cX9_place 79 = .ok (.aload_n 0, 1) := by decide +kernel
theorem dX9_place_80 : decode cX9_place 80 = .ok (.invokevirtual 189, 3) := by decide +kernel
theorem dX9_place_83 : decode cX9_place 83 = .ok (.ireturn, 1) := by decide +kernel
theorem dX9_wrongFree_0 : decode cX9_wrongFree 0 = .ok (.aload_n 0, 1) := by decide +kernel
theorem dX9_wrongFree_1 : decode cX9_wrongFree 1 = .ok (.iload_n 1, 1) := by decide +kernel
theorem dX9_wrongFree_2 : decode cX9_wrongFree 2 = .ok (.invokevirtual 148, 3) := by decide +kernel
theorem dX9_wrongFree_5 : decode cX9_wrongFree 5 = .ok (.ifCond .ne 7, 3) := by decide +kernel
theorem dX9_wrongFree_8 : decode cX9_wrongFree 8 = .ok (.iconst 1, 1) := by decide +kernel
theorem dX9_wrongFree_9 : decode cX9_wrongFree 9 = .ok (.goto 33, 3) := by decide +kernel
theorem dX9_wrongFree_12 : decode cX9_wrongFree 12 = .ok (.aload_n 0, 1) := by decide +kernel
theorem dX9_wrongFree_13 : decode cX9_wrongFree 13 = .ok (.iload_n 1, 1) := by decide +kernel
theorem dX9_wrongFree_14 : decode cX9_wrongFree 14 = .ok (.invokevirtual 118, 3) := by decide +kernel
theorem dX9_wrongFree_17 : decode cX9_wrongFree 17 = .ok (.ifCond .eq 20, 3) := by decide +kernel
theorem dX9_wrongFree_20 : decode cX9_wrongFree 20 = .ok (.aload_n 0, 1) := by decide +kernel
theorem dX9_wrongFree_21 : decode cX9_wrongFree 21 = .ok (.getfield 35, 3) := by decide +kernel
theorem dX9_wrongFree_24 : decode cX9_wrongFree 24 = .ok (.iload_n 1, 1) := by decide +kernel
theorem dX9_wrongFree_25 : decode cX9_wrongFree 25 = .ok (.baload, 1) := by decide +kernel
theorem dX9_wrongFree_26 : decode cX9_wrongFree 26 = .ok (.ifCond .ne 11, 3) := by decide +kernel
theorem dX9_wrongFree_29 : decode cX9_wrongFree 29 = .ok (.aload_n 0, 1) := by decide +kernel
theorem dX9_wrongFree_30 : decode cX9_wrongFree 30 = .ok (.iload_n 1, 1) := by decide +kernel
theorem dX9_wrongFree_31 : decode cX9_wrongFree 31 = .ok (.invokevirtual 202, 3) := by decide +kernel
theorem dX9_wrongFree_34 : decode cX9_wrongFree 34 = .ok (.ifCond .eq 7, 3) := by decide +kernel
theorem dX9_wrongFree_37 : decode cX9_wrongFree 37 = .ok (.iconst 2, 1) := by decide +kernel
theorem dX9_wrongFree_38 : decode cX9_wrongFree 38 = .ok (.goto 4, 3) := by decide +kernel
theorem dX9_wrongFree_41 : decode cX9_wrongFree 41 = .ok (.iconst 0, 1) := by decide +kernel
theorem dX9_wrongFree_42 : decode cX9_wrongFree 42 = .ok (.ireturn, 1) := by decide +kernel
theorem dX9_remove_0 : decode cX9_remove 0 = .ok (.aload_n 0, 1) := by decide +kernel
theorem dX9_remove_1 : decode cX9_remove 1 = .ok (.aload_n 0, 1) := by decide +kernel
theorem dX9_remove_2 : decode cX9_remove 2 = .ok (.iload_n 1, 1) := by decide +kernel
theorem dX9_remove_3 : decode cX9_remove 3 = .ok (.invokevirtual 205, 3) := by decide +kernel
theorem dX9_remove_6 : decode cX9_remove 6 = .ok (.putfield 71, 3) := by decide +kernel
theorem dX9_remove_9 : decode cX9_remove 9 = .ok (.aload_n 0, 1) := by decide +kernel
theorem dX9_remove_10 : decode cX9_remove 10 = .ok (.getfield 71, 3) := by decide +kernel
theorem dX9_remove_13 : decode cX9_remove 13 = .ok (.ifCond .le 5, 3) := by decide +kernel
theorem dX9_remove_16 : decode cX9_remove 16 = .ok (.iconst 0, 1) := by decide +kernel
theorem dX9_remove_17 : decode cX9_remove 17 = .ok (.ireturn, 1) := by decide +kernel
theorem dX9_remove_18 : decode cX9_remove 18 = .ok (.aload_n 0, 1) := by decide +kernel
theorem dX9_remove_19 : decode cX9_remove 19 = .ok (.getfield 53, 3) := by decide +kernel
theorem dX9_remove_22 : decode cX9_remove 22 = .ok (.iload_n 1, 1) := by decide +kernel
theorem dX9_remove_23 : decode cX9_remove 23 = .ok (.iconst (-1), 1) := by decide +kernel
theorem dX9_remove_24 : decode cX9_remove 24 = .ok (.iastore, 1) := by decide +kernel
theorem dX9_remove_25 : decode cX9_remove 25 = .ok (.aload_n 0, 1) := by decide +kernel
theorem dX9_remove_26 : decode cX9_remove 26 = .ok (.invokevirtual 189, 3) := by decide +kernel
theorem dX9_remove_29 : decode cX9_remove 29 = .ok (.ireturn, 1) := by decide +kernel
theorem dX9_manyLocked_0 : decode cX9_manyLocked 0 = .ok (.iconst 0, 1) := by decide +kernel
theorem dX9_manyLocked_1 : decode cX9_manyLocked 1 = .ok (.istore_n 1, 1) := by decide +kernel
theorem dX9_manyLocked_2 : decode cX9_manyLocked 2 = .ok (.iconst 0, 1) := by decide +kernel
theorem dX9_manyLocked_3 : decode cX9_manyLocked 3 = .ok (.istore_n 2, 1) := by decide +kernel
theorem dX9_manyLocked_4 : decode cX9_manyLocked 4 = .ok (.iload_n 2, 1) := by decide +kernel
theorem dX9_manyLocked_5 : decode cX9_manyLocked 5 = .ok (.aload_n 0, 1) := by decide +kernel
theorem dX9_manyLocked_6 : decode cX9_manyLocked 6 = .ok (.getfield 84, 3) := by decide +kernel
theorem dX9_manyLocked_9 : decode cX9_manyLocked 9 = .ok (.if_icmp .ge 26, 3) := by decide +kernel
theorem dX9_manyLocked_12 : decode cX9_manyLocked 12 = .ok (.iload_n 1, 1) := by decide +kernel
theorem dX9_manyLocked_13 : decode cX9_manyLocked 13 = .ok (.aload_n 0, 1) := by decide +kernel
theorem dX9_manyLocked_14 : decode cX9_manyLocked 14 = .ok (.getfield 35, 3) := by decide +kernel
theorem dX9_manyLocked_17 : decode cX9_manyLocked 17 = .ok (.iload_n 2, 1) := by decide +kernel
theorem dX9_manyLocked_18 : decode cX9_manyLocked 18 = .ok (.baload, 1) := by decide +kernel
theorem dX9_manyLocked_19 : decode cX9_manyLocked 19 = .ok (.ifCond .eq 7, 3) := by decide +kernel
theorem dX9_manyLocked_22 : decode cX9_manyLocked 22 = .ok (.iconst 1, 1) := by decide +kernel
theorem dX9_manyLocked_23 : decode cX9_manyLocked 23 = .ok (.goto 4, 3) := by decide +kernel
theorem dX9_manyLocked_26 : decode cX9_manyLocked 26 = .ok (.iconst 0, 1) := by decide +kernel
theorem dX9_manyLocked_27 : decode cX9_manyLocked 27 = .ok (.iadd, 1) := by decide +kernel
theorem dX9_manyLocked_28 : decode cX9_manyLocked 28 = .ok (.istore_n 1, 1) := by decide +kernel
theorem dX9_manyLocked_29 : decode cX9_manyLocked 29 = .ok (.iinc 2 1, 3) := by decide +kernel
theorem dX9_manyLocked_32 : decode cX9_manyLocked 32 = .ok (.goto (-28), 3) := by decide +kernel
theorem dX9_manyLocked_35 : decode cX9_manyLocked 35 = .ok (.iload_n 1, 1) := by decide +kernel
theorem dX9_manyLocked_36 : decode cX9_manyLocked 36 = .ok (.ireturn, 1) := by decide +kernel
theorem dX9_lock_0 : decode cX9_lock 0 = .ok (.aload_n 0, 1) := by decide +kernel
theorem dX9_lock_1 : decode cX9_lock 1 = .ok (.aload_n 0, 1) := by decide +kernel
theorem dX9_lock_2 : decode cX9_lock 2 = .ok (.iload_n 1, 1) := by decide +kernel
theorem dX9_lock_3 : decode cX9_lock 3 = .ok (.invokevirtual 205, 3) := by decide +kernel
theorem dX9_lock_6 : decode cX9_lock 6 = .ok (.putfield 71, 3) := by decide +kernel
theorem dX9_lock_9 : decode cX9_lock 9 = .ok (.aload_n 0, 1) := by decide +kernel
theorem dX9_lock_10 : decode cX9_lock 10 = .ok (.getfield 71, 3) := by decide +kernel
theorem dX9_lock_13 : decode cX9_lock 13 = .ok (.ifCond .le 5, 3) := by decide +kernel
theorem dX9_lock_16 : decode cX9_lock 16 = .ok (.iconst 0, 1) := by decide +kernel
theorem dX9_lock_17 : decode cX9_lock 17 = .ok (.ireturn, 1) := by decide +kernel
theorem dX9_lock_18 : decode cX9_lock 18 = .ok (.aload_n 0, 1) := by decide +kernel
theorem dX9_lock_19 : decode cX9_lock 19 = .ok (.getfield 35, 3) := by decide +kernel
theorem dX9_lock_22 : decode cX9_lock 22 = .ok (.iload_n 1, 1) := by decide +kernel
theorem dX9_lock_23 : decode cX9_lock 23 = .ok (.iconst 1, 1) := by decide +kernel
theorem dX9_lock_24 : decode cX9_lock 24 = .ok (.bastore, 1) := by decide +kernel
theorem dX9_lock_25 : decode cX9_lock 25 = .ok (.aload_n 0, 1) := by decide +kernel
theorem dX9_lock_26 : decode cX9_lock 26 = .ok (.invokevirtual 208, 3) := by decide +kernel
theorem dX9_lock_29 : decode cX9_lock 29 = .ok (.ireturn, 1) := by decide +kernel
theorem dX9_unlock_0 : decode cX9_unlock 0 = .ok (.aload_n 0, 1) := by decide +kernel
theorem dX9_unlock_1 : decode cX9_unlock 1 = .ok (.aload_n 0, 1) := by decide +kernel
theorem dX9_unlock_2 : decode cX9_unlock 2 = .ok (.iload_n 1, 1) := by decide +kernel
theorem dX9_unlock_3 : decode cX9_unlock 3 = .ok (.invokevirtual 148, 3) := by decide +kernel
theorem dX9_unlock_6 : decode cX9_unlock 6 = .ok (.ifCond .ne 7, 3) := by decide +kernel
theorem dX9_unlock_9 : decode cX9_unlock 9 = .ok (.iconst 1, 1) := by decide +kernel
theorem dX9_unlock_10 : decode cX9_unlock 10 = .ok (.goto 17, 3) := by decide +kernel
theorem dX9_unlock_13 : decode cX9_unlock 13 = .ok (.aload_n 0, 1) := by decide +kernel
theorem dX9_unlock_14 : decode cX9_unlock 14 = .ok (.getfield 35, 3) := by decide +kernel
theorem dX9_unlock_17 : decode cX9_unlock 17 = .ok (.iload_n 1, 1) := by decide +kernel
theorem dX9_unlock_18 : decode cX9_unlock 18 = .ok (.baload, 1) := by decide +kernel
theorem dX9_unlock_19 : decode cX9_unlock 19 = .ok (.ifCond .ne 7, 3) := by decide +kernel
theorem dX9_unlock_22 : decode cX9_unlock 22 = .ok (.iconst 2, 1) := by decide +kernel
theorem dX9_unlock_23 : decode cX9_unlock 23 = .ok (.goto 4, 3) := by decide +kernel
theorem dX9_unlock_26 : decode cX9_unlock 26 = .ok (.iconst 0, 1) := by decide +kernel
theorem dX9_unlock_27 : decode cX9_unlock 27 = .ok (.putfield 71, 3) := by decide +kernel
theorem dX9_unlock_30 : decode cX9_unlock 30 = .ok (.aload_n 0, 1) := by decide +kernel
theorem dX9_unlock_31 : decode cX9_unlock 31 = .ok (.getfield 71, 3) := by decide +kernel
theorem dX9_unlock_34 : decode cX9_unlock 34 = .ok (.ifCond .le 5, 3) := by decide +kernel
theorem dX9_unlock_37 : decode cX9_unlock 37 = .ok (.iconst 0, 1) := by decide +kernel
theorem dX9_unlock_38 : decode cX9_unlock 38 = .ok (.ireturn, 1) := by decide +kernel
theorem dX9_unlock_39 : decode cX9_unlock 39 = .ok (.aload_n 0, 1) := by decide +kernel
theorem dX9_unlock_40 : decode cX9_unlock 40 = .ok (.getfield 35, 3) := by decide +kernel
theorem dX9_unlock_43 : decode cX9_unlock 43 = .ok (.iload_n 1, 1) := by decide +kernel
theorem dX9_unlock_44 : decode cX9_unlock 44 = .ok (.iconst 0, 1) := by decide +kernel
theorem dX9_unlock_45 : decode cX9_unlock 45 = .ok (.bastore, 1) := by decide +kernel
theorem dX9_unlock_46 : decode cX9_unlock 46 = .ok (.aload_n 0, 1) := by decide +kernel
theorem dX9_unlock_47 : decode cX9_unlock 47 = .ok (.invokevirtual 208, 3) := by decide +kernel
theorem dX9_unlock_50 : decode cX9_unlock 50 = .ok (.ireturn, 1) := by decide +kernel
theorem dX9_isLocked_0 : decode cX9_isLocked 0 = .ok (.aload_n 0, 1) := by decide +kernel
theorem dX9_isLocked_1 : decode cX9_isLocked 1 = .ok (.aload_n 0, 1) := by decide +kernel
theorem dX9_isLocked_2 : decode cX9_isLocked 2 = .ok (.iload_n 1, 1) := by decide +kernel
theorem dX9_isLocked_3 : decode cX9_isLocked 3 = .ok (.invokevirtual 148, 3) := by decide +kernel
theorem dX9_isLocked_6 : decode cX9_isLocked 6 = .ok (.invokevirtual 110, 3) := by decide +kernel
theorem dX9_isLocked_9 : decode cX9_isLocked 9 = .ok (.ifCond .ne 16, 3) := by decide +kernel
theorem dX9_isLocked_12 : decode cX9_isLocked 12 = .ok (.aload_n 0, 1) := by decide +kernel
theorem dX9_isLocked_13 : decode cX9_isLocked 13 = .ok (.getfield 35, 3) := by decide +kernel
theorem dX9_isLocked_16 : decode cX9_isLocked 16 = .ok (.iload_n 1, 1) := by decide +kernel
theorem dX9_isLocked_17 : decode cX9_isLocked 17 = .ok (.baload, 1) := by decide +kernel
theorem dX9_isLocked_18 : decode cX9_isLocked 18 = .ok (.ifCond .eq 7, 3) := by decide +kernel
theorem dX9_isLocked_21 : decode cX9_isLocked 21 = .ok (.iconst 1, 1) := by decide +kernel
theorem dX9_isLocked_22 : decode cX9_isLocked 22 = .ok (.goto 4, 3) := by decide +kernel
theorem dX9_isLocked_25 : decode cX9_isLocked 25 = .ok (.iconst 0, 1) := by decide +kernel
theorem dX9_isLocked_26 : decode cX9_isLocked 26 = .ok (.ireturn, 1) := by decide +kernel
theorem dX9_placeOf_0 : decode cX9_placeOf 0 = .ok (.aload_n 0, 1) := by decide +kernel
theorem dX9_placeOf_1 : decode cX9_placeOf 1 = .ok (.aload_n 0, 1) := by decide +kernel
theorem dX9_placeOf_2 : decode cX9_placeOf 2 = .ok (.iload_n 1, 1) := by decide +kernel
theorem dX9_placeOf_3 : decode cX9_placeOf 3 = .ok (.invokevirtual 148, 3) := by decide +kernel
theorem dX9_placeOf_6 : decode cX9_placeOf 6 = .ok (.ifCond .ne 7, 3) := by decide +kernel
theorem dX9_placeOf_9 : decode cX9_placeOf 9 = .ok (.iconst 1, 1) := by decide +kernel
theorem dX9_placeOf_10 : decode cX9_placeOf 10 = .ok (.goto 16, 3) := by decide +kernel
theorem dX9_placeOf_13 : decode cX9_placeOf 13 = .ok (.aload_n 0, 1) := by decide +kernel
theorem dX9_placeOf_14 : decode cX9_placeOf 14 = .ok (.iload_n 1, 1) := by decide +kernel
theorem dX9_placeOf_15 : decode cX9_placeOf 15 = .ok (.invokevirtual 118, 3) := by decide +kernel
theorem dX9_placeOf_18 : decode cX9_placeOf 18 = .ok (.ifCond .ne 7, 3) := by decide +kernel
theorem dX9_placeOf_21 : decode cX9_placeOf 21 = .ok (.iconst 2, 1) := by decide +kernel
theorem dX9_placeOf_22 : decode cX9_placeOf 22 = .ok (.goto 4, 3) := by decide +kernel
theorem dX9_placeOf_25 : decode cX9_placeOf 25 = .ok (.iconst 0, 1) := by decide +kernel
theorem dX9_placeOf_26 : decode cX9_placeOf 26 = .ok (.putfield 71, 3) := by decide +kernel
theorem dX9_placeOf_29 : decode cX9_placeOf 29 = .ok (.aload_n 0, 1) := by decide +kernel
theorem dX9_placeOf_30 : decode cX9_placeOf 30 = .ok (.getfield 71, 3) := by decide +kernel
theorem dX9_placeOf_33 : decode cX9_placeOf 33 = .ok (.ifCond .le 7, 3) := by decide +kernel
theorem dX9_placeOf_36 : decode cX9_placeOf 36 = .ok (.iconst 0, 1) := by decide +kernel
theorem dX9_placeOf_37 : decode cX9_placeOf 37 = .ok (.goto 9, 3) := by decide +kernel
theorem dX9_placeOf_40 : decode cX9_placeOf 40 = .ok (.aload_n 0, 1) := by decide +kernel
theorem dX9_placeOf_41 : decode cX9_placeOf 41 = .ok (.getfield 53, 3) := by decide +kernel
theorem dX9_placeOf_44 : decode cX9_placeOf 44 = .ok (.iload_n 1, 1) := by decide +kernel
theorem dX9_placeOf_45 : decode cX9_placeOf 45 = .ok (.iaload, 1) := by decide +kernel
theorem dX9_placeOf_46 : decode cX9_placeOf 46 = .ok (.ireturn, 1) := by decide +kernel
theorem dX9_groupAt_0 : decode cX9_groupAt 0 = .ok (.aload_n 0, 1) := by decide +kernel
theorem dX9_groupAt_1 : decode cX9_groupAt 1 = .ok (.aload_n 0, 1) := by decide +kernel
theorem dX9_groupAt_2 : decode cX9_groupAt 2 = .ok (.iload_n 1, 1) := by decide +kernel
theorem dX9_groupAt_3 : decode cX9_groupAt 3 = .ok (.invokevirtual 100, 3) := by decide +kernel
theorem dX9_groupAt_6 : decode cX9_groupAt 6 = .ok (.ifCond .ne 7, 3) := by decide +kernel
theorem dX9_groupAt_9 : decode cX9_groupAt 9 = .ok (.iconst 1, 1) := by decide +kernel
theorem dX9_groupAt_10 : decode cX9_groupAt 10 = .ok (.goto 15, 3) := by decide +kernel
theorem dX9_groupAt_13 : decode cX9_groupAt 13 = .ok (.iload_n 2, 1) := by decide +kernel
theorem dX9_groupAt_14 : decode cX9_groupAt 14 = .ok (.invokestatic 107, 3) := by decide +kernel
theorem dX9_groupAt_17 : decode cX9_groupAt 17 = .ok (.ifCond .ne 7, 3) := by decide +kernel
theorem dX9_groupAt_20 : decode cX9_groupAt 20 = .ok (.iconst 2, 1) := by decide +kernel
theorem dX9_groupAt_21 : decode cX9_groupAt 21 = .ok (.goto 4, 3) := by decide +kernel
theorem dX9_groupAt_24 : decode cX9_groupAt 24 = .ok (.iconst 3, 1) := by decide +kernel
theorem dX9_groupAt_25 : decode cX9_groupAt 25 = .ok (.putfield 71, 3) := by decide +kernel
theorem dX9_groupAt_28 : decode cX9_groupAt 28 = .ok (.aload_n 0, 1) := by decide +kernel
theorem dX9_groupAt_29 : decode cX9_groupAt 29 = .ok (.getfield 71, 3) := by decide +kernel
theorem dX9_groupAt_32 : decode cX9_groupAt 32 = .ok (.iconst 3, 1) := by decide +kernel
theorem dX9_groupAt_33 : decode cX9_groupAt 33 = .ok (.if_icmp .ge 5, 3) := by decide +kernel
theorem dX9_groupAt_36 : decode cX9_groupAt 36 = .ok (.iconst 0, 1) := by decide +kernel
theorem dX9_groupAt_37 : decode cX9_groupAt 37 = .ok (.ireturn, 1) := by decide +kernel
theorem dX9_groupAt_38 : decode cX9_groupAt 38 = .ok (.iconst 0, 1) := by decide +kernel
theorem dX9_groupAt_39 : decode cX9_groupAt 39 = .ok (.istore_n 3, 1) := by decide +kernel
theorem dX9_groupAt_40 : decode cX9_groupAt 40 = .ok (.iload_n 3, 1) := by decide +kernel
theorem dX9_groupAt_41 : decode cX9_groupAt 41 = .ok (.aload_n 0, 1) := by decide +kernel
theorem dX9_groupAt_42 : decode cX9_groupAt 42 = .ok (.getfield 84, 3) := by decide +kernel
theorem dX9_groupAt_45 : decode cX9_groupAt 45 = .ok (.if_icmp .ge 34, 3) := by decide +kernel
theorem dX9_groupAt_48 : decode cX9_groupAt 48 = .ok (.aload_n 0, 1) := by decide +kernel
theorem dX9_groupAt_49 : decode cX9_groupAt 49 = .ok (.getfield 38, 3) := by decide +kernel
theorem dX9_groupAt_52 : decode cX9_groupAt 52 = .ok (.iload_n 3, 1) := by decide +kernel
theorem dX9_groupAt_53 : decode cX9_groupAt 53 = .ok (.iaload, 1) := by decide +kernel
theorem dX9_groupAt_54 : decode cX9_groupAt 54 = .ok (.iload_n 1, 1) := by decide +kernel
theorem dX9_groupAt_55 : decode cX9_groupAt 55 = .ok (.if_icmp .ne 18, 3) := by decide +kernel
theorem dX9_groupAt_58 : decode cX9_groupAt 58 = .ok (.aload_n 0, 1) := by decide +kernel
theorem dX9_groupAt_59 : decode cX9_groupAt 59 = .ok (.iload_n 3, 1) := by decide +kernel
theorem dX9_groupAt_60 : decode cX9_groupAt 60 = .ok (.iload_n 2, 1) := by decide +kernel
theorem dX9_groupAt_61 : decode cX9_groupAt 61 = .ok (.invokevirtual 171, 3) := by decide +kernel
theorem dX9_groupAt_64 : decode cX9_groupAt 64 = .ok (.ifCond .eq 9, 3) := by decide +kernel
theorem dX9_groupAt_67 : decode cX9_groupAt 67 = .ok (.aload_n 0, 1) := by decide +kernel
theorem dX9_groupAt_68 : decode cX9_groupAt 68 = .ok (.iload_n 3, 1) := by decide +kernel
theorem dX9_groupAt_69 : decode cX9_groupAt 69 = .ok (.invokevirtual 211, 3) := by decide +kernel
theorem dX9_groupAt_72 : decode cX9_groupAt 72 = .ok (.ireturn, 1) := by decide +kernel
theorem dX9_groupAt_73 : decode cX9_groupAt 73 = .ok (.iinc 3 1, 3) := by decide +kernel
theorem dX9_groupAt_76 : decode cX9_groupAt 76 = .ok (.goto (-36), 3) := by decide +kernel
theorem dX9_groupAt_79 : decode cX9_groupAt 79 = .ok (.iconst 0, 1) := by decide +kernel
theorem dX9_groupAt_80 : decode cX9_groupAt 80 = .ok (.ireturn, 1) := by decide +kernel
theorem dX9_teacherAt_0 : decode cX9_teacherAt 0 = .ok (.aload_n 0, 1) := by decide +kernel
theorem dX9_teacherAt_1 : decode cX9_teacherAt 1 = .ok (.aload_n 0, 1) := by decide +kernel
theorem dX9_teacherAt_2 : decode cX9_teacherAt 2 = .ok (.iload_n 1, 1) := by decide +kernel
theorem dX9_teacherAt_3 : decode cX9_teacherAt 3 = .ok (.invokevirtual 104, 3) := by decide +kernel
theorem dX9_teacherAt_6 : decode cX9_teacherAt 6 = .ok (.ifCond .ne 7, 3) := by decide +kernel
theorem dX9_teacherAt_9 : decode cX9_teacherAt 9 = .ok (.iconst 1, 1) := by decide +kernel
theorem dX9_teacherAt_10 : decode cX9_teacherAt 10 = .ok (.goto 15, 3) := by decide +kernel
theorem dX9_teacherAt_13 : decode cX9_teacherAt 13 = .ok (.iload_n 2, 1) := by decide +kernel
theorem dX9_teacherAt_14 : decode cX9_teacherAt 14 = .ok (.invokestatic 107, 3) := by decide +kernel
theorem dX9_teacherAt_17 : decode cX9_teacherAt 17 = .ok (.ifCond .ne 7, 3) := by decide +kernel
theorem dX9_teacherAt_20 : decode cX9_teacherAt 20 = .ok (.iconst 2, 1) := by decide +kernel
theorem dX9_teacherAt_21 : decode cX9_teacherAt 21 = .ok (.goto 4, 3) := by decide +kernel
theorem dX9_teacherAt_24 : decode cX9_teacherAt 24 = .ok (.iconst 3, 1) := by decide +kernel
theorem dX9_teacherAt_25 : decode cX9_teacherAt 25 = .ok (.putfield 71, 3) := by decide +kernel
theorem dX9_teacherAt_28 : decode cX9_teacherAt 28 = .ok (.aload_n 0, 1) := by decide +kernel
theorem dX9_teacherAt_29 : decode cX9_teacherAt 29 = .ok (.getfield 71, 3) := by decide +kernel
theorem dX9_teacherAt_32 : decode cX9_teacherAt 32 = .ok (.iconst 3, 1) := by decide +kernel
theorem dX9_teacherAt_33 : decode cX9_teacherAt 33 = .ok (.if_icmp .ge 5, 3) := by decide +kernel
theorem dX9_teacherAt_36 : decode cX9_teacherAt 36 = .ok (.iconst 0, 1) := by decide +kernel
theorem dX9_teacherAt_37 : decode cX9_teacherAt 37 = .ok (.ireturn, 1) := by decide +kernel
theorem dX9_teacherAt_38 : decode cX9_teacherAt 38 = .ok (.iconst 0, 1) := by decide +kernel
theorem dX9_teacherAt_39 : decode cX9_teacherAt 39 = .ok (.istore_n 3, 1) := by decide +kernel
theorem dX9_teacherAt_40 : decode cX9_teacherAt 40 = .ok (.iload_n 3, 1) := by decide +kernel
theorem dX9_teacherAt_41 : decode cX9_teacherAt 41 = .ok (.aload_n 0, 1) := by decide +kernel
theorem dX9_teacherAt_42 : decode cX9_teacherAt 42 = .ok (.getfield 84, 3) := by decide +kernel
theorem dX9_teacherAt_45 : decode cX9_teacherAt 45 = .ok (.if_icmp .ge 34, 3) := by decide +kernel
theorem dX9_teacherAt_48 : decode cX9_teacherAt 48 = .ok (.aload_n 0, 1) := by decide +kernel
theorem dX9_teacherAt_49 : decode cX9_teacherAt 49 = .ok (.getfield 41, 3) := by decide +kernel
theorem dX9_teacherAt_52 : decode cX9_teacherAt 52 = .ok (.iload_n 3, 1) := by decide +kernel
theorem dX9_teacherAt_53 : decode cX9_teacherAt 53 = .ok (.iaload, 1) := by decide +kernel
theorem dX9_teacherAt_54 : decode cX9_teacherAt 54 = .ok (.iload_n 1, 1) := by decide +kernel
theorem dX9_teacherAt_55 : decode cX9_teacherAt 55 = .ok (.if_icmp .ne 18, 3) := by decide +kernel
theorem dX9_teacherAt_58 : decode cX9_teacherAt 58 = .ok (.aload_n 0, 1) := by decide +kernel
theorem dX9_teacherAt_59 : decode cX9_teacherAt 59 = .ok (.iload_n 3, 1) := by decide +kernel
theorem dX9_teacherAt_60 : decode cX9_teacherAt 60 = .ok (.iload_n 2, 1) := by decide +kernel
theorem dX9_teacherAt_61 : decode cX9_teacherAt 61 = .ok (.invokevirtual 171, 3) := by decide +kernel
theorem dX9_teacherAt_64 : decode cX9_teacherAt 64 = .ok (.ifCond .eq 9, 3) := by decide +kernel
theorem dX9_teacherAt_67 : decode cX9_teacherAt 67 = .ok (.aload_n 0, 1) := by decide +kernel
theorem dX9_teacherAt_68 : decode cX9_teacherAt 68 = .ok (.iload_n 3, 1) := by decide +kernel
theorem dX9_teacherAt_69 : decode cX9_teacherAt 69 = .ok (.invokevirtual 211, 3) := by decide +kernel
theorem dX9_teacherAt_72 : decode cX9_teacherAt 72 = .ok (.ireturn, 1) := by decide +kernel
theorem dX9_teacherAt_73 : decode cX9_teacherAt 73 = .ok (.iinc 3 1, 3) := by decide +kernel
theorem dX9_teacherAt_76 : decode cX9_teacherAt 76 = .ok (.goto (-36), 3) := by decide +kernel
theorem dX9_teacherAt_79 : decode cX9_teacherAt 79 = .ok (.iconst 0, 1) := by decide +kernel
theorem dX9_teacherAt_80 : decode cX9_teacherAt 80 = .ok (.ireturn, 1) := by decide +kernel
theorem dX9_possible_0 : decode cX9_possible 0 = .ok (.aload_n 0, 1) := by decide +kernel
theorem dX9_possible_1 : decode cX9_possible 1 = .ok (.aload_n 0, 1) := by decide +kernel
theorem dX9_possible_2 : decode cX9_possible 2 = .ok (.iload_n 1, 1) := by decide +kernel
theorem dX9_possible_3 : decode cX9_possible 3 = .ok (.invokevirtual 148, 3) := by decide +kernel
theorem dX9_possible_6 : decode cX9_possible 6 = .ok (.invokevirtual 110, 3) := by decide +kernel
theorem dX9_possible_9 : decode cX9_possible 9 = .ok (.ifCond .le 7, 3) := by decide +kernel
theorem dX9_possible_12 : decode cX9_possible 12 = .ok (.iconst 0, 1) := by decide +kernel
theorem dX9_possible_13 : decode cX9_possible 13 = .ok (.goto 8, 3) := by decide +kernel
theorem dX9_possible_16 : decode cX9_possible 16 = .ok (.aload_n 0, 1) := by decide +kernel
theorem dX9_possible_17 : decode cX9_possible 17 = .ok (.iload_n 1, 1) := by decide +kernel
theorem dX9_possible_18 : decode cX9_possible 18 = .ok (.invokevirtual 199, 3) := by decide +kernel
theorem dX9_possible_21 : decode cX9_possible 21 = .ok (.ireturn, 1) := by decide +kernel
theorem dX9_possibleAt_0 : decode cX9_possibleAt 0 = .ok (.aload_n 0, 1) := by decide +kernel
theorem dX9_possibleAt_1 : decode cX9_possibleAt 1 = .ok (.aload_n 0, 1) := by decide +kernel
theorem dX9_possibleAt_2 : decode cX9_possibleAt 2 = .ok (.iload_n 1, 1) := by decide +kernel
theorem dX9_possibleAt_3 : decode cX9_possibleAt 3 = .ok (.invokevirtual 148, 3) := by decide +kernel
theorem dX9_possibleAt_6 : decode cX9_possibleAt 6 = .ok (.ifCond .ne 7, 3) := by decide +kernel
theorem dX9_possibleAt_9 : decode cX9_possibleAt 9 = .ok (.iconst 1, 1) := by decide +kernel
theorem dX9_possibleAt_10 : decode cX9_possibleAt 10 = .ok (.goto 4, 3) := by decide +kernel
theorem dX9_possibleAt_13 : decode cX9_possibleAt 13 = .ok (.iconst 2, 1) := by decide +kernel
theorem dX9_possibleAt_14 : decode cX9_possibleAt 14 = .ok (.putfield 71, 3) := by decide +kernel
theorem dX9_possibleAt_17 : decode cX9_possibleAt 17 = .ok (.aload_n 0, 1) := by decide +kernel
theorem dX9_possibleAt_18 : decode cX9_possibleAt 18 = .ok (.getfield 71, 3) := by decide +kernel
theorem dX9_possibleAt_21 : decode cX9_possibleAt 21 = .ok (.iconst 1, 1) := by decide +kernel
theorem dX9_possibleAt_22 : decode cX9_possibleAt 22 = .ok (.if_icmp .eq 7, 3) := by decide +kernel
theorem dX9_possibleAt_25 : decode cX9_possibleAt 25 = .ok (.iload_n 2, 1) := by decide +kernel
theorem dX9_possibleAt_26 : decode cX9_possibleAt 26 = .ok (.ifCond .ge 5, 3) := by decide +kernel
theorem dX9_possibleAt_29 : decode cX9_possibleAt 29 = .ok (.iconst 0, 1) := by decide +kernel
theorem dX9_possibleAt_30 : decode cX9_possibleAt 30 = .ok (.ireturn, 1) := by decide +kernel
theorem dX9_possibleAt_31 : decode cX9_possibleAt 31 = .ok (.iload_n 2, 1) := by decide +kernel
theorem dX9_possibleAt_32 : decode cX9_possibleAt 32 = .ok (.istore_n 3, 1) := by decide +kernel
theorem dX9_possibleAt_33 : decode cX9_possibleAt 33 = .ok (.iconst 0, 1) := by decide +kernel
theorem dX9_possibleAt_34 : decode cX9_possibleAt 34 = .ok (.istore 4, 2) := by decide +kernel
theorem dX9_possibleAt_36 : decode cX9_possibleAt 36 = .ok (.iload 4, 2) := by decide +kernel
theorem dX9_possibleAt_38 : decode cX9_possibleAt 38 = .ok (.sipush 240, 3) := by decide +kernel
theorem dX9_possibleAt_41 : decode cX9_possibleAt 41 = .ok (.if_icmp .ge 36, 3) := by decide +kernel
theorem dX9_possibleAt_44 : decode cX9_possibleAt 44 = .ok (.aload_n 0, 1) := by decide +kernel
theorem dX9_possibleAt_45 : decode cX9_possibleAt 45 = .ok (.iload_n 1, 1) := by decide +kernel
theorem dX9_possibleAt_46 : decode cX9_possibleAt 46 = .ok (.iload 4, 2) := by decide +kernel
theorem dX9_possibleAt_48 : decode cX9_possibleAt 48 = .ok (.invokevirtual 193, 3) := by decide +kernel
theorem dX9_possibleAt_51 : decode cX9_possibleAt 51 = .ok (.ifCond .ne 6, 3) := by decide +kernel
theorem dX9_possibleAt_54 : decode cX9_possibleAt 54 = .ok (.goto 17, 3) := by decide +kernel
theorem dX9_possibleAt_57 : decode cX9_possibleAt 57 = .ok (.iload_n 3, 1) := by decide +kernel
theorem dX9_possibleAt_58 : decode cX9_possibleAt 58 = .ok (.ifCond .ne 10, 3) := by decide +kernel
theorem dX9_possibleAt_61 : decode cX9_possibleAt 61 = .ok (.aload_n 0, 1) := by decide +kernel
theorem dX9_possibleAt_62 : decode cX9_possibleAt 62 = .ok (.iload 4, 2) := by decide +kernel
theorem dX9_possibleAt_64 : decode cX9_possibleAt 64 = .ok (.invokevirtual 211, 3) := by decide +kernel
theorem dX9_possibleAt_67 : decode cX9_possibleAt 67 = .ok (.ireturn, 1) := by decide +kernel
theorem dX9_possibleAt_68 : decode cX9_possibleAt 68 = .ok (.iinc 3 (-1), 3) := by decide +kernel
theorem dX9_possibleAt_71 : decode cX9_possibleAt 71 = .ok (.iinc 4 1, 3) := by decide +kernel
theorem dX9_possibleAt_74 : decode cX9_possibleAt 74 = .ok (.goto (-38), 3) := by decide +kernel
theorem dX9_possibleAt_77 : decode cX9_possibleAt 77 = .ok (.iconst 0, 1) := by decide +kernel
theorem dX9_possibleAt_78 : decode cX9_possibleAt 78 = .ok (.ireturn, 1) := by decide +kernel
theorem dX9_cheapest_0 : decode cX9_cheapest 0 = .ok (.aload_n 0, 1) := by decide +kernel
theorem dX9_cheapest_1 : decode cX9_cheapest 1 = .ok (.aload_n 0, 1) := by decide +kernel
theorem dX9_cheapest_2 : decode cX9_cheapest 2 = .ok (.iload_n 1, 1) := by decide +kernel
theorem dX9_cheapest_3 : decode cX9_cheapest 3 = .ok (.invokevirtual 148, 3) := by decide +kernel
theorem dX9_cheapest_6 : decode cX9_cheapest 6 = .ok (.invokevirtual 110, 3) := by decide +kernel
theorem dX9_cheapest_9 : decode cX9_cheapest 9 = .ok (.ifCond .le 5, 3) := by decide +kernel
theorem dX9_cheapest_12 : decode cX9_cheapest 12 = .ok (.iconst 0, 1) := by decide +kernel
theorem dX9_cheapest_13 : decode cX9_cheapest 13 = .ok (.ireturn, 1) := by decide +kernel
theorem dX9_cheapest_14 : decode cX9_cheapest 14 = .ok (.aload_n 0, 1) := by decide +kernel
theorem dX9_cheapest_15 : decode cX9_cheapest 15 = .ok (.iload_n 1, 1) := by decide +kernel
theorem dX9_cheapest_16 : decode cX9_cheapest 16 = .ok (.invokevirtual 214, 3) := by decide +kernel
theorem dX9_cheapest_19 : decode cX9_cheapest 19 = .ok (.istore_n 2, 1) := by decide +kernel
theorem dX9_cheapest_20 : decode cX9_cheapest 20 = .ok (.aload_n 0, 1) := by decide +kernel
theorem dX9_cheapest_21 : decode cX9_cheapest 21 = .ok (.iload_n 2, 1) := by decide +kernel
theorem dX9_cheapest_22 : decode cX9_cheapest 22 = .ok (.ifCond .ge 7, 3) := by decide +kernel
theorem dX9_cheapest_25 : decode cX9_cheapest 25 = .ok (.iconst 2, 1) := by decide +kernel
theorem dX9_cheapest_26 : decode cX9_cheapest 26 = .ok (.goto 4, 3) := by decide +kernel
theorem dX9_cheapest_29 : decode cX9_cheapest 29 = .ok (.iconst 0, 1) := by decide +kernel
theorem dX9_cheapest_30 : decode cX9_cheapest 30 = .ok (.putfield 71, 3) := by decide +kernel
theorem dX9_cheapest_33 : decode cX9_cheapest 33 = .ok (.aload_n 0, 1) := by decide +kernel
theorem dX9_cheapest_34 : decode cX9_cheapest 34 = .ok (.getfield 71, 3) := by decide +kernel
theorem dX9_cheapest_37 : decode cX9_cheapest 37 = .ok (.ifCond .le 7, 3) := by decide +kernel
theorem dX9_cheapest_40 : decode cX9_cheapest 40 = .ok (.iconst 0, 1) := by decide +kernel
theorem dX9_cheapest_41 : decode cX9_cheapest 41 = .ok (.goto 4, 3) := by decide +kernel
theorem dX9_cheapest_44 : decode cX9_cheapest 44 = .ok (.iload_n 2, 1) := by decide +kernel
theorem dX9_cheapest_45 : decode cX9_cheapest 45 = .ok (.ireturn, 1) := by decide +kernel
theorem dX9_costWith_0 : decode cX9_costWith 0 = .ok (.aload_n 0, 1) := by decide +kernel
theorem dX9_costWith_1 : decode cX9_costWith 1 = .ok (.aload_n 0, 1) := by decide +kernel
theorem dX9_costWith_2 : decode cX9_costWith 2 = .ok (.iload_n 1, 1) := by decide +kernel
theorem dX9_costWith_3 : decode cX9_costWith 3 = .ok (.iload_n 2, 1) := by decide +kernel
theorem dX9_costWith_4 : decode cX9_costWith 4 = .ok (.iload_n 3, 1) := by decide +kernel
theorem dX9_costWith_5 : decode cX9_costWith 5 = .ok (.invokevirtual 154, 3) := by decide +kernel
theorem dX9_costWith_8 : decode cX9_costWith 8 = .ok (.putfield 71, 3) := by decide +kernel
theorem dX9_costWith_11 : decode cX9_costWith 11 = .ok (.aload_n 0, 1) := by decide +kernel
theorem dX9_costWith_12 : decode cX9_costWith 12 = .ok (.getfield 71, 3) := by decide +kernel
theorem dX9_costWith_15 : decode cX9_costWith 15 = .ok (.ifCond .ne 22, 3) := by decide +kernel
theorem dX9_costWith_18 : decode cX9_costWith 18 = .ok (.aload_n 0, 1) := by decide +kernel
theorem dX9_costWith_19 : decode cX9_costWith 19 = .ok (.aload_n 0, 1) := by decide +kernel
theorem dX9_costWith_20 : decode cX9_costWith 20 = .ok (.iload_n 1, 1) := by decide +kernel
theorem dX9_costWith_21 : decode cX9_costWith 21 = .ok (.iload_n 2, 1) := by decide +kernel
theorem dX9_costWith_22 : decode cX9_costWith 22 = .ok (.iload_n 3, 1) := by decide +kernel
theorem dX9_costWith_23 : decode cX9_costWith 23 = .ok (.invokevirtual 145, 3) := by decide +kernel
theorem dX9_costWith_26 : decode cX9_costWith 26 = .ok (.ifCond .le 7, 3) := by decide +kernel
theorem dX9_costWith_29 : decode cX9_costWith 29 = .ok (.iconst 3, 1) := by decide +kernel
theorem dX9_costWith_30 : decode cX9_costWith 30 = .ok (.goto 4, 3) := by decide +kernel
theorem dX9_costWith_33 : decode cX9_costWith 33 = .ok (.iconst 0, 1) := by decide +kernel
theorem dX9_costWith_34 : decode cX9_costWith 34 = .ok (.putfield 71, 3) := by decide +kernel
theorem dX9_costWith_37 : decode cX9_costWith 37 = .ok (.aload_n 0, 1) := by decide +kernel
theorem dX9_costWith_38 : decode cX9_costWith 38 = .ok (.getfield 71, 3) := by decide +kernel
theorem dX9_costWith_41 : decode cX9_costWith 41 = .ok (.ifCond .le 7, 3) := by decide +kernel
theorem dX9_costWith_44 : decode cX9_costWith 44 = .ok (.iconst 0, 1) := by decide +kernel
theorem dX9_costWith_45 : decode cX9_costWith 45 = .ok (.goto 14, 3) := by decide +kernel
theorem dX9_costWith_48 : decode cX9_costWith 48 = .ok (.aload_n 0, 1) := by decide +kernel
theorem dX9_costWith_49 : decode cX9_costWith 49 = .ok (.iload_n 1, 1) := by decide +kernel
theorem dX9_costWith_50 : decode cX9_costWith 50 = .ok (.bipush 8, 2) := by decide +kernel
theorem dX9_costWith_52 : decode cX9_costWith 52 = .ok (.iload_n 2, 1) := by decide +kernel
theorem dX9_costWith_53 : decode cX9_costWith 53 = .ok (.imul, 1) := by decide +kernel
theorem dX9_costWith_54 : decode cX9_costWith 54 = .ok (.iload_n 3, 1) := by decide +kernel
theorem dX9_costWith_55 : decode cX9_costWith 55 = .ok (.iadd, 1) := by decide +kernel
theorem dX9_costWith_56 : decode cX9_costWith 56 = .ok (.invokevirtual 196, 3) := by decide +kernel
theorem dX9_costWith_59 : decode cX9_costWith 59 = .ok (.ireturn, 1) := by decide +kernel
theorem dX9_unplaced_0 : decode cX9_unplaced 0 = .ok (.bipush 16, 2) := by decide +kernel
theorem dX9_unplaced_2 : decode cX9_unplaced 2 = .ok (.newarray .boolean, 2) := by decide +kernel
theorem dX9_unplaced_4 : decode cX9_unplaced 4 = .ok (.astore_n 1, 1) := by decide +kernel
theorem dX9_unplaced_5 : decode cX9_unplaced 5 = .ok (.iconst 0, 1) := by decide +kernel
theorem dX9_unplaced_6 : decode cX9_unplaced 6 = .ok (.istore_n 2, 1) := by decide +kernel
theorem dX9_unplaced_7 : decode cX9_unplaced 7 = .ok (.iload_n 2, 1) := by decide +kernel
theorem dX9_unplaced_8 : decode cX9_unplaced 8 = .ok (.aload_n 0, 1) := by decide +kernel
theorem dX9_unplaced_9 : decode cX9_unplaced 9 = .ok (.getfield 84, 3) := by decide +kernel
theorem dX9_unplaced_12 : decode cX9_unplaced 12 = .ok (.if_icmp .ge 25, 3) := by decide +kernel
theorem dX9_unplaced_15 : decode cX9_unplaced 15 = .ok (.aload_n 1, 1) := by decide +kernel
theorem dX9_unplaced_16 : decode cX9_unplaced 16 = .ok (.iload_n 2, 1) := by decide +kernel
theorem dX9_unplaced_17 : decode cX9_unplaced 17 = .ok (.aload_n 0, 1) := by decide +kernel
theorem dX9_unplaced_18 : decode cX9_unplaced 18 = .ok (.iload_n 2, 1) := by decide +kernel
theorem dX9_unplaced_19 : decode cX9_unplaced 19 = .ok (.invokevirtual 118, 3) := by decide +kernel
theorem dX9_unplaced_22 : decode cX9_unplaced 22 = .ok (.ifCond .ne 7, 3) := by decide +kernel
theorem dX9_unplaced_25 : decode cX9_unplaced 25 = .ok (.iconst 1, 1) := by decide +kernel
theorem dX9_unplaced_26 : decode cX9_unplaced 26 = .ok (.goto 4, 3) := by decide +kernel
theorem dX9_unplaced_29 : decode cX9_unplaced 29 = .ok (.iconst 0, 1) := by decide +kernel
theorem dX9_unplaced_30 : decode cX9_unplaced 30 = .ok (.bastore, 1) := by decide +kernel
theorem dX9_unplaced_31 : decode cX9_unplaced 31 = .ok (.iinc 2 1, 3) := by decide +kernel
theorem dX9_unplaced_34 : decode cX9_unplaced 34 = .ok (.goto (-27), 3) := by decide +kernel
theorem dX9_unplaced_37 : decode cX9_unplaced 37 = .ok (.aload_n 1, 1) := by decide +kernel
theorem dX9_unplaced_38 : decode cX9_unplaced 38 = .ok (.areturn, 1) := by decide +kernel
theorem dX9_hardest_0 : decode cX9_hardest 0 = .ok (.aload_n 0, 1) := by decide +kernel
theorem dX9_hardest_1 : decode cX9_hardest 1 = .ok (.aload_n 0, 1) := by decide +kernel
theorem dX9_hardest_2 : decode cX9_hardest 2 = .ok (.invokevirtual 217, 3) := by decide +kernel
theorem dX9_hardest_5 : decode cX9_hardest 5 = .ok (.invokevirtual 221, 3) := by decide +kernel
theorem dX9_hardest_8 : decode cX9_hardest 8 = .ok (.istore_n 1, 1) := by decide +kernel
theorem dX9_hardest_9 : decode cX9_hardest 9 = .ok (.aload_n 0, 1) := by decide +kernel
theorem dX9_hardest_10 : decode cX9_hardest 10 = .ok (.iload_n 1, 1) := by decide +kernel
theorem dX9_hardest_11 : decode cX9_hardest 11 = .ok (.ifCond .lt 7, 3) := by decide +kernel
theorem dX9_hardest_14 : decode cX9_hardest 14 = .ok (.iconst 1, 1) := by decide +kernel
theorem dX9_hardest_15 : decode cX9_hardest 15 = .ok (.goto 4, 3) := by decide +kernel
theorem dX9_hardest_18 : decode cX9_hardest 18 = .ok (.iconst 0, 1) := by decide +kernel
theorem dX9_hardest_19 : decode cX9_hardest 19 = .ok (.invokevirtual 110, 3) := by decide +kernel
theorem dX9_hardest_22 : decode cX9_hardest 22 = .ok (.ifCond .le 7, 3) := by decide +kernel
theorem dX9_hardest_25 : decode cX9_hardest 25 = .ok (.iconst 0, 1) := by decide +kernel
theorem dX9_hardest_26 : decode cX9_hardest 26 = .ok (.goto 4, 3) := by decide +kernel
theorem dX9_hardest_29 : decode cX9_hardest 29 = .ok (.iload_n 1, 1) := by decide +kernel
theorem dX9_hardest_30 : decode cX9_hardest 30 = .ok (.ireturn, 1) := by decide +kernel
theorem dX9_barring_0 : decode cX9_barring 0 = .ok (.iload_n 2, 1) := by decide +kernel
theorem dX9_barring_1 : decode cX9_barring 1 = .ok (.bipush 8, 2) := by decide +kernel
theorem dX9_barring_3 : decode cX9_barring 3 = .ok (.irem, 1) := by decide +kernel
theorem dX9_barring_4 : decode cX9_barring 4 = .ok (.aload_n 0, 1) := by decide +kernel
theorem dX9_barring_5 : decode cX9_barring 5 = .ok (.getfield 75, 3) := by decide +kernel
theorem dX9_barring_8 : decode cX9_barring 8 = .ok (.if_icmp .ge 19, 3) := by decide +kernel
theorem dX9_barring_11 : decode cX9_barring 11 = .ok (.aload_n 0, 1) := by decide +kernel
theorem dX9_barring_12 : decode cX9_barring 12 = .ok (.iload_n 1, 1) := by decide +kernel
theorem dX9_barring_13 : decode cX9_barring 13 = .ok (.iload_n 2, 1) := by decide +kernel
theorem dX9_barring_14 : decode cX9_barring 14 = .ok (.bipush 8, 2) := by decide +kernel
theorem dX9_barring_16 : decode cX9_barring 16 = .ok (.idiv, 1) := by decide +kernel
theorem dX9_barring_17 : decode cX9_barring 17 = .ok (.iload_n 2, 1) := by decide +kernel
theorem dX9_barring_18 : decode cX9_barring 18 = .ok (.bipush 8, 2) := by decide +kernel
theorem dX9_barring_20 : decode cX9_barring 20 = .ok (.irem, 1) := by decide +kernel
theorem dX9_barring_21 : decode cX9_barring 21 = .ok (.invokevirtual 134, 3) := by decide +kernel
theorem dX9_barring_24 : decode cX9_barring 24 = .ok (.ifCond .le 5, 3) := by decide +kernel
theorem dX9_barring_27 : decode cX9_barring 27 = .ok (.iconst (-1), 1) := by decide +kernel
theorem dX9_barring_28 : decode cX9_barring 28 = .ok (.ireturn, 1) := by decide +kernel
theorem dX9_barring_29 : decode cX9_barring 29 = .ok (.iconst 0, 1) := by decide +kernel
theorem dX9_barring_30 : decode cX9_barring 30 = .ok (.istore_n 3, 1) := by decide +kernel
theorem dX9_barring_31 : decode cX9_barring 31 = .ok (.iconst 0, 1) := by decide +kernel
theorem dX9_barring_32 : decode cX9_barring 32 = .ok (.istore 4, 2) := by decide +kernel
theorem dX9_barring_34 : decode cX9_barring 34 = .ok (.iload 4, 2) := by decide +kernel
theorem dX9_barring_36 : decode cX9_barring 36 = .ok (.aload_n 0, 1) := by decide +kernel
theorem dX9_barring_37 : decode cX9_barring 37 = .ok (.getfield 84, 3) := by decide +kernel
theorem dX9_barring_40 : decode cX9_barring 40 = .ok (.if_icmp .ge 49, 3) := by decide +kernel
theorem dX9_barring_43 : decode cX9_barring 43 = .ok (.aload_n 0, 1) := by decide +kernel
theorem dX9_barring_44 : decode cX9_barring 44 = .ok (.iload 4, 2) := by decide +kernel
theorem dX9_barring_46 : decode cX9_barring 46 = .ok (.iload_n 1, 1) := by decide +kernel
theorem dX9_barring_47 : decode cX9_barring 47 = .ok (.iload_n 2, 1) := by decide +kernel
theorem dX9_barring_48 : decode cX9_barring 48 = .ok (.bipush 8, 2) := by decide +kernel
theorem dX9_barring_50 : decode cX9_barring 50 = .ok (.idiv, 1) := by decide +kernel
theorem dX9_barring_51 : decode cX9_barring 51 = .ok (.iload_n 2, 1) := by decide +kernel
theorem dX9_barring_52 : decode cX9_barring 52 = .ok (.bipush 8, 2) := by decide +kernel
theorem dX9_barring_54 : decode cX9_barring 54 = .ok (.irem, 1) := by decide +kernel
theorem dX9_barring_55 : decode cX9_barring 55 = .ok (.invokevirtual 138, 3) := by decide +kernel
theorem dX9_barring_58 : decode cX9_barring 58 = .ok (.ifCond .ne 6, 3) := by decide +kernel
theorem dX9_barring_61 : decode cX9_barring 61 = .ok (.goto 22, 3) := by decide +kernel
theorem dX9_barring_64 : decode cX9_barring 64 = .ok (.aload_n 0, 1) := by decide +kernel
theorem dX9_barring_65 : decode cX9_barring 65 = .ok (.getfield 35, 3) := by decide +kernel
theorem dX9_barring_68 : decode cX9_barring 68 = .ok (.iload 4, 2) := by decide +kernel
theorem dX9_barring_70 : decode cX9_barring 70 = .ok (.baload, 1) := by decide +kernel
theorem dX9_barring_71 : decode cX9_barring 71 = .ok (.ifCond .eq 5, 3) := by decide +kernel
theorem dX9_barring_74 : decode cX9_barring 74 = .ok (.iconst (-1), 1) := by decide +kernel
theorem dX9_barring_75 : decode cX9_barring 75 = .ok (.ireturn, 1) := by decide +kernel
theorem dX9_barring_76 : decode cX9_barring 76 = .ok (.iload_n 3, 1) := by decide +kernel
theorem dX9_barring_77 : decode cX9_barring 77 = .ok (.iconst 1, 1) := by decide +kernel
theorem dX9_barring_78 : decode cX9_barring 78 = .ok (.iload 4, 2) := by decide +kernel
theorem dX9_barring_80 : decode cX9_barring 80 = .ok (.ishl, 1) := by decide +kernel
theorem dX9_barring_81 : decode cX9_barring 81 = .ok (.iadd, 1) := by decide +kernel
theorem dX9_barring_82 : decode cX9_barring 82 = .ok (.istore_n 3, 1) := by decide +kernel
theorem dX9_barring_83 : decode cX9_barring 83 = .ok (.iinc 4 1, 3) := by decide +kernel
theorem dX9_barring_86 : decode cX9_barring 86 = .ok (.goto (-52), 3) := by decide +kernel
theorem dX9_barring_89 : decode cX9_barring 89 = .ok (.iload_n 3, 1) := by decide +kernel
theorem dX9_barring_90 : decode cX9_barring 90 = .ok (.ireturn, 1) := by decide +kernel
theorem dX9_throwsOut_0 : decode cX9_throwsOut 0 = .ok (.iconst (-1), 1) := by decide +kernel
theorem dX9_throwsOut_1 : decode cX9_throwsOut 1 = .ok (.istore_n 2, 1) := by decide +kernel
theorem dX9_throwsOut_2 : decode cX9_throwsOut 2 = .ok (.iconst 0, 1) := by decide +kernel
theorem dX9_throwsOut_3 : decode cX9_throwsOut 3 = .ok (.istore_n 3, 1) := by decide +kernel
theorem dX9_throwsOut_4 : decode cX9_throwsOut 4 = .ok (.iconst 0, 1) := by decide +kernel
theorem dX9_throwsOut_5 : decode cX9_throwsOut 5 = .ok (.istore 4, 2) := by decide +kernel
theorem dX9_throwsOut_7 : decode cX9_throwsOut 7 = .ok (.iload 4, 2) := by decide +kernel
theorem dX9_throwsOut_9 : decode cX9_throwsOut 9 = .ok (.sipush 240, 3) := by decide +kernel
theorem dX9_throwsOut_12 : decode cX9_throwsOut 12 = .ok (.if_icmp .ge 48, 3) := by decide +kernel
theorem dX9_throwsOut_15 : decode cX9_throwsOut 15 = .ok (.aload_n 0, 1) := by decide +kernel
theorem dX9_throwsOut_16 : decode cX9_throwsOut 16 = .ok (.iload_n 1, 1) := by decide +kernel
theorem dX9_throwsOut_17 : decode cX9_throwsOut 17 = .ok (.iload 4, 2) := by decide +kernel
theorem dX9_throwsOut_19 : decode cX9_throwsOut 19 = .ok (.invokevirtual 225, 3) := by decide +kernel
theorem dX9_throwsOut_22 : decode cX9_throwsOut 22 = .ok (.istore 5, 2) := by decide +kernel
theorem dX9_throwsOut_24 : decode cX9_throwsOut 24 = .ok (.iload 5, 2) := by decide +kernel
theorem dX9_throwsOut_26 : decode cX9_throwsOut 26 = .ok (.ifCond .lt 28, 3) := by decide +kernel
theorem dX9_throwsOut_29 : decode cX9_throwsOut 29 = .ok (.iload_n 2, 1) := by decide +kernel
theorem dX9_throwsOut_30 : decode cX9_throwsOut 30 = .ok (.ifCond .lt 18, 3) := by decide +kernel
theorem dX9_throwsOut_33 : decode cX9_throwsOut 33 = .ok (.iload 5, 2) := by decide +kernel
theorem dX9_throwsOut_35 : decode cX9_throwsOut 35 = .ok (.invokestatic 168, 3) := by decide +kernel
theorem dX9_throwsOut_38 : decode cX9_throwsOut 38 = .ok (.iload_n 3, 1) := by decide +kernel
theorem dX9_throwsOut_39 : decode cX9_throwsOut 39 = .ok (.invokestatic 168, 3) := by decide +kernel
theorem dX9_throwsOut_42 : decode cX9_throwsOut 42 = .ok (.if_icmp .lt 6, 3) := by decide +kernel
theorem dX9_throwsOut_45 : decode cX9_throwsOut 45 = .ok (.goto 9, 3) := by decide +kernel
theorem dX9_throwsOut_48 : decode cX9_throwsOut 48 = .ok (.iload 4, 2) := by decide +kernel
theorem dX9_throwsOut_50 : decode cX9_throwsOut 50 = .ok (.istore_n 2, 1) := by decide +kernel
theorem dX9_throwsOut_51 : decode cX9_throwsOut 51 = .ok (.iload 5, 2) := by decide +kernel
theorem dX9_throwsOut_53 : decode cX9_throwsOut 53 = .ok (.istore_n 3, 1) := by decide +kernel
theorem dX9_throwsOut_54 : decode cX9_throwsOut 54 = .ok (.iinc 4 1, 3) := by decide +kernel
theorem dX9_throwsOut_57 : decode cX9_throwsOut 57 = .ok (.goto (-50), 3) := by decide +kernel
theorem dX9_throwsOut_60 : decode cX9_throwsOut 60 = .ok (.iload_n 2, 1) := by decide +kernel
theorem dX9_throwsOut_61 : decode cX9_throwsOut 61 = .ok (.ifCond .ge 5, 3) := by decide +kernel
theorem dX9_throwsOut_64 : decode cX9_throwsOut 64 = .ok (.iconst 0, 1) := by decide +kernel
theorem dX9_throwsOut_65 : decode cX9_throwsOut 65 = .ok (.ireturn, 1) := by decide +kernel
theorem dX9_throwsOut_66 : decode cX9_throwsOut 66 = .ok (.iconst 0, 1) := by decide +kernel
theorem dX9_throwsOut_67 : decode cX9_throwsOut 67 = .ok (.istore 4, 2) := by decide +kernel
theorem dX9_throwsOut_69 : decode cX9_throwsOut 69 = .ok (.iload 4, 2) := by decide +kernel
theorem dX9_throwsOut_71 : decode cX9_throwsOut 71 = .ok (.aload_n 0, 1) := by decide +kernel
theorem dX9_throwsOut_72 : decode cX9_throwsOut 72 = .ok (.getfield 84, 3) := by decide +kernel
theorem dX9_throwsOut_75 : decode cX9_throwsOut 75 = .ok (.if_icmp .ge 27, 3) := by decide +kernel
theorem dX9_throwsOut_78 : decode cX9_throwsOut 78 = .ok (.iload_n 3, 1) := by decide +kernel
theorem dX9_throwsOut_79 : decode cX9_throwsOut 79 = .ok (.iload 4, 2) := by decide +kernel
theorem dX9_throwsOut_81 : decode cX9_throwsOut 81 = .ok (.ishr, 1) := by decide +kernel
theorem dX9_throwsOut_82 : decode cX9_throwsOut 82 = .ok (.iconst 2, 1) := by decide +kernel
theorem dX9_throwsOut_83 : decode cX9_throwsOut 83 = .ok (.irem, 1) := by decide +kernel
theorem dX9_throwsOut_84 : decode cX9_throwsOut 84 = .ok (.iconst 1, 1) := by decide +kernel
theorem dX9_throwsOut_85 : decode cX9_throwsOut 85 = .ok (.if_icmp .ne 11, 3) := by decide +kernel
theorem dX9_throwsOut_88 : decode cX9_throwsOut 88 = .ok (.aload_n 0, 1) := by decide +kernel
theorem dX9_throwsOut_89 : decode cX9_throwsOut 89 = .ok (.getfield 53, 3) := by decide +kernel
theorem dX9_throwsOut_92 : decode cX9_throwsOut 92 = .ok (.iload 4, 2) := by decide +kernel
theorem dX9_throwsOut_94 : decode cX9_throwsOut 94 = .ok (.iconst (-1), 1) := by decide +kernel
theorem dX9_throwsOut_95 : decode cX9_throwsOut 95 = .ok (.iastore, 1) := by decide +kernel
theorem dX9_throwsOut_96 : decode cX9_throwsOut 96 = .ok (.iinc 4 1, 3) := by decide +kernel
theorem dX9_throwsOut_99 : decode cX9_throwsOut 99 = .ok (.goto (-30), 3) := by decide +kernel
theorem dX9_throwsOut_102 : decode cX9_throwsOut 102 = .ok (.aload_n 0, 1) := by decide +kernel
theorem dX9_throwsOut_103 : decode cX9_throwsOut 103 = .ok (.getfield 53, 3) := by decide +kernel
theorem dX9_throwsOut_106 : decode cX9_throwsOut 106 = .ok (.iload_n 1, 1) := by decide +kernel
theorem dX9_throwsOut_107 : decode cX9_throwsOut 107 = .ok (.iload_n 2, 1) := by decide +kernel
theorem dX9_throwsOut_108 : decode cX9_throwsOut 108 = .ok (.iastore, 1) := by decide +kernel
theorem dX9_throwsOut_109 : decode cX9_throwsOut 109 = .ok (.iconst 1, 1) := by decide +kernel
theorem dX9_throwsOut_110 : decode cX9_throwsOut 110 = .ok (.ireturn, 1) := by decide +kernel
theorem dX9_fill_0 : decode cX9_fill 0 = .ok (.aload_n 0, 1) := by decide +kernel
theorem dX9_fill_1 : decode cX9_fill 1 = .ok (.iconst 0, 1) := by decide +kernel
theorem dX9_fill_2 : decode cX9_fill 2 = .ok (.putfield 71, 3) := by decide +kernel
theorem dX9_fill_5 : decode cX9_fill 5 = .ok (.bipush 16, 2) := by decide +kernel
theorem dX9_fill_7 : decode cX9_fill 7 = .ok (.newarray .boolean, 2) := by decide +kernel
theorem dX9_fill_9 : decode cX9_fill 9 = .ok (.astore_n 1, 1) := by decide +kernel
theorem dX9_fill_10 : decode cX9_fill 10 = .ok (.iconst 0, 1) := by decide +kernel
theorem dX9_fill_11 : decode cX9_fill 11 = .ok (.istore_n 2, 1) := by decide +kernel
theorem dX9_fill_12 : decode cX9_fill 12 = .ok (.aload_n 0, 1) := by decide +kernel
theorem dX9_fill_13 : decode cX9_fill 13 = .ok (.invokevirtual 217, 3) := by decide +kernel
theorem dX9_fill_16 : decode cX9_fill 16 = .ok (.astore_n 3, 1) := by decide +kernel
theorem dX9_fill_17 : decode cX9_fill 17 = .ok (.aload_n 0, 1) := by decide +kernel
theorem dX9_fill_18 : decode cX9_fill 18 = .ok (.aload_n 3, 1) := by decide +kernel
theorem dX9_fill_19 : decode cX9_fill 19 = .ok (.invokevirtual 221, 3) := by decide +kernel
theorem dX9_fill_22 : decode cX9_fill 22 = .ok (.istore 4, 2) := by decide +kernel
theorem dX9_fill_24 : decode cX9_fill 24 = .ok (.iload 4, 2) := by decide +kernel
theorem dX9_fill_26 : decode cX9_fill 26 = .ok (.ifCond .lt 110, 3) := by decide +kernel
theorem dX9_fill_29 : decode cX9_fill 29 = .ok (.aload_n 0, 1) := by decide +kernel
theorem dX9_fill_30 : decode cX9_fill 30 = .ok (.iload 4, 2) := by decide +kernel
theorem dX9_fill_32 : decode cX9_fill 32 = .ok (.invokevirtual 214, 3) := by decide +kernel
theorem dX9_fill_35 : decode cX9_fill 35 = .ok (.istore 5, 2) := by decide +kernel
theorem dX9_fill_37 : decode cX9_fill 37 = .ok (.iload 5, 2) := by decide +kernel
theorem dX9_fill_39 : decode cX9_fill 39 = .ok (.ifCond .lt 15, 3) := by decide +kernel
theorem dX9_fill_42 : decode cX9_fill 42 = .ok (.aload_n 0, 1) := by decide +kernel
theorem dX9_fill_43 : decode cX9_fill 43 = .ok (.getfield 53, 3) := by decide +kernel
theorem dX9_fill_46 : decode cX9_fill 46 = .ok (.iload 4, 2) := by decide +kernel
theorem dX9_fill_48 : decode cX9_fill 48 = .ok (.iload 5, 2) := by decide +kernel
theorem dX9_fill_50 : decode cX9_fill 50 = .ok (.iastore, 1) := by decide +kernel
theorem dX9_fill_51 : decode cX9_fill 51 = .ok (.goto 29, 3) := by decide +kernel
theorem dX9_fill_54 : decode cX9_fill 54 = .ok (.iload_n 2, 1) := by decide +kernel
theorem dX9_fill_55 : decode cX9_fill 55 = .ok (.bipush 10, 2) := by decide +kernel
theorem dX9_fill_57 : decode cX9_fill 57 = .ok (.if_icmp .ge 18, 3) := by decide +kernel
theorem dX9_fill_60 : decode cX9_fill 60 = .ok (.aload_n 0, 1) := by decide +kernel
theorem dX9_fill_61 : decode cX9_fill 61 = .ok (.iload 4, 2) := by decide +kernel
theorem dX9_fill_63 : decode cX9_fill 63 = .ok (.invokevirtual 228, 3) := by decide +kernel
theorem dX9_fill_66 : decode cX9_fill 66 = .ok (.ifCond .eq 9, 3) := by decide +kernel
theorem dX9_fill_69 : decode cX9_fill 69 = .ok (.iinc 2 1, 3) := by decide +kernel
theorem dX9_fill_72 : decode cX9_fill 72 = .ok (.goto 8, 3) := by decide +kernel
theorem dX9_fill_75 : decode cX9_fill 75 = .ok (.aload_n 1, 1) := by decide +kernel
theorem dX9_fill_76 : decode cX9_fill 76 = .ok (.iload 4, 2) := by decide +kernel
theorem dX9_fill_78 : decode cX9_fill 78 = .ok (.iconst 1, 1) := by decide +kernel
theorem dX9_fill_79 : decode cX9_fill 79 = .ok (.bastore, 1) := by decide +kernel
theorem dX9_fill_80 : decode cX9_fill 80 = .ok (.aload_n 0, 1) := by decide +kernel
theorem dX9_fill_81 : decode cX9_fill 81 = .ok (.invokevirtual 217, 3) := by decide +kernel
theorem dX9_fill_84 : decode cX9_fill 84 = .ok (.astore_n 3, 1) := by decide +kernel
theorem dX9_fill_85 : decode cX9_fill 85 = .ok (.iconst 0, 1) := by decide +kernel
theorem dX9_fill_86 : decode cX9_fill 86 = .ok (.istore 6, 2) := by decide +kernel
theorem dX9_fill_88 : decode cX9_fill 88 = .ok (.iload 6, 2) := by decide +kernel
theorem dX9_fill_90 : decode cX9_fill 90 = .ok (.aload_n 0, 1) := by decide +kernel
theorem dX9_fill_91 : decode cX9_fill 91 = .ok (.getfield 84, 3) := by decide +kernel
theorem dX9_fill_94 : decode cX9_fill 94 = .ok (.if_icmp .ge 32, 3) := by decide +kernel
theorem dX9_fill_97 : decode cX9_fill 97 = .ok (.aload_n 3, 1) := by decide +kernel
theorem dX9_fill_98 : decode cX9_fill 98 = .ok (.iload 6, 2) := by decide +kernel
theorem dX9_fill_100 : decode cX9_fill 100 = .ok (.aload_n 3, 1) := by decide +kernel
theorem dX9_fill_101 : decode cX9_fill 101 = .ok (.iload 6, 2) := by decide +kernel
theorem dX9_fill_103 : decode cX9_fill 103 = .ok (.baload, 1) := by decide +kernel
theorem dX9_fill_104 : decode cX9_fill 104 = .ok (.ifCond .eq 14, 3) := by decide +kernel
theorem dX9_fill_107 : decode cX9_fill 107 = .ok (.aload_n 1, 1) := by decide +kernel
theorem dX9_fill_108 : decode cX9_fill 108 = .ok (.iload 6, 2) := by decide +kernel
theorem dX9_fill_110 : decode cX9_fill 110 = .ok (.baload, 1) := by decide +kernel
theorem dX9_fill_111 : decode cX9_fill 111 = .ok (.ifCond .ne 7, 3) := by decide +kernel
theorem dX9_fill_114 : decode cX9_fill 114 = .ok (.iconst 1, 1) := by decide +kernel
theorem dX9_fill_115 : decode cX9_fill 115 = .ok (.goto 4, 3) := by decide +kernel
theorem dX9_fill_118 : decode cX9_fill 118 = .ok (.iconst 0, 1) := by decide +kernel
theorem dX9_fill_119 : decode cX9_fill 119 = .ok (.bastore, 1) := by decide +kernel
theorem dX9_fill_120 : decode cX9_fill 120 = .ok (.iinc 6 1, 3) := by decide +kernel
theorem dX9_fill_123 : decode cX9_fill 123 = .ok (.goto (-35), 3) := by decide +kernel
theorem dX9_fill_126 : decode cX9_fill 126 = .ok (.aload_n 0, 1) := by decide +kernel
theorem dX9_fill_127 : decode cX9_fill 127 = .ok (.aload_n 3, 1) := by decide +kernel
theorem dX9_fill_128 : decode cX9_fill 128 = .ok (.invokevirtual 221, 3) := by decide +kernel
theorem dX9_fill_131 : decode cX9_fill 131 = .ok (.istore 4, 2) := by decide +kernel
theorem dX9_fill_133 : decode cX9_fill 133 = .ok (.goto (-109), 3) := by decide +kernel
theorem dX9_fill_136 : decode cX9_fill 136 = .ok (.iconst 0, 1) := by decide +kernel
theorem dX9_fill_137 : decode cX9_fill 137 = .ok (.istore 5, 2) := by decide +kernel
theorem dX9_fill_139 : decode cX9_fill 139 = .ok (.iconst 0, 1) := by decide +kernel
theorem dX9_fill_140 : decode cX9_fill 140 = .ok (.istore 6, 2) := by decide +kernel
theorem dX9_fill_142 : decode cX9_fill 142 = .ok (.iload 6, 2) := by decide +kernel
theorem dX9_fill_144 : decode cX9_fill 144 = .ok (.aload_n 0, 1) := by decide +kernel
theorem dX9_fill_145 : decode cX9_fill 145 = .ok (.getfield 84, 3) := by decide +kernel
theorem dX9_fill_148 : decode cX9_fill 148 = .ok (.if_icmp .ge 28, 3) := by decide +kernel
theorem dX9_fill_151 : decode cX9_fill 151 = .ok (.iload 5, 2) := by decide +kernel
theorem dX9_fill_153 : decode cX9_fill 153 = .ok (.aload_n 0, 1) := by decide +kernel
theorem dX9_fill_154 : decode cX9_fill 154 = .ok (.iload 6, 2) := by decide +kernel
theorem dX9_fill_156 : decode cX9_fill 156 = .ok (.invokevirtual 118, 3) := by decide +kernel
theorem dX9_fill_159 : decode cX9_fill 159 = .ok (.ifCond .eq 7, 3) := by decide +kernel
theorem dX9_fill_162 : decode cX9_fill 162 = .ok (.iconst 0, 1) := by decide +kernel
theorem dX9_fill_163 : decode cX9_fill 163 = .ok (.goto 4, 3) := by decide +kernel
theorem dX9_fill_166 : decode cX9_fill 166 = .ok (.iconst 1, 1) := by decide +kernel
theorem dX9_fill_167 : decode cX9_fill 167 = .ok (.iadd, 1) := by decide +kernel
theorem dX9_fill_168 : decode cX9_fill 168 = .ok (.istore 5, 2) := by decide +kernel
theorem dX9_fill_170 : decode cX9_fill 170 = .ok (.iinc 6 1, 3) := by decide +kernel
theorem dX9_fill_173 : decode cX9_fill 173 = .ok (.goto (-31), 3) := by decide +kernel
theorem dX9_fill_176 : decode cX9_fill 176 = .ok (.iload 5, 2) := by decide +kernel
theorem dX9_fill_178 : decode cX9_fill 178 = .ok (.ireturn, 1) := by decide +kernel
theorem dX9_wasMoved_0 : decode cX9_wasMoved 0 = .ok (.aload_n 0, 1) := by decide +kernel
theorem dX9_wasMoved_1 : decode cX9_wasMoved 1 = .ok (.getfield 65, 3) := by decide +kernel
theorem dX9_wasMoved_4 : decode cX9_wasMoved 4 = .ok (.iconst 0, 1) := by decide +kernel
theorem dX9_wasMoved_5 : decode cX9_wasMoved 5 = .ok (.iaload, 1) := by decide +kernel
theorem dX9_wasMoved_6 : decode cX9_wasMoved 6 = .ok (.iload_n 1, 1) := by decide +kernel
theorem dX9_wasMoved_7 : decode cX9_wasMoved 7 = .ok (.if_icmp .eq 23, 3) := by decide +kernel
theorem dX9_wasMoved_10 : decode cX9_wasMoved 10 = .ok (.aload_n 0, 1) := by decide +kernel
theorem dX9_wasMoved_11 : decode cX9_wasMoved 11 = .ok (.getfield 65, 3) := by decide +kernel
theorem dX9_wasMoved_14 : decode cX9_wasMoved 14 = .ok (.iconst 1, 1) := by decide +kernel
theorem dX9_wasMoved_15 : decode cX9_wasMoved 15 = .ok (.iaload, 1) := by decide +kernel
theorem dX9_wasMoved_16 : decode cX9_wasMoved 16 = .ok (.iload_n 1, 1) := by decide +kernel
theorem dX9_wasMoved_17 : decode cX9_wasMoved 17 = .ok (.if_icmp .eq 13, 3) := by decide +kernel
theorem dX9_wasMoved_20 : decode cX9_wasMoved 20 = .ok (.aload_n 0, 1) := by decide +kernel
theorem dX9_wasMoved_21 : decode cX9_wasMoved 21 = .ok (.getfield 65, 3) := by decide +kernel
theorem dX9_wasMoved_24 : decode cX9_wasMoved 24 = .ok (.iconst 2, 1) := by decide +kernel
theorem dX9_wasMoved_25 : decode cX9_wasMoved 25 = .ok (.iaload, 1) := by decide +kernel
theorem dX9_wasMoved_26 : decode cX9_wasMoved 26 = .ok (.iload_n 1, 1) := by decide +kernel
theorem dX9_wasMoved_27 : decode cX9_wasMoved 27 = .ok (.if_icmp .ne 7, 3) := by decide +kernel
theorem dX9_wasMoved_30 : decode cX9_wasMoved 30 = .ok (.iconst 1, 1) := by decide +kernel
theorem dX9_wasMoved_31 : decode cX9_wasMoved 31 = .ok (.goto 4, 3) := by decide +kernel
theorem dX9_wasMoved_34 : decode cX9_wasMoved 34 = .ok (.iconst 0, 1) := by decide +kernel
theorem dX9_wasMoved_35 : decode cX9_wasMoved 35 = .ok (.ireturn, 1) := by decide +kernel
theorem dX9_moves_0 : decode cX9_moves 0 = .ok (.iconst (-1), 1) := by decide +kernel
theorem dX9_moves_1 : decode cX9_moves 1 = .ok (.istore_n 1, 1) := by decide +kernel
theorem dX9_moves_2 : decode cX9_moves 2 = .ok (.iconst 0, 1) := by decide +kernel
theorem dX9_moves_3 : decode cX9_moves 3 = .ok (.istore_n 2, 1) := by decide +kernel
theorem dX9_moves_4 : decode cX9_moves 4 = .ok (.iconst 0, 1) := by decide +kernel
theorem dX9_moves_5 : decode cX9_moves 5 = .ok (.istore_n 3, 1) := by decide +kernel
theorem dX9_moves_6 : decode cX9_moves 6 = .ok (.iconst 0, 1) := by decide +kernel
theorem dX9_moves_7 : decode cX9_moves 7 = .ok (.istore 4, 2) := by decide +kernel
theorem dX9_moves_9 : decode cX9_moves 9 = .ok (.iload 4, 2) := by decide +kernel
theorem dX9_moves_11 : decode cX9_moves 11 = .ok (.aload_n 0, 1) := by decide +kernel
theorem dX9_moves_12 : decode cX9_moves 12 = .ok (.getfield 84, 3) := by decide +kernel
theorem dX9_moves_15 : decode cX9_moves 15 = .ok (.if_icmp .ge 124, 3) := by decide +kernel
theorem dX9_moves_18 : decode cX9_moves 18 = .ok (.aload_n 0, 1) := by decide +kernel
theorem dX9_moves_19 : decode cX9_moves 19 = .ok (.iload 4, 2) := by decide +kernel
theorem dX9_moves_21 : decode cX9_moves 21 = .ok (.invokevirtual 118, 3) := by decide +kernel
theorem dX9_moves_24 : decode cX9_moves 24 = .ok (.ifCond .eq 109, 3) := by decide +kernel
theorem dX9_moves_27 : decode cX9_moves 27 = .ok (.aload_n 0, 1) := by decide +kernel
theorem dX9_moves_28 : decode cX9_moves 28 = .ok (.getfield 35, 3) := by decide +kernel
theorem dX9_moves_31 : decode cX9_moves 31 = .ok (.iload 4, 2) := by decide +kernel
theorem dX9_moves_33 : decode cX9_moves 33 = .ok (.baload, 1) := by decide +kernel
theorem dX9_moves_34 : decode cX9_moves 34 = .ok (.ifCond .ne 99, 3) := by decide +kernel
theorem dX9_moves_37 : decode cX9_moves 37 = .ok (.aload_n 0, 1) := by decide +kernel
theorem dX9_moves_38 : decode cX9_moves 38 = .ok (.iload 4, 2) := by decide +kernel
theorem dX9_moves_40 : decode cX9_moves 40 = .ok (.invokevirtual 202, 3) := by decide +kernel
theorem dX9_moves_43 : decode cX9_moves 43 = .ok (.ifCond .ne 90, 3) := by decide +kernel
theorem dX9_moves_46 : decode cX9_moves 46 = .ok (.aload_n 0, 1) := by decide +kernel
theorem dX9_moves_47 : decode cX9_moves 47 = .ok (.iload 4, 2) := by decide +kernel
theorem dX9_moves_49 : decode cX9_moves 49 = .ok (.invokevirtual 231, 3) := by decide +kernel
theorem dX9_moves_52 : decode cX9_moves 52 = .ok (.ifCond .eq 6, 3) := by decide +kernel
theorem dX9_moves_55 : decode cX9_moves 55 = .ok (.goto 78, 3) := by decide +kernel
theorem dX9_moves_58 : decode cX9_moves 58 = .ok (.iconst 0, 1) := by decide +kernel
theorem dX9_moves_59 : decode cX9_moves 59 = .ok (.istore 5, 2) := by decide +kernel
theorem dX9_moves_61 : decode cX9_moves 61 = .ok (.iload 5, 2) := by decide +kernel
theorem dX9_moves_63 : decode cX9_moves 63 = .ok (.sipush 240, 3) := by decide +kernel
theorem dX9_moves_66 : decode cX9_moves 66 = .ok (.if_icmp .ge 67, 3) := by decide +kernel
theorem dX9_moves_69 : decode cX9_moves 69 = .ok (.iload 5, 2) := by decide +kernel
theorem dX9_moves_71 : decode cX9_moves 71 = .ok (.aload_n 0, 1) := by decide +kernel
theorem dX9_moves_72 : decode cX9_moves 72 = .ok (.getfield 53, 3) := by decide +kernel
theorem dX9_moves_75 : decode cX9_moves 75 = .ok (.iload 4, 2) := by decide +kernel
theorem dX9_moves_77 : decode cX9_moves 77 = .ok (.iaload, 1) := by decide +kernel
theorem dX9_moves_78 : decode cX9_moves 78 = .ok (.if_icmp .eq 49, 3) := by decide +kernel
theorem dX9_moves_81 : decode cX9_moves 81 = .ok (.aload_n 0, 1) := by decide +kernel
theorem dX9_moves_82 : decode cX9_moves 82 = .ok (.iload 4, 2) := by decide +kernel
theorem dX9_moves_84 : decode cX9_moves 84 = .ok (.iload 5, 2) := by decide +kernel
theorem dX9_moves_86 : decode cX9_moves 86 = .ok (.invokevirtual 193, 3) := by decide +kernel
theorem dX9_moves_89 : decode cX9_moves 89 = .ok (.ifCond .ne 6, 3) := by decide +kernel
theorem dX9_moves_92 : decode cX9_moves 92 = .ok (.goto 35, 3) := by decide +kernel
theorem dX9_moves_95 : decode cX9_moves 95 = .ok (.aload_n 0, 1) := by decide +kernel
theorem dX9_moves_96 : decode cX9_moves 96 = .ok (.iload 4, 2) := by decide +kernel
theorem dX9_moves_98 : decode cX9_moves 98 = .ok (.iload 5, 2) := by decide +kernel
theorem dX9_moves_100 : decode cX9_moves 100 = .ok (.invokevirtual 196, 3) := by decide +kernel
theorem dX9_moves_103 : decode cX9_moves 103 = .ok (.istore 6, 2) := by decide +kernel
theorem dX9_moves_105 : decode cX9_moves 105 = .ok (.iload_n 1, 1) := by decide +kernel
theorem dX9_moves_106 : decode cX9_moves 106 = .ok (.ifCond .lt 12, 3) := by decide +kernel
theorem dX9_moves_109 : decode cX9_moves 109 = .ok (.iload 6, 2) := by decide +kernel
theorem dX9_moves_111 : decode cX9_moves 111 = .ok (.iload_n 3, 1) := by decide +kernel
theorem dX9_moves_112 : decode cX9_moves 112 = .ok (.if_icmp .lt 6, 3) := by decide +kernel
theorem dX9_moves_115 : decode cX9_moves 115 = .ok (.goto 12, 3) := by decide +kernel
theorem dX9_moves_118 : decode cX9_moves 118 = .ok (.iload 4, 2) := by decide +kernel
theorem dX9_moves_120 : decode cX9_moves 120 = .ok (.istore_n 1, 1) := by decide +kernel
theorem dX9_moves_121 : decode cX9_moves 121 = .ok (.iload 5, 2) := by decide +kernel
theorem dX9_moves_123 : decode cX9_moves 123 = .ok (.istore_n 2, 1) := by decide +kernel
theorem dX9_moves_124 : decode cX9_moves 124 = .ok (.iload 6, 2) := by decide +kernel
theorem dX9_moves_126 : decode cX9_moves 126 = .ok (.istore_n 3, 1) := by decide +kernel
theorem dX9_moves_127 : decode cX9_moves 127 = .ok (.iinc 5 1, 3) := by decide +kernel
theorem dX9_moves_130 : decode cX9_moves 130 = .ok (.goto (-69), 3) := by decide +kernel
theorem dX9_moves_133 : decode cX9_moves 133 = .ok (.iinc 4 1, 3) := by decide +kernel
theorem dX9_moves_136 : decode cX9_moves 136 = .ok (.goto (-127), 3) := by decide +kernel
theorem dX9_moves_139 : decode cX9_moves 139 = .ok (.iload_n 1, 1) := by decide +kernel
theorem dX9_moves_140 : decode cX9_moves 140 = .ok (.ifCond .ge 5, 3) := by decide +kernel
theorem dX9_moves_143 : decode cX9_moves 143 = .ok (.iconst 0, 1) := by decide +kernel
theorem dX9_moves_144 : decode cX9_moves 144 = .ok (.ireturn, 1) := by decide +kernel
theorem dX9_moves_145 : decode cX9_moves 145 = .ok (.aload_n 0, 1) := by decide +kernel
theorem dX9_moves_146 : decode cX9_moves 146 = .ok (.getfield 53, 3) := by decide +kernel
theorem dX9_moves_149 : decode cX9_moves 149 = .ok (.iload_n 1, 1) := by decide +kernel
theorem dX9_moves_150 : decode cX9_moves 150 = .ok (.iload_n 2, 1) := by decide +kernel
theorem dX9_moves_151 : decode cX9_moves 151 = .ok (.iastore, 1) := by decide +kernel
theorem dX9_moves_152 : decode cX9_moves 152 = .ok (.aload_n 0, 1) := by decide +kernel
theorem dX9_moves_153 : decode cX9_moves 153 = .ok (.getfield 65, 3) := by decide +kernel
theorem dX9_moves_156 : decode cX9_moves 156 = .ok (.iconst 2, 1) := by decide +kernel
theorem dX9_moves_157 : decode cX9_moves 157 = .ok (.aload_n 0, 1) := by decide +kernel
theorem dX9_moves_158 : decode cX9_moves 158 = .ok (.getfield 65, 3) := by decide +kernel
theorem dX9_moves_161 : decode cX9_moves 161 = .ok (.iconst 1, 1) := by decide +kernel
theorem dX9_moves_162 : decode cX9_moves 162 = .ok (.iaload, 1) := by decide +kernel
theorem dX9_moves_163 : decode cX9_moves 163 = .ok (.iastore, 1) := by decide +kernel
theorem dX9_moves_164 : decode cX9_moves 164 = .ok (.aload_n 0, 1) := by decide +kernel
theorem dX9_moves_165 : decode cX9_moves 165 = .ok (.getfield 65, 3) := by decide +kernel
theorem dX9_moves_168 : decode cX9_moves 168 = .ok (.iconst 1, 1) := by decide +kernel
theorem dX9_moves_169 : decode cX9_moves 169 = .ok (.aload_n 0, 1) := by decide +kernel
theorem dX9_moves_170 : decode cX9_moves 170 = .ok (.getfield 65, 3) := by decide +kernel
theorem dX9_moves_173 : decode cX9_moves 173 = .ok (.iconst 0, 1) := by decide +kernel
theorem dX9_moves_174 : decode cX9_moves 174 = .ok (.iaload, 1) := by decide +kernel
theorem dX9_moves_175 : decode cX9_moves 175 = .ok (.iastore, 1) := by decide +kernel
theorem dX9_moves_176 : decode cX9_moves 176 = .ok (.aload_n 0, 1) := by decide +kernel
theorem dX9_moves_177 : decode cX9_moves 177 = .ok (.getfield 65, 3) := by decide +kernel
theorem dX9_moves_180 : decode cX9_moves 180 = .ok (.iconst 0, 1) := by decide +kernel
theorem dX9_moves_181 : decode cX9_moves 181 = .ok (.iload_n 1, 1) := by decide +kernel
theorem dX9_moves_182 : decode cX9_moves 182 = .ok (.iastore, 1) := by decide +kernel
theorem dX9_moves_183 : decode cX9_moves 183 = .ok (.iconst 1, 1) := by decide +kernel
theorem dX9_moves_184 : decode cX9_moves 184 = .ok (.ireturn, 1) := by decide +kernel
theorem dX9_improve_0 : decode cX9_improve 0 = .ok (.aload_n 0, 1) := by decide +kernel
theorem dX9_improve_1 : decode cX9_improve 1 = .ok (.iload_n 1, 1) := by decide +kernel
theorem dX9_improve_2 : decode cX9_improve 2 = .ok (.iconst 1, 1) := by decide +kernel
theorem dX9_improve_3 : decode cX9_improve 3 = .ok (.bipush 20, 2) := by decide +kernel
theorem dX9_improve_5 : decode cX9_improve 5 = .ok (.invokestatic 96, 3) := by decide +kernel
theorem dX9_improve_8 : decode cX9_improve 8 = .ok (.invokevirtual 110, 3) := by decide +kernel
theorem dX9_improve_11 : decode cX9_improve 11 = .ok (.ifCond .le 5, 3) := by decide +kernel
theorem dX9_improve_14 : decode cX9_improve 14 = .ok (.iconst 0, 1) := by decide +kernel
theorem dX9_improve_15 : decode cX9_improve 15 = .ok (.ireturn, 1) := by decide +kernel
theorem dX9_improve_16 : decode cX9_improve 16 = .ok (.iconst 0, 1) := by decide +kernel
theorem dX9_improve_17 : decode cX9_improve 17 = .ok (.istore_n 2, 1) := by decide +kernel
theorem dX9_improve_18 : decode cX9_improve 18 = .ok (.iload_n 2, 1) := by decide +kernel
theorem dX9_improve_19 : decode cX9_improve 19 = .ok (.iconst 3, 1) := by decide +kernel
theorem dX9_improve_20 : decode cX9_improve 20 = .ok (.if_icmp .ge 16, 3) := by decide +kernel
theorem dX9_improve_23 : decode cX9_improve 23 = .ok (.aload_n 0, 1) := by decide +kernel
theorem dX9_improve_24 : decode cX9_improve 24 = .ok (.getfield 65, 3) := by decide +kernel
theorem dX9_improve_27 : decode cX9_improve 27 = .ok (.iload_n 2, 1) := by decide +kernel
theorem dX9_improve_28 : decode cX9_improve 28 = .ok (.iconst (-1), 1) := by decide +kernel
theorem dX9_improve_29 : decode cX9_improve 29 = .ok (.iastore, 1) := by decide +kernel
theorem dX9_improve_30 : decode cX9_improve 30 = .ok (.iinc 2 1, 3) := by decide +kernel
theorem dX9_improve_33 : decode cX9_improve 33 = .ok (.goto (-15), 3) := by decide +kernel
theorem dX9_improve_36 : decode cX9_improve 36 = .ok (.iconst 0, 1) := by decide +kernel
theorem dX9_improve_37 : decode cX9_improve 37 = .ok (.istore_n 2, 1) := by decide +kernel
theorem dX9_improve_38 : decode cX9_improve 38 = .ok (.iload_n 2, 1) := by decide +kernel
theorem dX9_improve_39 : decode cX9_improve 39 = .ok (.bipush 16, 2) := by decide +kernel
theorem dX9_improve_41 : decode cX9_improve 41 = .ok (.if_icmp .ge 21, 3) := by decide +kernel
theorem dX9_improve_44 : decode cX9_improve 44 = .ok (.aload_n 0, 1) := by decide +kernel
theorem dX9_improve_45 : decode cX9_improve 45 = .ok (.getfield 68, 3) := by decide +kernel
theorem dX9_improve_48 : decode cX9_improve 48 = .ok (.iload_n 2, 1) := by decide +kernel
theorem dX9_improve_49 : decode cX9_improve 49 = .ok (.aload_n 0, 1) := by decide +kernel
theorem dX9_improve_50 : decode cX9_improve 50 = .ok (.getfield 53, 3) := by decide +kernel
theorem dX9_improve_53 : decode cX9_improve 53 = .ok (.iload_n 2, 1) := by decide +kernel
theorem dX9_improve_54 : decode cX9_improve 54 = .ok (.iaload, 1) := by decide +kernel
theorem dX9_improve_55 : decode cX9_improve 55 = .ok (.iastore, 1) := by decide +kernel
theorem dX9_improve_56 : decode cX9_improve 56 = .ok (.iinc 2 1, 3) := by decide +kernel
theorem dX9_improve_59 : decode cX9_improve 59 = .ok (.goto (-21), 3) := by decide +kernel
theorem dX9_improve_62 : decode cX9_improve 62 = .ok (.aload_n 0, 1) := by decide +kernel
theorem dX9_improve_63 : decode cX9_improve 63 = .ok (.invokevirtual 189, 3) := by decide +kernel
theorem dX9_improve_66 : decode cX9_improve 66 = .ok (.istore_n 2, 1) := by decide +kernel
theorem dX9_improve_67 : decode cX9_improve 67 = .ok (.iconst 0, 1) := by decide +kernel
theorem dX9_improve_68 : decode cX9_improve 68 = .ok (.istore_n 3, 1) := by decide +kernel
theorem dX9_improve_69 : decode cX9_improve 69 = .ok (.iload_n 3, 1) := by decide +kernel
theorem dX9_improve_70 : decode cX9_improve 70 = .ok (.iload_n 1, 1) := by decide +kernel
theorem dX9_improve_71 : decode cX9_improve 71 = .ok (.if_icmp .ge 64, 3) := by decide +kernel
theorem dX9_improve_74 : decode cX9_improve 74 = .ok (.aload_n 0, 1) := by decide +kernel
theorem dX9_improve_75 : decode cX9_improve 75 = .ok (.invokevirtual 234, 3) := by decide +kernel
theorem dX9_improve_78 : decode cX9_improve 78 = .ok (.ifCond .eq 57, 3) := by decide +kernel
theorem dX9_improve_81 : decode cX9_improve 81 = .ok (.aload_n 0, 1) := by decide +kernel
theorem dX9_improve_82 : decode cX9_improve 82 = .ok (.invokevirtual 189, 3) := by decide +kernel
theorem dX9_improve_85 : decode cX9_improve 85 = .ok (.istore 4, 2) := by decide +kernel
theorem dX9_improve_87 : decode cX9_improve 87 = .ok (.iload 4, 2) := by decide +kernel
theorem dX9_improve_89 : decode cX9_improve 89 = .ok (.iload_n 2, 1) := by decide +kernel
theorem dX9_improve_90 : decode cX9_improve 90 = .ok (.if_icmp .lt 6, 3) := by decide +kernel
theorem dX9_improve_93 : decode cX9_improve 93 = .ok (.goto 36, 3) := by decide +kernel
theorem dX9_improve_96 : decode cX9_improve 96 = .ok (.iload 4, 2) := by decide +kernel
theorem dX9_improve_98 : decode cX9_improve 98 = .ok (.istore_n 2, 1) := by decide +kernel
theorem dX9_improve_99 : decode cX9_improve 99 = .ok (.iconst 0, 1) := by decide +kernel
theorem dX9_improve_100 : decode cX9_improve 100 = .ok (.istore 5, 2) := by decide +kernel
theorem dX9_improve_102 : decode cX9_improve 102 = .ok (.iload 5, 2) := by decide +kernel
theorem dX9_improve_104 : decode cX9_improve 104 = .ok (.bipush 16, 2) := by decide +kernel
theorem dX9_improve_106 : decode cX9_improve 106 = .ok (.if_icmp .ge 23, 3) := by decide +kernel
theorem dX9_improve_109 : decode cX9_improve 109 = .ok (.aload_n 0, 1) := by decide +kernel
theorem dX9_improve_110 : decode cX9_improve 110 = .ok (.getfield 68, 3) := by decide +kernel
theorem dX9_improve_113 : decode cX9_improve 113 = .ok (.iload 5, 2) := by decide +kernel
theorem dX9_improve_115 : decode cX9_improve 115 = .ok (.aload_n 0, 1) := by decide +kernel
theorem dX9_improve_116 : decode cX9_improve 116 = .ok (.getfield 53, 3) := by decide +kernel
theorem dX9_improve_119 : decode cX9_improve 119 = .ok (.iload 5, 2) := by decide +kernel
theorem dX9_improve_121 : decode cX9_improve 121 = .ok (.iaload, 1) := by decide +kernel
theorem dX9_improve_122 : decode cX9_improve 122 = .ok (.iastore, 1) := by decide +kernel
theorem dX9_improve_123 : decode cX9_improve 123 = .ok (.iinc 5 1, 3) := by decide +kernel
theorem dX9_improve_126 : decode cX9_improve 126 = .ok (.goto (-24), 3) := by decide +kernel
theorem dX9_improve_129 : decode cX9_improve 129 = .ok (.iinc 3 1, 3) := by decide +kernel
theorem dX9_improve_132 : decode cX9_improve 132 = .ok (.goto (-63), 3) := by decide +kernel
theorem dX9_improve_135 : decode cX9_improve 135 = .ok (.iconst 0, 1) := by decide +kernel
theorem dX9_improve_136 : decode cX9_improve 136 = .ok (.istore_n 3, 1) := by decide +kernel
theorem dX9_improve_137 : decode cX9_improve 137 = .ok (.iload_n 3, 1) := by decide +kernel
theorem dX9_improve_138 : decode cX9_improve 138 = .ok (.bipush 16, 2) := by decide +kernel
theorem dX9_improve_140 : decode cX9_improve 140 = .ok (.if_icmp .ge 21, 3) := by decide +kernel
theorem dX9_improve_143 : decode cX9_improve 143 = .ok (.aload_n 0, 1) := by decide +kernel
theorem dX9_improve_144 : decode cX9_improve 144 = .ok (.getfield 53, 3) := by decide +kernel
theorem dX9_improve_147 : decode cX9_improve 147 = .ok (.iload_n 3, 1) := by decide +kernel
theorem dX9_improve_148 : decode cX9_improve 148 = .ok (.aload_n 0, 1) := by decide +kernel
theorem dX9_improve_149 : decode cX9_improve 149 = .ok (.getfield 68, 3) := by decide +kernel
theorem dX9_improve_152 : decode cX9_improve 152 = .ok (.iload_n 3, 1) := by decide +kernel
theorem dX9_improve_153 : decode cX9_improve 153 = .ok (.iaload, 1) := by decide +kernel
theorem dX9_improve_154 : decode cX9_improve 154 = .ok (.iastore, 1) := by decide +kernel
theorem dX9_improve_155 : decode cX9_improve 155 = .ok (.iinc 3 1, 3) := by decide +kernel
theorem dX9_improve_158 : decode cX9_improve 158 = .ok (.goto (-21), 3) := by decide +kernel
theorem dX9_improve_161 : decode cX9_improve 161 = .ok (.iload_n 2, 1) := by decide +kernel
theorem dX9_improve_162 : decode cX9_improve 162 = .ok (.ireturn, 1) := by decide +kernel
theorem dX9_cost_0 : decode cX9_cost 0 = .ok (.aload_n 0, 1) := by decide +kernel
theorem dX9_cost_1 : decode cX9_cost 1 = .ok (.aload_n 0, 1) := by decide +kernel
theorem dX9_cost_2 : decode cX9_cost 2 = .ok (.invokevirtual 189, 3) := by decide +kernel
theorem dX9_cost_5 : decode cX9_cost 5 = .ok (.invokevirtual 211, 3) := by decide +kernel
theorem dX9_cost_8 : decode cX9_cost 8 = .ok (.ireturn, 1) := by decide +kernel
theorem dX9_costAnew_0 : decode cX9_costAnew 0 = .ok (.aload_n 0, 1) := by decide +kernel
theorem dX9_costAnew_1 : decode cX9_costAnew 1 = .ok (.aload_n 0, 1) := by decide +kernel
theorem dX9_costAnew_2 : decode cX9_costAnew 2 = .ok (.invokevirtual 189, 3) := by decide +kernel
theorem dX9_costAnew_5 : decode cX9_costAnew 5 = .ok (.invokevirtual 211, 3) := by decide +kernel
theorem dX9_costAnew_8 : decode cX9_costAnew 8 = .ok (.ireturn, 1) := by decide +kernel
theorem dX9_amount_0 : decode cX9_amount 0 = .ok (.aload_n 0, 1) := by decide +kernel
theorem dX9_amount_1 : decode cX9_amount 1 = .ok (.iload_n 1, 1) := by decide +kernel
theorem dX9_amount_2 : decode cX9_amount 2 = .ok (.iconst 0, 1) := by decide +kernel
theorem dX9_amount_3 : decode cX9_amount 3 = .ok (.iconst 3, 1) := by decide +kernel
theorem dX9_amount_4 : decode cX9_amount 4 = .ok (.invokestatic 96, 3) := by decide +kernel
theorem dX9_amount_7 : decode cX9_amount 7 = .ok (.invokevirtual 110, 3) := by decide +kernel
theorem dX9_amount_10 : decode cX9_amount 10 = .ok (.ifCond .le 7, 3) := by decide +kernel
theorem dX9_amount_13 : decode cX9_amount 13 = .ok (.iconst 0, 1) := by decide +kernel
theorem dX9_amount_14 : decode cX9_amount 14 = .ok (.goto 8, 3) := by decide +kernel
theorem dX9_amount_17 : decode cX9_amount 17 = .ok (.aload_n 0, 1) := by decide +kernel
theorem dX9_amount_18 : decode cX9_amount 18 = .ok (.iload_n 1, 1) := by decide +kernel
theorem dX9_amount_19 : decode cX9_amount 19 = .ok (.invokevirtual 186, 3) := by decide +kernel
theorem dX9_amount_22 : decode cX9_amount 22 = .ok (.ireturn, 1) := by decide +kernel
theorem dX9_breaks_0 : decode cX9_breaks 0 = .ok (.iconst 0, 1) := by decide +kernel
theorem dX9_breaks_1 : decode cX9_breaks 1 = .ok (.istore_n 1, 1) := by decide +kernel
theorem dX9_breaks_2 : decode cX9_breaks 2 = .ok (.iconst 0, 1) := by decide +kernel
theorem dX9_breaks_3 : decode cX9_breaks 3 = .ok (.istore_n 2, 1) := by decide +kernel
theorem dX9_breaks_4 : decode cX9_breaks 4 = .ok (.iload_n 2, 1) := by decide +kernel
theorem dX9_breaks_5 : decode cX9_breaks 5 = .ok (.aload_n 0, 1) := by decide +kernel
theorem dX9_breaks_6 : decode cX9_breaks 6 = .ok (.getfield 84, 3) := by decide +kernel
theorem dX9_breaks_9 : decode cX9_breaks 9 = .ok (.if_icmp .ge 59, 3) := by decide +kernel
theorem dX9_breaks_12 : decode cX9_breaks 12 = .ok (.iload_n 1, 1) := by decide +kernel
theorem dX9_breaks_13 : decode cX9_breaks 13 = .ok (.aload_n 0, 1) := by decide +kernel
theorem dX9_breaks_14 : decode cX9_breaks 14 = .ok (.iload_n 2, 1) := by decide +kernel
theorem dX9_breaks_15 : decode cX9_breaks 15 = .ok (.invokevirtual 118, 3) := by decide +kernel
theorem dX9_breaks_18 : decode cX9_breaks 18 = .ok (.ifCond .eq 41, 3) := by decide +kernel
theorem dX9_breaks_21 : decode cX9_breaks 21 = .ok (.aload_n 0, 1) := by decide +kernel
theorem dX9_breaks_22 : decode cX9_breaks 22 = .ok (.iload_n 2, 1) := by decide +kernel
theorem dX9_breaks_23 : decode cX9_breaks 23 = .ok (.invokevirtual 202, 3) := by decide +kernel
theorem dX9_breaks_26 : decode cX9_breaks 26 = .ok (.ifCond .ne 33, 3) := by decide +kernel
theorem dX9_breaks_29 : decode cX9_breaks 29 = .ok (.aload_n 0, 1) := by decide +kernel
theorem dX9_breaks_30 : decode cX9_breaks 30 = .ok (.iload_n 2, 1) := by decide +kernel
theorem dX9_breaks_31 : decode cX9_breaks 31 = .ok (.aload_n 0, 1) := by decide +kernel
theorem dX9_breaks_32 : decode cX9_breaks 32 = .ok (.getfield 53, 3) := by decide +kernel
theorem dX9_breaks_35 : decode cX9_breaks 35 = .ok (.iload_n 2, 1) := by decide +kernel
theorem dX9_breaks_36 : decode cX9_breaks 36 = .ok (.iaload, 1) := by decide +kernel
theorem dX9_breaks_37 : decode cX9_breaks 37 = .ok (.bipush 8, 2) := by decide +kernel
theorem dX9_breaks_39 : decode cX9_breaks 39 = .ok (.idiv, 1) := by decide +kernel
theorem dX9_breaks_40 : decode cX9_breaks 40 = .ok (.aload_n 0, 1) := by decide +kernel
theorem dX9_breaks_41 : decode cX9_breaks 41 = .ok (.getfield 53, 3) := by decide +kernel
theorem dX9_breaks_44 : decode cX9_breaks 44 = .ok (.iload_n 2, 1) := by decide +kernel
theorem dX9_breaks_45 : decode cX9_breaks 45 = .ok (.iaload, 1) := by decide +kernel
theorem dX9_breaks_46 : decode cX9_breaks 46 = .ok (.bipush 8, 2) := by decide +kernel
theorem dX9_breaks_48 : decode cX9_breaks 48 = .ok (.irem, 1) := by decide +kernel
theorem dX9_breaks_49 : decode cX9_breaks 49 = .ok (.invokevirtual 145, 3) := by decide +kernel
theorem dX9_breaks_52 : decode cX9_breaks 52 = .ok (.ifCond .le 7, 3) := by decide +kernel
theorem dX9_breaks_55 : decode cX9_breaks 55 = .ok (.iconst 1, 1) := by decide +kernel
theorem dX9_breaks_56 : decode cX9_breaks 56 = .ok (.goto 4, 3) := by decide +kernel
theorem dX9_breaks_59 : decode cX9_breaks 59 = .ok (.iconst 0, 1) := by decide +kernel
theorem dX9_breaks_60 : decode cX9_breaks 60 = .ok (.iadd, 1) := by decide +kernel
theorem dX9_breaks_61 : decode cX9_breaks 61 = .ok (.istore_n 1, 1) := by decide +kernel
theorem dX9_breaks_62 : decode cX9_breaks 62 = .ok (.iinc 2 1, 3) := by decide +kernel
theorem dX9_breaks_65 : decode cX9_breaks 65 = .ok (.goto (-61), 3) := by decide +kernel
theorem dX9_breaks_68 : decode cX9_breaks 68 = .ok (.aload_n 0, 1) := by decide +kernel
theorem dX9_breaks_69 : decode cX9_breaks 69 = .ok (.iload_n 1, 1) := by decide +kernel
theorem dX9_breaks_70 : decode cX9_breaks 70 = .ok (.invokevirtual 211, 3) := by decide +kernel
theorem dX9_breaks_73 : decode cX9_breaks 73 = .ok (.ireturn, 1) := by decide +kernel
theorem dX9_lacksAbove_0 : decode cX9_lacksAbove 0 = .ok (.iconst 0, 1) := by decide +kernel
theorem dX9_lacksAbove_1 : decode cX9_lacksAbove 1 = .ok (.istore_n 3, 1) := by decide +kernel
theorem dX9_lacksAbove_2 : decode cX9_lacksAbove 2 = .ok (.iconst 0, 1) := by decide +kernel
theorem dX9_lacksAbove_3 : decode cX9_lacksAbove 3 = .ok (.istore 4, 2) := by decide +kernel
theorem dX9_lacksAbove_5 : decode cX9_lacksAbove 5 = .ok (.iload 4, 2) := by decide +kernel
theorem dX9_lacksAbove_7 : decode cX9_lacksAbove 7 = .ok (.aload_n 0, 1) := by decide +kernel
theorem dX9_lacksAbove_8 : decode cX9_lacksAbove 8 = .ok (.getfield 84, 3) := by decide +kernel
theorem dX9_lacksAbove_11 : decode cX9_lacksAbove 11 = .ok (.if_icmp .ge 50, 3) := by decide +kernel
theorem dX9_lacksAbove_14 : decode cX9_lacksAbove 14 = .ok (.iload_n 3, 1) := by decide +kernel
theorem dX9_lacksAbove_15 : decode cX9_lacksAbove 15 = .ok (.aload_n 0, 1) := by decide +kernel
theorem dX9_lacksAbove_16 : decode cX9_lacksAbove 16 = .ok (.getfield 44, 3) := by decide +kernel
theorem dX9_lacksAbove_19 : decode cX9_lacksAbove 19 = .ok (.iload 4, 2) := by decide +kernel
theorem dX9_lacksAbove_21 : decode cX9_lacksAbove 21 = .ok (.iaload, 1) := by decide +kernel
theorem dX9_lacksAbove_22 : decode cX9_lacksAbove 22 = .ok (.iload_n 1, 1) := by decide +kernel
theorem dX9_lacksAbove_23 : decode cX9_lacksAbove 23 = .ok (.if_icmp .ne 29, 3) := by decide +kernel
theorem dX9_lacksAbove_26 : decode cX9_lacksAbove 26 = .ok (.aload_n 0, 1) := by decide +kernel
theorem dX9_lacksAbove_27 : decode cX9_lacksAbove 27 = .ok (.getfield 25, 3) := by decide +kernel
theorem dX9_lacksAbove_30 : decode cX9_lacksAbove 30 = .ok (.aload_n 0, 1) := by decide +kernel
theorem dX9_lacksAbove_31 : decode cX9_lacksAbove 31 = .ok (.getfield 38, 3) := by decide +kernel
theorem dX9_lacksAbove_34 : decode cX9_lacksAbove 34 = .ok (.iload 4, 2) := by decide +kernel
theorem dX9_lacksAbove_36 : decode cX9_lacksAbove 36 = .ok (.iaload, 1) := by decide +kernel
theorem dX9_lacksAbove_37 : decode cX9_lacksAbove 37 = .ok (.iaload, 1) := by decide +kernel
theorem dX9_lacksAbove_38 : decode cX9_lacksAbove 38 = .ok (.iload_n 2, 1) := by decide +kernel
theorem dX9_lacksAbove_39 : decode cX9_lacksAbove 39 = .ok (.if_icmp .le 13, 3) := by decide +kernel
theorem dX9_lacksAbove_42 : decode cX9_lacksAbove 42 = .ok (.aload_n 0, 1) := by decide +kernel
theorem dX9_lacksAbove_43 : decode cX9_lacksAbove 43 = .ok (.getfield 47, 3) := by decide +kernel
theorem dX9_lacksAbove_46 : decode cX9_lacksAbove 46 = .ok (.iload 4, 2) := by decide +kernel
theorem dX9_lacksAbove_48 : decode cX9_lacksAbove 48 = .ok (.iaload, 1) := by decide +kernel
theorem dX9_lacksAbove_49 : decode cX9_lacksAbove 49 = .ok (.goto 4, 3) := by decide +kernel
theorem dX9_lacksAbove_52 : decode cX9_lacksAbove 52 = .ok (.iconst 0, 1) := by decide +kernel
theorem dX9_lacksAbove_53 : decode cX9_lacksAbove 53 = .ok (.iadd, 1) := by decide +kernel
theorem dX9_lacksAbove_54 : decode cX9_lacksAbove 54 = .ok (.istore_n 3, 1) := by decide +kernel
theorem dX9_lacksAbove_55 : decode cX9_lacksAbove 55 = .ok (.iinc 4 1, 3) := by decide +kernel
theorem dX9_lacksAbove_58 : decode cX9_lacksAbove 58 = .ok (.goto (-53), 3) := by decide +kernel
theorem dX9_lacksAbove_61 : decode cX9_lacksAbove 61 = .ok (.iconst 0, 1) := by decide +kernel
theorem dX9_lacksAbove_62 : decode cX9_lacksAbove 62 = .ok (.istore 4, 2) := by decide +kernel
theorem dX9_lacksAbove_64 : decode cX9_lacksAbove 64 = .ok (.iload 4, 2) := by decide +kernel
theorem dX9_lacksAbove_66 : decode cX9_lacksAbove 66 = .ok (.aload_n 0, 1) := by decide +kernel
theorem dX9_lacksAbove_67 : decode cX9_lacksAbove 67 = .ok (.getfield 75, 3) := by decide +kernel
theorem dX9_lacksAbove_70 : decode cX9_lacksAbove 70 = .ok (.if_icmp .ge 50, 3) := by decide +kernel
theorem dX9_lacksAbove_73 : decode cX9_lacksAbove 73 = .ok (.iload_n 3, 1) := by decide +kernel
theorem dX9_lacksAbove_74 : decode cX9_lacksAbove 74 = .ok (.aload_n 0, 1) := by decide +kernel
theorem dX9_lacksAbove_75 : decode cX9_lacksAbove 75 = .ok (.getfield 13, 3) := by decide +kernel
theorem dX9_lacksAbove_78 : decode cX9_lacksAbove 78 = .ok (.iload 4, 2) := by decide +kernel
theorem dX9_lacksAbove_80 : decode cX9_lacksAbove 80 = .ok (.iaload, 1) := by decide +kernel
theorem dX9_lacksAbove_81 : decode cX9_lacksAbove 81 = .ok (.iload_n 1, 1) := by decide +kernel
theorem dX9_lacksAbove_82 : decode cX9_lacksAbove 82 = .ok (.if_icmp .ne 29, 3) := by decide +kernel
theorem dX9_lacksAbove_85 : decode cX9_lacksAbove 85 = .ok (.aload_n 0, 1) := by decide +kernel
theorem dX9_lacksAbove_86 : decode cX9_lacksAbove 86 = .ok (.getfield 31, 3) := by decide +kernel
theorem dX9_lacksAbove_89 : decode cX9_lacksAbove 89 = .ok (.iload 4, 2) := by decide +kernel
theorem dX9_lacksAbove_91 : decode cX9_lacksAbove 91 = .ok (.baload, 1) := by decide +kernel
theorem dX9_lacksAbove_92 : decode cX9_lacksAbove 92 = .ok (.ifCond .ne 19, 3) := by decide +kernel
theorem dX9_lacksAbove_95 : decode cX9_lacksAbove 95 = .ok (.aload_n 0, 1) := by decide +kernel
theorem dX9_lacksAbove_96 : decode cX9_lacksAbove 96 = .ok (.getfield 16, 3) := by decide +kernel
theorem dX9_lacksAbove_99 : decode cX9_lacksAbove 99 = .ok (.iload 4, 2) := by decide +kernel
theorem dX9_lacksAbove_101 : decode cX9_lacksAbove 101 = .ok (.iaload, 1) := by decide +kernel
theorem dX9_lacksAbove_102 : decode cX9_lacksAbove 102 = .ok (.iload_n 2, 1) := by decide +kernel
theorem dX9_lacksAbove_103 : decode cX9_lacksAbove 103 = .ok (.if_icmp .le 8, 3) := by decide +kernel
theorem dX9_lacksAbove_106 : decode cX9_lacksAbove 106 = .ok (.bipush 30, 2) := by decide +kernel
theorem dX9_lacksAbove_108 : decode cX9_lacksAbove 108 = .ok (.goto 4, 3) := by decide +kernel
theorem dX9_lacksAbove_111 : decode cX9_lacksAbove 111 = .ok (.iconst 0, 1) := by decide +kernel
theorem dX9_lacksAbove_112 : decode cX9_lacksAbove 112 = .ok (.isub, 1) := by decide +kernel
theorem dX9_lacksAbove_113 : decode cX9_lacksAbove 113 = .ok (.istore_n 3, 1) := by decide +kernel
theorem dX9_lacksAbove_114 : decode cX9_lacksAbove 114 = .ok (.iinc 4 1, 3) := by decide +kernel
theorem dX9_lacksAbove_117 : decode cX9_lacksAbove 117 = .ok (.goto (-53), 3) := by decide +kernel
theorem dX9_lacksAbove_120 : decode cX9_lacksAbove 120 = .ok (.iload_n 3, 1) := by decide +kernel
theorem dX9_lacksAbove_121 : decode cX9_lacksAbove 121 = .ok (.ireturn, 1) := by decide +kernel
theorem dX9_lacking_0 : decode cX9_lacking 0 = .ok (.aload_n 0, 1) := by decide +kernel
theorem dX9_lacking_1 : decode cX9_lacking 1 = .ok (.iload_n 1, 1) := by decide +kernel
theorem dX9_lacking_2 : decode cX9_lacking 2 = .ok (.iconst 0, 1) := by decide +kernel
theorem dX9_lacking_3 : decode cX9_lacking 3 = .ok (.iconst 3, 1) := by decide +kernel
theorem dX9_lacking_4 : decode cX9_lacking 4 = .ok (.invokestatic 96, 3) := by decide +kernel
theorem dX9_lacking_7 : decode cX9_lacking 7 = .ok (.invokevirtual 110, 3) := by decide +kernel
theorem dX9_lacking_10 : decode cX9_lacking 10 = .ok (.ifCond .le 5, 3) := by decide +kernel
theorem dX9_lacking_13 : decode cX9_lacking 13 = .ok (.iconst 0, 1) := by decide +kernel
theorem dX9_lacking_14 : decode cX9_lacking 14 = .ok (.ireturn, 1) := by decide +kernel
theorem dX9_lacking_15 : decode cX9_lacking 15 = .ok (.iconst 0, 1) := by decide +kernel
theorem dX9_lacking_16 : decode cX9_lacking 16 = .ok (.istore_n 2, 1) := by decide +kernel
theorem dX9_lacking_17 : decode cX9_lacking 17 = .ok (.iconst 0, 1) := by decide +kernel
theorem dX9_lacking_18 : decode cX9_lacking 18 = .ok (.istore_n 3, 1) := by decide +kernel
theorem dX9_lacking_19 : decode cX9_lacking 19 = .ok (.iload_n 3, 1) := by decide +kernel
theorem dX9_lacking_20 : decode cX9_lacking 20 = .ok (.bipush 100, 2) := by decide +kernel
theorem dX9_lacking_22 : decode cX9_lacking 22 = .ok (.if_icmp .ge 30, 3) := by decide +kernel
theorem dX9_lacking_25 : decode cX9_lacking 25 = .ok (.aload_n 0, 1) := by decide +kernel
theorem dX9_lacking_26 : decode cX9_lacking 26 = .ok (.iload_n 1, 1) := by decide +kernel
theorem dX9_lacking_27 : decode cX9_lacking 27 = .ok (.iload_n 3, 1) := by decide +kernel
theorem dX9_lacking_28 : decode cX9_lacking 28 = .ok (.invokevirtual 238, 3) := by decide +kernel
theorem dX9_lacking_31 : decode cX9_lacking 31 = .ok (.iload_n 2, 1) := by decide +kernel
theorem dX9_lacking_32 : decode cX9_lacking 32 = .ok (.if_icmp .le 12, 3) := by decide +kernel
theorem dX9_lacking_35 : decode cX9_lacking 35 = .ok (.aload_n 0, 1) := by decide +kernel
theorem dX9_lacking_36 : decode cX9_lacking 36 = .ok (.iload_n 1, 1) := by decide +kernel
theorem dX9_lacking_37 : decode cX9_lacking 37 = .ok (.iload_n 3, 1) := by decide +kernel
theorem dX9_lacking_38 : decode cX9_lacking 38 = .ok (.invokevirtual 238, 3) := by decide +kernel
theorem dX9_lacking_41 : decode cX9_lacking 41 = .ok (.goto 4, 3) := by decide +kernel
theorem dX9_lacking_44 : decode cX9_lacking 44 = .ok (.iload_n 2, 1) := by decide +kernel
theorem dX9_lacking_45 : decode cX9_lacking 45 = .ok (.istore_n 2, 1) := by decide +kernel
theorem dX9_lacking_46 : decode cX9_lacking 46 = .ok (.iinc 3 1, 3) := by decide +kernel
theorem dX9_lacking_49 : decode cX9_lacking 49 = .ok (.goto (-30), 3) := by decide +kernel
theorem dX9_lacking_52 : decode cX9_lacking 52 = .ok (.iload_n 2, 1) := by decide +kernel
theorem dX9_lacking_53 : decode cX9_lacking 53 = .ok (.ireturn, 1) := by decide +kernel
theorem dX9_lackingBySeats_0 : decode cX9_lackingBySeats 0 = .ok (.aload_n 0, 1) := by decide +kernel
theorem dX9_lackingBySeats_1 : decode cX9_lackingBySeats 1 = .ok (.iload_n 1, 1) := by decide +kernel
theorem dX9_lackingBySeats_2 : decode cX9_lackingBySeats 2 = .ok (.invokevirtual 241, 3) := by decide +kernel
theorem dX9_lackingBySeats_5 : decode cX9_lackingBySeats 5 = .ok (.ireturn, 1) := by decide +kernel
theorem dX9_repairs_0 : decode cX9_repairs 0 = .ok (.iconst 0, 1) := by decide +kernel
theorem dX9_repairs_1 : decode cX9_repairs 1 = .ok (.istore_n 2, 1) := by decide +kernel
theorem dX9_repairs_2 : decode cX9_repairs 2 = .ok (.iconst 0, 1) := by decide +kernel
theorem dX9_repairs_3 : decode cX9_repairs 3 = .ok (.istore_n 3, 1) := by decide +kernel
theorem dX9_repairs_4 : decode cX9_repairs 4 = .ok (.iload_n 3, 1) := by decide +kernel
theorem dX9_repairs_5 : decode cX9_repairs 5 = .ok (.aload_n 0, 1) := by decide +kernel
theorem dX9_repairs_6 : decode cX9_repairs 6 = .ok (.getfield 84, 3) := by decide +kernel
theorem dX9_repairs_9 : decode cX9_repairs 9 = .ok (.if_icmp .ge 32, 3) := by decide +kernel
theorem dX9_repairs_12 : decode cX9_repairs 12 = .ok (.aload_n 1, 1) := by decide +kernel
theorem dX9_repairs_13 : decode cX9_repairs 13 = .ok (.iload_n 3, 1) := by decide +kernel
theorem dX9_repairs_14 : decode cX9_repairs 14 = .ok (.baload, 1) := by decide +kernel
theorem dX9_repairs_15 : decode cX9_repairs 15 = .ok (.ifCond .ne 6, 3) := by decide +kernel
theorem dX9_repairs_18 : decode cX9_repairs 18 = .ok (.goto 17, 3) := by decide +kernel
theorem dX9_repairs_21 : decode cX9_repairs 21 = .ok (.aload_n 0, 1) := by decide +kernel
theorem dX9_repairs_22 : decode cX9_repairs 22 = .ok (.getfield 53, 3) := by decide +kernel
theorem dX9_repairs_25 : decode cX9_repairs 25 = .ok (.iload_n 3, 1) := by decide +kernel
theorem dX9_repairs_26 : decode cX9_repairs 26 = .ok (.iconst (-1), 1) := by decide +kernel
theorem dX9_repairs_27 : decode cX9_repairs 27 = .ok (.iastore, 1) := by decide +kernel
theorem dX9_repairs_28 : decode cX9_repairs 28 = .ok (.aload_n 0, 1) := by decide +kernel
theorem dX9_repairs_29 : decode cX9_repairs 29 = .ok (.getfield 35, 3) := by decide +kernel
theorem dX9_repairs_32 : decode cX9_repairs 32 = .ok (.iload_n 3, 1) := by decide +kernel
theorem dX9_repairs_33 : decode cX9_repairs 33 = .ok (.iconst 0, 1) := by decide +kernel
theorem dX9_repairs_34 : decode cX9_repairs 34 = .ok (.bastore, 1) := by decide +kernel
theorem dX9_repairs_35 : decode cX9_repairs 35 = .ok (.iinc 3 1, 3) := by decide +kernel
theorem dX9_repairs_38 : decode cX9_repairs 38 = .ok (.goto (-34), 3) := by decide +kernel
theorem dX9_repairs_41 : decode cX9_repairs 41 = .ok (.aload_n 0, 1) := by decide +kernel
theorem dX9_repairs_42 : decode cX9_repairs 42 = .ok (.aload_n 1, 1) := by decide +kernel
theorem dX9_repairs_43 : decode cX9_repairs 43 = .ok (.invokevirtual 221, 3) := by decide +kernel
theorem dX9_repairs_46 : decode cX9_repairs 46 = .ok (.istore_n 3, 1) := by decide +kernel
theorem dX9_repairs_47 : decode cX9_repairs 47 = .ok (.iload_n 3, 1) := by decide +kernel
theorem dX9_repairs_48 : decode cX9_repairs 48 = .ok (.ifCond .lt 43, 3) := by decide +kernel
theorem dX9_repairs_51 : decode cX9_repairs 51 = .ok (.aload_n 1, 1) := by decide +kernel
theorem dX9_repairs_52 : decode cX9_repairs 52 = .ok (.iload_n 3, 1) := by decide +kernel
theorem dX9_repairs_53 : decode cX9_repairs 53 = .ok (.iconst 0, 1) := by decide +kernel
theorem dX9_repairs_54 : decode cX9_repairs 54 = .ok (.bastore, 1) := by decide +kernel
theorem dX9_repairs_55 : decode cX9_repairs 55 = .ok (.aload_n 0, 1) := by decide +kernel
theorem dX9_repairs_56 : decode cX9_repairs 56 = .ok (.getfield 53, 3) := by decide +kernel
theorem dX9_repairs_59 : decode cX9_repairs 59 = .ok (.iload_n 3, 1) := by decide +kernel
theorem dX9_repairs_60 : decode cX9_repairs 60 = .ok (.aload_n 0, 1) := by decide +kernel
theorem dX9_repairs_61 : decode cX9_repairs 61 = .ok (.iload_n 3, 1) := by decide +kernel
theorem dX9_repairs_62 : decode cX9_repairs 62 = .ok (.invokevirtual 214, 3) := by decide +kernel
theorem dX9_repairs_65 : decode cX9_repairs 65 = .ok (.iastore, 1) := by decide +kernel
theorem dX9_repairs_66 : decode cX9_repairs 66 = .ok (.iload_n 2, 1) := by decide +kernel
theorem dX9_repairs_67 : decode cX9_repairs 67 = .ok (.aload_n 0, 1) := by decide +kernel
theorem dX9_repairs_68 : decode cX9_repairs 68 = .ok (.iload_n 3, 1) := by decide +kernel
theorem dX9_repairs_69 : decode cX9_repairs 69 = .ok (.invokevirtual 118, 3) := by decide +kernel
theorem dX9_repairs_72 : decode cX9_repairs 72 = .ok (.ifCond .eq 7, 3) := by decide +kernel
theorem dX9_repairs_75 : decode cX9_repairs 75 = .ok (.iconst 0, 1) := by decide +kernel
theorem dX9_repairs_76 : decode cX9_repairs 76 = .ok (.goto 4, 3) := by decide +kernel
theorem dX9_repairs_79 : decode cX9_repairs 79 = .ok (.iconst 1, 1) := by decide +kernel
theorem dX9_repairs_80 : decode cX9_repairs 80 = .ok (.iadd, 1) := by decide +kernel
theorem dX9_repairs_81 : decode cX9_repairs 81 = .ok (.istore_n 2, 1) := by decide +kernel
theorem dX9_repairs_82 : decode cX9_repairs 82 = .ok (.aload_n 0, 1) := by decide +kernel
theorem dX9_repairs_83 : decode cX9_repairs 83 = .ok (.aload_n 1, 1) := by decide +kernel
theorem dX9_repairs_84 : decode cX9_repairs 84 = .ok (.invokevirtual 221, 3) := by decide +kernel
theorem dX9_repairs_87 : decode cX9_repairs 87 = .ok (.istore_n 3, 1) := by decide +kernel
theorem dX9_repairs_88 : decode cX9_repairs 88 = .ok (.goto (-41), 3) := by decide +kernel
theorem dX9_repairs_91 : decode cX9_repairs 91 = .ok (.iload_n 2, 1) := by decide +kernel
theorem dX9_repairs_92 : decode cX9_repairs 92 = .ok (.ireturn, 1) := by decide +kernel
theorem dX9_hasLocked_0 : decode cX9_hasLocked 0 = .ok (.iconst 0, 1) := by decide +kernel
theorem dX9_hasLocked_1 : decode cX9_hasLocked 1 = .ok (.istore_n 2, 1) := by decide +kernel
theorem dX9_hasLocked_2 : decode cX9_hasLocked 2 = .ok (.iload_n 2, 1) := by decide +kernel
theorem dX9_hasLocked_3 : decode cX9_hasLocked 3 = .ok (.aload_n 0, 1) := by decide +kernel
theorem dX9_hasLocked_4 : decode cX9_hasLocked 4 = .ok (.getfield 84, 3) := by decide +kernel
theorem dX9_hasLocked_7 : decode cX9_hasLocked 7 = .ok (.if_icmp .ge 26, 3) := by decide +kernel
theorem dX9_hasLocked_10 : decode cX9_hasLocked 10 = .ok (.aload_n 1, 1) := by decide +kernel
theorem dX9_hasLocked_11 : decode cX9_hasLocked 11 = .ok (.iload_n 2, 1) := by decide +kernel
theorem dX9_hasLocked_12 : decode cX9_hasLocked 12 = .ok (.baload, 1) := by decide +kernel
theorem dX9_hasLocked_13 : decode cX9_hasLocked 13 = .ok (.ifCond .eq 14, 3) := by decide +kernel
theorem dX9_hasLocked_16 : decode cX9_hasLocked 16 = .ok (.aload_n 0, 1) := by decide +kernel
theorem dX9_hasLocked_17 : decode cX9_hasLocked 17 = .ok (.getfield 35, 3) := by decide +kernel
theorem dX9_hasLocked_20 : decode cX9_hasLocked 20 = .ok (.iload_n 2, 1) := by decide +kernel
theorem dX9_hasLocked_21 : decode cX9_hasLocked 21 = .ok (.baload, 1) := by decide +kernel
theorem dX9_hasLocked_22 : decode cX9_hasLocked 22 = .ok (.ifCond .eq 5, 3) := by decide +kernel
theorem dX9_hasLocked_25 : decode cX9_hasLocked 25 = .ok (.iconst 1, 1) := by decide +kernel
theorem dX9_hasLocked_26 : decode cX9_hasLocked 26 = .ok (.ireturn, 1) := by decide +kernel
theorem dX9_hasLocked_27 : decode cX9_hasLocked 27 = .ok (.iinc 2 1, 3) := by decide +kernel
theorem dX9_hasLocked_30 : decode cX9_hasLocked 30 = .ok (.goto (-28), 3) := by decide +kernel
theorem dX9_hasLocked_33 : decode cX9_hasLocked 33 = .ok (.iconst 0, 1) := by decide +kernel
theorem dX9_hasLocked_34 : decode cX9_hasLocked 34 = .ok (.ireturn, 1) := by decide +kernel
theorem dX9_ill_0 : decode cX9_ill 0 = .ok (.aload_n 0, 1) := by decide +kernel
theorem dX9_ill_1 : decode cX9_ill 1 = .ok (.aload_n 0, 1) := by decide +kernel
theorem dX9_ill_2 : decode cX9_ill 2 = .ok (.iload_n 1, 1) := by decide +kernel
theorem dX9_ill_3 : decode cX9_ill 3 = .ok (.invokevirtual 104, 3) := by decide +kernel
theorem dX9_ill_6 : decode cX9_ill 6 = .ok (.ifCond .ne 7, 3) := by decide +kernel
theorem dX9_ill_9 : decode cX9_ill 9 = .ok (.iconst 1, 1) := by decide +kernel
theorem dX9_ill_10 : decode cX9_ill 10 = .ok (.goto 38, 3) := by decide +kernel
theorem dX9_ill_13 : decode cX9_ill 13 = .ok (.iload_n 2, 1) := by decide +kernel
theorem dX9_ill_14 : decode cX9_ill 14 = .ok (.aload_n 0, 1) := by decide +kernel
theorem dX9_ill_15 : decode cX9_ill 15 = .ok (.getfield 90, 3) := by decide +kernel
theorem dX9_ill_18 : decode cX9_ill 18 = .ok (.iconst 4, 1) := by decide +kernel
theorem dX9_ill_19 : decode cX9_ill 19 = .ok (.invokestatic 96, 3) := by decide +kernel
theorem dX9_ill_22 : decode cX9_ill 22 = .ok (.ifCond .ne 7, 3) := by decide +kernel
theorem dX9_ill_25 : decode cX9_ill 25 = .ok (.iconst 2, 1) := by decide +kernel
theorem dX9_ill_26 : decode cX9_ill 26 = .ok (.goto 22, 3) := by decide +kernel
theorem dX9_ill_29 : decode cX9_ill 29 = .ok (.aload_n 0, 1) := by decide +kernel
theorem dX9_ill_30 : decode cX9_ill 30 = .ok (.getfield 19, 3) := by decide +kernel
theorem dX9_ill_33 : decode cX9_ill 33 = .ok (.iload_n 1, 1) := by decide +kernel
theorem dX9_ill_34 : decode cX9_ill 34 = .ok (.iaload, 1) := by decide +kernel
theorem dX9_ill_35 : decode cX9_ill 35 = .ok (.iload_n 2, 1) := by decide +kernel
theorem dX9_ill_36 : decode cX9_ill 36 = .ok (.ishr, 1) := by decide +kernel
theorem dX9_ill_37 : decode cX9_ill 37 = .ok (.iconst 2, 1) := by decide +kernel
theorem dX9_ill_38 : decode cX9_ill 38 = .ok (.irem, 1) := by decide +kernel
theorem dX9_ill_39 : decode cX9_ill 39 = .ok (.iconst 1, 1) := by decide +kernel
theorem dX9_ill_40 : decode cX9_ill 40 = .ok (.if_icmp .ne 7, 3) := by decide +kernel
theorem dX9_ill_43 : decode cX9_ill 43 = .ok (.iconst 3, 1) := by decide +kernel
theorem dX9_ill_44 : decode cX9_ill 44 = .ok (.goto 4, 3) := by decide +kernel
theorem dX9_ill_47 : decode cX9_ill 47 = .ok (.iconst 0, 1) := by decide +kernel
theorem dX9_ill_48 : decode cX9_ill 48 = .ok (.putfield 71, 3) := by decide +kernel
theorem dX9_ill_51 : decode cX9_ill 51 = .ok (.aload_n 0, 1) := by decide +kernel
theorem dX9_ill_52 : decode cX9_ill 52 = .ok (.getfield 71, 3) := by decide +kernel
theorem dX9_ill_55 : decode cX9_ill 55 = .ok (.ifCond .le 5, 3) := by decide +kernel
theorem dX9_ill_58 : decode cX9_ill 58 = .ok (.iconst 0, 1) := by decide +kernel
theorem dX9_ill_59 : decode cX9_ill 59 = .ok (.ireturn, 1) := by decide +kernel
theorem dX9_ill_60 : decode cX9_ill 60 = .ok (.bipush 16, 2) := by decide +kernel
theorem dX9_ill_62 : decode cX9_ill 62 = .ok (.newarray .boolean, 2) := by decide +kernel
theorem dX9_ill_64 : decode cX9_ill 64 = .ok (.astore_n 3, 1) := by decide +kernel
theorem dX9_ill_65 : decode cX9_ill 65 = .ok (.iconst 0, 1) := by decide +kernel
theorem dX9_ill_66 : decode cX9_ill 66 = .ok (.istore 4, 2) := by decide +kernel
theorem dX9_ill_68 : decode cX9_ill 68 = .ok (.iload 4, 2) := by decide +kernel
theorem dX9_ill_70 : decode cX9_ill 70 = .ok (.aload_n 0, 1) := by decide +kernel
theorem dX9_ill_71 : decode cX9_ill 71 = .ok (.getfield 84, 3) := by decide +kernel
theorem dX9_ill_74 : decode cX9_ill 74 = .ok (.if_icmp .ge 51, 3) := by decide +kernel
theorem dX9_ill_77 : decode cX9_ill 77 = .ok (.aload_n 3, 1) := by decide +kernel
theorem dX9_ill_78 : decode cX9_ill 78 = .ok (.iload 4, 2) := by decide +kernel
theorem dX9_ill_80 : decode cX9_ill 80 = .ok (.aload_n 0, 1) := by decide +kernel
theorem dX9_ill_81 : decode cX9_ill 81 = .ok (.getfield 41, 3) := by decide +kernel
theorem dX9_ill_84 : decode cX9_ill 84 = .ok (.iload 4, 2) := by decide +kernel
theorem dX9_ill_86 : decode cX9_ill 86 = .ok (.iaload, 1) := by decide +kernel
theorem dX9_ill_87 : decode cX9_ill 87 = .ok (.iload_n 1, 1) := by decide +kernel
theorem dX9_ill_88 : decode cX9_ill 88 = .ok (.if_icmp .ne 29, 3) := by decide +kernel
theorem dX9_ill_91 : decode cX9_ill 91 = .ok (.aload_n 0, 1) := by decide +kernel
theorem dX9_ill_92 : decode cX9_ill 92 = .ok (.iload 4, 2) := by decide +kernel
theorem dX9_ill_94 : decode cX9_ill 94 = .ok (.invokevirtual 118, 3) := by decide +kernel
theorem dX9_ill_97 : decode cX9_ill 97 = .ok (.ifCond .eq 20, 3) := by decide +kernel
theorem dX9_ill_100 : decode cX9_ill 100 = .ok (.aload_n 0, 1) := by decide +kernel
theorem dX9_ill_101 : decode cX9_ill 101 = .ok (.iload 4, 2) := by decide +kernel
theorem dX9_ill_103 : decode cX9_ill 103 = .ok (.invokevirtual 114, 3) := by decide +kernel
theorem dX9_ill_106 : decode cX9_ill 106 = .ok (.bipush 6, 2) := by decide +kernel
theorem dX9_ill_108 : decode cX9_ill 108 = .ok (.idiv, 1) := by decide +kernel
theorem dX9_ill_109 : decode cX9_ill 109 = .ok (.iload_n 2, 1) := by decide +kernel
theorem dX9_ill_110 : decode cX9_ill 110 = .ok (.if_icmp .ne 7, 3) := by decide +kernel
theorem dX9_ill_113 : decode cX9_ill 113 = .ok (.iconst 1, 1) := by decide +kernel
theorem dX9_ill_114 : decode cX9_ill 114 = .ok (.goto 4, 3) := by decide +kernel
theorem dX9_ill_117 : decode cX9_ill 117 = .ok (.iconst 0, 1) := by decide +kernel
theorem dX9_ill_118 : decode cX9_ill 118 = .ok (.bastore, 1) := by decide +kernel
theorem dX9_ill_119 : decode cX9_ill 119 = .ok (.iinc 4 1, 3) := by decide +kernel
theorem dX9_ill_122 : decode cX9_ill 122 = .ok (.goto (-54), 3) := by decide +kernel
theorem dX9_ill_125 : decode cX9_ill 125 = .ok (.aload_n 0, 1) := by decide +kernel
theorem dX9_ill_126 : decode cX9_ill 126 = .ok (.aload_n 0, 1) := by decide +kernel
theorem dX9_ill_127 : decode cX9_ill 127 = .ok (.aload_n 3, 1) := by decide +kernel
theorem dX9_ill_128 : decode cX9_ill 128 = .ok (.invokevirtual 244, 3) := by decide +kernel
theorem dX9_ill_131 : decode cX9_ill 131 = .ok (.ifCond .eq 7, 3) := by decide +kernel
theorem dX9_ill_134 : decode cX9_ill 134 = .ok (.iconst 4, 1) := by decide +kernel
theorem dX9_ill_135 : decode cX9_ill 135 = .ok (.goto 4, 3) := by decide +kernel
theorem dX9_ill_138 : decode cX9_ill 138 = .ok (.iconst 0, 1) := by decide +kernel
theorem dX9_ill_139 : decode cX9_ill 139 = .ok (.putfield 71, 3) := by decide +kernel
theorem dX9_ill_142 : decode cX9_ill 142 = .ok (.aload_n 0, 1) := by decide +kernel
theorem dX9_ill_143 : decode cX9_ill 143 = .ok (.getfield 71, 3) := by decide +kernel
theorem dX9_ill_146 : decode cX9_ill 146 = .ok (.ifCond .le 5, 3) := by decide +kernel
theorem dX9_ill_149 : decode cX9_ill 149 = .ok (.iconst 0, 1) := by decide +kernel
theorem dX9_ill_150 : decode cX9_ill 150 = .ok (.ireturn, 1) := by decide +kernel
theorem dX9_ill_151 : decode cX9_ill 151 = .ok (.aload_n 0, 1) := by decide +kernel
theorem dX9_ill_152 : decode cX9_ill 152 = .ok (.getfield 19, 3) := by decide +kernel
theorem dX9_ill_155 : decode cX9_ill 155 = .ok (.iload_n 1, 1) := by decide +kernel
theorem dX9_ill_156 : decode cX9_ill 156 = .ok (.dup2, 1) := by decide +kernel
theorem dX9_ill_157 : decode cX9_ill 157 = .ok (.iaload, 1) := by decide +kernel
theorem dX9_ill_158 : decode cX9_ill 158 = .ok (.iconst 1, 1) := by decide +kernel
theorem dX9_ill_159 : decode cX9_ill 159 = .ok (.iload_n 2, 1) := by decide +kernel
theorem dX9_ill_160 : decode cX9_ill 160 = .ok (.ishl, 1) := by decide +kernel
theorem dX9_ill_161 : decode cX9_ill 161 = .ok (.iadd, 1) := by decide +kernel
theorem dX9_ill_162 : decode cX9_ill 162 = .ok (.iastore, 1) := by decide +kernel
theorem dX9_ill_163 : decode cX9_ill 163 = .ok (.aload_n 0, 1) := by decide +kernel
theorem dX9_ill_164 : decode cX9_ill 164 = .ok (.aload_n 3, 1) := by decide +kernel
theorem dX9_ill_165 : decode cX9_ill 165 = .ok (.invokevirtual 248, 3) := by decide +kernel
theorem dX9_ill_168 : decode cX9_ill 168 = .ok (.ireturn, 1) := by decide +kernel
theorem dX9_close_0 : decode cX9_close 0 = .ok (.aload_n 0, 1) := by decide +kernel
theorem dX9_close_1 : decode cX9_close 1 = .ok (.aload_n 0, 1) := by decide +kernel
theorem dX9_close_2 : decode cX9_close 2 = .ok (.iload_n 1, 1) := by decide +kernel
theorem dX9_close_3 : decode cX9_close 3 = .ok (.invokevirtual 151, 3) := by decide +kernel
theorem dX9_close_6 : decode cX9_close 6 = .ok (.ifCond .ne 7, 3) := by decide +kernel
theorem dX9_close_9 : decode cX9_close 9 = .ok (.iconst 1, 1) := by decide +kernel
theorem dX9_close_10 : decode cX9_close 10 = .ok (.goto 17, 3) := by decide +kernel
theorem dX9_close_13 : decode cX9_close 13 = .ok (.aload_n 0, 1) := by decide +kernel
theorem dX9_close_14 : decode cX9_close 14 = .ok (.getfield 31, 3) := by decide +kernel
theorem dX9_close_17 : decode cX9_close 17 = .ok (.iload_n 1, 1) := by decide +kernel
theorem dX9_close_18 : decode cX9_close 18 = .ok (.baload, 1) := by decide +kernel
theorem dX9_close_19 : decode cX9_close 19 = .ok (.ifCond .eq 7, 3) := by decide +kernel
theorem dX9_close_22 : decode cX9_close 22 = .ok (.iconst 2, 1) := by decide +kernel
theorem dX9_close_23 : decode cX9_close 23 = .ok (.goto 4, 3) := by decide +kernel
theorem dX9_close_26 : decode cX9_close 26 = .ok (.iconst 0, 1) := by decide +kernel
theorem dX9_close_27 : decode cX9_close 27 = .ok (.putfield 71, 3) := by decide +kernel
theorem dX9_close_30 : decode cX9_close 30 = .ok (.aload_n 0, 1) := by decide +kernel
theorem dX9_close_31 : decode cX9_close 31 = .ok (.getfield 71, 3) := by decide +kernel
theorem dX9_close_34 : decode cX9_close 34 = .ok (.ifCond .le 5, 3) := by decide +kernel
theorem dX9_close_37 : decode cX9_close 37 = .ok (.iconst 0, 1) := by decide +kernel
theorem dX9_close_38 : decode cX9_close 38 = .ok (.ireturn, 1) := by decide +kernel
theorem dX9_close_39 : decode cX9_close 39 = .ok (.bipush 16, 2) := by decide +kernel
theorem dX9_close_41 : decode cX9_close 41 = .ok (.newarray .boolean, 2) := by decide +kernel
theorem dX9_close_43 : decode cX9_close 43 = .ok (.astore_n 2, 1) := by decide +kernel
theorem dX9_close_44 : decode cX9_close 44 = .ok (.iconst 0, 1) := by decide +kernel
theorem dX9_close_45 : decode cX9_close 45 = .ok (.istore_n 3, 1) := by decide +kernel
theorem dX9_close_46 : decode cX9_close 46 = .ok (.iload_n 3, 1) := by decide +kernel
theorem dX9_close_47 : decode cX9_close 47 = .ok (.aload_n 0, 1) := by decide +kernel
theorem dX9_close_48 : decode cX9_close 48 = .ok (.getfield 84, 3) := by decide +kernel
theorem dX9_close_51 : decode cX9_close 51 = .ok (.if_icmp .ge 38, 3) := by decide +kernel
theorem dX9_close_54 : decode cX9_close 54 = .ok (.aload_n 2, 1) := by decide +kernel
theorem dX9_close_55 : decode cX9_close 55 = .ok (.iload_n 3, 1) := by decide +kernel
theorem dX9_close_56 : decode cX9_close 56 = .ok (.aload_n 0, 1) := by decide +kernel
theorem dX9_close_57 : decode cX9_close 57 = .ok (.iload_n 3, 1) := by decide +kernel
theorem dX9_close_58 : decode cX9_close 58 = .ok (.invokevirtual 118, 3) := by decide +kernel
theorem dX9_close_61 : decode cX9_close 61 = .ok (.ifCond .eq 20, 3) := by decide +kernel
theorem dX9_close_64 : decode cX9_close 64 = .ok (.aload_n 0, 1) := by decide +kernel
theorem dX9_close_65 : decode cX9_close 65 = .ok (.getfield 53, 3) := by decide +kernel
theorem dX9_close_68 : decode cX9_close 68 = .ok (.iload_n 3, 1) := by decide +kernel
theorem dX9_close_69 : decode cX9_close 69 = .ok (.iaload, 1) := by decide +kernel
theorem dX9_close_70 : decode cX9_close 70 = .ok (.bipush 8, 2) := by decide +kernel
theorem dX9_close_72 : decode cX9_close 72 = .ok (.irem, 1) := by decide +kernel
theorem dX9_close_73 : decode cX9_close 73 = .ok (.iload_n 1, 1) := by decide +kernel
theorem dX9_close_74 : decode cX9_close 74 = .ok (.if_icmp .ne 7, 3) := by decide +kernel
theorem dX9_close_77 : decode cX9_close 77 = .ok (.iconst 1, 1) := by decide +kernel
theorem dX9_close_78 : decode cX9_close 78 = .ok (.goto 4, 3) := by decide +kernel
theorem dX9_close_81 : decode cX9_close 81 = .ok (.iconst 0, 1) := by decide +kernel
theorem dX9_close_82 : decode cX9_close 82 = .ok (.bastore, 1) := by decide +kernel
theorem dX9_close_83 : decode cX9_close 83 = .ok (.iinc 3 1, 3) := by decide +kernel
theorem dX9_close_86 : decode cX9_close 86 = .ok (.goto (-40), 3) := by decide +kernel
theorem dX9_close_89 : decode cX9_close 89 = .ok (.aload_n 0, 1) := by decide +kernel
theorem dX9_close_90 : decode cX9_close 90 = .ok (.aload_n 0, 1) := by decide +kernel
theorem dX9_close_91 : decode cX9_close 91 = .ok (.aload_n 2, 1) := by decide +kernel
theorem dX9_close_92 : decode cX9_close 92 = .ok (.invokevirtual 244, 3) := by decide +kernel
theorem dX9_close_95 : decode cX9_close 95 = .ok (.ifCond .eq 7, 3) := by decide +kernel
theorem dX9_close_98 : decode cX9_close 98 = .ok (.iconst 3, 1) := by decide +kernel
theorem dX9_close_99 : decode cX9_close 99 = .ok (.goto 4, 3) := by decide +kernel
theorem dX9_close_102 : decode cX9_close 102 = .ok (.iconst 0, 1) := by decide +kernel
theorem dX9_close_103 : decode cX9_close 103 = .ok (.putfield 71, 3) := by decide +kernel
theorem dX9_close_106 : decode cX9_close 106 = .ok (.aload_n 0, 1) := by decide +kernel
theorem dX9_close_107 : decode cX9_close 107 = .ok (.getfield 71, 3) := by decide +kernel
theorem dX9_close_110 : decode cX9_close 110 = .ok (.ifCond .le 5, 3) := by decide +kernel
theorem dX9_close_113 : decode cX9_close 113 = .ok (.iconst 0, 1) := by decide +kernel
theorem dX9_close_114 : decode cX9_close 114 = .ok (.ireturn, 1) := by decide +kernel
theorem dX9_close_115 : decode cX9_close 115 = .ok (.aload_n 0, 1) := by decide +kernel
theorem dX9_close_116 : decode cX9_close 116 = .ok (.getfield 31, 3) := by decide +kernel
theorem dX9_close_119 : decode cX9_close 119 = .ok (.iload_n 1, 1) := by decide +kernel
theorem dX9_close_120 : decode cX9_close 120 = .ok (.iconst 1, 1) := by decide +kernel
theorem dX9_close_121 : decode cX9_close 121 = .ok (.bastore, 1) := by decide +kernel
theorem dX9_close_122 : decode cX9_close 122 = .ok (.iconst 0, 1) := by decide +kernel
theorem dX9_close_123 : decode cX9_close 123 = .ok (.istore_n 3, 1) := by decide +kernel
theorem dX9_close_124 : decode cX9_close 124 = .ok (.iload_n 3, 1) := by decide +kernel
theorem dX9_close_125 : decode cX9_close 125 = .ok (.aload_n 0, 1) := by decide +kernel
theorem dX9_close_126 : decode cX9_close 126 = .ok (.getfield 84, 3) := by decide +kernel
theorem dX9_close_129 : decode cX9_close 129 = .ok (.if_icmp .ge 31, 3) := by decide +kernel
theorem dX9_close_132 : decode cX9_close 132 = .ok (.aload_n 2, 1) := by decide +kernel
theorem dX9_close_133 : decode cX9_close 133 = .ok (.iload_n 3, 1) := by decide +kernel
theorem dX9_close_134 : decode cX9_close 134 = .ok (.aload_n 2, 1) := by decide +kernel
theorem dX9_close_135 : decode cX9_close 135 = .ok (.iload_n 3, 1) := by decide +kernel
theorem dX9_close_136 : decode cX9_close 136 = .ok (.baload, 1) := by decide +kernel
theorem dX9_close_137 : decode cX9_close 137 = .ok (.ifCond .eq 15, 3) := by decide +kernel
theorem dX9_close_140 : decode cX9_close 140 = .ok (.aload_n 0, 1) := by decide +kernel
theorem dX9_close_141 : decode cX9_close 141 = .ok (.iload_n 3, 1) := by decide +kernel
theorem dX9_close_142 : decode cX9_close 142 = .ok (.invokevirtual 202, 3) := by decide +kernel
theorem dX9_close_145 : decode cX9_close 145 = .ok (.ifCond .ne 7, 3) := by decide +kernel
theorem dX9_close_148 : decode cX9_close 148 = .ok (.iconst 1, 1) := by decide +kernel
theorem dX9_close_149 : decode cX9_close 149 = .ok (.goto 4, 3) := by decide +kernel
theorem dX9_close_152 : decode cX9_close 152 = .ok (.iconst 0, 1) := by decide +kernel
theorem dX9_close_153 : decode cX9_close 153 = .ok (.bastore, 1) := by decide +kernel
theorem dX9_close_154 : decode cX9_close 154 = .ok (.iinc 3 1, 3) := by decide +kernel
theorem dX9_close_157 : decode cX9_close 157 = .ok (.goto (-33), 3) := by decide +kernel
theorem dX9_close_160 : decode cX9_close 160 = .ok (.aload_n 0, 1) := by decide +kernel
theorem dX9_close_161 : decode cX9_close 161 = .ok (.aload_n 2, 1) := by decide +kernel
theorem dX9_close_162 : decode cX9_close 162 = .ok (.invokevirtual 248, 3) := by decide +kernel
theorem dX9_close_165 : decode cX9_close 165 = .ok (.ireturn, 1) := by decide +kernel
theorem dX9_open_0 : decode cX9_open 0 = .ok (.aload_n 0, 1) := by decide +kernel
theorem dX9_open_1 : decode cX9_open 1 = .ok (.aload_n 0, 1) := by decide +kernel
theorem dX9_open_2 : decode cX9_open 2 = .ok (.iload_n 1, 1) := by decide +kernel
theorem dX9_open_3 : decode cX9_open 3 = .ok (.invokevirtual 151, 3) := by decide +kernel
theorem dX9_open_6 : decode cX9_open 6 = .ok (.ifCond .ne 7, 3) := by decide +kernel
theorem dX9_open_9 : decode cX9_open 9 = .ok (.iconst 1, 1) := by decide +kernel
theorem dX9_open_10 : decode cX9_open 10 = .ok (.goto 17, 3) := by decide +kernel
theorem dX9_open_13 : decode cX9_open 13 = .ok (.aload_n 0, 1) := by decide +kernel
theorem dX9_open_14 : decode cX9_open 14 = .ok (.getfield 31, 3) := by decide +kernel
theorem dX9_open_17 : decode cX9_open 17 = .ok (.iload_n 1, 1) := by decide +kernel
theorem dX9_open_18 : decode cX9_open 18 = .ok (.baload, 1) := by decide +kernel
theorem dX9_open_19 : decode cX9_open 19 = .ok (.ifCond .ne 7, 3) := by decide +kernel
theorem dX9_open_22 : decode cX9_open 22 = .ok (.iconst 2, 1) := by decide +kernel
theorem dX9_open_23 : decode cX9_open 23 = .ok (.goto 4, 3) := by decide +kernel
theorem dX9_open_26 : decode cX9_open 26 = .ok (.iconst 0, 1) := by decide +kernel
theorem dX9_open_27 : decode cX9_open 27 = .ok (.putfield 71, 3) := by decide +kernel
theorem dX9_open_30 : decode cX9_open 30 = .ok (.aload_n 0, 1) := by decide +kernel
theorem dX9_open_31 : decode cX9_open 31 = .ok (.getfield 71, 3) := by decide +kernel
theorem dX9_open_34 : decode cX9_open 34 = .ok (.ifCond .le 5, 3) := by decide +kernel
theorem dX9_open_37 : decode cX9_open 37 = .ok (.iconst 0, 1) := by decide +kernel
theorem dX9_open_38 : decode cX9_open 38 = .ok (.ireturn, 1) := by decide +kernel
theorem dX9_open_39 : decode cX9_open 39 = .ok (.aload_n 0, 1) := by decide +kernel
theorem dX9_open_40 : decode cX9_open 40 = .ok (.getfield 31, 3) := by decide +kernel
theorem dX9_open_43 : decode cX9_open 43 = .ok (.iload_n 1, 1) := by decide +kernel
theorem dX9_open_44 : decode cX9_open 44 = .ok (.iconst 0, 1) := by decide +kernel
theorem dX9_open_45 : decode cX9_open 45 = .ok (.bastore, 1) := by decide +kernel
theorem dX9_open_46 : decode cX9_open 46 = .ok (.iconst 0, 1) := by decide +kernel
theorem dX9_open_47 : decode cX9_open 47 = .ok (.istore_n 2, 1) := by decide +kernel
theorem dX9_open_48 : decode cX9_open 48 = .ok (.iconst 0, 1) := by decide +kernel
theorem dX9_open_49 : decode cX9_open 49 = .ok (.istore_n 3, 1) := by decide +kernel
theorem dX9_open_50 : decode cX9_open 50 = .ok (.iload_n 3, 1) := by decide +kernel
theorem dX9_open_51 : decode cX9_open 51 = .ok (.aload_n 0, 1) := by decide +kernel
theorem dX9_open_52 : decode cX9_open 52 = .ok (.getfield 75, 3) := by decide +kernel
theorem dX9_open_55 : decode cX9_open 55 = .ok (.if_icmp .ge 26, 3) := by decide +kernel
theorem dX9_open_58 : decode cX9_open 58 = .ok (.iload_n 2, 1) := by decide +kernel
theorem dX9_open_59 : decode cX9_open 59 = .ok (.aload_n 0, 1) := by decide +kernel
theorem dX9_open_60 : decode cX9_open 60 = .ok (.getfield 31, 3) := by decide +kernel
theorem dX9_open_63 : decode cX9_open 63 = .ok (.iload_n 3, 1) := by decide +kernel
theorem dX9_open_64 : decode cX9_open 64 = .ok (.baload, 1) := by decide +kernel
theorem dX9_open_65 : decode cX9_open 65 = .ok (.ifCond .eq 7, 3) := by decide +kernel
theorem dX9_open_68 : decode cX9_open 68 = .ok (.iconst 0, 1) := by decide +kernel
theorem dX9_open_69 : decode cX9_open 69 = .ok (.goto 4, 3) := by decide +kernel
theorem dX9_open_72 : decode cX9_open 72 = .ok (.iconst 1, 1) := by decide +kernel
theorem dX9_open_73 : decode cX9_open 73 = .ok (.iadd, 1) := by decide +kernel
theorem dX9_open_74 : decode cX9_open 74 = .ok (.istore_n 2, 1) := by decide +kernel
theorem dX9_open_75 : decode cX9_open 75 = .ok (.iinc 3 1, 3) := by decide +kernel
theorem dX9_open_78 : decode cX9_open 78 = .ok (.goto (-28), 3) := by decide +kernel
theorem dX9_open_81 : decode cX9_open 81 = .ok (.iload_n 2, 1) := by decide +kernel
theorem dX9_open_82 : decode cX9_open 82 = .ok (.ireturn, 1) := by decide +kernel
theorem dX9_passDay_0 : decode cX9_passDay 0 = .ok (.aload_n 0, 1) := by decide +kernel
theorem dX9_passDay_1 : decode cX9_passDay 1 = .ok (.aload_n 0, 1) := by decide +kernel
theorem dX9_passDay_2 : decode cX9_passDay 2 = .ok (.getfield 90, 3) := by decide +kernel
theorem dX9_passDay_5 : decode cX9_passDay 5 = .ok (.iconst 4, 1) := by decide +kernel
theorem dX9_passDay_6 : decode cX9_passDay 6 = .ok (.if_icmp .ge 7, 3) := by decide +kernel
theorem dX9_passDay_9 : decode cX9_passDay 9 = .ok (.iconst 1, 1) := by decide +kernel
theorem dX9_passDay_10 : decode cX9_passDay 10 = .ok (.goto 4, 3) := by decide +kernel
theorem dX9_passDay_13 : decode cX9_passDay 13 = .ok (.iconst 0, 1) := by decide +kernel
theorem dX9_passDay_14 : decode cX9_passDay 14 = .ok (.invokevirtual 110, 3) := by decide +kernel
theorem dX9_passDay_17 : decode cX9_passDay 17 = .ok (.ifCond .le 5, 3) := by decide +kernel
theorem dX9_passDay_20 : decode cX9_passDay 20 = .ok (.iconst 0, 1) := by decide +kernel
theorem dX9_passDay_21 : decode cX9_passDay 21 = .ok (.ireturn, 1) := by decide +kernel
theorem dX9_passDay_22 : decode cX9_passDay 22 = .ok (.aload_n 0, 1) := by decide +kernel
theorem dX9_passDay_23 : decode cX9_passDay 23 = .ok (.dup, 1) := by decide +kernel
theorem dX9_passDay_24 : decode cX9_passDay 24 = .ok (.getfield 90, 3) := by decide +kernel
theorem dX9_passDay_27 : decode cX9_passDay 27 = .ok (.iconst 1, 1) := by decide +kernel
theorem dX9_passDay_28 : decode cX9_passDay 28 = .ok (.iadd, 1) := by decide +kernel
theorem dX9_passDay_29 : decode cX9_passDay 29 = .ok (.putfield 90, 3) := by decide +kernel
theorem dX9_passDay_32 : decode cX9_passDay 32 = .ok (.aload_n 0, 1) := by decide +kernel
theorem dX9_passDay_33 : decode cX9_passDay 33 = .ok (.getfield 90, 3) := by decide +kernel
theorem dX9_passDay_36 : decode cX9_passDay 36 = .ok (.ireturn, 1) := by decide +kernel
theorem dX9_nextWeek_0 : decode cX9_nextWeek 0 = .ok (.aload_n 0, 1) := by decide +kernel
theorem dX9_nextWeek_1 : decode cX9_nextWeek 1 = .ok (.aload_n 0, 1) := by decide +kernel
theorem dX9_nextWeek_2 : decode cX9_nextWeek 2 = .ok (.getfield 90, 3) := by decide +kernel
theorem dX9_nextWeek_5 : decode cX9_nextWeek 5 = .ok (.iconst 4, 1) := by decide +kernel
theorem dX9_nextWeek_6 : decode cX9_nextWeek 6 = .ok (.if_icmp .ne 7, 3) := by decide +kernel
theorem dX9_nextWeek_9 : decode cX9_nextWeek 9 = .ok (.iconst 1, 1) := by decide +kernel
theorem dX9_nextWeek_10 : decode cX9_nextWeek 10 = .ok (.goto 4, 3) := by decide +kernel
theorem dX9_nextWeek_13 : decode cX9_nextWeek 13 = .ok (.iconst 0, 1) := by decide +kernel
theorem dX9_nextWeek_14 : decode cX9_nextWeek 14 = .ok (.invokevirtual 110, 3) := by decide +kernel
theorem dX9_nextWeek_17 : decode cX9_nextWeek 17 = .ok (.ifCond .le 5, 3) := by decide +kernel
theorem dX9_nextWeek_20 : decode cX9_nextWeek 20 = .ok (.iconst 0, 1) := by decide +kernel
theorem dX9_nextWeek_21 : decode cX9_nextWeek 21 = .ok (.ireturn, 1) := by decide +kernel
theorem dX9_nextWeek_22 : decode cX9_nextWeek 22 = .ok (.iconst 0, 1) := by decide +kernel
theorem dX9_nextWeek_23 : decode cX9_nextWeek 23 = .ok (.istore_n 1, 1) := by decide +kernel
theorem dX9_nextWeek_24 : decode cX9_nextWeek 24 = .ok (.iload_n 1, 1) := by decide +kernel
theorem dX9_nextWeek_25 : decode cX9_nextWeek 25 = .ok (.aload_n 0, 1) := by decide +kernel
theorem dX9_nextWeek_26 : decode cX9_nextWeek 26 = .ok (.getfield 84, 3) := by decide +kernel
theorem dX9_nextWeek_29 : decode cX9_nextWeek 29 = .ok (.if_icmp .ge 48, 3) := by decide +kernel
theorem dX9_nextWeek_32 : decode cX9_nextWeek 32 = .ok (.aload_n 0, 1) := by decide +kernel
theorem dX9_nextWeek_33 : decode cX9_nextWeek 33 = .ok (.iload_n 1, 1) := by decide +kernel
theorem dX9_nextWeek_34 : decode cX9_nextWeek 34 = .ok (.invokevirtual 180, 3) := by decide +kernel
theorem dX9_nextWeek_37 : decode cX9_nextWeek 37 = .ok (.ifCond .eq 34, 3) := by decide +kernel
theorem dX9_nextWeek_40 : decode cX9_nextWeek 40 = .ok (.aload_n 0, 1) := by decide +kernel
theorem dX9_nextWeek_41 : decode cX9_nextWeek 41 = .ok (.getfield 22, 3) := by decide +kernel
theorem dX9_nextWeek_44 : decode cX9_nextWeek 44 = .ok (.aload_n 0, 1) := by decide +kernel
theorem dX9_nextWeek_45 : decode cX9_nextWeek 45 = .ok (.getfield 41, 3) := by decide +kernel
theorem dX9_nextWeek_48 : decode cX9_nextWeek 48 = .ok (.iload_n 1, 1) := by decide +kernel
theorem dX9_nextWeek_49 : decode cX9_nextWeek 49 = .ok (.iaload, 1) := by decide +kernel
theorem dX9_nextWeek_50 : decode cX9_nextWeek 50 = .ok (.iaload, 1) := by decide +kernel
theorem dX9_nextWeek_51 : decode cX9_nextWeek 51 = .ok (.bipush 9, 2) := by decide +kernel
theorem dX9_nextWeek_53 : decode cX9_nextWeek 53 = .ok (.if_icmp .ge 18, 3) := by decide +kernel
theorem dX9_nextWeek_56 : decode cX9_nextWeek 56 = .ok (.aload_n 0, 1) := by decide +kernel
theorem dX9_nextWeek_57 : decode cX9_nextWeek 57 = .ok (.getfield 22, 3) := by decide +kernel
theorem dX9_nextWeek_60 : decode cX9_nextWeek 60 = .ok (.aload_n 0, 1) := by decide +kernel
theorem dX9_nextWeek_61 : decode cX9_nextWeek 61 = .ok (.getfield 41, 3) := by decide +kernel
theorem dX9_nextWeek_64 : decode cX9_nextWeek 64 = .ok (.iload_n 1, 1) := by decide +kernel
theorem dX9_nextWeek_65 : decode cX9_nextWeek 65 = .ok (.iaload, 1) := by decide +kernel
theorem dX9_nextWeek_66 : decode cX9_nextWeek 66 = .ok (.dup2, 1) := by decide +kernel
theorem dX9_nextWeek_67 : decode cX9_nextWeek 67 = .ok (.iaload, 1) := by decide +kernel
theorem dX9_nextWeek_68 : decode cX9_nextWeek 68 = .ok (.iconst 1, 1) := by decide +kernel
theorem dX9_nextWeek_69 : decode cX9_nextWeek 69 = .ok (.iadd, 1) := by decide +kernel
theorem dX9_nextWeek_70 : decode cX9_nextWeek 70 = .ok (.iastore, 1) := by decide +kernel
theorem dX9_nextWeek_71 : decode cX9_nextWeek 71 = .ok (.iinc 1 1, 3) := by decide +kernel
theorem dX9_nextWeek_74 : decode cX9_nextWeek 74 = .ok (.goto (-50), 3) := by decide +kernel
theorem dX9_nextWeek_77 : decode cX9_nextWeek 77 = .ok (.aload_n 0, 1) := by decide +kernel
theorem dX9_nextWeek_78 : decode cX9_nextWeek 78 = .ok (.iconst 0, 1) := by decide +kernel
theorem dX9_nextWeek_79 : decode cX9_nextWeek 79 = .ok (.putfield 90, 3) := by decide +kernel
theorem dX9_nextWeek_82 : decode cX9_nextWeek 82 = .ok (.aload_n 0, 1) := by decide +kernel
theorem dX9_nextWeek_83 : decode cX9_nextWeek 83 = .ok (.dup, 1) := by decide +kernel
theorem dX9_nextWeek_84 : decode cX9_nextWeek 84 = .ok (.getfield 93, 3) := by decide +kernel
theorem dX9_nextWeek_87 : decode cX9_nextWeek 87 = .ok (.iconst 1, 1) := by decide +kernel
theorem dX9_nextWeek_88 : decode cX9_nextWeek 88 = .ok (.iadd, 1) := by decide +kernel
theorem dX9_nextWeek_89 : decode cX9_nextWeek 89 = .ok (.putfield 93, 3) := by decide +kernel
theorem dX9_nextWeek_92 : decode cX9_nextWeek 92 = .ok (.bipush 16, 2) := by decide +kernel
theorem dX9_nextWeek_94 : decode cX9_nextWeek 94 = .ok (.newarray .boolean, 2) := by decide +kernel
theorem dX9_nextWeek_96 : decode cX9_nextWeek 96 = .ok (.astore_n 1, 1) := by decide +kernel
theorem dX9_nextWeek_97 : decode cX9_nextWeek 97 = .ok (.iconst 0, 1) := by decide +kernel
theorem dX9_nextWeek_98 : decode cX9_nextWeek 98 = .ok (.istore_n 2, 1) := by decide +kernel
theorem dX9_nextWeek_99 : decode cX9_nextWeek 99 = .ok (.iload_n 2, 1) := by decide +kernel
theorem dX9_nextWeek_100 : decode cX9_nextWeek 100 = .ok (.aload_n 0, 1) := by decide +kernel
theorem dX9_nextWeek_101 : decode cX9_nextWeek 101 = .ok (.getfield 84, 3) := by decide +kernel
theorem dX9_nextWeek_104 : decode cX9_nextWeek 104 = .ok (.if_icmp .ge 51, 3) := by decide +kernel
theorem dX9_nextWeek_107 : decode cX9_nextWeek 107 = .ok (.aload_n 1, 1) := by decide +kernel
theorem dX9_nextWeek_108 : decode cX9_nextWeek 108 = .ok (.iload_n 2, 1) := by decide +kernel
theorem dX9_nextWeek_109 : decode cX9_nextWeek 109 = .ok (.aload_n 0, 1) := by decide +kernel
theorem dX9_nextWeek_110 : decode cX9_nextWeek 110 = .ok (.iload_n 2, 1) := by decide +kernel
theorem dX9_nextWeek_111 : decode cX9_nextWeek 111 = .ok (.invokevirtual 118, 3) := by decide +kernel
theorem dX9_nextWeek_114 : decode cX9_nextWeek 114 = .ok (.ifCond .eq 33, 3) := by decide +kernel
theorem dX9_nextWeek_117 : decode cX9_nextWeek 117 = .ok (.aload_n 0, 1) := by decide +kernel
theorem dX9_nextWeek_118 : decode cX9_nextWeek 118 = .ok (.iload_n 2, 1) := by decide +kernel
theorem dX9_nextWeek_119 : decode cX9_nextWeek 119 = .ok (.aload_n 0, 1) := by decide +kernel
theorem dX9_nextWeek_120 : decode cX9_nextWeek 120 = .ok (.getfield 53, 3) := by decide +kernel
theorem dX9_nextWeek_123 : decode cX9_nextWeek 123 = .ok (.iload_n 2, 1) := by decide +kernel
theorem dX9_nextWeek_124 : decode cX9_nextWeek 124 = .ok (.iaload, 1) := by decide +kernel
theorem dX9_nextWeek_125 : decode cX9_nextWeek 125 = .ok (.bipush 8, 2) := by decide +kernel
theorem dX9_nextWeek_127 : decode cX9_nextWeek 127 = .ok (.idiv, 1) := by decide +kernel
theorem dX9_nextWeek_128 : decode cX9_nextWeek 128 = .ok (.aload_n 0, 1) := by decide +kernel
theorem dX9_nextWeek_129 : decode cX9_nextWeek 129 = .ok (.getfield 53, 3) := by decide +kernel
theorem dX9_nextWeek_132 : decode cX9_nextWeek 132 = .ok (.iload_n 2, 1) := by decide +kernel
theorem dX9_nextWeek_133 : decode cX9_nextWeek 133 = .ok (.iaload, 1) := by decide +kernel
theorem dX9_nextWeek_134 : decode cX9_nextWeek 134 = .ok (.bipush 8, 2) := by decide +kernel
theorem dX9_nextWeek_136 : decode cX9_nextWeek 136 = .ok (.irem, 1) := by decide +kernel
theorem dX9_nextWeek_137 : decode cX9_nextWeek 137 = .ok (.invokevirtual 145, 3) := by decide +kernel
theorem dX9_nextWeek_140 : decode cX9_nextWeek 140 = .ok (.ifCond .le 7, 3) := by decide +kernel
theorem dX9_nextWeek_143 : decode cX9_nextWeek 143 = .ok (.iconst 1, 1) := by decide +kernel
theorem dX9_nextWeek_144 : decode cX9_nextWeek 144 = .ok (.goto 4, 3) := by decide +kernel
theorem dX9_nextWeek_147 : decode cX9_nextWeek 147 = .ok (.iconst 0, 1) := by decide +kernel
theorem dX9_nextWeek_148 : decode cX9_nextWeek 148 = .ok (.bastore, 1) := by decide +kernel
theorem dX9_nextWeek_149 : decode cX9_nextWeek 149 = .ok (.iinc 2 1, 3) := by decide +kernel
theorem dX9_nextWeek_152 : decode cX9_nextWeek 152 = .ok (.goto (-53), 3) := by decide +kernel
theorem dX9_nextWeek_155 : decode cX9_nextWeek 155 = .ok (.aload_n 0, 1) := by decide +kernel
theorem dX9_nextWeek_156 : decode cX9_nextWeek 156 = .ok (.aload_n 1, 1) := by decide +kernel
theorem dX9_nextWeek_157 : decode cX9_nextWeek 157 = .ok (.invokevirtual 248, 3) := by decide +kernel
theorem dX9_nextWeek_160 : decode cX9_nextWeek 160 = .ok (.istore_n 2, 1) := by decide +kernel
theorem dX9_nextWeek_161 : decode cX9_nextWeek 161 = .ok (.aload_n 0, 1) := by decide +kernel
theorem dX9_nextWeek_162 : decode cX9_nextWeek 162 = .ok (.getfield 93, 3) := by decide +kernel
theorem dX9_nextWeek_165 : decode cX9_nextWeek 165 = .ok (.ireturn, 1) := by decide +kernel
theorem dX9_today_0 : decode cX9_today 0 = .ok (.aload_n 0, 1) := by decide +kernel
theorem dX9_today_1 : decode cX9_today 1 = .ok (.aload_n 0, 1) := by decide +kernel
theorem dX9_today_2 : decode cX9_today 2 = .ok (.getfield 90, 3) := by decide +kernel
theorem dX9_today_5 : decode cX9_today 5 = .ok (.invokevirtual 211, 3) := by decide +kernel
theorem dX9_today_8 : decode cX9_today 8 = .ok (.ireturn, 1) := by decide +kernel
theorem dX9_account_0 : decode cX9_account 0 = .ok (.aload_n 0, 1) := by decide +kernel
theorem dX9_account_1 : decode cX9_account 1 = .ok (.aload_n 0, 1) := by decide +kernel
theorem dX9_account_2 : decode cX9_account 2 = .ok (.iload_n 1, 1) := by decide +kernel
theorem dX9_account_3 : decode cX9_account 3 = .ok (.invokevirtual 104, 3) := by decide +kernel
theorem dX9_account_6 : decode cX9_account 6 = .ok (.invokevirtual 110, 3) := by decide +kernel
theorem dX9_account_9 : decode cX9_account 9 = .ok (.ifCond .le 7, 3) := by decide +kernel
theorem dX9_account_12 : decode cX9_account 12 = .ok (.iconst 0, 1) := by decide +kernel
theorem dX9_account_13 : decode cX9_account 13 = .ok (.goto 9, 3) := by decide +kernel
theorem dX9_account_16 : decode cX9_account 16 = .ok (.aload_n 0, 1) := by decide +kernel
theorem dX9_account_17 : decode cX9_account 17 = .ok (.getfield 22, 3) := by decide +kernel
theorem dX9_account_20 : decode cX9_account 20 = .ok (.iload_n 1, 1) := by decide +kernel
theorem dX9_account_21 : decode cX9_account 21 = .ok (.iaload, 1) := by decide +kernel
theorem dX9_account_22 : decode cX9_account 22 = .ok (.ireturn, 1) := by decide +kernel
theorem dX9_isVersion_0 : decode cX9_isVersion 0 = .ok (.iload_n 1, 1) := by decide +kernel
theorem dX9_isVersion_1 : decode cX9_isVersion 1 = .ok (.iconst 0, 1) := by decide +kernel
theorem dX9_isVersion_2 : decode cX9_isVersion 2 = .ok (.aload_n 0, 1) := by decide +kernel
theorem dX9_isVersion_3 : decode cX9_isVersion 3 = .ok (.getfield 87, 3) := by decide +kernel
theorem dX9_isVersion_6 : decode cX9_isVersion 6 = .ok (.iconst 1, 1) := by decide +kernel
theorem dX9_isVersion_7 : decode cX9_isVersion 7 = .ok (.isub, 1) := by decide +kernel
theorem dX9_isVersion_8 : decode cX9_isVersion 8 = .ok (.invokestatic 96, 3) := by decide +kernel
theorem dX9_isVersion_11 : decode cX9_isVersion 11 = .ok (.ireturn, 1) := by decide +kernel
theorem dX9_save_0 : decode cX9_save 0 = .ok (.aload_n 0, 1) := by decide +kernel
theorem dX9_save_1 : decode cX9_save 1 = .ok (.aload_n 0, 1) := by decide +kernel
theorem dX9_save_2 : decode cX9_save 2 = .ok (.getfield 87, 3) := by decide +kernel
theorem dX9_save_5 : decode cX9_save 5 = .ok (.bipush 6, 2) := by decide +kernel
theorem dX9_save_7 : decode cX9_save 7 = .ok (.if_icmp .ge 7, 3) := by decide +kernel
theorem dX9_save_10 : decode cX9_save 10 = .ok (.iconst 1, 1) := by decide +kernel
theorem dX9_save_11 : decode cX9_save 11 = .ok (.goto 4, 3) := by decide +kernel
theorem dX9_save_14 : decode cX9_save 14 = .ok (.iconst 0, 1) := by decide +kernel
theorem dX9_save_15 : decode cX9_save 15 = .ok (.invokevirtual 110, 3) := by decide +kernel
theorem dX9_save_18 : decode cX9_save 18 = .ok (.ifCond .le 5, 3) := by decide +kernel
theorem dX9_save_21 : decode cX9_save 21 = .ok (.iconst 0, 1) := by decide +kernel
theorem dX9_save_22 : decode cX9_save 22 = .ok (.ireturn, 1) := by decide +kernel
theorem dX9_save_23 : decode cX9_save 23 = .ok (.iconst 0, 1) := by decide +kernel
theorem dX9_save_24 : decode cX9_save 24 = .ok (.istore_n 1, 1) := by decide +kernel
theorem dX9_save_25 : decode cX9_save 25 = .ok (.iload_n 1, 1) := by decide +kernel
theorem dX9_save_26 : decode cX9_save 26 = .ok (.bipush 16, 2) := by decide +kernel
theorem dX9_save_28 : decode cX9_save 28 = .ok (.if_icmp .ge 41, 3) := by decide +kernel
theorem dX9_save_31 : decode cX9_save 31 = .ok (.aload_n 0, 1) := by decide +kernel
theorem dX9_save_32 : decode cX9_save 32 = .ok (.getfield 59, 3) := by decide +kernel
theorem dX9_save_35 : decode cX9_save 35 = .ok (.bipush 16, 2) := by decide +kernel
theorem dX9_save_37 : decode cX9_save 37 = .ok (.aload_n 0, 1) := by decide +kernel
theorem dX9_save_38 : decode cX9_save 38 = .ok (.getfield 87, 3) := by decide +kernel
theorem dX9_save_41 : decode cX9_save 41 = .ok (.imul, 1) := by decide +kernel
theorem dX9_save_42 : decode cX9_save 42 = .ok (.iload_n 1, 1) := by decide +kernel
theorem dX9_save_43 : decode cX9_save 43 = .ok (.iadd, 1) := by decide +kernel
theorem dX9_save_44 : decode cX9_save 44 = .ok (.iload_n 1, 1) := by decide +kernel
theorem dX9_save_45 : decode cX9_save 45 = .ok (.aload_n 0, 1) := by decide +kernel
theorem dX9_save_46 : decode cX9_save 46 = .ok (.getfield 84, 3) := by decide +kernel
theorem dX9_save_49 : decode cX9_save 49 = .ok (.if_icmp .ge 12, 3) := by decide +kernel
theorem dX9_save_52 : decode cX9_save 52 = .ok (.aload_n 0, 1) := by decide +kernel
theorem dX9_save_53 : decode cX9_save 53 = .ok (.getfield 53, 3) := by decide +kernel
theorem dX9_save_56 : decode cX9_save 56 = .ok (.iload_n 1, 1) := by decide +kernel
theorem dX9_save_57 : decode cX9_save 57 = .ok (.iaload, 1) := by decide +kernel
theorem dX9_save_58 : decode cX9_save 58 = .ok (.goto 4, 3) := by decide +kernel
theorem dX9_save_61 : decode cX9_save 61 = .ok (.iconst (-1), 1) := by decide +kernel
theorem dX9_save_62 : decode cX9_save 62 = .ok (.iastore, 1) := by decide +kernel
theorem dX9_save_63 : decode cX9_save 63 = .ok (.iinc 1 1, 3) := by decide +kernel
theorem dX9_save_66 : decode cX9_save 66 = .ok (.goto (-41), 3) := by decide +kernel
theorem dX9_save_69 : decode cX9_save 69 = .ok (.aload_n 0, 1) := by decide +kernel
theorem dX9_save_70 : decode cX9_save 70 = .ok (.dup, 1) := by decide +kernel
theorem dX9_save_71 : decode cX9_save 71 = .ok (.getfield 87, 3) := by decide +kernel
theorem dX9_save_74 : decode cX9_save 74 = .ok (.iconst 1, 1) := by decide +kernel
theorem dX9_save_75 : decode cX9_save 75 = .ok (.iadd, 1) := by decide +kernel
theorem dX9_save_76 : decode cX9_save 76 = .ok (.putfield 87, 3) := by decide +kernel
theorem dX9_save_79 : decode cX9_save 79 = .ok (.aload_n 0, 1) := by decide +kernel
theorem dX9_save_80 : decode cX9_save 80 = .ok (.getfield 87, 3) := by decide +kernel
theorem dX9_save_83 : decode cX9_save 83 = .ok (.iconst 1, 1) := by decide +kernel
theorem dX9_save_84 : decode cX9_save 84 = .ok (.isub, 1) := by decide +kernel
theorem dX9_save_85 : decode cX9_save 85 = .ok (.ireturn, 1) := by decide +kernel
theorem dX9_placeIn_0 : decode cX9_placeIn 0 = .ok (.aload_n 0, 1) := by decide +kernel
theorem dX9_placeIn_1 : decode cX9_placeIn 1 = .ok (.aload_n 0, 1) := by decide +kernel
theorem dX9_placeIn_2 : decode cX9_placeIn 2 = .ok (.iload_n 1, 1) := by decide +kernel
theorem dX9_placeIn_3 : decode cX9_placeIn 3 = .ok (.invokevirtual 251, 3) := by decide +kernel
theorem dX9_placeIn_6 : decode cX9_placeIn 6 = .ok (.ifCond .ne 7, 3) := by decide +kernel
theorem dX9_placeIn_9 : decode cX9_placeIn 9 = .ok (.iconst 1, 1) := by decide +kernel
theorem dX9_placeIn_10 : decode cX9_placeIn 10 = .ok (.goto 34, 3) := by decide +kernel
theorem dX9_placeIn_13 : decode cX9_placeIn 13 = .ok (.aload_n 0, 1) := by decide +kernel
theorem dX9_placeIn_14 : decode cX9_placeIn 14 = .ok (.iload_n 2, 1) := by decide +kernel
theorem dX9_placeIn_15 : decode cX9_placeIn 15 = .ok (.invokevirtual 148, 3) := by decide +kernel
theorem dX9_placeIn_18 : decode cX9_placeIn 18 = .ok (.ifCond .ne 7, 3) := by decide +kernel
theorem dX9_placeIn_21 : decode cX9_placeIn 21 = .ok (.iconst 2, 1) := by decide +kernel
theorem dX9_placeIn_22 : decode cX9_placeIn 22 = .ok (.goto 22, 3) := by decide +kernel
theorem dX9_placeIn_25 : decode cX9_placeIn 25 = .ok (.aload_n 0, 1) := by decide +kernel
theorem dX9_placeIn_26 : decode cX9_placeIn 26 = .ok (.getfield 59, 3) := by decide +kernel
theorem dX9_placeIn_29 : decode cX9_placeIn 29 = .ok (.bipush 16, 2) := by decide +kernel
theorem dX9_placeIn_31 : decode cX9_placeIn 31 = .ok (.iload_n 1, 1) := by decide +kernel
theorem dX9_placeIn_32 : decode cX9_placeIn 32 = .ok (.imul, 1) := by decide +kernel
theorem dX9_placeIn_33 : decode cX9_placeIn 33 = .ok (.iload_n 2, 1) := by decide +kernel
theorem dX9_placeIn_34 : decode cX9_placeIn 34 = .ok (.iadd, 1) := by decide +kernel
theorem dX9_placeIn_35 : decode cX9_placeIn 35 = .ok (.iaload, 1) := by decide +kernel
theorem dX9_placeIn_36 : decode cX9_placeIn 36 = .ok (.ifCond .ge 7, 3) := by decide +kernel
theorem dX9_placeIn_39 : decode cX9_placeIn 39 = .ok (.iconst 1, 1) := by decide +kernel
theorem dX9_placeIn_40 : decode cX9_placeIn 40 = .ok (.goto 4, 3) := by decide +kernel
theorem dX9_placeIn_43 : decode cX9_placeIn 43 = .ok (.iconst 0, 1) := by decide +kernel
theorem dX9_placeIn_44 : decode cX9_placeIn 44 = .ok (.putfield 71, 3) := by decide +kernel
theorem dX9_placeIn_47 : decode cX9_placeIn 47 = .ok (.aload_n 0, 1) := by decide +kernel
theorem dX9_placeIn_48 : decode cX9_placeIn 48 = .ok (.getfield 71, 3) := by decide +kernel
theorem dX9_placeIn_51 : decode cX9_placeIn 51 = .ok (.ifCond .le 7, 3) := by decide +kernel
theorem dX9_placeIn_54 : decode cX9_placeIn 54 = .ok (.iconst 0, 1) := by decide +kernel
theorem dX9_placeIn_55 : decode cX9_placeIn 55 = .ok (.goto 14, 3) := by decide +kernel
theorem dX9_placeIn_58 : decode cX9_placeIn 58 = .ok (.aload_n 0, 1) := by decide +kernel
theorem dX9_placeIn_59 : decode cX9_placeIn 59 = .ok (.getfield 59, 3) := by decide +kernel
theorem dX9_placeIn_62 : decode cX9_placeIn 62 = .ok (.bipush 16, 2) := by decide +kernel
theorem dX9_placeIn_64 : decode cX9_placeIn 64 = .ok (.iload_n 1, 1) := by decide +kernel
theorem dX9_placeIn_65 : decode cX9_placeIn 65 = .ok (.imul, 1) := by decide +kernel
theorem dX9_placeIn_66 : decode cX9_placeIn 66 = .ok (.iload_n 2, 1) := by decide +kernel
theorem dX9_placeIn_67 : decode cX9_placeIn 67 = .ok (.iadd, 1) := by decide +kernel
theorem dX9_placeIn_68 : decode cX9_placeIn 68 = .ok (.iaload, 1) := by decide +kernel
theorem dX9_placeIn_69 : decode cX9_placeIn 69 = .ok (.ireturn, 1) := by decide +kernel
theorem dX9_differences_0 : decode cX9_differences 0 = .ok (.aload_n 0, 1) := by decide +kernel
theorem dX9_differences_1 : decode cX9_differences 1 = .ok (.aload_n 0, 1) := by decide +kernel
theorem dX9_differences_2 : decode cX9_differences 2 = .ok (.iload_n 1, 1) := by decide +kernel
theorem dX9_differences_3 : decode cX9_differences 3 = .ok (.invokevirtual 251, 3) := by decide +kernel
theorem dX9_differences_6 : decode cX9_differences 6 = .ok (.ifCond .eq 15, 3) := by decide +kernel
theorem dX9_differences_9 : decode cX9_differences 9 = .ok (.aload_n 0, 1) := by decide +kernel
theorem dX9_differences_10 : decode cX9_differences 10 = .ok (.iload_n 2, 1) := by decide +kernel
theorem dX9_differences_11 : decode cX9_differences 11 = .ok (.invokevirtual 251, 3) := by decide +kernel
theorem dX9_differences_14 : decode cX9_differences 14 = .ok (.ifCond .eq 7, 3) := by decide +kernel
theorem dX9_differences_17 : decode cX9_differences 17 = .ok (.iconst 1, 1) := by decide +kernel
theorem dX9_differences_18 : decode cX9_differences 18 = .ok (.goto 4, 3) := by decide +kernel
theorem dX9_differences_21 : decode cX9_differences 21 = .ok (.iconst 0, 1) := by decide +kernel
theorem dX9_differences_22 : decode cX9_differences 22 = .ok (.invokevirtual 110, 3) := by decide +kernel
theorem dX9_differences_25 : decode cX9_differences 25 = .ok (.ifCond .le 5, 3) := by decide +kernel
theorem dX9_differences_28 : decode cX9_differences 28 = .ok (.iconst 0, 1) := by decide +kernel
theorem dX9_differences_29 : decode cX9_differences 29 = .ok (.ireturn, 1) := by decide +kernel
theorem dX9_differences_30 : decode cX9_differences 30 = .ok (.iconst 0, 1) := by decide +kernel
theorem dX9_differences_31 : decode cX9_differences 31 = .ok (.istore_n 3, 1) := by decide +kernel
theorem dX9_differences_32 : decode cX9_differences 32 = .ok (.iconst 0, 1) := by decide +kernel
theorem dX9_differences_33 : decode cX9_differences 33 = .ok (.istore 4, 2) := by decide +kernel
theorem dX9_differences_35 : decode cX9_differences 35 = .ok (.iload 4, 2) := by decide +kernel
theorem dX9_differences_37 : decode cX9_differences 37 = .ok (.bipush 16, 2) := by decide +kernel
theorem dX9_differences_39 : decode cX9_differences 39 = .ok (.if_icmp .ge 44, 3) := by decide +kernel
theorem dX9_differences_42 : decode cX9_differences 42 = .ok (.iload_n 3, 1) := by decide +kernel
theorem dX9_differences_43 : decode cX9_differences 43 = .ok (.aload_n 0, 1) := by decide +kernel
theorem dX9_differences_44 : decode cX9_differences 44 = .ok (.getfield 59, 3) := by decide +kernel
theorem dX9_differences_47 : decode cX9_differences 47 = .ok (.bipush 16, 2) := by decide +kernel
theorem dX9_differences_49 : decode cX9_differences 49 = .ok (.iload_n 1, 1) := by decide +kernel
theorem dX9_differences_50 : decode cX9_differences 50 = .ok (.imul, 1) := by decide +kernel
theorem dX9_differences_51 : decode cX9_differences 51 = .ok (.iload 4, 2) := by decide +kernel
theorem dX9_differences_53 : decode cX9_differences 53 = .ok (.iadd, 1) := by decide +kernel
theorem dX9_differences_54 : decode cX9_differences 54 = .ok (.iaload, 1) := by decide +kernel
theorem dX9_differences_55 : decode cX9_differences 55 = .ok (.aload_n 0, 1) := by decide +kernel
theorem dX9_differences_56 : decode cX9_differences 56 = .ok (.getfield 59, 3) := by decide +kernel
theorem dX9_differences_59 : decode cX9_differences 59 = .ok (.bipush 16, 2) := by decide +kernel
theorem dX9_differences_61 : decode cX9_differences 61 = .ok (.iload_n 2, 1) := by decide +kernel
theorem dX9_differences_62 : decode cX9_differences 62 = .ok (.imul, 1) := by decide +kernel
theorem dX9_differences_63 : decode cX9_differences 63 = .ok (.iload 4, 2) := by decide +kernel
theorem dX9_differences_65 : decode cX9_differences 65 = .ok (.iadd, 1) := by decide +kernel
theorem dX9_differences_66 : decode cX9_differences 66 = .ok (.iaload, 1) := by decide +kernel
theorem dX9_differences_67 : decode cX9_differences 67 = .ok (.if_icmp .eq 7, 3) := by decide +kernel
theorem dX9_differences_70 : decode cX9_differences 70 = .ok (.iconst 1, 1) := by decide +kernel
theorem dX9_differences_71 : decode cX9_differences 71 = .ok (.goto 4, 3) := by decide +kernel
theorem dX9_differences_74 : decode cX9_differences 74 = .ok (.iconst 0, 1) := by decide +kernel
theorem dX9_differences_75 : decode cX9_differences 75 = .ok (.iadd, 1) := by decide +kernel
theorem dX9_differences_76 : decode cX9_differences 76 = .ok (.istore_n 3, 1) := by decide +kernel
theorem dX9_differences_77 : decode cX9_differences 77 = .ok (.iinc 4 1, 3) := by decide +kernel
theorem dX9_differences_80 : decode cX9_differences 80 = .ok (.goto (-45), 3) := by decide +kernel
theorem dX9_differences_83 : decode cX9_differences 83 = .ok (.iload_n 3, 1) := by decide +kernel
theorem dX9_differences_84 : decode cX9_differences 84 = .ok (.ireturn, 1) := by decide +kernel
theorem dX9_setsFree_0 : decode cX9_setsFree 0 = .ok (.bipush 16, 2) := by decide +kernel
theorem dX9_setsFree_2 : decode cX9_setsFree 2 = .ok (.newarray .boolean, 2) := by decide +kernel
theorem dX9_setsFree_4 : decode cX9_setsFree 4 = .ok (.astore_n 1, 1) := by decide +kernel
theorem dX9_setsFree_5 : decode cX9_setsFree 5 = .ok (.iconst 0, 1) := by decide +kernel
theorem dX9_setsFree_6 : decode cX9_setsFree 6 = .ok (.istore_n 2, 1) := by decide +kernel
theorem dX9_setsFree_7 : decode cX9_setsFree 7 = .ok (.iload_n 2, 1) := by decide +kernel
theorem dX9_setsFree_8 : decode cX9_setsFree 8 = .ok (.aload_n 0, 1) := by decide +kernel
theorem dX9_setsFree_9 : decode cX9_setsFree 9 = .ok (.getfield 84, 3) := by decide +kernel
theorem dX9_setsFree_12 : decode cX9_setsFree 12 = .ok (.if_icmp .ge 34, 3) := by decide +kernel
theorem dX9_setsFree_15 : decode cX9_setsFree 15 = .ok (.aload_n 1, 1) := by decide +kernel
theorem dX9_setsFree_16 : decode cX9_setsFree 16 = .ok (.iload_n 2, 1) := by decide +kernel
theorem dX9_setsFree_17 : decode cX9_setsFree 17 = .ok (.aload_n 0, 1) := by decide +kernel
theorem dX9_setsFree_18 : decode cX9_setsFree 18 = .ok (.getfield 35, 3) := by decide +kernel
theorem dX9_setsFree_21 : decode cX9_setsFree 21 = .ok (.iload_n 2, 1) := by decide +kernel
theorem dX9_setsFree_22 : decode cX9_setsFree 22 = .ok (.baload, 1) := by decide +kernel
theorem dX9_setsFree_23 : decode cX9_setsFree 23 = .ok (.ifCond .ne 15, 3) := by decide +kernel
theorem dX9_setsFree_26 : decode cX9_setsFree 26 = .ok (.aload_n 0, 1) := by decide +kernel
theorem dX9_setsFree_27 : decode cX9_setsFree 27 = .ok (.iload_n 2, 1) := by decide +kernel
theorem dX9_setsFree_28 : decode cX9_setsFree 28 = .ok (.invokevirtual 202, 3) := by decide +kernel
theorem dX9_setsFree_31 : decode cX9_setsFree 31 = .ok (.ifCond .ne 7, 3) := by decide +kernel
theorem dX9_setsFree_34 : decode cX9_setsFree 34 = .ok (.iconst 1, 1) := by decide +kernel
theorem dX9_setsFree_35 : decode cX9_setsFree 35 = .ok (.goto 4, 3) := by decide +kernel
theorem dX9_setsFree_38 : decode cX9_setsFree 38 = .ok (.iconst 0, 1) := by decide +kernel
theorem dX9_setsFree_39 : decode cX9_setsFree 39 = .ok (.bastore, 1) := by decide +kernel
theorem dX9_setsFree_40 : decode cX9_setsFree 40 = .ok (.iinc 2 1, 3) := by decide +kernel
theorem dX9_setsFree_43 : decode cX9_setsFree 43 = .ok (.goto (-36), 3) := by decide +kernel
theorem dX9_setsFree_46 : decode cX9_setsFree 46 = .ok (.iconst 0, 1) := by decide +kernel
theorem dX9_setsFree_47 : decode cX9_setsFree 47 = .ok (.istore_n 2, 1) := by decide +kernel
theorem dX9_setsFree_48 : decode cX9_setsFree 48 = .ok (.iload_n 2, 1) := by decide +kernel
theorem dX9_setsFree_49 : decode cX9_setsFree 49 = .ok (.aload_n 0, 1) := by decide +kernel
theorem dX9_setsFree_50 : decode cX9_setsFree 50 = .ok (.getfield 84, 3) := by decide +kernel
theorem dX9_setsFree_53 : decode cX9_setsFree 53 = .ok (.if_icmp .ge 22, 3) := by decide +kernel
theorem dX9_setsFree_56 : decode cX9_setsFree 56 = .ok (.aload_n 1, 1) := by decide +kernel
theorem dX9_setsFree_57 : decode cX9_setsFree 57 = .ok (.iload_n 2, 1) := by decide +kernel
theorem dX9_setsFree_58 : decode cX9_setsFree 58 = .ok (.baload, 1) := by decide +kernel
theorem dX9_setsFree_59 : decode cX9_setsFree 59 = .ok (.ifCond .eq 10, 3) := by decide +kernel
theorem dX9_setsFree_62 : decode cX9_setsFree 62 = .ok (.aload_n 0, 1) := by decide +kernel
theorem dX9_setsFree_63 : decode cX9_setsFree 63 = .ok (.getfield 53, 3) := by decide +kernel
theorem dX9_setsFree_66 : decode cX9_setsFree 66 = .ok (.iload_n 2, 1) := by decide +kernel
theorem dX9_setsFree_67 : decode cX9_setsFree 67 = .ok (.iconst (-1), 1) := by decide +kernel
theorem dX9_setsFree_68 : decode cX9_setsFree 68 = .ok (.iastore, 1) := by decide +kernel
theorem dX9_setsFree_69 : decode cX9_setsFree 69 = .ok (.iinc 2 1, 3) := by decide +kernel
theorem dX9_setsFree_72 : decode cX9_setsFree 72 = .ok (.goto (-24), 3) := by decide +kernel
theorem dX9_setsFree_75 : decode cX9_setsFree 75 = .ok (.iconst 0, 1) := by decide +kernel
theorem dX9_setsFree_76 : decode cX9_setsFree 76 = .ok (.istore_n 2, 1) := by decide +kernel
theorem dX9_setsFree_77 : decode cX9_setsFree 77 = .ok (.iload_n 2, 1) := by decide +kernel
theorem dX9_setsFree_78 : decode cX9_setsFree 78 = .ok (.aload_n 0, 1) := by decide +kernel
theorem dX9_setsFree_79 : decode cX9_setsFree 79 = .ok (.getfield 84, 3) := by decide +kernel
theorem dX9_setsFree_82 : decode cX9_setsFree 82 = .ok (.if_icmp .ge 50, 3) := by decide +kernel
theorem dX9_setsFree_85 : decode cX9_setsFree 85 = .ok (.aload_n 1, 1) := by decide +kernel
theorem dX9_setsFree_86 : decode cX9_setsFree 86 = .ok (.iload_n 2, 1) := by decide +kernel
theorem dX9_setsFree_87 : decode cX9_setsFree 87 = .ok (.baload, 1) := by decide +kernel
theorem dX9_setsFree_88 : decode cX9_setsFree 88 = .ok (.ifCond .eq 38, 3) := by decide +kernel
theorem dX9_setsFree_91 : decode cX9_setsFree 91 = .ok (.aload_n 0, 1) := by decide +kernel
theorem dX9_setsFree_92 : decode cX9_setsFree 92 = .ok (.getfield 62, 3) := by decide +kernel
theorem dX9_setsFree_95 : decode cX9_setsFree 95 = .ok (.iload_n 2, 1) := by decide +kernel
theorem dX9_setsFree_96 : decode cX9_setsFree 96 = .ok (.iaload, 1) := by decide +kernel
theorem dX9_setsFree_97 : decode cX9_setsFree 97 = .ok (.ifCond .lt 29, 3) := by decide +kernel
theorem dX9_setsFree_100 : decode cX9_setsFree 100 = .ok (.aload_n 0, 1) := by decide +kernel
theorem dX9_setsFree_101 : decode cX9_setsFree 101 = .ok (.iload_n 2, 1) := by decide +kernel
theorem dX9_setsFree_102 : decode cX9_setsFree 102 = .ok (.aload_n 0, 1) := by decide +kernel
theorem dX9_setsFree_103 : decode cX9_setsFree 103 = .ok (.getfield 62, 3) := by decide +kernel
theorem dX9_setsFree_106 : decode cX9_setsFree 106 = .ok (.iload_n 2, 1) := by decide +kernel
theorem dX9_setsFree_107 : decode cX9_setsFree 107 = .ok (.iaload, 1) := by decide +kernel
theorem dX9_setsFree_108 : decode cX9_setsFree 108 = .ok (.invokevirtual 193, 3) := by decide +kernel
theorem dX9_setsFree_111 : decode cX9_setsFree 111 = .ok (.ifCond .eq 15, 3) := by decide +kernel
theorem dX9_setsFree_114 : decode cX9_setsFree 114 = .ok (.aload_n 0, 1) := by decide +kernel
theorem dX9_setsFree_115 : decode cX9_setsFree 115 = .ok (.getfield 53, 3) := by decide +kernel
theorem dX9_setsFree_118 : decode cX9_setsFree 118 = .ok (.iload_n 2, 1) := by decide +kernel
theorem dX9_setsFree_119 : decode cX9_setsFree 119 = .ok (.aload_n 0, 1) := by decide +kernel
theorem dX9_setsFree_120 : decode cX9_setsFree 120 = .ok (.getfield 62, 3) := by decide +kernel
theorem dX9_setsFree_123 : decode cX9_setsFree 123 = .ok (.iload_n 2, 1) := by decide +kernel
theorem dX9_setsFree_124 : decode cX9_setsFree 124 = .ok (.iaload, 1) := by decide +kernel
theorem dX9_setsFree_125 : decode cX9_setsFree 125 = .ok (.iastore, 1) := by decide +kernel
theorem dX9_setsFree_126 : decode cX9_setsFree 126 = .ok (.iinc 2 1, 3) := by decide +kernel
theorem dX9_setsFree_129 : decode cX9_setsFree 129 = .ok (.goto (-52), 3) := by decide +kernel
theorem dX9_setsFree_132 : decode cX9_setsFree 132 = .ok (.return_, 1) := by decide +kernel
theorem dX9_restore_0 : decode cX9_restore 0 = .ok (.aload_n 0, 1) := by decide +kernel
theorem dX9_restore_1 : decode cX9_restore 1 = .ok (.aload_n 0, 1) := by decide +kernel
theorem dX9_restore_2 : decode cX9_restore 2 = .ok (.iload_n 1, 1) := by decide +kernel
theorem dX9_restore_3 : decode cX9_restore 3 = .ok (.invokevirtual 251, 3) := by decide +kernel
theorem dX9_restore_6 : decode cX9_restore 6 = .ok (.invokevirtual 110, 3) := by decide +kernel
theorem dX9_restore_9 : decode cX9_restore 9 = .ok (.ifCond .le 5, 3) := by decide +kernel
theorem dX9_restore_12 : decode cX9_restore 12 = .ok (.iconst 0, 1) := by decide +kernel
theorem dX9_restore_13 : decode cX9_restore 13 = .ok (.ireturn, 1) := by decide +kernel
theorem dX9_restore_14 : decode cX9_restore 14 = .ok (.iconst 0, 1) := by decide +kernel
theorem dX9_restore_15 : decode cX9_restore 15 = .ok (.istore_n 2, 1) := by decide +kernel
theorem dX9_restore_16 : decode cX9_restore 16 = .ok (.iload_n 2, 1) := by decide +kernel
theorem dX9_restore_17 : decode cX9_restore 17 = .ok (.bipush 16, 2) := by decide +kernel
theorem dX9_restore_19 : decode cX9_restore 19 = .ok (.if_icmp .ge 26, 3) := by decide +kernel
theorem dX9_restore_22 : decode cX9_restore 22 = .ok (.aload_n 0, 1) := by decide +kernel
theorem dX9_restore_23 : decode cX9_restore 23 = .ok (.getfield 62, 3) := by decide +kernel
theorem dX9_restore_26 : decode cX9_restore 26 = .ok (.iload_n 2, 1) := by decide +kernel
theorem dX9_restore_27 : decode cX9_restore 27 = .ok (.aload_n 0, 1) := by decide +kernel
theorem dX9_restore_28 : decode cX9_restore 28 = .ok (.getfield 59, 3) := by decide +kernel
theorem dX9_restore_31 : decode cX9_restore 31 = .ok (.bipush 16, 2) := by decide +kernel
theorem dX9_restore_33 : decode cX9_restore 33 = .ok (.iload_n 1, 1) := by decide +kernel
theorem dX9_restore_34 : decode cX9_restore 34 = .ok (.imul, 1) := by decide +kernel
theorem dX9_restore_35 : decode cX9_restore 35 = .ok (.iload_n 2, 1) := by decide +kernel
theorem dX9_restore_36 : decode cX9_restore 36 = .ok (.iadd, 1) := by decide +kernel
theorem dX9_restore_37 : decode cX9_restore 37 = .ok (.iaload, 1) := by decide +kernel
theorem dX9_restore_38 : decode cX9_restore 38 = .ok (.iastore, 1) := by decide +kernel
theorem dX9_restore_39 : decode cX9_restore 39 = .ok (.iinc 2 1, 3) := by decide +kernel
theorem dX9_restore_42 : decode cX9_restore 42 = .ok (.goto (-26), 3) := by decide +kernel
theorem dX9_restore_45 : decode cX9_restore 45 = .ok (.aload_n 0, 1) := by decide +kernel
theorem dX9_restore_46 : decode cX9_restore 46 = .ok (.invokevirtual 254, 3) := by decide +kernel
theorem dX9_restore_49 : decode cX9_restore 49 = .ok (.iconst 0, 1) := by decide +kernel
theorem dX9_restore_50 : decode cX9_restore 50 = .ok (.istore_n 2, 1) := by decide +kernel
theorem dX9_restore_51 : decode cX9_restore 51 = .ok (.iconst 0, 1) := by decide +kernel
theorem dX9_restore_52 : decode cX9_restore 52 = .ok (.istore_n 3, 1) := by decide +kernel
theorem dX9_restore_53 : decode cX9_restore 53 = .ok (.iload_n 3, 1) := by decide +kernel
theorem dX9_restore_54 : decode cX9_restore 54 = .ok (.aload_n 0, 1) := by decide +kernel
theorem dX9_restore_55 : decode cX9_restore 55 = .ok (.getfield 84, 3) := by decide +kernel
theorem dX9_restore_58 : decode cX9_restore 58 = .ok (.if_icmp .ge 37, 3) := by decide +kernel
theorem dX9_restore_61 : decode cX9_restore 61 = .ok (.iload_n 2, 1) := by decide +kernel
theorem dX9_restore_62 : decode cX9_restore 62 = .ok (.aload_n 0, 1) := by decide +kernel
theorem dX9_restore_63 : decode cX9_restore 63 = .ok (.getfield 53, 3) := by decide +kernel
theorem dX9_restore_66 : decode cX9_restore 66 = .ok (.iload_n 3, 1) := by decide +kernel
theorem dX9_restore_67 : decode cX9_restore 67 = .ok (.iaload, 1) := by decide +kernel
theorem dX9_restore_68 : decode cX9_restore 68 = .ok (.aload_n 0, 1) := by decide +kernel
theorem dX9_restore_69 : decode cX9_restore 69 = .ok (.getfield 59, 3) := by decide +kernel
theorem dX9_restore_72 : decode cX9_restore 72 = .ok (.bipush 16, 2) := by decide +kernel
theorem dX9_restore_74 : decode cX9_restore 74 = .ok (.iload_n 1, 1) := by decide +kernel
theorem dX9_restore_75 : decode cX9_restore 75 = .ok (.imul, 1) := by decide +kernel
theorem dX9_restore_76 : decode cX9_restore 76 = .ok (.iload_n 3, 1) := by decide +kernel
theorem dX9_restore_77 : decode cX9_restore 77 = .ok (.iadd, 1) := by decide +kernel
theorem dX9_restore_78 : decode cX9_restore 78 = .ok (.iaload, 1) := by decide +kernel
theorem dX9_restore_79 : decode cX9_restore 79 = .ok (.if_icmp .eq 7, 3) := by decide +kernel
theorem dX9_restore_82 : decode cX9_restore 82 = .ok (.iconst 1, 1) := by decide +kernel
theorem dX9_restore_83 : decode cX9_restore 83 = .ok (.goto 4, 3) := by decide +kernel
theorem dX9_restore_86 : decode cX9_restore 86 = .ok (.iconst 0, 1) := by decide +kernel
theorem dX9_restore_87 : decode cX9_restore 87 = .ok (.iadd, 1) := by decide +kernel
theorem dX9_restore_88 : decode cX9_restore 88 = .ok (.istore_n 2, 1) := by decide +kernel
theorem dX9_restore_89 : decode cX9_restore 89 = .ok (.iinc 3 1, 3) := by decide +kernel
theorem dX9_restore_92 : decode cX9_restore 92 = .ok (.goto (-39), 3) := by decide +kernel
theorem dX9_restore_95 : decode cX9_restore 95 = .ok (.iload_n 2, 1) := by decide +kernel
theorem dX9_restore_96 : decode cX9_restore 96 = .ok (.ireturn, 1) := by decide +kernel
theorem dX9_merge_0 : decode cX9_merge 0 = .ok (.aload_n 0, 1) := by decide +kernel
theorem dX9_merge_1 : decode cX9_merge 1 = .ok (.aload_n 0, 1) := by decide +kernel
theorem dX9_merge_2 : decode cX9_merge 2 = .ok (.iload_n 1, 1) := by decide +kernel
theorem dX9_merge_3 : decode cX9_merge 3 = .ok (.invokevirtual 251, 3) := by decide +kernel
theorem dX9_merge_6 : decode cX9_merge 6 = .ok (.ifCond .eq 15, 3) := by decide +kernel
theorem dX9_merge_9 : decode cX9_merge 9 = .ok (.aload_n 0, 1) := by decide +kernel
theorem dX9_merge_10 : decode cX9_merge 10 = .ok (.iload_n 2, 1) := by decide +kernel
theorem dX9_merge_11 : decode cX9_merge 11 = .ok (.invokevirtual 251, 3) := by decide +kernel
theorem dX9_merge_14 : decode cX9_merge 14 = .ok (.ifCond .eq 7, 3) := by decide +kernel
theorem dX9_merge_17 : decode cX9_merge 17 = .ok (.iconst 1, 1) := by decide +kernel
theorem dX9_merge_18 : decode cX9_merge 18 = .ok (.goto 4, 3) := by decide +kernel
theorem dX9_merge_21 : decode cX9_merge 21 = .ok (.iconst 0, 1) := by decide +kernel
theorem dX9_merge_22 : decode cX9_merge 22 = .ok (.invokevirtual 110, 3) := by decide +kernel
theorem dX9_merge_25 : decode cX9_merge 25 = .ok (.ifCond .le 5, 3) := by decide +kernel
theorem dX9_merge_28 : decode cX9_merge 28 = .ok (.iconst 0, 1) := by decide +kernel
theorem dX9_merge_29 : decode cX9_merge 29 = .ok (.ireturn, 1) := by decide +kernel
theorem dX9_merge_30 : decode cX9_merge 30 = .ok (.iconst 0, 1) := by decide +kernel
theorem dX9_merge_31 : decode cX9_merge 31 = .ok (.istore_n 3, 1) := by decide +kernel
theorem dX9_merge_32 : decode cX9_merge 32 = .ok (.iconst 0, 1) := by decide +kernel
theorem dX9_merge_33 : decode cX9_merge 33 = .ok (.istore 4, 2) := by decide +kernel
theorem dX9_merge_35 : decode cX9_merge 35 = .ok (.iload 4, 2) := by decide +kernel
theorem dX9_merge_37 : decode cX9_merge 37 = .ok (.aload_n 0, 1) := by decide +kernel
theorem dX9_merge_38 : decode cX9_merge 38 = .ok (.getfield 84, 3) := by decide +kernel
theorem dX9_merge_41 : decode cX9_merge 41 = .ok (.if_icmp .ge 114, 3) := by decide +kernel
theorem dX9_merge_44 : decode cX9_merge 44 = .ok (.aload_n 0, 1) := by decide +kernel
theorem dX9_merge_45 : decode cX9_merge 45 = .ok (.getfield 59, 3) := by decide +kernel
theorem dX9_merge_48 : decode cX9_merge 48 = .ok (.bipush 16, 2) := by decide +kernel
theorem dX9_merge_50 : decode cX9_merge 50 = .ok (.iload_n 1, 1) := by decide +kernel
theorem dX9_merge_51 : decode cX9_merge 51 = .ok (.imul, 1) := by decide +kernel
theorem dX9_merge_52 : decode cX9_merge 52 = .ok (.iload 4, 2) := by decide +kernel
theorem dX9_merge_54 : decode cX9_merge 54 = .ok (.iadd, 1) := by decide +kernel
theorem dX9_merge_55 : decode cX9_merge 55 = .ok (.iaload, 1) := by decide +kernel
theorem dX9_merge_56 : decode cX9_merge 56 = .ok (.istore 5, 2) := by decide +kernel
theorem dX9_merge_58 : decode cX9_merge 58 = .ok (.aload_n 0, 1) := by decide +kernel
theorem dX9_merge_59 : decode cX9_merge 59 = .ok (.getfield 59, 3) := by decide +kernel
theorem dX9_merge_62 : decode cX9_merge 62 = .ok (.bipush 16, 2) := by decide +kernel
theorem dX9_merge_64 : decode cX9_merge 64 = .ok (.iload_n 2, 1) := by decide +kernel
theorem dX9_merge_65 : decode cX9_merge 65 = .ok (.imul, 1) := by decide +kernel
theorem dX9_merge_66 : decode cX9_merge 66 = .ok (.iload 4, 2) := by decide +kernel
theorem dX9_merge_68 : decode cX9_merge 68 = .ok (.iadd, 1) := by decide +kernel
theorem dX9_merge_69 : decode cX9_merge 69 = .ok (.iaload, 1) := by decide +kernel
theorem dX9_merge_70 : decode cX9_merge 70 = .ok (.istore 6, 2) := by decide +kernel
theorem dX9_merge_72 : decode cX9_merge 72 = .ok (.aload_n 0, 1) := by decide +kernel
theorem dX9_merge_73 : decode cX9_merge 73 = .ok (.getfield 62, 3) := by decide +kernel
theorem dX9_merge_76 : decode cX9_merge 76 = .ok (.iload 4, 2) := by decide +kernel
theorem dX9_merge_78 : decode cX9_merge 78 = .ok (.iload 6, 2) := by decide +kernel
theorem dX9_merge_80 : decode cX9_merge 80 = .ok (.iload 5, 2) := by decide +kernel
theorem dX9_merge_82 : decode cX9_merge 82 = .ok (.if_icmp .eq 20, 3) := by decide +kernel
theorem dX9_merge_85 : decode cX9_merge 85 = .ok (.aload_n 0, 1) := by decide +kernel
theorem dX9_merge_86 : decode cX9_merge 86 = .ok (.getfield 53, 3) := by decide +kernel
theorem dX9_merge_89 : decode cX9_merge 89 = .ok (.iload 4, 2) := by decide +kernel
theorem dX9_merge_91 : decode cX9_merge 91 = .ok (.iaload, 1) := by decide +kernel
theorem dX9_merge_92 : decode cX9_merge 92 = .ok (.iload 5, 2) := by decide +kernel
theorem dX9_merge_94 : decode cX9_merge 94 = .ok (.if_icmp .ne 8, 3) := by decide +kernel
theorem dX9_merge_97 : decode cX9_merge 97 = .ok (.iload 6, 2) := by decide +kernel
theorem dX9_merge_99 : decode cX9_merge 99 = .ok (.goto 10, 3) := by decide +kernel
theorem dX9_merge_102 : decode cX9_merge 102 = .ok (.aload_n 0, 1) := by decide +kernel
theorem dX9_merge_103 : decode cX9_merge 103 = .ok (.getfield 53, 3) := by decide +kernel
theorem dX9_merge_106 : decode cX9_merge 106 = .ok (.iload 4, 2) := by decide +kernel
theorem dX9_merge_108 : decode cX9_merge 108 = .ok (.iaload, 1) := by decide +kernel
theorem dX9_merge_109 : decode cX9_merge 109 = .ok (.iastore, 1) := by decide +kernel
theorem dX9_merge_110 : decode cX9_merge 110 = .ok (.iload_n 3, 1) := by decide +kernel
theorem dX9_merge_111 : decode cX9_merge 111 = .ok (.iload 6, 2) := by decide +kernel
theorem dX9_merge_113 : decode cX9_merge 113 = .ok (.iload 5, 2) := by decide +kernel
theorem dX9_merge_115 : decode cX9_merge 115 = .ok (.if_icmp .eq 31, 3) := by decide +kernel
theorem dX9_merge_118 : decode cX9_merge 118 = .ok (.aload_n 0, 1) := by decide +kernel
theorem dX9_merge_119 : decode cX9_merge 119 = .ok (.getfield 53, 3) := by decide +kernel
theorem dX9_merge_122 : decode cX9_merge 122 = .ok (.iload 4, 2) := by decide +kernel
theorem dX9_merge_124 : decode cX9_merge 124 = .ok (.iaload, 1) := by decide +kernel
theorem dX9_merge_125 : decode cX9_merge 125 = .ok (.iload 5, 2) := by decide +kernel
theorem dX9_merge_127 : decode cX9_merge 127 = .ok (.if_icmp .eq 19, 3) := by decide +kernel
theorem dX9_merge_130 : decode cX9_merge 130 = .ok (.aload_n 0, 1) := by decide +kernel
theorem dX9_merge_131 : decode cX9_merge 131 = .ok (.getfield 53, 3) := by decide +kernel
theorem dX9_merge_134 : decode cX9_merge 134 = .ok (.iload 4, 2) := by decide +kernel
theorem dX9_merge_136 : decode cX9_merge 136 = .ok (.iaload, 1) := by decide +kernel
theorem dX9_merge_137 : decode cX9_merge 137 = .ok (.iload 6, 2) := by decide +kernel
theorem dX9_merge_139 : decode cX9_merge 139 = .ok (.if_icmp .eq 7, 3) := by decide +kernel
theorem dX9_merge_142 : decode cX9_merge 142 = .ok (.iconst 1, 1) := by decide +kernel
theorem dX9_merge_143 : decode cX9_merge 143 = .ok (.goto 4, 3) := by decide +kernel
theorem dX9_merge_146 : decode cX9_merge 146 = .ok (.iconst 0, 1) := by decide +kernel
theorem dX9_merge_147 : decode cX9_merge 147 = .ok (.iadd, 1) := by decide +kernel
theorem dX9_merge_148 : decode cX9_merge 148 = .ok (.istore_n 3, 1) := by decide +kernel
theorem dX9_merge_149 : decode cX9_merge 149 = .ok (.iinc 4 1, 3) := by decide +kernel
theorem dX9_merge_152 : decode cX9_merge 152 = .ok (.goto (-117), 3) := by decide +kernel
theorem dX9_merge_155 : decode cX9_merge 155 = .ok (.aload_n 0, 1) := by decide +kernel
theorem dX9_merge_156 : decode cX9_merge 156 = .ok (.invokevirtual 254, 3) := by decide +kernel
theorem dX9_merge_159 : decode cX9_merge 159 = .ok (.iload_n 3, 1) := by decide +kernel
theorem dX9_merge_160 : decode cX9_merge 160 = .ok (.ireturn, 1) := by decide +kernel
theorem dX9_placedShare_0 : decode cX9_placedShare 0 = .ok (.iconst 0, 1) := by decide +kernel
theorem dX9_placedShare_1 : decode cX9_placedShare 1 = .ok (.istore_n 1, 1) := by decide +kernel
theorem dX9_placedShare_2 : decode cX9_placedShare 2 = .ok (.iconst 0, 1) := by decide +kernel
theorem dX9_placedShare_3 : decode cX9_placedShare 3 = .ok (.istore_n 2, 1) := by decide +kernel
theorem dX9_placedShare_4 : decode cX9_placedShare 4 = .ok (.iload_n 2, 1) := by decide +kernel
theorem dX9_placedShare_5 : decode cX9_placedShare 5 = .ok (.aload_n 0, 1) := by decide +kernel
theorem dX9_placedShare_6 : decode cX9_placedShare 6 = .ok (.getfield 84, 3) := by decide +kernel
theorem dX9_placedShare_9 : decode cX9_placedShare 9 = .ok (.if_icmp .ge 25, 3) := by decide +kernel
theorem dX9_placedShare_12 : decode cX9_placedShare 12 = .ok (.iload_n 1, 1) := by decide +kernel
theorem dX9_placedShare_13 : decode cX9_placedShare 13 = .ok (.aload_n 0, 1) := by decide +kernel
theorem dX9_placedShare_14 : decode cX9_placedShare 14 = .ok (.iload_n 2, 1) := by decide +kernel
theorem dX9_placedShare_15 : decode cX9_placedShare 15 = .ok (.invokevirtual 118, 3) := by decide +kernel
theorem dX9_placedShare_18 : decode cX9_placedShare 18 = .ok (.ifCond .eq 7, 3) := by decide +kernel
theorem dX9_placedShare_21 : decode cX9_placedShare 21 = .ok (.iconst 1, 1) := by decide +kernel
theorem dX9_placedShare_22 : decode cX9_placedShare 22 = .ok (.goto 4, 3) := by decide +kernel
theorem dX9_placedShare_25 : decode cX9_placedShare 25 = .ok (.iconst 0, 1) := by decide +kernel
theorem dX9_placedShare_26 : decode cX9_placedShare 26 = .ok (.iadd, 1) := by decide +kernel
theorem dX9_placedShare_27 : decode cX9_placedShare 27 = .ok (.istore_n 1, 1) := by decide +kernel
theorem dX9_placedShare_28 : decode cX9_placedShare 28 = .ok (.iinc 2 1, 3) := by decide +kernel
theorem dX9_placedShare_31 : decode cX9_placedShare 31 = .ok (.goto (-27), 3) := by decide +kernel
theorem dX9_placedShare_34 : decode cX9_placedShare 34 = .ok (.aload_n 0, 1) := by decide +kernel
theorem dX9_placedShare_35 : decode cX9_placedShare 35 = .ok (.aload_n 0, 1) := by decide +kernel
theorem dX9_placedShare_36 : decode cX9_placedShare 36 = .ok (.getfield 84, 3) := by decide +kernel
theorem dX9_placedShare_39 : decode cX9_placedShare 39 = .ok (.ifCond .le 7, 3) := by decide +kernel
theorem dX9_placedShare_42 : decode cX9_placedShare 42 = .ok (.iconst 1, 1) := by decide +kernel
theorem dX9_placedShare_43 : decode cX9_placedShare 43 = .ok (.goto 4, 3) := by decide +kernel
theorem dX9_placedShare_46 : decode cX9_placedShare 46 = .ok (.iconst 0, 1) := by decide +kernel
theorem dX9_placedShare_47 : decode cX9_placedShare 47 = .ok (.invokevirtual 110, 3) := by decide +kernel
theorem dX9_placedShare_50 : decode cX9_placedShare 50 = .ok (.ifCond .le 7, 3) := by decide +kernel
theorem dX9_placedShare_53 : decode cX9_placedShare 53 = .ok (.fconst 0, 1) := by decide +kernel
theorem dX9_placedShare_54 : decode cX9_placedShare 54 = .ok (.goto 11, 3) := by decide +kernel
theorem dX9_placedShare_57 : decode cX9_placedShare 57 = .ok (.iload_n 1, 1) := by decide +kernel
theorem dX9_placedShare_58 : decode cX9_placedShare 58 = .ok (.i2f, 1) := by decide +kernel
theorem dX9_placedShare_59 : decode cX9_placedShare 59 = .ok (.aload_n 0, 1) := by decide +kernel
theorem dX9_placedShare_60 : decode cX9_placedShare 60 = .ok (.getfield 84, 3) := by decide +kernel
theorem dX9_placedShare_63 : decode cX9_placedShare 63 = .ok (.i2f, 1) := by decide +kernel
theorem dX9_placedShare_64 : decode cX9_placedShare 64 = .ok (.fdiv, 1) := by decide +kernel
theorem dX9_placedShare_65 : decode cX9_placedShare 65 = .ok (.freturn, 1) := by decide +kernel
theorem dX9_meanPossible_0 : decode cX9_meanPossible 0 = .ok (.iconst 0, 1) := by decide +kernel
theorem dX9_meanPossible_1 : decode cX9_meanPossible 1 = .ok (.istore_n 1, 1) := by decide +kernel
theorem dX9_meanPossible_2 : decode cX9_meanPossible 2 = .ok (.iconst 0, 1) := by decide +kernel
theorem dX9_meanPossible_3 : decode cX9_meanPossible 3 = .ok (.istore_n 2, 1) := by decide +kernel
theorem dX9_meanPossible_4 : decode cX9_meanPossible 4 = .ok (.iload_n 2, 1) := by decide +kernel
theorem dX9_meanPossible_5 : decode cX9_meanPossible 5 = .ok (.aload_n 0, 1) := by decide +kernel
theorem dX9_meanPossible_6 : decode cX9_meanPossible 6 = .ok (.getfield 84, 3) := by decide +kernel
theorem dX9_meanPossible_9 : decode cX9_meanPossible 9 = .ok (.if_icmp .ge 17, 3) := by decide +kernel
theorem dX9_meanPossible_12 : decode cX9_meanPossible 12 = .ok (.iload_n 1, 1) := by decide +kernel
theorem dX9_meanPossible_13 : decode cX9_meanPossible 13 = .ok (.aload_n 0, 1) := by decide +kernel
theorem dX9_meanPossible_14 : decode cX9_meanPossible 14 = .ok (.iload_n 2, 1) := by decide +kernel
theorem dX9_meanPossible_15 : decode cX9_meanPossible 15 = .ok (.invokevirtual 199, 3) := by decide +kernel
theorem dX9_meanPossible_18 : decode cX9_meanPossible 18 = .ok (.iadd, 1) := by decide +kernel
theorem dX9_meanPossible_19 : decode cX9_meanPossible 19 = .ok (.istore_n 1, 1) := by decide +kernel
theorem dX9_meanPossible_20 : decode cX9_meanPossible 20 = .ok (.iinc 2 1, 3) := by decide +kernel
theorem dX9_meanPossible_23 : decode cX9_meanPossible 23 = .ok (.goto (-19), 3) := by decide +kernel
theorem dX9_meanPossible_26 : decode cX9_meanPossible 26 = .ok (.aload_n 0, 1) := by decide +kernel
theorem dX9_meanPossible_27 : decode cX9_meanPossible 27 = .ok (.aload_n 0, 1) := by decide +kernel
theorem dX9_meanPossible_28 : decode cX9_meanPossible 28 = .ok (.getfield 84, 3) := by decide +kernel
theorem dX9_meanPossible_31 : decode cX9_meanPossible 31 = .ok (.ifCond .le 7, 3) := by decide +kernel
theorem dX9_meanPossible_34 : decode cX9_meanPossible 34 = .ok (.iconst 1, 1) := by decide +kernel
theorem dX9_meanPossible_35 : decode cX9_meanPossible 35 = .ok (.goto 4, 3) := by decide +kernel
theorem dX9_meanPossible_38 : decode cX9_meanPossible 38 = .ok (.iconst 0, 1) := by decide +kernel
theorem dX9_meanPossible_39 : decode cX9_meanPossible 39 = .ok (.invokevirtual 110, 3) := by decide +kernel
theorem dX9_meanPossible_42 : decode cX9_meanPossible 42 = .ok (.ifCond .le 7, 3) := by decide +kernel
theorem dX9_meanPossible_45 : decode cX9_meanPossible 45 = .ok (.dconst 0, 1) := by decide +kernel
theorem dX9_meanPossible_46 : decode cX9_meanPossible 46 = .ok (.goto 11, 3) := by decide +kernel
theorem dX9_meanPossible_49 : decode cX9_meanPossible 49 = .ok (.iload_n 1, 1) := by decide +kernel
theorem dX9_meanPossible_50 : decode cX9_meanPossible 50 = .ok (.i2d, 1) := by decide +kernel
theorem dX9_meanPossible_51 : decode cX9_meanPossible 51 = .ok (.aload_n 0, 1) := by decide +kernel
theorem dX9_meanPossible_52 : decode cX9_meanPossible 52 = .ok (.getfield 84, 3) := by decide +kernel
theorem dX9_meanPossible_55 : decode cX9_meanPossible 55 = .ok (.i2d, 1) := by decide +kernel
theorem dX9_meanPossible_56 : decode cX9_meanPossible 56 = .ok (.ddiv, 1) := by decide +kernel
theorem dX9_meanPossible_57 : decode cX9_meanPossible 57 = .ok (.dreturn, 1) := by decide +kernel
theorem dX9_isSound_0 : decode cX9_isSound 0 = .ok (.aload_n 0, 1) := by decide +kernel
theorem dX9_isSound_1 : decode cX9_isSound 1 = .ok (.iconst 0, 1) := by decide +kernel
theorem dX9_isSound_2 : decode cX9_isSound 2 = .ok (.putfield 71, 3) := by decide +kernel
theorem dX9_isSound_5 : decode cX9_isSound 5 = .ok (.iconst 1, 1) := by decide +kernel
theorem dX9_isSound_6 : decode cX9_isSound 6 = .ok (.ireturn, 1) := by decide +kernel
