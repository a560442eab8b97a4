theorem cw_L_addRoom : Cond.codeWith yL_addRoom cL_addRoom 6 (some .int) [(0, 12, 15, 13), (0, 12, 19, 15)] ∈ Tg := Tg_of (i := 577) (by decide +kernel) (by decide +kernel)
theorem sm_L_addRoom : Cond.static yL_addRoom ∈ Tg := Tg_of (i := 576) (by decide +kernel) (by decide +kernel)
theorem iw_L : Cond.initialized RL ∈ Tg := Tg_of (i := 79) (by decide +kernel) (by decide +kernel)
theorem ml_L_148 : Cond.methodLink RL 148 yL_addRoom ∈ Tg := Tg_of (i := 575) (by decide +kernel) (by decide +kernel)
theorem ml_L_153 : Cond.methodLink RL 153 yX9_addRoom ∈ Tg := Tg_of (i := 1579) (by decide +kernel) (by decide +kernel)
theorem lk_L_153 : Lk RL 153 yX9_addRoom cX9_addRoom 4 (some .int) 3 := ⟨ml_L_153, cd_X9_addRoom, iw_X9, by decide +kernel⟩
theorem im_X9_addRoom : Cond.instanceMethod yX9_addRoom ∈ Tg := Tg_of (i := 1580) (by decide +kernel) (by decide +kernel)
theorem se_X9_X9_addRoom : Cond.selects RX9 yX9_addRoom yX9_addRoom ∈ Tg := Tg_of (i := 1581) (by decide +kernel) (by decide +kernel)
theorem ml_L_154 : Cond.methodLink RL 154 yX9_thrown ∈ Tg := Tg_of (i := 1575) (by decide +kernel) (by decide +kernel)
theorem lk_L_154 : Lk RL 154 yX9_thrown cX9_thrown 1 (some .int) 0 := ⟨ml_L_154, cd_X9_thrown, iw_X9, by decide +kernel⟩
theorem im_X9_thrown : Cond.instanceMethod yX9_thrown ∈ Tg := Tg_of (i := 1576) (by decide +kernel) (by decide +kernel)
theorem se_X9_X9_thrown : Cond.selects RX9 yX9_thrown yX9_thrown ∈ Tg := Tg_of (i := 1577) (by decide +kernel) (by decide +kernel)
theorem cw_L_addTeacher : Cond.codeWith yL_addTeacher cL_addTeacher 4 (some .int) [(0, 9, 12, 13), (0, 9, 15, 15)] ∈ Tg := Tg_of (i := 771) (by decide +kernel) (by decide +kernel)
theorem sm_L_addTeacher : Cond.static yL_addTeacher ∈ Tg := Tg_of (i := 770) (by decide +kernel) (by decide +kernel)
theorem ml_L_157 : Cond.methodLink RL 157 yL_addTeacher ∈ Tg := Tg_of (i := 769) (by decide +kernel) (by decide +kernel)
theorem ml_L_160 : Cond.methodLink RL 160 yX9_addTeacher ∈ Tg := Tg_of (i := 1586) (by decide +kernel) (by decide +kernel)
theorem lk_L_160 : Lk RL 160 yX9_addTeacher cX9_addTeacher 2 (some .int) 1 := ⟨ml_L_160, cd_X9_addTeacher, iw_X9, by decide +kernel⟩
theorem im_X9_addTeacher : Cond.instanceMethod yX9_addTeacher ∈ Tg := Tg_of (i := 1587) (by decide +kernel) (by decide +kernel)
theorem se_X9_X9_addTeacher : Cond.selects RX9 yX9_addTeacher yX9_addTeacher ∈ Tg := Tg_of (i := 1588) (by decide +kernel) (by decide +kernel)
theorem cw_L_addGroup : Cond.codeWith yL_addGroup cL_addGroup 4 (some .int) [(0, 9, 12, 13), (0, 9, 15, 15)] ∈ Tg := Tg_of (i := 807) (by decide +kernel) (by decide +kernel)
theorem sm_L_addGroup : Cond.static yL_addGroup ∈ Tg := Tg_of (i := 806) (by decide +kernel) (by decide +kernel)
theorem ml_L_161 : Cond.methodLink RL 161 yL_addGroup ∈ Tg := Tg_of (i := 805) (by decide +kernel) (by decide +kernel)
theorem ml_L_163 : Cond.methodLink RL 163 yX9_addGroup ∈ Tg := Tg_of (i := 1590) (by decide +kernel) (by decide +kernel)
theorem lk_L_163 : Lk RL 163 yX9_addGroup cX9_addGroup 2 (some .int) 1 := ⟨ml_L_163, cd_X9_addGroup, iw_X9, by decide +kernel⟩
theorem im_X9_addGroup : Cond.instanceMethod yX9_addGroup ∈ Tg := Tg_of (i := 1591) (by decide +kernel) (by decide +kernel)
theorem se_X9_X9_addGroup : Cond.selects RX9 yX9_addGroup yX9_addGroup ∈ Tg := Tg_of (i := 1592) (by decide +kernel) (by decide +kernel)
theorem cw_L_addLesson : Cond.codeWith yL_addLesson cL_addLesson 8 (some .int) [(0, 16, 19, 28), (0, 16, 23, 13), (0, 16, 27, 15)] ∈ Tg := Tg_of (i := 828) (by decide +kernel) (by decide +kernel)
theorem sm_L_addLesson : Cond.static yL_addLesson ∈ Tg := Tg_of (i := 827) (by decide +kernel) (by decide +kernel)
theorem ml_L_164 : Cond.methodLink RL 164 yL_addLesson ∈ Tg := Tg_of (i := 826) (by decide +kernel) (by decide +kernel)
theorem ml_L_167 : Cond.methodLink RL 167 yX9_addLesson ∈ Tg := Tg_of (i := 1594) (by decide +kernel) (by decide +kernel)
theorem lk_L_167 : Lk RL 167 yX9_addLesson cX9_addLesson 6 (some .int) 5 := ⟨ml_L_167, cd_X9_addLesson, iw_X9, by decide +kernel⟩
theorem im_X9_addLesson : Cond.instanceMethod yX9_addLesson ∈ Tg := Tg_of (i := 1595) (by decide +kernel) (by decide +kernel)
theorem se_X9_X9_addLesson : Cond.selects RX9 yX9_addLesson yX9_addLesson ∈ Tg := Tg_of (i := 1596) (by decide +kernel) (by decide +kernel)
theorem cw_L_setWish : Cond.codeWith yL_setWish cL_setWish 6 (some .int) [(0, 12, 15, 28), (0, 12, 19, 13)] ∈ Tg := Tg_of (i := 964) (by decide +kernel) (by decide +kernel)
theorem sm_L_setWish : Cond.static yL_setWish ∈ Tg := Tg_of (i := 963) (by decide +kernel) (by decide +kernel)
theorem ml_L_168 : Cond.methodLink RL 168 yL_setWish ∈ Tg := Tg_of (i := 962) (by decide +kernel) (by decide +kernel)
theorem ml_L_170 : Cond.methodLink RL 170 yX9_setWish ∈ Tg := Tg_of (i := 1606) (by decide +kernel) (by decide +kernel)
theorem lk_L_170 : Lk RL 170 yX9_setWish cX9_setWish 5 (some .int) 3 := ⟨ml_L_170, cd_X9_setWish, iw_X9, by decide +kernel⟩
theorem im_X9_setWish : Cond.instanceMethod yX9_setWish ∈ Tg := Tg_of (i := 1607) (by decide +kernel) (by decide +kernel)
theorem se_X9_X9_setWish : Cond.selects RX9 yX9_setWish yX9_setWish ∈ Tg := Tg_of (i := 1608) (by decide +kernel) (by decide +kernel)
theorem cw_L_setWeight : Cond.codeWith yL_setWeight cL_setWeight 5 (some .int) [(0, 10, 13, 13)] ∈ Tg := Tg_of (i := 980) (by decide +kernel) (by decide +kernel)
theorem sm_L_setWeight : Cond.static yL_setWeight ∈ Tg := Tg_of (i := 979) (by decide +kernel) (by decide +kernel)
theorem ml_L_171 : Cond.methodLink RL 171 yL_setWeight ∈ Tg := Tg_of (i := 978) (by decide +kernel) (by decide +kernel)
theorem ml_L_174 : Cond.methodLink RL 174 yX9_setWeight ∈ Tg := Tg_of (i := 1613) (by decide +kernel) (by decide +kernel)
theorem lk_L_174 : Lk RL 174 yX9_setWeight cX9_setWeight 4 (some .int) 2 := ⟨ml_L_174, cd_X9_setWeight, iw_X9, by decide +kernel⟩
theorem im_X9_setWeight : Cond.instanceMethod yX9_setWeight ∈ Tg := Tg_of (i := 1614) (by decide +kernel) (by decide +kernel)
theorem se_X9_X9_setWeight : Cond.selects RX9 yX9_setWeight yX9_setWeight ∈ Tg := Tg_of (i := 1615) (by decide +kernel) (by decide +kernel)
theorem cw_L_reason : Cond.codeWith yL_reason cL_reason 6 (some .int) [(0, 12, 15, 28), (0, 12, 19, 13)] ∈ Tg := Tg_of (i := 996) (by decide +kernel) (by decide +kernel)
theorem sm_L_reason : Cond.static yL_reason ∈ Tg := Tg_of (i := 995) (by decide +kernel) (by decide +kernel)
theorem ml_L_175 : Cond.methodLink RL 175 yL_reason ∈ Tg := Tg_of (i := 994) (by decide +kernel) (by decide +kernel)
theorem ml_L_177 : Cond.methodLink RL 177 yX9_reason ∈ Tg := Tg_of (i := 1621) (by decide +kernel) (by decide +kernel)
theorem lk_L_177 : Lk RL 177 yX9_reason cX9_reason 6 (some .char) 3 := ⟨ml_L_177, cd_X9_reason, iw_X9, by decide +kernel⟩
theorem im_X9_reason : Cond.instanceMethod yX9_reason ∈ Tg := Tg_of (i := 1622) (by decide +kernel) (by decide +kernel)
theorem se_X9_X9_reason : Cond.selects RX9 yX9_reason yX9_reason ∈ Tg := Tg_of (i := 1623) (by decide +kernel) (by decide +kernel)
theorem cw_L_reasons : Cond.codeWith yL_reasons cL_reasons 5 (some .int) [(0, 10, 13, 28), (0, 10, 17, 13), (0, 10, 21, 44)] ∈ Tg := Tg_of (i := 1053) (by decide +kernel) (by decide +kernel)
theorem sm_L_reasons : Cond.static yL_reasons ∈ Tg := Tg_of (i := 1052) (by decide +kernel) (by decide +kernel)
theorem ml_L_178 : Cond.methodLink RL 178 yL_reasons ∈ Tg := Tg_of (i := 1051) (by decide +kernel) (by decide +kernel)
theorem ml_L_180 : Cond.methodLink RL 180 yX9_reasons ∈ Tg := Tg_of (i := 1679) (by decide +kernel) (by decide +kernel)
theorem lk_L_180 : Lk RL 180 yX9_reasons cX9_reasons 5 (some .int) 2 := ⟨ml_L_180, cd_X9_reasons, iw_X9, by decide +kernel⟩
theorem im_X9_reasons : Cond.instanceMethod yX9_reasons ∈ Tg := Tg_of (i := 1680) (by decide +kernel) (by decide +kernel)
theorem se_X9_X9_reasons : Cond.selects RX9 yX9_reasons yX9_reasons ∈ Tg := Tg_of (i := 1681) (by decide +kernel) (by decide +kernel)
theorem cw_L_place : Cond.codeWith yL_place cL_place 6 (some .int) [(0, 12, 15, 28), (0, 12, 19, 13), (0, 12, 23, 15), (0, 12, 27, 49)] ∈ Tg := Tg_of (i := 1090) (by decide +kernel) (by decide +kernel)
theorem sm_L_place : Cond.static yL_place ∈ Tg := Tg_of (i := 1089) (by decide +kernel) (by decide +kernel)
theorem ml_L_181 : Cond.methodLink RL 181 yL_place ∈ Tg := Tg_of (i := 1088) (by decide +kernel) (by decide +kernel)
theorem ml_L_183 : Cond.methodLink RL 183 yX9_place ∈ Tg := Tg_of (i := 1694) (by decide +kernel) (by decide +kernel)
theorem lk_L_183 : Lk RL 183 yX9_place cX9_place 4 (some .int) 3 := ⟨ml_L_183, cd_X9_place, iw_X9, by decide +kernel⟩
theorem im_X9_place : Cond.instanceMethod yX9_place ∈ Tg := Tg_of (i := 1695) (by decide +kernel) (by decide +kernel)
theorem se_X9_X9_place : Cond.selects RX9 yX9_place yX9_place ∈ Tg := Tg_of (i := 1696) (by decide +kernel) (by decide +kernel)
theorem cw_L_remove : Cond.codeWith yL_remove cL_remove 4 (some .int) [(0, 9, 12, 28), (0, 9, 15, 15)] ∈ Tg := Tg_of (i := 1128) (by decide +kernel) (by decide +kernel)
theorem sm_L_remove : Cond.static yL_remove ∈ Tg := Tg_of (i := 1127) (by decide +kernel) (by decide +kernel)
theorem ml_L_184 : Cond.methodLink RL 184 yL_remove ∈ Tg := Tg_of (i := 1126) (by decide +kernel) (by decide +kernel)
theorem ml_L_186 : Cond.methodLink RL 186 yX9_remove ∈ Tg := Tg_of (i := 1730) (by decide +kernel) (by decide +kernel)
theorem lk_L_186 : Lk RL 186 yX9_remove cX9_remove 2 (some .int) 1 := ⟨ml_L_186, cd_X9_remove, iw_X9, by decide +kernel⟩
theorem im_X9_remove : Cond.instanceMethod yX9_remove ∈ Tg := Tg_of (i := 1731) (by decide +kernel) (by decide +kernel)
theorem se_X9_X9_remove : Cond.selects RX9 yX9_remove yX9_remove ∈ Tg := Tg_of (i := 1732) (by decide +kernel) (by decide +kernel)
theorem cw_L_lock : Cond.codeWith yL_lock cL_lock 4 (some .int) [(0, 9, 12, 28), (0, 9, 15, 15)] ∈ Tg := Tg_of (i := 1140) (by decide +kernel) (by decide +kernel)
theorem sm_L_lock : Cond.static yL_lock ∈ Tg := Tg_of (i := 1139) (by decide +kernel) (by decide +kernel)
theorem ml_L_187 : Cond.methodLink RL 187 yL_lock ∈ Tg := Tg_of (i := 1138) (by decide +kernel) (by decide +kernel)
theorem ml_L_189 : Cond.methodLink RL 189 yX9_lock ∈ Tg := Tg_of (i := 1738) (by decide +kernel) (by decide +kernel)
theorem lk_L_189 : Lk RL 189 yX9_lock cX9_lock 2 (some .int) 1 := ⟨ml_L_189, cd_X9_lock, iw_X9, by decide +kernel⟩
theorem im_X9_lock : Cond.instanceMethod yX9_lock ∈ Tg := Tg_of (i := 1739) (by decide +kernel) (by decide +kernel)
theorem se_X9_X9_lock : Cond.selects RX9 yX9_lock yX9_lock ∈ Tg := Tg_of (i := 1740) (by decide +kernel) (by decide +kernel)
theorem cw_L_unlock : Cond.codeWith yL_unlock cL_unlock 4 (some .int) [(0, 9, 12, 28), (0, 9, 15, 15)] ∈ Tg := Tg_of (i := 1151) (by decide +kernel) (by decide +kernel)
theorem sm_L_unlock : Cond.static yL_unlock ∈ Tg := Tg_of (i := 1150) (by decide +kernel) (by decide +kernel)
theorem ml_L_190 : Cond.methodLink RL 190 yL_unlock ∈ Tg := Tg_of (i := 1149) (by decide +kernel) (by decide +kernel)
theorem ml_L_192 : Cond.methodLink RL 192 yX9_unlock ∈ Tg := Tg_of (i := 1746) (by decide +kernel) (by decide +kernel)
theorem lk_L_192 : Lk RL 192 yX9_unlock cX9_unlock 2 (some .int) 1 := ⟨ml_L_192, cd_X9_unlock, iw_X9, by decide +kernel⟩
theorem im_X9_unlock : Cond.instanceMethod yX9_unlock ∈ Tg := Tg_of (i := 1747) (by decide +kernel) (by decide +kernel)
theorem se_X9_X9_unlock : Cond.selects RX9 yX9_unlock yX9_unlock ∈ Tg := Tg_of (i := 1748) (by decide +kernel) (by decide +kernel)
theorem cw_L_isLocked : Cond.codeWith yL_isLocked cL_isLocked 4 (some .int) [(0, 16, 19, 28)] ∈ Tg := Tg_of (i := 1159) (by decide +kernel) (by decide +kernel)
theorem sm_L_isLocked : Cond.static yL_isLocked ∈ Tg := Tg_of (i := 1158) (by decide +kernel) (by decide +kernel)
theorem ml_L_193 : Cond.methodLink RL 193 yL_isLocked ∈ Tg := Tg_of (i := 1157) (by decide +kernel) (by decide +kernel)
theorem ml_L_195 : Cond.methodLink RL 195 yX9_isLocked ∈ Tg := Tg_of (i := 1750) (by decide +kernel) (by decide +kernel)
theorem lk_L_195 : Lk RL 195 yX9_isLocked cX9_isLocked 2 (some .boolean) 1 := ⟨ml_L_195, cd_X9_isLocked, iw_X9, by decide +kernel⟩
theorem im_X9_isLocked : Cond.instanceMethod yX9_isLocked ∈ Tg := Tg_of (i := 1751) (by decide +kernel) (by decide +kernel)
theorem se_X9_X9_isLocked : Cond.selects RX9 yX9_isLocked yX9_isLocked ∈ Tg := Tg_of (i := 1752) (by decide +kernel) (by decide +kernel)
theorem cw_L_placeOf : Cond.codeWith yL_placeOf cL_placeOf 4 (some .int) [(0, 9, 12, 28), (0, 9, 15, 44)] ∈ Tg := Tg_of (i := 1166) (by decide +kernel) (by decide +kernel)
theorem sm_L_placeOf : Cond.static yL_placeOf ∈ Tg := Tg_of (i := 1165) (by decide +kernel) (by decide +kernel)
theorem ml_L_196 : Cond.methodLink RL 196 yL_placeOf ∈ Tg := Tg_of (i := 1164) (by decide +kernel) (by decide +kernel)
theorem ml_L_198 : Cond.methodLink RL 198 yX9_placeOf ∈ Tg := Tg_of (i := 1754) (by decide +kernel) (by decide +kernel)
theorem lk_L_198 : Lk RL 198 yX9_placeOf cX9_placeOf 2 (some .int) 1 := ⟨ml_L_198, cd_X9_placeOf, iw_X9, by decide +kernel⟩
theorem im_X9_placeOf : Cond.instanceMethod yX9_placeOf ∈ Tg := Tg_of (i := 1755) (by decide +kernel) (by decide +kernel)
theorem se_X9_X9_placeOf : Cond.selects RX9 yX9_placeOf yX9_placeOf ∈ Tg := Tg_of (i := 1756) (by decide +kernel) (by decide +kernel)
theorem cw_L_groupAt : Cond.codeWith yL_groupAt cL_groupAt 5 (some .int) [(0, 10, 13, 28), (0, 10, 17, 13), (0, 10, 21, 44)] ∈ Tg := Tg_of (i := 1177) (by decide +kernel) (by decide +kernel)
theorem sm_L_groupAt : Cond.static yL_groupAt ∈ Tg := Tg_of (i := 1176) (by decide +kernel) (by decide +kernel)
theorem ml_L_199 : Cond.methodLink RL 199 yL_groupAt ∈ Tg := Tg_of (i := 1175) (by decide +kernel) (by decide +kernel)
theorem ml_L_201 : Cond.methodLink RL 201 yX9_groupAt ∈ Tg := Tg_of (i := 1758) (by decide +kernel) (by decide +kernel)
theorem lk_L_201 : Lk RL 201 yX9_groupAt cX9_groupAt 4 (some .int) 2 := ⟨ml_L_201, cd_X9_groupAt, iw_X9, by decide +kernel⟩
theorem im_X9_groupAt : Cond.instanceMethod yX9_groupAt ∈ Tg := Tg_of (i := 1759) (by decide +kernel) (by decide +kernel)
theorem se_X9_X9_groupAt : Cond.selects RX9 yX9_groupAt yX9_groupAt ∈ Tg := Tg_of (i := 1760) (by decide +kernel) (by decide +kernel)
theorem cw_L_teacherAt : Cond.codeWith yL_teacherAt cL_teacherAt 5 (some .int) [(0, 10, 13, 28), (0, 10, 17, 13), (0, 10, 21, 44)] ∈ Tg := Tg_of (i := 1186) (by decide +kernel) (by decide +kernel)
theorem sm_L_teacherAt : Cond.static yL_teacherAt ∈ Tg := Tg_of (i := 1185) (by decide +kernel) (by decide +kernel)
theorem ml_L_202 : Cond.methodLink RL 202 yL_teacherAt ∈ Tg := Tg_of (i := 1184) (by decide +kernel) (by decide +kernel)
theorem ml_L_204 : Cond.methodLink RL 204 yX9_teacherAt ∈ Tg := Tg_of (i := 1766) (by decide +kernel) (by decide +kernel)
theorem lk_L_204 : Lk RL 204 yX9_teacherAt cX9_teacherAt 4 (some .int) 2 := ⟨ml_L_204, cd_X9_teacherAt, iw_X9, by decide +kernel⟩
theorem im_X9_teacherAt : Cond.instanceMethod yX9_teacherAt ∈ Tg := Tg_of (i := 1767) (by decide +kernel) (by decide +kernel)
theorem se_X9_X9_teacherAt : Cond.selects RX9 yX9_teacherAt yX9_teacherAt ∈ Tg := Tg_of (i := 1768) (by decide +kernel) (by decide +kernel)
theorem cw_L_possible : Cond.codeWith yL_possible cL_possible 4 (some .int) [(0, 9, 12, 28)] ∈ Tg := Tg_of (i := 1194) (by decide +kernel) (by decide +kernel)
theorem sm_L_possible : Cond.static yL_possible ∈ Tg := Tg_of (i := 1193) (by decide +kernel) (by decide +kernel)
theorem ml_L_205 : Cond.methodLink RL 205 yL_possible ∈ Tg := Tg_of (i := 1192) (by decide +kernel) (by decide +kernel)
theorem ml_L_207 : Cond.methodLink RL 207 yX9_possible ∈ Tg := Tg_of (i := 1770) (by decide +kernel) (by decide +kernel)
theorem lk_L_207 : Lk RL 207 yX9_possible cX9_possible 2 (some .int) 1 := ⟨ml_L_207, cd_X9_possible, iw_X9, by decide +kernel⟩
theorem im_X9_possible : Cond.instanceMethod yX9_possible ∈ Tg := Tg_of (i := 1771) (by decide +kernel) (by decide +kernel)
theorem se_X9_X9_possible : Cond.selects RX9 yX9_possible yX9_possible ∈ Tg := Tg_of (i := 1772) (by decide +kernel) (by decide +kernel)
theorem cw_L_possibleAt : Cond.codeWith yL_possibleAt cL_possibleAt 5 (some .int) [(0, 10, 13, 28), (0, 10, 17, 44)] ∈ Tg := Tg_of (i := 1202) (by decide +kernel) (by decide +kernel)
theorem sm_L_possibleAt : Cond.static yL_possibleAt ∈ Tg := Tg_of (i := 1201) (by decide +kernel) (by decide +kernel)
theorem ml_L_208 : Cond.methodLink RL 208 yL_possibleAt ∈ Tg := Tg_of (i := 1200) (by decide +kernel) (by decide +kernel)
theorem ml_L_210 : Cond.methodLink RL 210 yX9_possibleAt ∈ Tg := Tg_of (i := 1782) (by decide +kernel) (by decide +kernel)
theorem lk_L_210 : Lk RL 210 yX9_possibleAt cX9_possibleAt 5 (some .int) 2 := ⟨ml_L_210, cd_X9_possibleAt, iw_X9, by decide +kernel⟩
theorem im_X9_possibleAt : Cond.instanceMethod yX9_possibleAt ∈ Tg := Tg_of (i := 1783) (by decide +kernel) (by decide +kernel)
theorem se_X9_X9_possibleAt : Cond.selects RX9 yX9_possibleAt yX9_possibleAt ∈ Tg := Tg_of (i := 1784) (by decide +kernel) (by decide +kernel)
theorem cw_L_cheapest : Cond.codeWith yL_cheapest cL_cheapest 4 (some .int) [(0, 9, 12, 28), (0, 9, 15, 44)] ∈ Tg := Tg_of (i := 1218) (by decide +kernel) (by decide +kernel)
theorem sm_L_cheapest : Cond.static yL_cheapest ∈ Tg := Tg_of (i := 1217) (by decide +kernel) (by decide +kernel)
theorem ml_L_211 : Cond.methodLink RL 211 yL_cheapest ∈ Tg := Tg_of (i := 1216) (by decide +kernel) (by decide +kernel)
theorem ml_L_213 : Cond.methodLink RL 213 yX9_cheapest ∈ Tg := Tg_of (i := 1786) (by decide +kernel) (by decide +kernel)
theorem lk_L_213 : Lk RL 213 yX9_cheapest cX9_cheapest 3 (some .int) 1 := ⟨ml_L_213, cd_X9_cheapest, iw_X9, by decide +kernel⟩
theorem im_X9_cheapest : Cond.instanceMethod yX9_cheapest ∈ Tg := Tg_of (i := 1787) (by decide +kernel) (by decide +kernel)
theorem se_X9_X9_cheapest : Cond.selects RX9 yX9_cheapest yX9_cheapest ∈ Tg := Tg_of (i := 1788) (by decide +kernel) (by decide +kernel)
theorem cw_L_costWith : Cond.codeWith yL_costWith cL_costWith 6 (some .int) [(0, 12, 15, 28), (0, 12, 19, 13), (0, 12, 23, 49)] ∈ Tg := Tg_of (i := 1227) (by decide +kernel) (by decide +kernel)
theorem sm_L_costWith : Cond.static yL_costWith ∈ Tg := Tg_of (i := 1226) (by decide +kernel) (by decide +kernel)
theorem ml_L_214 : Cond.methodLink RL 214 yL_costWith ∈ Tg := Tg_of (i := 1225) (by decide +kernel) (by decide +kernel)
theorem ml_L_216 : Cond.methodLink RL 216 yX9_costWith ∈ Tg := Tg_of (i := 1798) (by decide +kernel) (by decide +kernel)
theorem lk_L_216 : Lk RL 216 yX9_costWith cX9_costWith 4 (some .int) 3 := ⟨ml_L_216, cd_X9_costWith, iw_X9, by decide +kernel⟩
theorem im_X9_costWith : Cond.instanceMethod yX9_costWith ∈ Tg := Tg_of (i := 1799) (by decide +kernel) (by decide +kernel)
theorem se_X9_X9_costWith : Cond.selects RX9 yX9_costWith yX9_costWith ∈ Tg := Tg_of (i := 1800) (by decide +kernel) (by decide +kernel)
theorem cw_L_hardest : Cond.codeWith yL_hardest cL_hardest 3 (some .int) [(0, 8, 11, 44)] ∈ Tg := Tg_of (i := 1239) (by decide +kernel) (by decide +kernel)
theorem sm_L_hardest : Cond.static yL_hardest ∈ Tg := Tg_of (i := 1238) (by decide +kernel) (by decide +kernel)
theorem ml_L_217 : Cond.methodLink RL 217 yL_hardest ∈ Tg := Tg_of (i := 1237) (by decide +kernel) (by decide +kernel)
theorem ml_L_220 : Cond.methodLink RL 220 yX9_hardest ∈ Tg := Tg_of (i := 1802) (by decide +kernel) (by decide +kernel)
theorem lk_L_220 : Lk RL 220 yX9_hardest cX9_hardest 2 (some .int) 0 := ⟨ml_L_220, cd_X9_hardest, iw_X9, by decide +kernel⟩
theorem im_X9_hardest : Cond.instanceMethod yX9_hardest ∈ Tg := Tg_of (i := 1803) (by decide +kernel) (by decide +kernel)
theorem se_X9_X9_hardest : Cond.selects RX9 yX9_hardest yX9_hardest ∈ Tg := Tg_of (i := 1804) (by decide +kernel) (by decide +kernel)
theorem ml_L_221 : Cond.methodLink RL 221 yX8_fill ∈ Tg := Tg_of (i := 253) (by decide +kernel) (by decide +kernel)
theorem lk_L_221 : Lk RL 221 yX8_fill cX8_fill 1 (some .int) 0 := ⟨ml_L_221, cd_X8_fill, iw_X8, by decide +kernel⟩
theorem im_X8_fill : Cond.instanceMethod yX8_fill ∈ Tg := Tg_of (i := 254) (by decide +kernel) (by decide +kernel)
theorem se_X8_X8_fill : Cond.selects RX8 yX8_fill yX8_fill ∈ Tg := Tg_of (i := 255) (by decide +kernel) (by decide +kernel)
theorem ml_L_224 : Cond.methodLink RL 224 yX9_fill ∈ Tg := Tg_of (i := 1814) (by decide +kernel) (by decide +kernel)
theorem lk_L_224 : Lk RL 224 yX9_fill cX9_fill 7 (some .int) 0 := ⟨ml_L_224, cd_X9_fill, iw_X9, by decide +kernel⟩
theorem im_X9_fill : Cond.instanceMethod yX9_fill ∈ Tg := Tg_of (i := 1815) (by decide +kernel) (by decide +kernel)
theorem se_X9_X9_fill : Cond.selects RX9 yX9_fill yX9_fill ∈ Tg := Tg_of (i := 1816) (by decide +kernel) (by decide +kernel)
theorem cw_L_improve : Cond.codeWith yL_improve cL_improve 4 (some .int) [(0, 9, 12, 13)] ∈ Tg := Tg_of (i := 1248) (by decide +kernel) (by decide +kernel)
theorem sm_L_improve : Cond.static yL_improve ∈ Tg := Tg_of (i := 1247) (by decide +kernel) (by decide +kernel)
theorem ml_L_225 : Cond.methodLink RL 225 yL_improve ∈ Tg := Tg_of (i := 1246) (by decide +kernel) (by decide +kernel)
theorem ml_L_227 : Cond.methodLink RL 227 yX9_improve ∈ Tg := Tg_of (i := 1826) (by decide +kernel) (by decide +kernel)
theorem lk_L_227 : Lk RL 227 yX9_improve cX9_improve 6 (some .int) 1 := ⟨ml_L_227, cd_X9_improve, iw_X9, by decide +kernel⟩
theorem im_X9_improve : Cond.instanceMethod yX9_improve ∈ Tg := Tg_of (i := 1827) (by decide +kernel) (by decide +kernel)
theorem se_X9_X9_improve : Cond.selects RX9 yX9_improve yX9_improve ∈ Tg := Tg_of (i := 1828) (by decide +kernel) (by decide +kernel)
theorem ml_L_228 : Cond.methodLink RL 228 yX8_cost ∈ Tg := Tg_of (i := 460) (by decide +kernel) (by decide +kernel)
theorem lk_L_228 : Lk RL 228 yX8_cost cX8_cost 1 (some .int) 0 := ⟨ml_L_228, cd_X8_cost, iw_X8, by decide +kernel⟩
theorem ml_L_231 : Cond.methodLink RL 231 yX9_cost ∈ Tg := Tg_of (i := 1838) (by decide +kernel) (by decide +kernel)
theorem lk_L_231 : Lk RL 231 yX9_cost cX9_cost 1 (some .int) 0 := ⟨ml_L_231, cd_X9_cost, iw_X9, by decide +kernel⟩
theorem im_X9_cost : Cond.instanceMethod yX9_cost ∈ Tg := Tg_of (i := 1839) (by decide +kernel) (by decide +kernel)
theorem se_X9_X9_cost : Cond.selects RX9 yX9_cost yX9_cost ∈ Tg := Tg_of (i := 1840) (by decide +kernel) (by decide +kernel)
theorem ml_L_232 : Cond.methodLink RL 232 yX8_costAnew ∈ Tg := Tg_of (i := 469) (by decide +kernel) (by decide +kernel)
theorem lk_L_232 : Lk RL 232 yX8_costAnew cX8_costAnew 3 (some .int) 0 := ⟨ml_L_232, cd_X8_costAnew, iw_X8, by decide +kernel⟩
theorem ml_L_235 : Cond.methodLink RL 235 yX9_costAnew ∈ Tg := Tg_of (i := 1842) (by decide +kernel) (by decide +kernel)
theorem lk_L_235 : Lk RL 235 yX9_costAnew cX9_costAnew 1 (some .int) 0 := ⟨ml_L_235, cd_X9_costAnew, iw_X9, by decide +kernel⟩
theorem im_X9_costAnew : Cond.instanceMethod yX9_costAnew ∈ Tg := Tg_of (i := 1843) (by decide +kernel) (by decide +kernel)
theorem se_X9_X9_costAnew : Cond.selects RX9 yX9_costAnew yX9_costAnew ∈ Tg := Tg_of (i := 1844) (by decide +kernel) (by decide +kernel)
theorem cw_L_amount : Cond.codeWith yL_amount cL_amount 4 (some .int) [(0, 9, 12, 13)] ∈ Tg := Tg_of (i := 1306) (by decide +kernel) (by decide +kernel)
theorem sm_L_amount : Cond.static yL_amount ∈ Tg := Tg_of (i := 1305) (by decide +kernel) (by decide +kernel)
theorem ml_L_236 : Cond.methodLink RL 236 yL_amount ∈ Tg := Tg_of (i := 1304) (by decide +kernel) (by decide +kernel)
theorem ml_L_238 : Cond.methodLink RL 238 yX9_amount ∈ Tg := Tg_of (i := 1846) (by decide +kernel) (by decide +kernel)
theorem lk_L_238 : Lk RL 238 yX9_amount cX9_amount 2 (some .int) 1 := ⟨ml_L_238, cd_X9_amount, iw_X9, by decide +kernel⟩
theorem im_X9_amount : Cond.instanceMethod yX9_amount ∈ Tg := Tg_of (i := 1847) (by decide +kernel) (by decide +kernel)
theorem se_X9_X9_amount : Cond.selects RX9 yX9_amount yX9_amount ∈ Tg := Tg_of (i := 1848) (by decide +kernel) (by decide +kernel)
theorem ml_L_239 : Cond.methodLink RL 239 yX8_breaks ∈ Tg := Tg_of (i := 516) (by decide +kernel) (by decide +kernel)
theorem lk_L_239 : Lk RL 239 yX8_breaks cX8_breaks 1 (some .int) 0 := ⟨ml_L_239, cd_X8_breaks, iw_X8, by decide +kernel⟩
theorem ml_L_242 : Cond.methodLink RL 242 yX9_breaks ∈ Tg := Tg_of (i := 1850) (by decide +kernel) (by decide +kernel)
theorem lk_L_242 : Lk RL 242 yX9_breaks cX9_breaks 3 (some .int) 0 := ⟨ml_L_242, cd_X9_breaks, iw_X9, by decide +kernel⟩
theorem im_X9_breaks : Cond.instanceMethod yX9_breaks ∈ Tg := Tg_of (i := 1851) (by decide +kernel) (by decide +kernel)
theorem se_X9_X9_breaks : Cond.selects RX9 yX9_breaks yX9_breaks ∈ Tg := Tg_of (i := 1852) (by decide +kernel) (by decide +kernel)
theorem cw_L_lacking : Cond.codeWith yL_lacking cL_lacking 4 (some .int) [(0, 9, 12, 13)] ∈ Tg := Tg_of (i := 1314) (by decide +kernel) (by decide +kernel)
theorem sm_L_lacking : Cond.static yL_lacking ∈ Tg := Tg_of (i := 1313) (by decide +kernel) (by decide +kernel)
theorem ml_L_243 : Cond.methodLink RL 243 yL_lacking ∈ Tg := Tg_of (i := 1312) (by decide +kernel) (by decide +kernel)
theorem ml_L_245 : Cond.methodLink RL 245 yX9_lacking ∈ Tg := Tg_of (i := 1854) (by decide +kernel) (by decide +kernel)
theorem lk_L_245 : Lk RL 245 yX9_lacking cX9_lacking 4 (some .int) 1 := ⟨ml_L_245, cd_X9_lacking, iw_X9, by decide +kernel⟩
theorem cw_L_lackingBySeats : Cond.codeWith yL_lackingBySeats cL_lackingBySeats 4 (some .int) [(0, 9, 12, 13)] ∈ Tg := Tg_of (i := 1325) (by decide +kernel) (by decide +kernel)
theorem sm_L_lackingBySeats : Cond.static yL_lackingBySeats ∈ Tg := Tg_of (i := 1324) (by decide +kernel) (by decide +kernel)
theorem ml_L_246 : Cond.methodLink RL 246 yL_lackingBySeats ∈ Tg := Tg_of (i := 1323) (by decide +kernel) (by decide +kernel)
theorem ml_L_248 : Cond.methodLink RL 248 yX9_lackingBySeats ∈ Tg := Tg_of (i := 1862) (by decide +kernel) (by decide +kernel)
theorem lk_L_248 : Lk RL 248 yX9_lackingBySeats cX9_lackingBySeats 2 (some .int) 1 := ⟨ml_L_248, cd_X9_lackingBySeats, iw_X9, by decide +kernel⟩
theorem im_X9_lackingBySeats : Cond.instanceMethod yX9_lackingBySeats ∈ Tg := Tg_of (i := 1863) (by decide +kernel) (by decide +kernel)
theorem se_X9_X9_lackingBySeats : Cond.selects RX9 yX9_lackingBySeats yX9_lackingBySeats ∈ Tg := Tg_of (i := 1864) (by decide +kernel) (by decide +kernel)
theorem cw_L_ill : Cond.codeWith yL_ill cL_ill 5 (some .int) [(0, 10, 13, 28), (0, 10, 17, 13), (0, 10, 21, 15), (0, 10, 25, 49)] ∈ Tg := Tg_of (i := 1332) (by decide +kernel) (by decide +kernel)
theorem sm_L_ill : Cond.static yL_ill ∈ Tg := Tg_of (i := 1331) (by decide +kernel) (by decide +kernel)
theorem ml_L_249 : Cond.methodLink RL 249 yL_ill ∈ Tg := Tg_of (i := 1330) (by decide +kernel) (by decide +kernel)
theorem ml_L_251 : Cond.methodLink RL 251 yX9_ill ∈ Tg := Tg_of (i := 1867) (by decide +kernel) (by decide +kernel)
theorem lk_L_251 : Lk RL 251 yX9_ill cX9_ill 5 (some .int) 2 := ⟨ml_L_251, cd_X9_ill, iw_X9, by decide +kernel⟩
theorem im_X9_ill : Cond.instanceMethod yX9_ill ∈ Tg := Tg_of (i := 1868) (by decide +kernel) (by decide +kernel)
theorem se_X9_X9_ill : Cond.selects RX9 yX9_ill yX9_ill ∈ Tg := Tg_of (i := 1869) (by decide +kernel) (by decide +kernel)
theorem cw_L_close : Cond.codeWith yL_close cL_close 4 (some .int) [(0, 9, 12, 28), (0, 9, 15, 15), (0, 9, 18, 49)] ∈ Tg := Tg_of (i := 1352) (by decide +kernel) (by decide +kernel)
theorem sm_L_close : Cond.static yL_close ∈ Tg := Tg_of (i := 1351) (by decide +kernel) (by decide +kernel)
theorem ml_L_252 : Cond.methodLink RL 252 yL_close ∈ Tg := Tg_of (i := 1350) (by decide +kernel) (by decide +kernel)
theorem ml_L_254 : Cond.methodLink RL 254 yX9_close ∈ Tg := Tg_of (i := 1879) (by decide +kernel) (by decide +kernel)
theorem lk_L_254 : Lk RL 254 yX9_close cX9_close 4 (some .int) 1 := ⟨ml_L_254, cd_X9_close, iw_X9, by decide +kernel⟩
theorem im_X9_close : Cond.instanceMethod yX9_close ∈ Tg := Tg_of (i := 1880) (by decide +kernel) (by decide +kernel)
theorem se_X9_X9_close : Cond.selects RX9 yX9_close yX9_close ∈ Tg := Tg_of (i := 1881) (by decide +kernel) (by decide +kernel)
theorem cw_L_open : Cond.codeWith yL_open cL_open 4 (some .int) [(0, 9, 12, 28), (0, 9, 15, 15)] ∈ Tg := Tg_of (i := 1366) (by decide +kernel) (by decide +kernel)
theorem sm_L_open : Cond.static yL_open ∈ Tg := Tg_of (i := 1365) (by decide +kernel) (by decide +kernel)
theorem ml_L_255 : Cond.methodLink RL 255 yL_open ∈ Tg := Tg_of (i := 1364) (by decide +kernel) (by decide +kernel)
theorem ml_L_257 : Cond.methodLink RL 257 yX9_open ∈ Tg := Tg_of (i := 1883) (by decide +kernel) (by decide +kernel)
theorem lk_L_257 : Lk RL 257 yX9_open cX9_open 4 (some .int) 1 := ⟨ml_L_257, cd_X9_open, iw_X9, by decide +kernel⟩
theorem im_X9_open : Cond.instanceMethod yX9_open ∈ Tg := Tg_of (i := 1884) (by decide +kernel) (by decide +kernel)
theorem se_X9_X9_open : Cond.selects RX9 yX9_open yX9_open ∈ Tg := Tg_of (i := 1885) (by decide +kernel) (by decide +kernel)
theorem cw_L_passDay : Cond.codeWith yL_passDay cL_passDay 3 (some .int) [(0, 8, 11, 15)] ∈ Tg := Tg_of (i := 1374) (by decide +kernel) (by decide +kernel)
theorem sm_L_passDay : Cond.static yL_passDay ∈ Tg := Tg_of (i := 1373) (by decide +kernel) (by decide +kernel)
theorem ml_L_258 : Cond.methodLink RL 258 yL_passDay ∈ Tg := Tg_of (i := 1372) (by decide +kernel) (by decide +kernel)
theorem ml_L_260 : Cond.methodLink RL 260 yX9_passDay ∈ Tg := Tg_of (i := 1887) (by decide +kernel) (by decide +kernel)
theorem lk_L_260 : Lk RL 260 yX9_passDay cX9_passDay 1 (some .int) 0 := ⟨ml_L_260, cd_X9_passDay, iw_X9, by decide +kernel⟩
theorem im_X9_passDay : Cond.instanceMethod yX9_passDay ∈ Tg := Tg_of (i := 1888) (by decide +kernel) (by decide +kernel)
theorem se_X9_X9_passDay : Cond.selects RX9 yX9_passDay yX9_passDay ∈ Tg := Tg_of (i := 1889) (by decide +kernel) (by decide +kernel)
theorem cw_L_nextWeek : Cond.codeWith yL_nextWeek cL_nextWeek 3 (some .int) [(0, 8, 11, 15)] ∈ Tg := Tg_of (i := 1382) (by decide +kernel) (by decide +kernel)
theorem sm_L_nextWeek : Cond.static yL_nextWeek ∈ Tg := Tg_of (i := 1381) (by decide +kernel) (by decide +kernel)
theorem ml_L_261 : Cond.methodLink RL 261 yL_nextWeek ∈ Tg := Tg_of (i := 1380) (by decide +kernel) (by decide +kernel)
theorem ml_L_263 : Cond.methodLink RL 263 yX9_nextWeek ∈ Tg := Tg_of (i := 1891) (by decide +kernel) (by decide +kernel)
theorem lk_L_263 : Lk RL 263 yX9_nextWeek cX9_nextWeek 3 (some .int) 0 := ⟨ml_L_263, cd_X9_nextWeek, iw_X9, by decide +kernel⟩
theorem im_X9_nextWeek : Cond.instanceMethod yX9_nextWeek ∈ Tg := Tg_of (i := 1892) (by decide +kernel) (by decide +kernel)
theorem se_X9_X9_nextWeek : Cond.selects RX9 yX9_nextWeek yX9_nextWeek ∈ Tg := Tg_of (i := 1893) (by decide +kernel) (by decide +kernel)
theorem ml_L_264 : Cond.methodLink RL 264 yX8_today ∈ Tg := Tg_of (i := 537) (by decide +kernel) (by decide +kernel)
theorem lk_L_264 : Lk RL 264 yX8_today cX8_today 1 (some .int) 0 := ⟨ml_L_264, cd_X8_today, iw_X8, by decide +kernel⟩
theorem im_X8_today : Cond.instanceMethod yX8_today ∈ Tg := Tg_of (i := 538) (by decide +kernel) (by decide +kernel)
theorem se_X8_X8_today : Cond.selects RX8 yX8_today yX8_today ∈ Tg := Tg_of (i := 539) (by decide +kernel) (by decide +kernel)
theorem ml_L_267 : Cond.methodLink RL 267 yX9_today ∈ Tg := Tg_of (i := 1895) (by decide +kernel) (by decide +kernel)
theorem lk_L_267 : Lk RL 267 yX9_today cX9_today 1 (some .int) 0 := ⟨ml_L_267, cd_X9_today, iw_X9, by decide +kernel⟩
theorem im_X9_today : Cond.instanceMethod yX9_today ∈ Tg := Tg_of (i := 1896) (by decide +kernel) (by decide +kernel)
theorem se_X9_X9_today : Cond.selects RX9 yX9_today yX9_today ∈ Tg := Tg_of (i := 1897) (by decide +kernel) (by decide +kernel)
theorem cw_L_account : Cond.codeWith yL_account cL_account 4 (some .int) [(0, 9, 12, 28)] ∈ Tg := Tg_of (i := 1399) (by decide +kernel) (by decide +kernel)
theorem sm_L_account : Cond.static yL_account ∈ Tg := Tg_of (i := 1398) (by decide +kernel) (by decide +kernel)
theorem ml_L_268 : Cond.methodLink RL 268 yL_account ∈ Tg := Tg_of (i := 1397) (by decide +kernel) (by decide +kernel)
theorem ml_L_270 : Cond.methodLink RL 270 yX9_account ∈ Tg := Tg_of (i := 1899) (by decide +kernel) (by decide +kernel)
theorem lk_L_270 : Lk RL 270 yX9_account cX9_account 2 (some .int) 1 := ⟨ml_L_270, cd_X9_account, iw_X9, by decide +kernel⟩
theorem im_X9_account : Cond.instanceMethod yX9_account ∈ Tg := Tg_of (i := 1900) (by decide +kernel) (by decide +kernel)
theorem se_X9_X9_account : Cond.selects RX9 yX9_account yX9_account ∈ Tg := Tg_of (i := 1901) (by decide +kernel) (by decide +kernel)
theorem cw_L_save : Cond.codeWith yL_save cL_save 3 (some .int) [(0, 8, 11, 15)] ∈ Tg := Tg_of (i := 1406) (by decide +kernel) (by decide +kernel)
theorem sm_L_save : Cond.static yL_save ∈ Tg := Tg_of (i := 1405) (by decide +kernel) (by decide +kernel)
theorem ml_L_271 : Cond.methodLink RL 271 yL_save ∈ Tg := Tg_of (i := 1404) (by decide +kernel) (by decide +kernel)
theorem ml_L_273 : Cond.methodLink RL 273 yX9_save ∈ Tg := Tg_of (i := 1903) (by decide +kernel) (by decide +kernel)
theorem lk_L_273 : Lk RL 273 yX9_save cX9_save 2 (some .int) 0 := ⟨ml_L_273, cd_X9_save, iw_X9, by decide +kernel⟩
theorem im_X9_save : Cond.instanceMethod yX9_save ∈ Tg := Tg_of (i := 1904) (by decide +kernel) (by decide +kernel)
theorem se_X9_X9_save : Cond.selects RX9 yX9_save yX9_save ∈ Tg := Tg_of (i := 1905) (by decide +kernel) (by decide +kernel)
theorem cw_L_placeIn : Cond.codeWith yL_placeIn cL_placeIn 5 (some .int) [(0, 10, 13, 44), (0, 10, 17, 28)] ∈ Tg := Tg_of (i := 1415) (by decide +kernel) (by decide +kernel)
theorem sm_L_placeIn : Cond.static yL_placeIn ∈ Tg := Tg_of (i := 1414) (by decide +kernel) (by decide +kernel)
theorem ml_L_274 : Cond.methodLink RL 274 yL_placeIn ∈ Tg := Tg_of (i := 1413) (by decide +kernel) (by decide +kernel)
theorem ml_L_276 : Cond.methodLink RL 276 yX9_placeIn ∈ Tg := Tg_of (i := 1907) (by decide +kernel) (by decide +kernel)
theorem lk_L_276 : Lk RL 276 yX9_placeIn cX9_placeIn 3 (some .int) 2 := ⟨ml_L_276, cd_X9_placeIn, iw_X9, by decide +kernel⟩
theorem im_X9_placeIn : Cond.instanceMethod yX9_placeIn ∈ Tg := Tg_of (i := 1908) (by decide +kernel) (by decide +kernel)
theorem se_X9_X9_placeIn : Cond.selects RX9 yX9_placeIn yX9_placeIn ∈ Tg := Tg_of (i := 1909) (by decide +kernel) (by decide +kernel)
theorem cw_L_differences : Cond.codeWith yL_differences cL_differences 5 (some .int) [(0, 10, 13, 44)] ∈ Tg := Tg_of (i := 1428) (by decide +kernel) (by decide +kernel)
theorem sm_L_differences : Cond.static yL_differences ∈ Tg := Tg_of (i := 1427) (by decide +kernel) (by decide +kernel)
theorem ml_L_277 : Cond.methodLink RL 277 yL_differences ∈ Tg := Tg_of (i := 1426) (by decide +kernel) (by decide +kernel)
theorem ml_L_279 : Cond.methodLink RL 279 yX9_differences ∈ Tg := Tg_of (i := 1915) (by decide +kernel) (by decide +kernel)
theorem lk_L_279 : Lk RL 279 yX9_differences cX9_differences 5 (some .int) 2 := ⟨ml_L_279, cd_X9_differences, iw_X9, by decide +kernel⟩
theorem im_X9_differences : Cond.instanceMethod yX9_differences ∈ Tg := Tg_of (i := 1916) (by decide +kernel) (by decide +kernel)
theorem se_X9_X9_differences : Cond.selects RX9 yX9_differences yX9_differences ∈ Tg := Tg_of (i := 1917) (by decide +kernel) (by decide +kernel)
theorem cw_L_restore : Cond.codeWith yL_restore cL_restore 4 (some .int) [(0, 9, 12, 44)] ∈ Tg := Tg_of (i := 1435) (by decide +kernel) (by decide +kernel)
theorem sm_L_restore : Cond.static yL_restore ∈ Tg := Tg_of (i := 1434) (by decide +kernel) (by decide +kernel)
theorem ml_L_280 : Cond.methodLink RL 280 yL_restore ∈ Tg := Tg_of (i := 1433) (by decide +kernel) (by decide +kernel)
theorem ml_L_282 : Cond.methodLink RL 282 yX9_restore ∈ Tg := Tg_of (i := 1919) (by decide +kernel) (by decide +kernel)
theorem lk_L_282 : Lk RL 282 yX9_restore cX9_restore 4 (some .int) 1 := ⟨ml_L_282, cd_X9_restore, iw_X9, by decide +kernel⟩
theorem im_X9_restore : Cond.instanceMethod yX9_restore ∈ Tg := Tg_of (i := 1920) (by decide +kernel) (by decide +kernel)
theorem se_X9_X9_restore : Cond.selects RX9 yX9_restore yX9_restore ∈ Tg := Tg_of (i := 1921) (by decide +kernel) (by decide +kernel)
theorem cw_L_merge : Cond.codeWith yL_merge cL_merge 5 (some .int) [(0, 10, 13, 44)] ∈ Tg := Tg_of (i := 1447) (by decide +kernel) (by decide +kernel)
theorem sm_L_merge : Cond.static yL_merge ∈ Tg := Tg_of (i := 1446) (by decide +kernel) (by decide +kernel)
theorem ml_L_283 : Cond.methodLink RL 283 yL_merge ∈ Tg := Tg_of (i := 1445) (by decide +kernel) (by decide +kernel)
theorem ml_L_285 : Cond.methodLink RL 285 yX9_merge ∈ Tg := Tg_of (i := 1927) (by decide +kernel) (by decide +kernel)
theorem lk_L_285 : Lk RL 285 yX9_merge cX9_merge 7 (some .int) 2 := ⟨ml_L_285, cd_X9_merge, iw_X9, by decide +kernel⟩
theorem im_X9_merge : Cond.instanceMethod yX9_merge ∈ Tg := Tg_of (i := 1928) (by decide +kernel) (by decide +kernel)
theorem se_X9_X9_merge : Cond.selects RX9 yX9_merge yX9_merge ∈ Tg := Tg_of (i := 1929) (by decide +kernel) (by decide +kernel)
theorem cw_L_placedShare : Cond.codeWith yL_placedShare cL_placedShare 3 (some .int) [(0, 8, 11, 138)] ∈ Tg := Tg_of (i := 1454) (by decide +kernel) (by decide +kernel)
theorem sm_L_placedShare : Cond.static yL_placedShare ∈ Tg := Tg_of (i := 1453) (by decide +kernel) (by decide +kernel)
theorem ml_L_286 : Cond.methodLink RL 286 yL_placedShare ∈ Tg := Tg_of (i := 1452) (by decide +kernel) (by decide +kernel)
theorem ml_L_289 : Cond.methodLink RL 289 yX9_placedShare ∈ Tg := Tg_of (i := 1931) (by decide +kernel) (by decide +kernel)
theorem lk_L_289 : Lk RL 289 yX9_placedShare cX9_placedShare 3 (some .float) 0 := ⟨ml_L_289, cd_X9_placedShare, iw_X9, by decide +kernel⟩
theorem im_X9_placedShare : Cond.instanceMethod yX9_placedShare ∈ Tg := Tg_of (i := 1932) (by decide +kernel) (by decide +kernel)
theorem se_X9_X9_placedShare : Cond.selects RX9 yX9_placedShare yX9_placedShare ∈ Tg := Tg_of (i := 1933) (by decide +kernel) (by decide +kernel)
theorem cw_L_meanPossible : Cond.codeWith yL_meanPossible cL_meanPossible 3 (some .int) [(0, 7, 10, 138)] ∈ Tg := Tg_of (i := 1478) (by decide +kernel) (by decide +kernel)
theorem sm_L_meanPossible : Cond.static yL_meanPossible ∈ Tg := Tg_of (i := 1477) (by decide +kernel) (by decide +kernel)
theorem ml_L_290 : Cond.methodLink RL 290 yL_meanPossible ∈ Tg := Tg_of (i := 1476) (by decide +kernel) (by decide +kernel)
theorem ml_L_292 : Cond.methodLink RL 292 yX9_meanPossible ∈ Tg := Tg_of (i := 1935) (by decide +kernel) (by decide +kernel)
theorem lk_L_292 : Lk RL 292 yX9_meanPossible cX9_meanPossible 3 (some .double) 0 := ⟨ml_L_292, cd_X9_meanPossible, iw_X9, by decide +kernel⟩
theorem im_X9_meanPossible : Cond.instanceMethod yX9_meanPossible ∈ Tg := Tg_of (i := 1936) (by decide +kernel) (by decide +kernel)
theorem se_X9_X9_meanPossible : Cond.selects RX9 yX9_meanPossible yX9_meanPossible ∈ Tg := Tg_of (i := 1937) (by decide +kernel) (by decide +kernel)
theorem ml_L_293 : Cond.methodLink RL 293 yX8_isSound ∈ Tg := Tg_of (i := 541) (by decide +kernel) (by decide +kernel)
theorem lk_L_293 : Lk RL 293 yX8_isSound cX8_isSound 2 (some .boolean) 0 := ⟨ml_L_293, cd_X8_isSound, iw_X8, by decide +kernel⟩
theorem im_X8_isSound : Cond.instanceMethod yX8_isSound ∈ Tg := Tg_of (i := 542) (by decide +kernel) (by decide +kernel)
theorem se_X8_X8_isSound : Cond.selects RX8 yX8_isSound yX8_isSound ∈ Tg := Tg_of (i := 543) (by decide +kernel) (by decide +kernel)
theorem ml_L_297 : Cond.methodLink RL 297 yX9_isSound ∈ Tg := Tg_of (i := 1939) (by decide +kernel) (by decide +kernel)
theorem lk_L_297 : Lk RL 297 yX9_isSound cX9_isSound 1 (some .boolean) 0 := ⟨ml_L_297, cd_X9_isSound, iw_X9, by decide +kernel⟩
theorem im_X9_isSound : Cond.instanceMethod yX9_isSound ∈ Tg := Tg_of (i := 1940) (by decide +kernel) (by decide +kernel)
theorem se_X9_X9_isSound : Cond.selects RX9 yX9_isSound yX9_isSound ∈ Tg := Tg_of (i := 1941) (by decide +kernel) (by decide +kernel)
set_option maxRecDepth 100000 in
set_option maxHeartbeats 4000000 in
theorem law_c0 {p : Program} {l : Launch} {e : Env} {s : State} {m : MethodId} {args : Array Value} {below : List Frame} {meth : Method} {c : Code} {cells slots : Nat} {Q : State → Prop} {G : GG} {hs : Hs} {b L x0 m0 out outD : Nat} {xs : Nat → Int32} {v5 : Int32} {next : Hs → Prop} (C : Cx G l p s m args c RL cL_law 9) (hX : va_X b L xs s s.heap) (hbl : b < s.heap.size) (hbA : ¬ gA G b) (hj : vp_in (v5 + 1) L ∧ vp_in (v5 + 2) L ∧ vp_in (v5 + 3) L ∧ vp_in (v5 + 4) L ∧ vp_in (v5 + 5) L) (hcb : cells + 310 ≤ room_1.cells ∧ slots + 5000 ≤ room_1.slots) (hop : opI (f_L_addRoom (some x0) (xs (v5 + (1 : Int32)).toNatClampNeg) (xs (v5 + (2 : Int32)).toNatClampNeg) (xs (v5 + (3 : Int32)).toNatClampNeg) (some out)) (f_X9_addRoom m0 (xs (v5 + (1 : Int32)).toNatClampNeg) (xs (v5 + (2 : Int32)).toNatClampNeg) (xs (v5 + (3 : Int32)).toNatClampNeg)) m0 out next hs) (hn : ∀ hs2, next hs2 → WG G p l e room_1 s m args below meth c 9 (cells + 310) (slots + 5000) Q hs2 [(0, va_rf (some b)), (1, va_rf (some x0)), (2, va_rf (some m0)), (3, va_rf (some out)), (4, va_rf (some outD)), (5, .int v5)] [] 2696) : WG G p l e room_1 s m args below meth c 9 cells slots Q hs [(0, va_rf (some b)), (1, va_rf (some x0)), (2, va_rf (some m0)), (3, va_rf (some out)), (4, va_rf (some outD)), (5, .int v5)] [] 236 := by
  obtain ⟨k, hs1, hw, ⟨fm, hm0⟩, hop⟩ := hop
  refine q_aload_n C 1 dL_law_236 rfl ?_
  refine q_aload_n C 0 dL_law_237 rfl ?_
  refine q_iload C 5 dL_law_238 rfl ?_
  refine q_iconst C (1 : Int32) dL_law_240 (by decide) ?_
  refine q_iadd C dL_law_241 ?_
  refine q_scr C hX hbl hbA hj.1 dL_law_242 ?_
  refine q_aload_n C 0 dL_law_243 rfl ?_
  refine q_iload C 5 dL_law_244 rfl ?_
  refine q_iconst C (2 : Int32) dL_law_246 (by decide) ?_
  refine q_iadd C dL_law_247 ?_
  refine q_scr C hX hbl hbA hj.2.1 dL_law_248 ?_
  refine q_aload_n C 0 dL_law_249 rfl ?_
  refine q_iload C 5 dL_law_250 rfl ?_
  refine q_iconst C (3 : Int32) dL_law_252 (by decide) ?_
  refine q_iadd C dL_law_253 ?_
  refine q_scr C hX hbl hbA hj.2.2.1 dL_law_254 ?_
  refine q_aload_n C 3 dL_law_255 rfl ?_
  refine q_callL C (n := 5) [va_rf (some x0), .int (xs (v5 + (1 : Int32)).toNatClampNeg), .int (xs (v5 + (2 : Int32)).toNatClampNeg), .int (xs (v5 + (3 : Int32)).toNatClampNeg), va_rf (some out)] [] (m_L_addRoom hw) cw_L_addRoom ml_L_148 sm_L_addRoom iw_L (by decide +kernel) ⟨(Nat.le_of_ble_eq_true rfl), (Nat.le_of_ble_eq_true rfl)⟩ ⟨by omega, by omega⟩ rfl rfl (by decide) dL_law_256 (fun sz hbd => ?_)
  obtain ⟨bb, hs2, hmm, ⟨fm2, hm2⟩, hth, hcmp, hnx⟩ := hop sz hbd
  refine q_istoreP C [(6, .int k), (0, va_rf (some b)), (1, va_rf (some x0)), (2, va_rf (some m0)), (3, va_rf (some out)), (4, va_rf (some outD)), (5, .int v5)] dL_law_259 (by decide) rfl ?_
  refine q_aload_n C 3 dL_law_261 rfl ?_
  refine q_aload_n C 1 dL_law_262 rfl ?_
  refine q_iload C 6 dL_law_263 rfl ?_
  refine q_iconst C (1 : Int32) dL_law_265 (by decide) ?_
  refine q_iadd C dL_law_266 ?_
  refine q_scr C hX hbl hbA hj.1 dL_law_267 ?_
  refine q_aload_n C 1 dL_law_268 rfl ?_
  refine q_iload C 6 dL_law_269 rfl ?_
  refine q_iconst C (2 : Int32) dL_law_271 (by decide) ?_
  refine q_iadd C dL_law_272 ?_
  refine q_scr C hX hbl hbA hj.2.1 dL_law_273 ?_
  refine q_aload_n C 1 dL_law_274 rfl ?_
  refine q_iload C 6 dL_law_275 rfl ?_
  refine q_iconst C (3 : Int32) dL_law_277 (by decide) ?_
  refine q_iadd C dL_law_278 ?_
  refine q_scr C hX hbl hbA hj.2.2.1 dL_law_279 ?_
  refine q_callE C (CN := RX9) (T := TX9) (N := 28) (ci := 12) (tv := tvI) [.int (xs (v5 + (1 : Int32)).toNatClampNeg), .int (xs (v5 + (2 : Int32)).toNatClampNeg), .int (xs (v5 + (3 : Int32)).toNatClampNeg)] [] hmm (m_X9_addRoom hmm) lk_L_153 im_X9_addRoom se_X9_X9_addRoom rfl hm0 ⟨(Nat.le_of_ble_eq_true rfl), (Nat.le_of_ble_eq_true rfl)⟩ ⟨by omega, by omega⟩ rfl rfl (by simp only [List.map, cat_rf, cat_i, cat_a]; decide) dL_law_280 ?_
  refine WG_st (st' := [.int bb]) rfl ?_
  refine q_istoreP C [(7, .int bb), (6, .int k), (0, va_rf (some b)), (1, va_rf (some x0)), (2, va_rf (some m0)), (3, va_rf (some out)), (4, va_rf (some outD)), (5, .int v5)] dL_law_283 (by decide) rfl ?_
  refine q_aload_n C 4 dL_law_285 rfl ?_
  refine q_callE C (CN := RX9) (T := TX9) (N := 28) (ci := 12) (tv := tvI) [] [] hth (m_X9_thrown hth) lk_L_154 im_X9_thrown se_X9_X9_thrown rfl hm2 ⟨(Nat.le_of_ble_eq_true rfl), (Nat.le_of_ble_eq_true rfl)⟩ ⟨by omega, by omega⟩ rfl rfl (by simp only [List.map, cat_rf, cat_i, cat_a]; decide) dL_law_286 ?_
  refine WG_st (st' := [.int k]) rfl ?_
  refine q_iload C 1 dL_law_289 rfl ?_
  refine q_icmpT C 296 rfl dL_law_291 (by decide) ?_
  refine q_iload C 1 dL_law_296 rfl ?_
  by_cases hk0 : k = 0
  · refine q_ifF C hk0 dL_law_298 313 (by decide) ?_
    obtain ⟨f, hf, hfe⟩ := hcmp hk0
    refine q_aload_n C 5 dL_law_301 rfl ?_
    refine q_iconst C (0 : Int32) dL_law_302 (by decide) ?_
    refine q_lald C hf (by unfold vp_in; decide) dL_law_303 ?_
    refine q_iload C 0 dL_law_304 rfl ?_
    refine q_i2l C dL_law_306 ?_
    refine q_lcmpE C hfe dL_law_307 ?_
    refine q_ifeqT C 313 rfl dL_law_308 (by decide) ?_
    refine q_goto C 2696 dL_law_313 (by decide) ?_
    refine WG.sub [2, 3, 4, 5, 6, 7] rfl ?_
    refine WG.widen (k := cells + 310) (n := slots + 5000) (by omega) (by omega) ?_
    exact hn _ hnx
  · refine q_ifneT C 313 hk0 dL_law_298 (by decide) ?_
    refine q_goto C 2696 dL_law_313 (by decide) ?_
    refine WG.sub [2, 3, 4, 5, 6, 7] rfl ?_
    refine WG.widen (k := cells + 310) (n := slots + 5000) (by omega) (by omega) ?_
    exact hn _ hnx
set_option maxRecDepth 100000 in
set_option maxHeartbeats 4000000 in
theorem law_c1 {p : Program} {l : Launch} {e : Env} {s : State} {m : MethodId} {args : Array Value} {below : List Frame} {meth : Method} {c : Code} {cells slots : Nat} {Q : State → Prop} {G : GG} {hs : Hs} {b L x0 m0 out outD : Nat} {xs : Nat → Int32} {v5 : Int32} {next : Hs → Prop} (C : Cx G l p s m args c RL cL_law 9) (hX : va_X b L xs s s.heap) (hbl : b < s.heap.size) (hbA : ¬ gA G b) (hj : vp_in (v5 + 1) L ∧ vp_in (v5 + 2) L ∧ vp_in (v5 + 3) L ∧ vp_in (v5 + 4) L ∧ vp_in (v5 + 5) L) (hcb : cells + 310 ≤ room_1.cells ∧ slots + 5000 ≤ room_1.slots) (hop : opI (f_L_addTeacher (some x0) (xs (v5 + (1 : Int32)).toNatClampNeg) (some out)) (f_X9_addTeacher m0 (xs (v5 + (1 : Int32)).toNatClampNeg)) m0 out next hs) (hn : ∀ hs2, next hs2 → WG G p l e room_1 s m args below meth c 9 (cells + 310) (slots + 5000) Q hs2 [(0, va_rf (some b)), (1, va_rf (some x0)), (2, va_rf (some m0)), (3, va_rf (some out)), (4, va_rf (some outD)), (5, .int v5)] [] 2696) : WG G p l e room_1 s m args below meth c 9 cells slots Q hs [(0, va_rf (some b)), (1, va_rf (some x0)), (2, va_rf (some m0)), (3, va_rf (some out)), (4, va_rf (some outD)), (5, .int v5)] [] 316 := by
  obtain ⟨k, hs1, hw, ⟨fm, hm0⟩, hop⟩ := hop
  refine q_aload_n C 1 dL_law_316 rfl ?_
  refine q_aload_n C 0 dL_law_317 rfl ?_
  refine q_iload C 5 dL_law_318 rfl ?_
  refine q_iconst C (1 : Int32) dL_law_320 (by decide) ?_
  refine q_iadd C dL_law_321 ?_
  refine q_scr C hX hbl hbA hj.1 dL_law_322 ?_
  refine q_aload_n C 3 dL_law_323 rfl ?_
  refine q_callL C (n := 3) [va_rf (some x0), .int (xs (v5 + (1 : Int32)).toNatClampNeg), va_rf (some out)] [] (m_L_addTeacher hw) cw_L_addTeacher ml_L_157 sm_L_addTeacher iw_L (by decide +kernel) ⟨(Nat.le_of_ble_eq_true rfl), (Nat.le_of_ble_eq_true rfl)⟩ ⟨by omega, by omega⟩ rfl rfl (by decide) dL_law_324 (fun sz hbd => ?_)
  obtain ⟨bb, hs2, hmm, ⟨fm2, hm2⟩, hth, hcmp, hnx⟩ := hop sz hbd
  refine q_istoreP C [(6, .int k), (0, va_rf (some b)), (1, va_rf (some x0)), (2, va_rf (some m0)), (3, va_rf (some out)), (4, va_rf (some outD)), (5, .int v5)] dL_law_327 (by decide) rfl ?_
  refine q_aload_n C 3 dL_law_329 rfl ?_
  refine q_aload_n C 1 dL_law_330 rfl ?_
  refine q_iload C 6 dL_law_331 rfl ?_
  refine q_iconst C (1 : Int32) dL_law_333 (by decide) ?_
  refine q_iadd C dL_law_334 ?_
  refine q_scr C hX hbl hbA hj.1 dL_law_335 ?_
  refine q_callE C (CN := RX9) (T := TX9) (N := 28) (ci := 12) (tv := tvI) [.int (xs (v5 + (1 : Int32)).toNatClampNeg)] [] hmm (m_X9_addTeacher hmm) lk_L_160 im_X9_addTeacher se_X9_X9_addTeacher rfl hm0 ⟨(Nat.le_of_ble_eq_true rfl), (Nat.le_of_ble_eq_true rfl)⟩ ⟨by omega, by omega⟩ rfl rfl (by simp only [List.map, cat_rf, cat_i, cat_a]; decide) dL_law_336 ?_
  refine WG_st (st' := [.int bb]) rfl ?_
  refine q_istoreP C [(7, .int bb), (6, .int k), (0, va_rf (some b)), (1, va_rf (some x0)), (2, va_rf (some m0)), (3, va_rf (some out)), (4, va_rf (some outD)), (5, .int v5)] dL_law_339 (by decide) rfl ?_
  refine q_aload_n C 4 dL_law_341 rfl ?_
  refine q_callE C (CN := RX9) (T := TX9) (N := 28) (ci := 12) (tv := tvI) [] [] hth (m_X9_thrown hth) lk_L_154 im_X9_thrown se_X9_X9_thrown rfl hm2 ⟨(Nat.le_of_ble_eq_true rfl), (Nat.le_of_ble_eq_true rfl)⟩ ⟨by omega, by omega⟩ rfl rfl (by simp only [List.map, cat_rf, cat_i, cat_a]; decide) dL_law_342 ?_
  refine WG_st (st' := [.int k]) rfl ?_
  refine q_iload C 1 dL_law_345 rfl ?_
  refine q_icmpT C 352 rfl dL_law_347 (by decide) ?_
  refine q_iload C 1 dL_law_352 rfl ?_
  by_cases hk0 : k = 0
  · refine q_ifF C hk0 dL_law_354 369 (by decide) ?_
    obtain ⟨f, hf, hfe⟩ := hcmp hk0
    refine q_aload_n C 5 dL_law_357 rfl ?_
    refine q_iconst C (0 : Int32) dL_law_358 (by decide) ?_
    refine q_lald C hf (by unfold vp_in; decide) dL_law_359 ?_
    refine q_iload C 0 dL_law_360 rfl ?_
    refine q_i2l C dL_law_362 ?_
    refine q_lcmpE C hfe dL_law_363 ?_
    refine q_ifeqT C 369 rfl dL_law_364 (by decide) ?_
    refine q_goto C 2696 dL_law_369 (by decide) ?_
    refine WG.sub [2, 3, 4, 5, 6, 7] rfl ?_
    refine WG.widen (k := cells + 310) (n := slots + 5000) (by omega) (by omega) ?_
    exact hn _ hnx
  · refine q_ifneT C 369 hk0 dL_law_354 (by decide) ?_
    refine q_goto C 2696 dL_law_369 (by decide) ?_
    refine WG.sub [2, 3, 4, 5, 6, 7] rfl ?_
    refine WG.widen (k := cells + 310) (n := slots + 5000) (by omega) (by omega) ?_
    exact hn _ hnx
set_option maxRecDepth 100000 in
set_option maxHeartbeats 4000000 in
theorem law_c2 {p : Program} {l : Launch} {e : Env} {s : State} {m : MethodId} {args : Array Value} {below : List Frame} {meth : Method} {c : Code} {cells slots : Nat} {Q : State → Prop} {G : GG} {hs : Hs} {b L x0 m0 out outD : Nat} {xs : Nat → Int32} {v5 : Int32} {next : Hs → Prop} (C : Cx G l p s m args c RL cL_law 9) (hX : va_X b L xs s s.heap) (hbl : b < s.heap.size) (hbA : ¬ gA G b) (hj : vp_in (v5 + 1) L ∧ vp_in (v5 + 2) L ∧ vp_in (v5 + 3) L ∧ vp_in (v5 + 4) L ∧ vp_in (v5 + 5) L) (hcb : cells + 310 ≤ room_1.cells ∧ slots + 5000 ≤ room_1.slots) (hop : opI (f_L_addGroup (some x0) (xs (v5 + (1 : Int32)).toNatClampNeg) (some out)) (f_X9_addGroup m0 (xs (v5 + (1 : Int32)).toNatClampNeg)) m0 out next hs) (hn : ∀ hs2, next hs2 → WG G p l e room_1 s m args below meth c 9 (cells + 310) (slots + 5000) Q hs2 [(0, va_rf (some b)), (1, va_rf (some x0)), (2, va_rf (some m0)), (3, va_rf (some out)), (4, va_rf (some outD)), (5, .int v5)] [] 2696) : WG G p l e room_1 s m args below meth c 9 cells slots Q hs [(0, va_rf (some b)), (1, va_rf (some x0)), (2, va_rf (some m0)), (3, va_rf (some out)), (4, va_rf (some outD)), (5, .int v5)] [] 372 := by
  obtain ⟨k, hs1, hw, ⟨fm, hm0⟩, hop⟩ := hop
  refine q_aload_n C 1 dL_law_372 rfl ?_
  refine q_aload_n C 0 dL_law_373 rfl ?_
  refine q_iload C 5 dL_law_374 rfl ?_
  refine q_iconst C (1 : Int32) dL_law_376 (by decide) ?_
  refine q_iadd C dL_law_377 ?_
  refine q_scr C hX hbl hbA hj.1 dL_law_378 ?_
  refine q_aload_n C 3 dL_law_379 rfl ?_
  refine q_callL C (n := 3) [va_rf (some x0), .int (xs (v5 + (1 : Int32)).toNatClampNeg), va_rf (some out)] [] (m_L_addGroup hw) cw_L_addGroup ml_L_161 sm_L_addGroup iw_L (by decide +kernel) ⟨(Nat.le_of_ble_eq_true rfl), (Nat.le_of_ble_eq_true rfl)⟩ ⟨by omega, by omega⟩ rfl rfl (by decide) dL_law_380 (fun sz hbd => ?_)
  obtain ⟨bb, hs2, hmm, ⟨fm2, hm2⟩, hth, hcmp, hnx⟩ := hop sz hbd
  refine q_istoreP C [(6, .int k), (0, va_rf (some b)), (1, va_rf (some x0)), (2, va_rf (some m0)), (3, va_rf (some out)), (4, va_rf (some outD)), (5, .int v5)] dL_law_383 (by decide) rfl ?_
  refine q_aload_n C 3 dL_law_385 rfl ?_
  refine q_aload_n C 1 dL_law_386 rfl ?_
  refine q_iload C 6 dL_law_387 rfl ?_
  refine q_iconst C (1 : Int32) dL_law_389 (by decide) ?_
  refine q_iadd C dL_law_390 ?_
  refine q_scr C hX hbl hbA hj.1 dL_law_391 ?_
  refine q_callE C (CN := RX9) (T := TX9) (N := 28) (ci := 12) (tv := tvI) [.int (xs (v5 + (1 : Int32)).toNatClampNeg)] [] hmm (m_X9_addGroup hmm) lk_L_163 im_X9_addGroup se_X9_X9_addGroup rfl hm0 ⟨(Nat.le_of_ble_eq_true rfl), (Nat.le_of_ble_eq_true rfl)⟩ ⟨by omega, by omega⟩ rfl rfl (by simp only [List.map, cat_rf, cat_i, cat_a]; decide) dL_law_392 ?_
  refine WG_st (st' := [.int bb]) rfl ?_
  refine q_istoreP C [(7, .int bb), (6, .int k), (0, va_rf (some b)), (1, va_rf (some x0)), (2, va_rf (some m0)), (3, va_rf (some out)), (4, va_rf (some outD)), (5, .int v5)] dL_law_395 (by decide) rfl ?_
  refine q_aload_n C 4 dL_law_397 rfl ?_
  refine q_callE C (CN := RX9) (T := TX9) (N := 28) (ci := 12) (tv := tvI) [] [] hth (m_X9_thrown hth) lk_L_154 im_X9_thrown se_X9_X9_thrown rfl hm2 ⟨(Nat.le_of_ble_eq_true rfl), (Nat.le_of_ble_eq_true rfl)⟩ ⟨by omega, by omega⟩ rfl rfl (by simp only [List.map, cat_rf, cat_i, cat_a]; decide) dL_law_398 ?_
  refine WG_st (st' := [.int k]) rfl ?_
  refine q_iload C 1 dL_law_401 rfl ?_
  refine q_icmpT C 408 rfl dL_law_403 (by decide) ?_
  refine q_iload C 1 dL_law_408 rfl ?_
  by_cases hk0 : k = 0
  · refine q_ifF C hk0 dL_law_410 425 (by decide) ?_
    obtain ⟨f, hf, hfe⟩ := hcmp hk0
    refine q_aload_n C 5 dL_law_413 rfl ?_
    refine q_iconst C (0 : Int32) dL_law_414 (by decide) ?_
    refine q_lald C hf (by unfold vp_in; decide) dL_law_415 ?_
    refine q_iload C 0 dL_law_416 rfl ?_
    refine q_i2l C dL_law_418 ?_
    refine q_lcmpE C hfe dL_law_419 ?_
    refine q_ifeqT C 425 rfl dL_law_420 (by decide) ?_
    refine q_goto C 2696 dL_law_425 (by decide) ?_
    refine WG.sub [2, 3, 4, 5, 6, 7] rfl ?_
    refine WG.widen (k := cells + 310) (n := slots + 5000) (by omega) (by omega) ?_
    exact hn _ hnx
  · refine q_ifneT C 425 hk0 dL_law_410 (by decide) ?_
    refine q_goto C 2696 dL_law_425 (by decide) ?_
    refine WG.sub [2, 3, 4, 5, 6, 7] rfl ?_
    refine WG.widen (k := cells + 310) (n := slots + 5000) (by omega) (by omega) ?_
    exact hn _ hnx
set_option maxRecDepth 100000 in
set_option maxHeartbeats 4000000 in
theorem law_c3 {p : Program} {l : Launch} {e : Env} {s : State} {m : MethodId} {args : Array Value} {below : List Frame} {meth : Method} {c : Code} {cells slots : Nat} {Q : State → Prop} {G : GG} {hs : Hs} {b L x0 m0 out outD : Nat} {xs : Nat → Int32} {v5 : Int32} {next : Hs → Prop} (C : Cx G l p s m args c RL cL_law 9) (hX : va_X b L xs s s.heap) (hbl : b < s.heap.size) (hbA : ¬ gA G b) (hj : vp_in (v5 + 1) L ∧ vp_in (v5 + 2) L ∧ vp_in (v5 + 3) L ∧ vp_in (v5 + 4) L ∧ vp_in (v5 + 5) L) (hcb : cells + 310 ≤ room_1.cells ∧ slots + 5000 ≤ room_1.slots) (hop : opI (f_L_addLesson (some x0) (xs (v5 + (1 : Int32)).toNatClampNeg) (xs (v5 + (2 : Int32)).toNatClampNeg) (xs (v5 + (3 : Int32)).toNatClampNeg) (xs (v5 + (4 : Int32)).toNatClampNeg) (xs (v5 + (5 : Int32)).toNatClampNeg) (some out)) (f_X9_addLesson m0 (xs (v5 + (1 : Int32)).toNatClampNeg) (xs (v5 + (2 : Int32)).toNatClampNeg) (xs (v5 + (3 : Int32)).toNatClampNeg) (xs (v5 + (4 : Int32)).toNatClampNeg) (xs (v5 + (5 : Int32)).toNatClampNeg)) m0 out next hs) (hn : ∀ hs2, next hs2 → WG G p l e room_1 s m args below meth c 9 (cells + 310) (slots + 5000) Q hs2 [(0, va_rf (some b)), (1, va_rf (some x0)), (2, va_rf (some m0)), (3, va_rf (some out)), (4, va_rf (some outD)), (5, .int v5)] [] 2696) : WG G p l e room_1 s m args below meth c 9 cells slots Q hs [(0, va_rf (some b)), (1, va_rf (some x0)), (2, va_rf (some m0)), (3, va_rf (some out)), (4, va_rf (some outD)), (5, .int v5)] [] 428 := by
  obtain ⟨k, hs1, hw, ⟨fm, hm0⟩, hop⟩ := hop
  refine q_aload_n C 1 dL_law_428 rfl ?_
  refine q_aload_n C 0 dL_law_429 rfl ?_
  refine q_iload C 5 dL_law_430 rfl ?_
  refine q_iconst C (1 : Int32) dL_law_432 (by decide) ?_
  refine q_iadd C dL_law_433 ?_
  refine q_scr C hX hbl hbA hj.1 dL_law_434 ?_
  refine q_aload_n C 0 dL_law_435 rfl ?_
  refine q_iload C 5 dL_law_436 rfl ?_
  refine q_iconst C (2 : Int32) dL_law_438 (by decide) ?_
  refine q_iadd C dL_law_439 ?_
  refine q_scr C hX hbl hbA hj.2.1 dL_law_440 ?_
  refine q_aload_n C 0 dL_law_441 rfl ?_
  refine q_iload C 5 dL_law_442 rfl ?_
  refine q_iconst C (3 : Int32) dL_law_444 (by decide) ?_
  refine q_iadd C dL_law_445 ?_
  refine q_scr C hX hbl hbA hj.2.2.1 dL_law_446 ?_
  refine q_aload_n C 0 dL_law_447 rfl ?_
  refine q_iload C 5 dL_law_448 rfl ?_
  refine q_iconst C (4 : Int32) dL_law_450 (by decide) ?_
  refine q_iadd C dL_law_451 ?_
  refine q_scr C hX hbl hbA hj.2.2.2.1 dL_law_452 ?_
  refine q_aload_n C 0 dL_law_453 rfl ?_
  refine q_iload C 5 dL_law_454 rfl ?_
  refine q_iconst C (5 : Int32) dL_law_456 (by decide) ?_
  refine q_iadd C dL_law_457 ?_
  refine q_scr C hX hbl hbA hj.2.2.2.2 dL_law_458 ?_
  refine q_aload_n C 3 dL_law_459 rfl ?_
  refine q_callL C (n := 7) [va_rf (some x0), .int (xs (v5 + (1 : Int32)).toNatClampNeg), .int (xs (v5 + (2 : Int32)).toNatClampNeg), .int (xs (v5 + (3 : Int32)).toNatClampNeg), .int (xs (v5 + (4 : Int32)).toNatClampNeg), .int (xs (v5 + (5 : Int32)).toNatClampNeg), va_rf (some out)] [] (m_L_addLesson hw) cw_L_addLesson ml_L_164 sm_L_addLesson iw_L (by decide +kernel) ⟨(Nat.le_of_ble_eq_true rfl), (Nat.le_of_ble_eq_true rfl)⟩ ⟨by omega, by omega⟩ rfl rfl (by decide) dL_law_460 (fun sz hbd => ?_)
  obtain ⟨bb, hs2, hmm, ⟨fm2, hm2⟩, hth, hcmp, hnx⟩ := hop sz hbd
  refine q_istoreP C [(6, .int k), (0, va_rf (some b)), (1, va_rf (some x0)), (2, va_rf (some m0)), (3, va_rf (some out)), (4, va_rf (some outD)), (5, .int v5)] dL_law_463 (by decide) rfl ?_
  refine q_aload_n C 3 dL_law_465 rfl ?_
  refine q_aload_n C 1 dL_law_466 rfl ?_
  refine q_iload C 6 dL_law_467 rfl ?_
  refine q_iconst C (1 : Int32) dL_law_469 (by decide) ?_
  refine q_iadd C dL_law_470 ?_
  refine q_scr C hX hbl hbA hj.1 dL_law_471 ?_
  refine q_aload_n C 1 dL_law_472 rfl ?_
  refine q_iload C 6 dL_law_473 rfl ?_
  refine q_iconst C (2 : Int32) dL_law_475 (by decide) ?_
  refine q_iadd C dL_law_476 ?_
  refine q_scr C hX hbl hbA hj.2.1 dL_law_477 ?_
  refine q_aload_n C 1 dL_law_478 rfl ?_
  refine q_iload C 6 dL_law_479 rfl ?_
  refine q_iconst C (3 : Int32) dL_law_481 (by decide) ?_
  refine q_iadd C dL_law_482 ?_
  refine q_scr C hX hbl hbA hj.2.2.1 dL_law_483 ?_
  refine q_aload_n C 1 dL_law_484 rfl ?_
  refine q_iload C 6 dL_law_485 rfl ?_
  refine q_iconst C (4 : Int32) dL_law_487 (by decide) ?_
  refine q_iadd C dL_law_488 ?_
  refine q_scr C hX hbl hbA hj.2.2.2.1 dL_law_489 ?_
  refine q_aload_n C 1 dL_law_490 rfl ?_
  refine q_iload C 6 dL_law_491 rfl ?_
  refine q_iconst C (5 : Int32) dL_law_493 (by decide) ?_
  refine q_iadd C dL_law_494 ?_
  refine q_scr C hX hbl hbA hj.2.2.2.2 dL_law_495 ?_
  refine q_callE C (CN := RX9) (T := TX9) (N := 28) (ci := 12) (tv := tvI) [.int (xs (v5 + (1 : Int32)).toNatClampNeg), .int (xs (v5 + (2 : Int32)).toNatClampNeg), .int (xs (v5 + (3 : Int32)).toNatClampNeg), .int (xs (v5 + (4 : Int32)).toNatClampNeg), .int (xs (v5 + (5 : Int32)).toNatClampNeg)] [] hmm (m_X9_addLesson hmm) lk_L_167 im_X9_addLesson se_X9_X9_addLesson rfl hm0 ⟨(Nat.le_of_ble_eq_true rfl), (Nat.le_of_ble_eq_true rfl)⟩ ⟨by omega, by omega⟩ rfl rfl (by simp only [List.map, cat_rf, cat_i, cat_a]; decide) dL_law_496 ?_
  refine WG_st (st' := [.int bb]) rfl ?_
  refine q_istoreP C [(7, .int bb), (6, .int k), (0, va_rf (some b)), (1, va_rf (some x0)), (2, va_rf (some m0)), (3, va_rf (some out)), (4, va_rf (some outD)), (5, .int v5)] dL_law_499 (by decide) rfl ?_
  refine q_aload_n C 4 dL_law_501 rfl ?_
  refine q_callE C (CN := RX9) (T := TX9) (N := 28) (ci := 12) (tv := tvI) [] [] hth (m_X9_thrown hth) lk_L_154 im_X9_thrown se_X9_X9_thrown rfl hm2 ⟨(Nat.le_of_ble_eq_true rfl), (Nat.le_of_ble_eq_true rfl)⟩ ⟨by omega, by omega⟩ rfl rfl (by simp only [List.map, cat_rf, cat_i, cat_a]; decide) dL_law_502 ?_
  refine WG_st (st' := [.int k]) rfl ?_
  refine q_iload C 1 dL_law_505 rfl ?_
  refine q_icmpT C 512 rfl dL_law_507 (by decide) ?_
  refine q_iload C 1 dL_law_512 rfl ?_
  by_cases hk0 : k = 0
  · refine q_ifF C hk0 dL_law_514 529 (by decide) ?_
    obtain ⟨f, hf, hfe⟩ := hcmp hk0
    refine q_aload_n C 5 dL_law_517 rfl ?_
    refine q_iconst C (0 : Int32) dL_law_518 (by decide) ?_
    refine q_lald C hf (by unfold vp_in; decide) dL_law_519 ?_
    refine q_iload C 0 dL_law_520 rfl ?_
    refine q_i2l C dL_law_522 ?_
    refine q_lcmpE C hfe dL_law_523 ?_
    refine q_ifeqT C 529 rfl dL_law_524 (by decide) ?_
    refine q_goto C 2696 dL_law_529 (by decide) ?_
    refine WG.sub [2, 3, 4, 5, 6, 7] rfl ?_
    refine WG.widen (k := cells + 310) (n := slots + 5000) (by omega) (by omega) ?_
    exact hn _ hnx
  · refine q_ifneT C 529 hk0 dL_law_514 (by decide) ?_
    refine q_goto C 2696 dL_law_529 (by decide) ?_
    refine WG.sub [2, 3, 4, 5, 6, 7] rfl ?_
    refine WG.widen (k := cells + 310) (n := slots + 5000) (by omega) (by omega) ?_
    exact hn _ hnx
set_option maxRecDepth 100000 in
set_option maxHeartbeats 4000000 in
theorem law_c4 {p : Program} {l : Launch} {e : Env} {s : State} {m : MethodId} {args : Array Value} {below : List Frame} {meth : Method} {c : Code} {cells slots : Nat} {Q : State → Prop} {G : GG} {hs : Hs} {b L x0 m0 out outD : Nat} {xs : Nat → Int32} {v5 : Int32} {next : Hs → Prop} (C : Cx G l p s m args c RL cL_law 9) (hX : va_X b L xs s s.heap) (hbl : b < s.heap.size) (hbA : ¬ gA G b) (hj : vp_in (v5 + 1) L ∧ vp_in (v5 + 2) L ∧ vp_in (v5 + 3) L ∧ vp_in (v5 + 4) L ∧ vp_in (v5 + 5) L) (hcb : cells + 310 ≤ room_1.cells ∧ slots + 5000 ≤ room_1.slots) (hop : opI (f_L_setWish (some x0) (xs (v5 + (1 : Int32)).toNatClampNeg) (xs (v5 + (2 : Int32)).toNatClampNeg) (xs (v5 + (3 : Int32)).toNatClampNeg) (some out)) (f_X9_setWish m0 (xs (v5 + (1 : Int32)).toNatClampNeg) (xs (v5 + (2 : Int32)).toNatClampNeg) (xs (v5 + (3 : Int32)).toNatClampNeg)) m0 out next hs) (hn : ∀ hs2, next hs2 → WG G p l e room_1 s m args below meth c 9 (cells + 310) (slots + 5000) Q hs2 [(0, va_rf (some b)), (1, va_rf (some x0)), (2, va_rf (some m0)), (3, va_rf (some out)), (4, va_rf (some outD)), (5, .int v5)] [] 2696) : WG G p l e room_1 s m args below meth c 9 cells slots Q hs [(0, va_rf (some b)), (1, va_rf (some x0)), (2, va_rf (some m0)), (3, va_rf (some out)), (4, va_rf (some outD)), (5, .int v5)] [] 532 := by
  obtain ⟨k, hs1, hw, ⟨fm, hm0⟩, hop⟩ := hop
  refine q_aload_n C 1 dL_law_532 rfl ?_
  refine q_aload_n C 0 dL_law_533 rfl ?_
  refine q_iload C 5 dL_law_534 rfl ?_
  refine q_iconst C (1 : Int32) dL_law_536 (by decide) ?_
  refine q_iadd C dL_law_537 ?_
  refine q_scr C hX hbl hbA hj.1 dL_law_538 ?_
  refine q_aload_n C 0 dL_law_539 rfl ?_
  refine q_iload C 5 dL_law_540 rfl ?_
  refine q_iconst C (2 : Int32) dL_law_542 (by decide) ?_
  refine q_iadd C dL_law_543 ?_
  refine q_scr C hX hbl hbA hj.2.1 dL_law_544 ?_
  refine q_aload_n C 0 dL_law_545 rfl ?_
  refine q_iload C 5 dL_law_546 rfl ?_
  refine q_iconst C (3 : Int32) dL_law_548 (by decide) ?_
  refine q_iadd C dL_law_549 ?_
  refine q_scr C hX hbl hbA hj.2.2.1 dL_law_550 ?_
  refine q_aload_n C 3 dL_law_551 rfl ?_
  refine q_callL C (n := 5) [va_rf (some x0), .int (xs (v5 + (1 : Int32)).toNatClampNeg), .int (xs (v5 + (2 : Int32)).toNatClampNeg), .int (xs (v5 + (3 : Int32)).toNatClampNeg), va_rf (some out)] [] (m_L_setWish hw) cw_L_setWish ml_L_168 sm_L_setWish iw_L (by decide +kernel) ⟨(Nat.le_of_ble_eq_true rfl), (Nat.le_of_ble_eq_true rfl)⟩ ⟨by omega, by omega⟩ rfl rfl (by decide) dL_law_552 (fun sz hbd => ?_)
  obtain ⟨bb, hs2, hmm, ⟨fm2, hm2⟩, hth, hcmp, hnx⟩ := hop sz hbd
  refine q_istoreP C [(6, .int k), (0, va_rf (some b)), (1, va_rf (some x0)), (2, va_rf (some m0)), (3, va_rf (some out)), (4, va_rf (some outD)), (5, .int v5)] dL_law_555 (by decide) rfl ?_
  refine q_aload_n C 3 dL_law_557 rfl ?_
  refine q_aload_n C 1 dL_law_558 rfl ?_
  refine q_iload C 6 dL_law_559 rfl ?_
  refine q_iconst C (1 : Int32) dL_law_561 (by decide) ?_
  refine q_iadd C dL_law_562 ?_
  refine q_scr C hX hbl hbA hj.1 dL_law_563 ?_
  refine q_aload_n C 1 dL_law_564 rfl ?_
  refine q_iload C 6 dL_law_565 rfl ?_
  refine q_iconst C (2 : Int32) dL_law_567 (by decide) ?_
  refine q_iadd C dL_law_568 ?_
  refine q_scr C hX hbl hbA hj.2.1 dL_law_569 ?_
  refine q_aload_n C 1 dL_law_570 rfl ?_
  refine q_iload C 6 dL_law_571 rfl ?_
  refine q_iconst C (3 : Int32) dL_law_573 (by decide) ?_
  refine q_iadd C dL_law_574 ?_
  refine q_scr C hX hbl hbA hj.2.2.1 dL_law_575 ?_
  refine q_callE C (CN := RX9) (T := TX9) (N := 28) (ci := 12) (tv := tvI) [.int (xs (v5 + (1 : Int32)).toNatClampNeg), .int (xs (v5 + (2 : Int32)).toNatClampNeg), .int (xs (v5 + (3 : Int32)).toNatClampNeg)] [] hmm (m_X9_setWish hmm) lk_L_170 im_X9_setWish se_X9_X9_setWish rfl hm0 ⟨(Nat.le_of_ble_eq_true rfl), (Nat.le_of_ble_eq_true rfl)⟩ ⟨by omega, by omega⟩ rfl rfl (by simp only [List.map, cat_rf, cat_i, cat_a]; decide) dL_law_576 ?_
  refine WG_st (st' := [.int bb]) rfl ?_
  refine q_istoreP C [(7, .int bb), (6, .int k), (0, va_rf (some b)), (1, va_rf (some x0)), (2, va_rf (some m0)), (3, va_rf (some out)), (4, va_rf (some outD)), (5, .int v5)] dL_law_579 (by decide) rfl ?_
  refine q_aload_n C 4 dL_law_581 rfl ?_
  refine q_callE C (CN := RX9) (T := TX9) (N := 28) (ci := 12) (tv := tvI) [] [] hth (m_X9_thrown hth) lk_L_154 im_X9_thrown se_X9_X9_thrown rfl hm2 ⟨(Nat.le_of_ble_eq_true rfl), (Nat.le_of_ble_eq_true rfl)⟩ ⟨by omega, by omega⟩ rfl rfl (by simp only [List.map, cat_rf, cat_i, cat_a]; decide) dL_law_582 ?_
  refine WG_st (st' := [.int k]) rfl ?_
  refine q_iload C 1 dL_law_585 rfl ?_
  refine q_icmpT C 592 rfl dL_law_587 (by decide) ?_
  refine q_iload C 1 dL_law_592 rfl ?_
  by_cases hk0 : k = 0
  · refine q_ifF C hk0 dL_law_594 609 (by decide) ?_
    obtain ⟨f, hf, hfe⟩ := hcmp hk0
    refine q_aload_n C 5 dL_law_597 rfl ?_
    refine q_iconst C (0 : Int32) dL_law_598 (by decide) ?_
    refine q_lald C hf (by unfold vp_in; decide) dL_law_599 ?_
    refine q_iload C 0 dL_law_600 rfl ?_
    refine q_i2l C dL_law_602 ?_
    refine q_lcmpE C hfe dL_law_603 ?_
    refine q_ifeqT C 609 rfl dL_law_604 (by decide) ?_
    refine q_goto C 2696 dL_law_609 (by decide) ?_
    refine WG.sub [2, 3, 4, 5, 6, 7] rfl ?_
    refine WG.widen (k := cells + 310) (n := slots + 5000) (by omega) (by omega) ?_
    exact hn _ hnx
  · refine q_ifneT C 609 hk0 dL_law_594 (by decide) ?_
    refine q_goto C 2696 dL_law_609 (by decide) ?_
    refine WG.sub [2, 3, 4, 5, 6, 7] rfl ?_
    refine WG.widen (k := cells + 310) (n := slots + 5000) (by omega) (by omega) ?_
    exact hn _ hnx
set_option maxRecDepth 100000 in
set_option maxHeartbeats 4000000 in
theorem law_c5 {p : Program} {l : Launch} {e : Env} {s : State} {m : MethodId} {args : Array Value} {below : List Frame} {meth : Method} {c : Code} {cells slots : Nat} {Q : State → Prop} {G : GG} {hs : Hs} {b L x0 m0 out outD : Nat} {xs : Nat → Int32} {v5 : Int32} {next : Hs → Prop} (C : Cx G l p s m args c RL cL_law 9) (hX : va_X b L xs s s.heap) (hbl : b < s.heap.size) (hbA : ¬ gA G b) (hj : vp_in (v5 + 1) L ∧ vp_in (v5 + 2) L ∧ vp_in (v5 + 3) L ∧ vp_in (v5 + 4) L ∧ vp_in (v5 + 5) L) (hcb : cells + 310 ≤ room_1.cells ∧ slots + 5000 ≤ room_1.slots) (hop : opI (f_L_setWeight (some x0) (xs (v5 + (1 : Int32)).toNatClampNeg) (xs (v5 + (2 : Int32)).toNatClampNeg) (some out)) (f_X9_setWeight m0 (xs (v5 + (1 : Int32)).toNatClampNeg) (xs (v5 + (2 : Int32)).toNatClampNeg)) m0 out next hs) (hn : ∀ hs2, next hs2 → WG G p l e room_1 s m args below meth c 9 (cells + 310) (slots + 5000) Q hs2 [(0, va_rf (some b)), (1, va_rf (some x0)), (2, va_rf (some m0)), (3, va_rf (some out)), (4, va_rf (some outD)), (5, .int v5)] [] 2696) : WG G p l e room_1 s m args below meth c 9 cells slots Q hs [(0, va_rf (some b)), (1, va_rf (some x0)), (2, va_rf (some m0)), (3, va_rf (some out)), (4, va_rf (some outD)), (5, .int v5)] [] 612 := by
  obtain ⟨k, hs1, hw, ⟨fm, hm0⟩, hop⟩ := hop
  refine q_aload_n C 1 dL_law_612 rfl ?_
  refine q_aload_n C 0 dL_law_613 rfl ?_
  refine q_iload C 5 dL_law_614 rfl ?_
  refine q_iconst C (1 : Int32) dL_law_616 (by decide) ?_
  refine q_iadd C dL_law_617 ?_
  refine q_scr C hX hbl hbA hj.1 dL_law_618 ?_
  refine q_aload_n C 0 dL_law_619 rfl ?_
  refine q_iload C 5 dL_law_620 rfl ?_
  refine q_iconst C (2 : Int32) dL_law_622 (by decide) ?_
  refine q_iadd C dL_law_623 ?_
  refine q_scr C hX hbl hbA hj.2.1 dL_law_624 ?_
  refine q_aload_n C 3 dL_law_625 rfl ?_
  refine q_callL C (n := 4) [va_rf (some x0), .int (xs (v5 + (1 : Int32)).toNatClampNeg), .int (xs (v5 + (2 : Int32)).toNatClampNeg), va_rf (some out)] [] (m_L_setWeight hw) cw_L_setWeight ml_L_171 sm_L_setWeight iw_L (by decide +kernel) ⟨(Nat.le_of_ble_eq_true rfl), (Nat.le_of_ble_eq_true rfl)⟩ ⟨by omega, by omega⟩ rfl rfl (by decide) dL_law_626 (fun sz hbd => ?_)
  obtain ⟨bb, hs2, hmm, ⟨fm2, hm2⟩, hth, hcmp, hnx⟩ := hop sz hbd
  refine q_istoreP C [(6, .int k), (0, va_rf (some b)), (1, va_rf (some x0)), (2, va_rf (some m0)), (3, va_rf (some out)), (4, va_rf (some outD)), (5, .int v5)] dL_law_629 (by decide) rfl ?_
  refine q_aload_n C 3 dL_law_631 rfl ?_
  refine q_aload_n C 1 dL_law_632 rfl ?_
  refine q_iload C 6 dL_law_633 rfl ?_
  refine q_iconst C (1 : Int32) dL_law_635 (by decide) ?_
  refine q_iadd C dL_law_636 ?_
  refine q_scr C hX hbl hbA hj.1 dL_law_637 ?_
  refine q_aload_n C 1 dL_law_638 rfl ?_
  refine q_iload C 6 dL_law_639 rfl ?_
  refine q_iconst C (2 : Int32) dL_law_641 (by decide) ?_
  refine q_iadd C dL_law_642 ?_
  refine q_scr C hX hbl hbA hj.2.1 dL_law_643 ?_
  refine q_callE C (CN := RX9) (T := TX9) (N := 28) (ci := 12) (tv := tvI) [.int (xs (v5 + (1 : Int32)).toNatClampNeg), .int (xs (v5 + (2 : Int32)).toNatClampNeg)] [] hmm (m_X9_setWeight hmm) lk_L_174 im_X9_setWeight se_X9_X9_setWeight rfl hm0 ⟨(Nat.le_of_ble_eq_true rfl), (Nat.le_of_ble_eq_true rfl)⟩ ⟨by omega, by omega⟩ rfl rfl (by simp only [List.map, cat_rf, cat_i, cat_a]; decide) dL_law_644 ?_
  refine WG_st (st' := [.int bb]) rfl ?_
  refine q_istoreP C [(7, .int bb), (6, .int k), (0, va_rf (some b)), (1, va_rf (some x0)), (2, va_rf (some m0)), (3, va_rf (some out)), (4, va_rf (some outD)), (5, .int v5)] dL_law_647 (by decide) rfl ?_
  refine q_aload_n C 4 dL_law_649 rfl ?_
  refine q_callE C (CN := RX9) (T := TX9) (N := 28) (ci := 12) (tv := tvI) [] [] hth (m_X9_thrown hth) lk_L_154 im_X9_thrown se_X9_X9_thrown rfl hm2 ⟨(Nat.le_of_ble_eq_true rfl), (Nat.le_of_ble_eq_true rfl)⟩ ⟨by omega, by omega⟩ rfl rfl (by simp only [List.map, cat_rf, cat_i, cat_a]; decide) dL_law_650 ?_
  refine WG_st (st' := [.int k]) rfl ?_
  refine q_iload C 1 dL_law_653 rfl ?_
  refine q_icmpT C 660 rfl dL_law_655 (by decide) ?_
  refine q_iload C 1 dL_law_660 rfl ?_
  by_cases hk0 : k = 0
  · refine q_ifF C hk0 dL_law_662 677 (by decide) ?_
    obtain ⟨f, hf, hfe⟩ := hcmp hk0
    refine q_aload_n C 5 dL_law_665 rfl ?_
    refine q_iconst C (0 : Int32) dL_law_666 (by decide) ?_
    refine q_lald C hf (by unfold vp_in; decide) dL_law_667 ?_
    refine q_iload C 0 dL_law_668 rfl ?_
    refine q_i2l C dL_law_670 ?_
    refine q_lcmpE C hfe dL_law_671 ?_
    refine q_ifeqT C 677 rfl dL_law_672 (by decide) ?_
    refine q_goto C 2696 dL_law_677 (by decide) ?_
    refine WG.sub [2, 3, 4, 5, 6, 7] rfl ?_
    refine WG.widen (k := cells + 310) (n := slots + 5000) (by omega) (by omega) ?_
    exact hn _ hnx
  · refine q_ifneT C 677 hk0 dL_law_662 (by decide) ?_
    refine q_goto C 2696 dL_law_677 (by decide) ?_
    refine WG.sub [2, 3, 4, 5, 6, 7] rfl ?_
    refine WG.widen (k := cells + 310) (n := slots + 5000) (by omega) (by omega) ?_
    exact hn _ hnx
set_option maxRecDepth 100000 in
set_option maxHeartbeats 4000000 in
theorem law_c6 {p : Program} {l : Launch} {e : Env} {s : State} {m : MethodId} {args : Array Value} {below : List Frame} {meth : Method} {c : Code} {cells slots : Nat} {Q : State → Prop} {G : GG} {hs : Hs} {b L x0 m0 out outD : Nat} {xs : Nat → Int32} {v5 : Int32} {next : Hs → Prop} (C : Cx G l p s m args c RL cL_law 9) (hX : va_X b L xs s s.heap) (hbl : b < s.heap.size) (hbA : ¬ gA G b) (hj : vp_in (v5 + 1) L ∧ vp_in (v5 + 2) L ∧ vp_in (v5 + 3) L ∧ vp_in (v5 + 4) L ∧ vp_in (v5 + 5) L) (hcb : cells + 310 ≤ room_1.cells ∧ slots + 5000 ≤ room_1.slots) (hop : opI (f_L_reason (some x0) (xs (v5 + (1 : Int32)).toNatClampNeg) (xs (v5 + (2 : Int32)).toNatClampNeg) (xs (v5 + (3 : Int32)).toNatClampNeg) (some out)) (f_X9_reason m0 (xs (v5 + (1 : Int32)).toNatClampNeg) (xs (v5 + (2 : Int32)).toNatClampNeg) (xs (v5 + (3 : Int32)).toNatClampNeg)) m0 out next hs) (hn : ∀ hs2, next hs2 → WG G p l e room_1 s m args below meth c 9 (cells + 310) (slots + 5000) Q hs2 [(0, va_rf (some b)), (1, va_rf (some x0)), (2, va_rf (some m0)), (3, va_rf (some out)), (4, va_rf (some outD)), (5, .int v5)] [] 2696) : WG G p l e room_1 s m args below meth c 9 cells slots Q hs [(0, va_rf (some b)), (1, va_rf (some x0)), (2, va_rf (some m0)), (3, va_rf (some out)), (4, va_rf (some outD)), (5, .int v5)] [] 680 := by
  obtain ⟨k, hs1, hw, ⟨fm, hm0⟩, hop⟩ := hop
  refine q_aload_n C 1 dL_law_680 rfl ?_
  refine q_aload_n C 0 dL_law_681 rfl ?_
  refine q_iload C 5 dL_law_682 rfl ?_
  refine q_iconst C (1 : Int32) dL_law_684 (by decide) ?_
  refine q_iadd C dL_law_685 ?_
  refine q_scr C hX hbl hbA hj.1 dL_law_686 ?_
  refine q_aload_n C 0 dL_law_687 rfl ?_
  refine q_iload C 5 dL_law_688 rfl ?_
  refine q_iconst C (2 : Int32) dL_law_690 (by decide) ?_
  refine q_iadd C dL_law_691 ?_
  refine q_scr C hX hbl hbA hj.2.1 dL_law_692 ?_
  refine q_aload_n C 0 dL_law_693 rfl ?_
  refine q_iload C 5 dL_law_694 rfl ?_
  refine q_iconst C (3 : Int32) dL_law_696 (by decide) ?_
  refine q_iadd C dL_law_697 ?_
  refine q_scr C hX hbl hbA hj.2.2.1 dL_law_698 ?_
  refine q_aload_n C 3 dL_law_699 rfl ?_
  refine q_callL C (n := 5) [va_rf (some x0), .int (xs (v5 + (1 : Int32)).toNatClampNeg), .int (xs (v5 + (2 : Int32)).toNatClampNeg), .int (xs (v5 + (3 : Int32)).toNatClampNeg), va_rf (some out)] [] (m_L_reason hw) cw_L_reason ml_L_175 sm_L_reason iw_L (by decide +kernel) ⟨(Nat.le_of_ble_eq_true rfl), (Nat.le_of_ble_eq_true rfl)⟩ ⟨by omega, by omega⟩ rfl rfl (by decide) dL_law_700 (fun sz hbd => ?_)
  obtain ⟨bb, hs2, hmm, ⟨fm2, hm2⟩, hth, hcmp, hnx⟩ := hop sz hbd
  refine q_istoreP C [(6, .int k), (0, va_rf (some b)), (1, va_rf (some x0)), (2, va_rf (some m0)), (3, va_rf (some out)), (4, va_rf (some outD)), (5, .int v5)] dL_law_703 (by decide) rfl ?_
  refine q_aload_n C 3 dL_law_705 rfl ?_
  refine q_aload_n C 1 dL_law_706 rfl ?_
  refine q_iload C 6 dL_law_707 rfl ?_
  refine q_iconst C (1 : Int32) dL_law_709 (by decide) ?_
  refine q_iadd C dL_law_710 ?_
  refine q_scr C hX hbl hbA hj.1 dL_law_711 ?_
  refine q_aload_n C 1 dL_law_712 rfl ?_
  refine q_iload C 6 dL_law_713 rfl ?_
  refine q_iconst C (2 : Int32) dL_law_715 (by decide) ?_
  refine q_iadd C dL_law_716 ?_
  refine q_scr C hX hbl hbA hj.2.1 dL_law_717 ?_
  refine q_aload_n C 1 dL_law_718 rfl ?_
  refine q_iload C 6 dL_law_719 rfl ?_
  refine q_iconst C (3 : Int32) dL_law_721 (by decide) ?_
  refine q_iadd C dL_law_722 ?_
  refine q_scr C hX hbl hbA hj.2.2.1 dL_law_723 ?_
  refine q_callE C (CN := RX9) (T := TX9) (N := 28) (ci := 12) (tv := tvI) [.int (xs (v5 + (1 : Int32)).toNatClampNeg), .int (xs (v5 + (2 : Int32)).toNatClampNeg), .int (xs (v5 + (3 : Int32)).toNatClampNeg)] [] hmm (m_X9_reason hmm) lk_L_177 im_X9_reason se_X9_X9_reason rfl hm0 ⟨(Nat.le_of_ble_eq_true rfl), (Nat.le_of_ble_eq_true rfl)⟩ ⟨by omega, by omega⟩ rfl rfl (by simp only [List.map, cat_rf, cat_i, cat_a]; decide) dL_law_724 ?_
  refine WG_st (st' := [.int bb]) rfl ?_
  refine q_istoreP C [(7, .int bb), (6, .int k), (0, va_rf (some b)), (1, va_rf (some x0)), (2, va_rf (some m0)), (3, va_rf (some out)), (4, va_rf (some outD)), (5, .int v5)] dL_law_727 (by decide) rfl ?_
  refine q_aload_n C 4 dL_law_729 rfl ?_
  refine q_callE C (CN := RX9) (T := TX9) (N := 28) (ci := 12) (tv := tvI) [] [] hth (m_X9_thrown hth) lk_L_154 im_X9_thrown se_X9_X9_thrown rfl hm2 ⟨(Nat.le_of_ble_eq_true rfl), (Nat.le_of_ble_eq_true rfl)⟩ ⟨by omega, by omega⟩ rfl rfl (by simp only [List.map, cat_rf, cat_i, cat_a]; decide) dL_law_730 ?_
  refine WG_st (st' := [.int k]) rfl ?_
  refine q_iload C 1 dL_law_733 rfl ?_
  refine q_icmpT C 740 rfl dL_law_735 (by decide) ?_
  refine q_iload C 1 dL_law_740 rfl ?_
  by_cases hk0 : k = 0
  · refine q_ifF C hk0 dL_law_742 757 (by decide) ?_
    obtain ⟨f, hf, hfe⟩ := hcmp hk0
    refine q_aload_n C 5 dL_law_745 rfl ?_
    refine q_iconst C (0 : Int32) dL_law_746 (by decide) ?_
    refine q_lald C hf (by unfold vp_in; decide) dL_law_747 ?_
    refine q_iload C 0 dL_law_748 rfl ?_
    refine q_i2l C dL_law_750 ?_
    refine q_lcmpE C hfe dL_law_751 ?_
    refine q_ifeqT C 757 rfl dL_law_752 (by decide) ?_
    refine q_goto C 2696 dL_law_757 (by decide) ?_
    refine WG.sub [2, 3, 4, 5, 6, 7] rfl ?_
    refine WG.widen (k := cells + 310) (n := slots + 5000) (by omega) (by omega) ?_
    exact hn _ hnx
  · refine q_ifneT C 757 hk0 dL_law_742 (by decide) ?_
    refine q_goto C 2696 dL_law_757 (by decide) ?_
    refine WG.sub [2, 3, 4, 5, 6, 7] rfl ?_
    refine WG.widen (k := cells + 310) (n := slots + 5000) (by omega) (by omega) ?_
    exact hn _ hnx
set_option maxRecDepth 100000 in
set_option maxHeartbeats 4000000 in
theorem law_c7 {p : Program} {l : Launch} {e : Env} {s : State} {m : MethodId} {args : Array Value} {below : List Frame} {meth : Method} {c : Code} {cells slots : Nat} {Q : State → Prop} {G : GG} {hs : Hs} {b L x0 m0 out outD : Nat} {xs : Nat → Int32} {v5 : Int32} {next : Hs → Prop} (C : Cx G l p s m args c RL cL_law 9) (hX : va_X b L xs s s.heap) (hbl : b < s.heap.size) (hbA : ¬ gA G b) (hj : vp_in (v5 + 1) L ∧ vp_in (v5 + 2) L ∧ vp_in (v5 + 3) L ∧ vp_in (v5 + 4) L ∧ vp_in (v5 + 5) L) (hcb : cells + 310 ≤ room_1.cells ∧ slots + 5000 ≤ room_1.slots) (hop : opI (f_L_reasons (some x0) (xs (v5 + (1 : Int32)).toNatClampNeg) (xs (v5 + (2 : Int32)).toNatClampNeg) (some out)) (f_X9_reasons m0 (xs (v5 + (1 : Int32)).toNatClampNeg) (xs (v5 + (2 : Int32)).toNatClampNeg)) m0 out next hs) (hn : ∀ hs2, next hs2 → WG G p l e room_1 s m args below meth c 9 (cells + 310) (slots + 5000) Q hs2 [(0, va_rf (some b)), (1, va_rf (some x0)), (2, va_rf (some m0)), (3, va_rf (some out)), (4, va_rf (some outD)), (5, .int v5)] [] 2696) : WG G p l e room_1 s m args below meth c 9 cells slots Q hs [(0, va_rf (some b)), (1, va_rf (some x0)), (2, va_rf (some m0)), (3, va_rf (some out)), (4, va_rf (some outD)), (5, .int v5)] [] 760 := by
  obtain ⟨k, hs1, hw, ⟨fm, hm0⟩, hop⟩ := hop
  refine q_aload_n C 1 dL_law_760 rfl ?_
  refine q_aload_n C 0 dL_law_761 rfl ?_
  refine q_iload C 5 dL_law_762 rfl ?_
  refine q_iconst C (1 : Int32) dL_law_764 (by decide) ?_
  refine q_iadd C dL_law_765 ?_
  refine q_scr C hX hbl hbA hj.1 dL_law_766 ?_
  refine q_aload_n C 0 dL_law_767 rfl ?_
  refine q_iload C 5 dL_law_768 rfl ?_
  refine q_iconst C (2 : Int32) dL_law_770 (by decide) ?_
  refine q_iadd C dL_law_771 ?_
  refine q_scr C hX hbl hbA hj.2.1 dL_law_772 ?_
  refine q_aload_n C 3 dL_law_773 rfl ?_
  refine q_callL C (n := 4) [va_rf (some x0), .int (xs (v5 + (1 : Int32)).toNatClampNeg), .int (xs (v5 + (2 : Int32)).toNatClampNeg), va_rf (some out)] [] (m_L_reasons hw) cw_L_reasons ml_L_178 sm_L_reasons iw_L (by decide +kernel) ⟨(Nat.le_of_ble_eq_true rfl), (Nat.le_of_ble_eq_true rfl)⟩ ⟨by omega, by omega⟩ rfl rfl (by decide) dL_law_774 (fun sz hbd => ?_)
  obtain ⟨bb, hs2, hmm, ⟨fm2, hm2⟩, hth, hcmp, hnx⟩ := hop sz hbd
  refine q_istoreP C [(6, .int k), (0, va_rf (some b)), (1, va_rf (some x0)), (2, va_rf (some m0)), (3, va_rf (some out)), (4, va_rf (some outD)), (5, .int v5)] dL_law_777 (by decide) rfl ?_
  refine q_aload_n C 3 dL_law_779 rfl ?_
  refine q_aload_n C 1 dL_law_780 rfl ?_
  refine q_iload C 6 dL_law_781 rfl ?_
  refine q_iconst C (1 : Int32) dL_law_783 (by decide) ?_
  refine q_iadd C dL_law_784 ?_
  refine q_scr C hX hbl hbA hj.1 dL_law_785 ?_
  refine q_aload_n C 1 dL_law_786 rfl ?_
  refine q_iload C 6 dL_law_787 rfl ?_
  refine q_iconst C (2 : Int32) dL_law_789 (by decide) ?_
  refine q_iadd C dL_law_790 ?_
  refine q_scr C hX hbl hbA hj.2.1 dL_law_791 ?_
  refine q_callE C (CN := RX9) (T := TX9) (N := 28) (ci := 12) (tv := tvI) [.int (xs (v5 + (1 : Int32)).toNatClampNeg), .int (xs (v5 + (2 : Int32)).toNatClampNeg)] [] hmm (m_X9_reasons hmm) lk_L_180 im_X9_reasons se_X9_X9_reasons rfl hm0 ⟨(Nat.le_of_ble_eq_true rfl), (Nat.le_of_ble_eq_true rfl)⟩ ⟨by omega, by omega⟩ rfl rfl (by simp only [List.map, cat_rf, cat_i, cat_a]; decide) dL_law_792 ?_
  refine WG_st (st' := [.int bb]) rfl ?_
  refine q_istoreP C [(7, .int bb), (6, .int k), (0, va_rf (some b)), (1, va_rf (some x0)), (2, va_rf (some m0)), (3, va_rf (some out)), (4, va_rf (some outD)), (5, .int v5)] dL_law_795 (by decide) rfl ?_
  refine q_aload_n C 4 dL_law_797 rfl ?_
  refine q_callE C (CN := RX9) (T := TX9) (N := 28) (ci := 12) (tv := tvI) [] [] hth (m_X9_thrown hth) lk_L_154 im_X9_thrown se_X9_X9_thrown rfl hm2 ⟨(Nat.le_of_ble_eq_true rfl), (Nat.le_of_ble_eq_true rfl)⟩ ⟨by omega, by omega⟩ rfl rfl (by simp only [List.map, cat_rf, cat_i, cat_a]; decide) dL_law_798 ?_
  refine WG_st (st' := [.int k]) rfl ?_
  refine q_iload C 1 dL_law_801 rfl ?_
  refine q_icmpT C 808 rfl dL_law_803 (by decide) ?_
  refine q_iload C 1 dL_law_808 rfl ?_
  by_cases hk0 : k = 0
  · refine q_ifF C hk0 dL_law_810 825 (by decide) ?_
    obtain ⟨f, hf, hfe⟩ := hcmp hk0
    refine q_aload_n C 5 dL_law_813 rfl ?_
    refine q_iconst C (0 : Int32) dL_law_814 (by decide) ?_
    refine q_lald C hf (by unfold vp_in; decide) dL_law_815 ?_
    refine q_iload C 0 dL_law_816 rfl ?_
    refine q_i2l C dL_law_818 ?_
    refine q_lcmpE C hfe dL_law_819 ?_
    refine q_ifeqT C 825 rfl dL_law_820 (by decide) ?_
    refine q_goto C 2696 dL_law_825 (by decide) ?_
    refine WG.sub [2, 3, 4, 5, 6, 7] rfl ?_
    refine WG.widen (k := cells + 310) (n := slots + 5000) (by omega) (by omega) ?_
    exact hn _ hnx
  · refine q_ifneT C 825 hk0 dL_law_810 (by decide) ?_
    refine q_goto C 2696 dL_law_825 (by decide) ?_
    refine WG.sub [2, 3, 4, 5, 6, 7] rfl ?_
    refine WG.widen (k := cells + 310) (n := slots + 5000) (by omega) (by omega) ?_
    exact hn _ hnx
set_option maxRecDepth 100000 in
set_option maxHeartbeats 4000000 in
theorem law_c8 {p : Program} {l : Launch} {e : Env} {s : State} {m : MethodId} {args : Array Value} {below : List Frame} {meth : Method} {c : Code} {cells slots : Nat} {Q : State → Prop} {G : GG} {hs : Hs} {b L x0 m0 out outD : Nat} {xs : Nat → Int32} {v5 : Int32} {next : Hs → Prop} (C : Cx G l p s m args c RL cL_law 9) (hX : va_X b L xs s s.heap) (hbl : b < s.heap.size) (hbA : ¬ gA G b) (hj : vp_in (v5 + 1) L ∧ vp_in (v5 + 2) L ∧ vp_in (v5 + 3) L ∧ vp_in (v5 + 4) L ∧ vp_in (v5 + 5) L) (hcb : cells + 310 ≤ room_1.cells ∧ slots + 5000 ≤ room_1.slots) (hop : opI (f_L_place (some x0) (xs (v5 + (1 : Int32)).toNatClampNeg) (xs (v5 + (2 : Int32)).toNatClampNeg) (xs (v5 + (3 : Int32)).toNatClampNeg) (some out)) (f_X9_place m0 (xs (v5 + (1 : Int32)).toNatClampNeg) (xs (v5 + (2 : Int32)).toNatClampNeg) (xs (v5 + (3 : Int32)).toNatClampNeg)) m0 out next hs) (hn : ∀ hs2, next hs2 → WG G p l e room_1 s m args below meth c 9 (cells + 310) (slots + 5000) Q hs2 [(0, va_rf (some b)), (1, va_rf (some x0)), (2, va_rf (some m0)), (3, va_rf (some out)), (4, va_rf (some outD)), (5, .int v5)] [] 2696) : WG G p l e room_1 s m args below meth c 9 cells slots Q hs [(0, va_rf (some b)), (1, va_rf (some x0)), (2, va_rf (some m0)), (3, va_rf (some out)), (4, va_rf (some outD)), (5, .int v5)] [] 828 := by
  obtain ⟨k, hs1, hw, ⟨fm, hm0⟩, hop⟩ := hop
  refine q_aload_n C 1 dL_law_828 rfl ?_
  refine q_aload_n C 0 dL_law_829 rfl ?_
  refine q_iload C 5 dL_law_830 rfl ?_
  refine q_iconst C (1 : Int32) dL_law_832 (by decide) ?_
  refine q_iadd C dL_law_833 ?_
  refine q_scr C hX hbl hbA hj.1 dL_law_834 ?_
  refine q_aload_n C 0 dL_law_835 rfl ?_
  refine q_iload C 5 dL_law_836 rfl ?_
  refine q_iconst C (2 : Int32) dL_law_838 (by decide) ?_
  refine q_iadd C dL_law_839 ?_
  refine q_scr C hX hbl hbA hj.2.1 dL_law_840 ?_
  refine q_aload_n C 0 dL_law_841 rfl ?_
  refine q_iload C 5 dL_law_842 rfl ?_
  refine q_iconst C (3 : Int32) dL_law_844 (by decide) ?_
  refine q_iadd C dL_law_845 ?_
  refine q_scr C hX hbl hbA hj.2.2.1 dL_law_846 ?_
  refine q_aload_n C 3 dL_law_847 rfl ?_
  refine q_callL C (n := 5) [va_rf (some x0), .int (xs (v5 + (1 : Int32)).toNatClampNeg), .int (xs (v5 + (2 : Int32)).toNatClampNeg), .int (xs (v5 + (3 : Int32)).toNatClampNeg), va_rf (some out)] [] (m_L_place hw) cw_L_place ml_L_181 sm_L_place iw_L (by decide +kernel) ⟨(Nat.le_of_ble_eq_true rfl), (Nat.le_of_ble_eq_true rfl)⟩ ⟨by omega, by omega⟩ rfl rfl (by decide) dL_law_848 (fun sz hbd => ?_)
  obtain ⟨bb, hs2, hmm, ⟨fm2, hm2⟩, hth, hcmp, hnx⟩ := hop sz hbd
  refine q_istoreP C [(6, .int k), (0, va_rf (some b)), (1, va_rf (some x0)), (2, va_rf (some m0)), (3, va_rf (some out)), (4, va_rf (some outD)), (5, .int v5)] dL_law_851 (by decide) rfl ?_
  refine q_aload_n C 3 dL_law_853 rfl ?_
  refine q_aload_n C 1 dL_law_854 rfl ?_
  refine q_iload C 6 dL_law_855 rfl ?_
  refine q_iconst C (1 : Int32) dL_law_857 (by decide) ?_
  refine q_iadd C dL_law_858 ?_
  refine q_scr C hX hbl hbA hj.1 dL_law_859 ?_
  refine q_aload_n C 1 dL_law_860 rfl ?_
  refine q_iload C 6 dL_law_861 rfl ?_
  refine q_iconst C (2 : Int32) dL_law_863 (by decide) ?_
  refine q_iadd C dL_law_864 ?_
  refine q_scr C hX hbl hbA hj.2.1 dL_law_865 ?_
  refine q_aload_n C 1 dL_law_866 rfl ?_
  refine q_iload C 6 dL_law_867 rfl ?_
  refine q_iconst C (3 : Int32) dL_law_869 (by decide) ?_
  refine q_iadd C dL_law_870 ?_
  refine q_scr C hX hbl hbA hj.2.2.1 dL_law_871 ?_
  refine q_callE C (CN := RX9) (T := TX9) (N := 28) (ci := 12) (tv := tvI) [.int (xs (v5 + (1 : Int32)).toNatClampNeg), .int (xs (v5 + (2 : Int32)).toNatClampNeg), .int (xs (v5 + (3 : Int32)).toNatClampNeg)] [] hmm (m_X9_place hmm) lk_L_183 im_X9_place se_X9_X9_place rfl hm0 ⟨(Nat.le_of_ble_eq_true rfl), (Nat.le_of_ble_eq_true rfl)⟩ ⟨by omega, by omega⟩ rfl rfl (by simp only [List.map, cat_rf, cat_i, cat_a]; decide) dL_law_872 ?_
  refine WG_st (st' := [.int bb]) rfl ?_
  refine q_istoreP C [(7, .int bb), (6, .int k), (0, va_rf (some b)), (1, va_rf (some x0)), (2, va_rf (some m0)), (3, va_rf (some out)), (4, va_rf (some outD)), (5, .int v5)] dL_law_875 (by decide) rfl ?_
  refine q_aload_n C 4 dL_law_877 rfl ?_
  refine q_callE C (CN := RX9) (T := TX9) (N := 28) (ci := 12) (tv := tvI) [] [] hth (m_X9_thrown hth) lk_L_154 im_X9_thrown se_X9_X9_thrown rfl hm2 ⟨(Nat.le_of_ble_eq_true rfl), (Nat.le_of_ble_eq_true rfl)⟩ ⟨by omega, by omega⟩ rfl rfl (by simp only [List.map, cat_rf, cat_i, cat_a]; decide) dL_law_878 ?_
  refine WG_st (st' := [.int k]) rfl ?_
  refine q_iload C 1 dL_law_881 rfl ?_
  refine q_icmpT C 888 rfl dL_law_883 (by decide) ?_
  refine q_iload C 1 dL_law_888 rfl ?_
  by_cases hk0 : k = 0
  · refine q_ifF C hk0 dL_law_890 905 (by decide) ?_
    obtain ⟨f, hf, hfe⟩ := hcmp hk0
    refine q_aload_n C 5 dL_law_893 rfl ?_
    refine q_iconst C (0 : Int32) dL_law_894 (by decide) ?_
    refine q_lald C hf (by unfold vp_in; decide) dL_law_895 ?_
    refine q_iload C 0 dL_law_896 rfl ?_
    refine q_i2l C dL_law_898 ?_
    refine q_lcmpE C hfe dL_law_899 ?_
    refine q_ifeqT C 905 rfl dL_law_900 (by decide) ?_
    refine q_goto C 2696 dL_law_905 (by decide) ?_
    refine WG.sub [2, 3, 4, 5, 6, 7] rfl ?_
    refine WG.widen (k := cells + 310) (n := slots + 5000) (by omega) (by omega) ?_
    exact hn _ hnx
  · refine q_ifneT C 905 hk0 dL_law_890 (by decide) ?_
    refine q_goto C 2696 dL_law_905 (by decide) ?_
    refine WG.sub [2, 3, 4, 5, 6, 7] rfl ?_
    refine WG.widen (k := cells + 310) (n := slots + 5000) (by omega) (by omega) ?_
    exact hn _ hnx
set_option maxRecDepth 100000 in
set_option maxHeartbeats 4000000 in
theorem law_c9 {p : Program} {l : Launch} {e : Env} {s : State} {m : MethodId} {args : Array Value} {below : List Frame} {meth : Method} {c : Code} {cells slots : Nat} {Q : State → Prop} {G : GG} {hs : Hs} {b L x0 m0 out outD : Nat} {xs : Nat → Int32} {v5 : Int32} {next : Hs → Prop} (C : Cx G l p s m args c RL cL_law 9) (hX : va_X b L xs s s.heap) (hbl : b < s.heap.size) (hbA : ¬ gA G b) (hj : vp_in (v5 + 1) L ∧ vp_in (v5 + 2) L ∧ vp_in (v5 + 3) L ∧ vp_in (v5 + 4) L ∧ vp_in (v5 + 5) L) (hcb : cells + 310 ≤ room_1.cells ∧ slots + 5000 ≤ room_1.slots) (hop : opI (f_L_remove (some x0) (xs (v5 + (1 : Int32)).toNatClampNeg) (some out)) (f_X9_remove m0 (xs (v5 + (1 : Int32)).toNatClampNeg)) m0 out next hs) (hn : ∀ hs2, next hs2 → WG G p l e room_1 s m args below meth c 9 (cells + 310) (slots + 5000) Q hs2 [(0, va_rf (some b)), (1, va_rf (some x0)), (2, va_rf (some m0)), (3, va_rf (some out)), (4, va_rf (some outD)), (5, .int v5)] [] 2696) : WG G p l e room_1 s m args below meth c 9 cells slots Q hs [(0, va_rf (some b)), (1, va_rf (some x0)), (2, va_rf (some m0)), (3, va_rf (some out)), (4, va_rf (some outD)), (5, .int v5)] [] 908 := by
  obtain ⟨k, hs1, hw, ⟨fm, hm0⟩, hop⟩ := hop
  refine q_aload_n C 1 dL_law_908 rfl ?_
  refine q_aload_n C 0 dL_law_909 rfl ?_
  refine q_iload C 5 dL_law_910 rfl ?_
  refine q_iconst C (1 : Int32) dL_law_912 (by decide) ?_
  refine q_iadd C dL_law_913 ?_
  refine q_scr C hX hbl hbA hj.1 dL_law_914 ?_
  refine q_aload_n C 3 dL_law_915 rfl ?_
  refine q_callL C (n := 3) [va_rf (some x0), .int (xs (v5 + (1 : Int32)).toNatClampNeg), va_rf (some out)] [] (m_L_remove hw) cw_L_remove ml_L_184 sm_L_remove iw_L (by decide +kernel) ⟨(Nat.le_of_ble_eq_true rfl), (Nat.le_of_ble_eq_true rfl)⟩ ⟨by omega, by omega⟩ rfl rfl (by decide) dL_law_916 (fun sz hbd => ?_)
  obtain ⟨bb, hs2, hmm, ⟨fm2, hm2⟩, hth, hcmp, hnx⟩ := hop sz hbd
  refine q_istoreP C [(6, .int k), (0, va_rf (some b)), (1, va_rf (some x0)), (2, va_rf (some m0)), (3, va_rf (some out)), (4, va_rf (some outD)), (5, .int v5)] dL_law_919 (by decide) rfl ?_
  refine q_aload_n C 3 dL_law_921 rfl ?_
  refine q_aload_n C 1 dL_law_922 rfl ?_
  refine q_iload C 6 dL_law_923 rfl ?_
  refine q_iconst C (1 : Int32) dL_law_925 (by decide) ?_
  refine q_iadd C dL_law_926 ?_
  refine q_scr C hX hbl hbA hj.1 dL_law_927 ?_
  refine q_callE C (CN := RX9) (T := TX9) (N := 28) (ci := 12) (tv := tvI) [.int (xs (v5 + (1 : Int32)).toNatClampNeg)] [] hmm (m_X9_remove hmm) lk_L_186 im_X9_remove se_X9_X9_remove rfl hm0 ⟨(Nat.le_of_ble_eq_true rfl), (Nat.le_of_ble_eq_true rfl)⟩ ⟨by omega, by omega⟩ rfl rfl (by simp only [List.map, cat_rf, cat_i, cat_a]; decide) dL_law_928 ?_
  refine WG_st (st' := [.int bb]) rfl ?_
  refine q_istoreP C [(7, .int bb), (6, .int k), (0, va_rf (some b)), (1, va_rf (some x0)), (2, va_rf (some m0)), (3, va_rf (some out)), (4, va_rf (some outD)), (5, .int v5)] dL_law_931 (by decide) rfl ?_
  refine q_aload_n C 4 dL_law_933 rfl ?_
  refine q_callE C (CN := RX9) (T := TX9) (N := 28) (ci := 12) (tv := tvI) [] [] hth (m_X9_thrown hth) lk_L_154 im_X9_thrown se_X9_X9_thrown rfl hm2 ⟨(Nat.le_of_ble_eq_true rfl), (Nat.le_of_ble_eq_true rfl)⟩ ⟨by omega, by omega⟩ rfl rfl (by simp only [List.map, cat_rf, cat_i, cat_a]; decide) dL_law_934 ?_
  refine WG_st (st' := [.int k]) rfl ?_
  refine q_iload C 1 dL_law_937 rfl ?_
  refine q_icmpT C 944 rfl dL_law_939 (by decide) ?_
  refine q_iload C 1 dL_law_944 rfl ?_
  by_cases hk0 : k = 0
  · refine q_ifF C hk0 dL_law_946 961 (by decide) ?_
    obtain ⟨f, hf, hfe⟩ := hcmp hk0
    refine q_aload_n C 5 dL_law_949 rfl ?_
    refine q_iconst C (0 : Int32) dL_law_950 (by decide) ?_
    refine q_lald C hf (by unfold vp_in; decide) dL_law_951 ?_
    refine q_iload C 0 dL_law_952 rfl ?_
    refine q_i2l C dL_law_954 ?_
    refine q_lcmpE C hfe dL_law_955 ?_
    refine q_ifeqT C 961 rfl dL_law_956 (by decide) ?_
    refine q_goto C 2696 dL_law_961 (by decide) ?_
    refine WG.sub [2, 3, 4, 5, 6, 7] rfl ?_
    refine WG.widen (k := cells + 310) (n := slots + 5000) (by omega) (by omega) ?_
    exact hn _ hnx
  · refine q_ifneT C 961 hk0 dL_law_946 (by decide) ?_
    refine q_goto C 2696 dL_law_961 (by decide) ?_
    refine WG.sub [2, 3, 4, 5, 6, 7] rfl ?_
    refine WG.widen (k := cells + 310) (n := slots + 5000) (by omega) (by omega) ?_
    exact hn _ hnx
set_option maxRecDepth 100000 in
set_option maxHeartbeats 4000000 in
theorem law_c10 {p : Program} {l : Launch} {e : Env} {s : State} {m : MethodId} {args : Array Value} {below : List Frame} {meth : Method} {c : Code} {cells slots : Nat} {Q : State → Prop} {G : GG} {hs : Hs} {b L x0 m0 out outD : Nat} {xs : Nat → Int32} {v5 : Int32} {next : Hs → Prop} (C : Cx G l p s m args c RL cL_law 9) (hX : va_X b L xs s s.heap) (hbl : b < s.heap.size) (hbA : ¬ gA G b) (hj : vp_in (v5 + 1) L ∧ vp_in (v5 + 2) L ∧ vp_in (v5 + 3) L ∧ vp_in (v5 + 4) L ∧ vp_in (v5 + 5) L) (hcb : cells + 310 ≤ room_1.cells ∧ slots + 5000 ≤ room_1.slots) (hop : opI (f_L_lock (some x0) (xs (v5 + (1 : Int32)).toNatClampNeg) (some out)) (f_X9_lock m0 (xs (v5 + (1 : Int32)).toNatClampNeg)) m0 out next hs) (hn : ∀ hs2, next hs2 → WG G p l e room_1 s m args below meth c 9 (cells + 310) (slots + 5000) Q hs2 [(0, va_rf (some b)), (1, va_rf (some x0)), (2, va_rf (some m0)), (3, va_rf (some out)), (4, va_rf (some outD)), (5, .int v5)] [] 2696) : WG G p l e room_1 s m args below meth c 9 cells slots Q hs [(0, va_rf (some b)), (1, va_rf (some x0)), (2, va_rf (some m0)), (3, va_rf (some out)), (4, va_rf (some outD)), (5, .int v5)] [] 964 := by
  obtain ⟨k, hs1, hw, ⟨fm, hm0⟩, hop⟩ := hop
  refine q_aload_n C 1 dL_law_964 rfl ?_
  refine q_aload_n C 0 dL_law_965 rfl ?_
  refine q_iload C 5 dL_law_966 rfl ?_
  refine q_iconst C (1 : Int32) dL_law_968 (by decide) ?_
  refine q_iadd C dL_law_969 ?_
  refine q_scr C hX hbl hbA hj.1 dL_law_970 ?_
  refine q_aload_n C 3 dL_law_971 rfl ?_
  refine q_callL C (n := 3) [va_rf (some x0), .int (xs (v5 + (1 : Int32)).toNatClampNeg), va_rf (some out)] [] (m_L_lock hw) cw_L_lock ml_L_187 sm_L_lock iw_L (by decide +kernel) ⟨(Nat.le_of_ble_eq_true rfl), (Nat.le_of_ble_eq_true rfl)⟩ ⟨by omega, by omega⟩ rfl rfl (by decide) dL_law_972 (fun sz hbd => ?_)
  obtain ⟨bb, hs2, hmm, ⟨fm2, hm2⟩, hth, hcmp, hnx⟩ := hop sz hbd
  refine q_istoreP C [(6, .int k), (0, va_rf (some b)), (1, va_rf (some x0)), (2, va_rf (some m0)), (3, va_rf (some out)), (4, va_rf (some outD)), (5, .int v5)] dL_law_975 (by decide) rfl ?_
  refine q_aload_n C 3 dL_law_977 rfl ?_
  refine q_aload_n C 1 dL_law_978 rfl ?_
  refine q_iload C 6 dL_law_979 rfl ?_
  refine q_iconst C (1 : Int32) dL_law_981 (by decide) ?_
  refine q_iadd C dL_law_982 ?_
  refine q_scr C hX hbl hbA hj.1 dL_law_983 ?_
  refine q_callE C (CN := RX9) (T := TX9) (N := 28) (ci := 12) (tv := tvI) [.int (xs (v5 + (1 : Int32)).toNatClampNeg)] [] hmm (m_X9_lock hmm) lk_L_189 im_X9_lock se_X9_X9_lock rfl hm0 ⟨(Nat.le_of_ble_eq_true rfl), (Nat.le_of_ble_eq_true rfl)⟩ ⟨by omega, by omega⟩ rfl rfl (by simp only [List.map, cat_rf, cat_i, cat_a]; decide) dL_law_984 ?_
  refine WG_st (st' := [.int bb]) rfl ?_
  refine q_istoreP C [(7, .int bb), (6, .int k), (0, va_rf (some b)), (1, va_rf (some x0)), (2, va_rf (some m0)), (3, va_rf (some out)), (4, va_rf (some outD)), (5, .int v5)] dL_law_987 (by decide) rfl ?_
  refine q_aload_n C 4 dL_law_989 rfl ?_
  refine q_callE C (CN := RX9) (T := TX9) (N := 28) (ci := 12) (tv := tvI) [] [] hth (m_X9_thrown hth) lk_L_154 im_X9_thrown se_X9_X9_thrown rfl hm2 ⟨(Nat.le_of_ble_eq_true rfl), (Nat.le_of_ble_eq_true rfl)⟩ ⟨by omega, by omega⟩ rfl rfl (by simp only [List.map, cat_rf, cat_i, cat_a]; decide) dL_law_990 ?_
  refine WG_st (st' := [.int k]) rfl ?_
  refine q_iload C 1 dL_law_993 rfl ?_
  refine q_icmpT C 1000 rfl dL_law_995 (by decide) ?_
  refine q_iload C 1 dL_law_1000 rfl ?_
  by_cases hk0 : k = 0
  · refine q_ifF C hk0 dL_law_1002 1017 (by decide) ?_
    obtain ⟨f, hf, hfe⟩ := hcmp hk0
    refine q_aload_n C 5 dL_law_1005 rfl ?_
    refine q_iconst C (0 : Int32) dL_law_1006 (by decide) ?_
    refine q_lald C hf (by unfold vp_in; decide) dL_law_1007 ?_
    refine q_iload C 0 dL_law_1008 rfl ?_
    refine q_i2l C dL_law_1010 ?_
    refine q_lcmpE C hfe dL_law_1011 ?_
    refine q_ifeqT C 1017 rfl dL_law_1012 (by decide) ?_
    refine q_goto C 2696 dL_law_1017 (by decide) ?_
    refine WG.sub [2, 3, 4, 5, 6, 7] rfl ?_
    refine WG.widen (k := cells + 310) (n := slots + 5000) (by omega) (by omega) ?_
    exact hn _ hnx
  · refine q_ifneT C 1017 hk0 dL_law_1002 (by decide) ?_
    refine q_goto C 2696 dL_law_1017 (by decide) ?_
    refine WG.sub [2, 3, 4, 5, 6, 7] rfl ?_
    refine WG.widen (k := cells + 310) (n := slots + 5000) (by omega) (by omega) ?_
    exact hn _ hnx
set_option maxRecDepth 100000 in
set_option maxHeartbeats 4000000 in
theorem law_c11 {p : Program} {l : Launch} {e : Env} {s : State} {m : MethodId} {args : Array Value} {below : List Frame} {meth : Method} {c : Code} {cells slots : Nat} {Q : State → Prop} {G : GG} {hs : Hs} {b L x0 m0 out outD : Nat} {xs : Nat → Int32} {v5 : Int32} {next : Hs → Prop} (C : Cx G l p s m args c RL cL_law 9) (hX : va_X b L xs s s.heap) (hbl : b < s.heap.size) (hbA : ¬ gA G b) (hj : vp_in (v5 + 1) L ∧ vp_in (v5 + 2) L ∧ vp_in (v5 + 3) L ∧ vp_in (v5 + 4) L ∧ vp_in (v5 + 5) L) (hcb : cells + 310 ≤ room_1.cells ∧ slots + 5000 ≤ room_1.slots) (hop : opI (f_L_unlock (some x0) (xs (v5 + (1 : Int32)).toNatClampNeg) (some out)) (f_X9_unlock m0 (xs (v5 + (1 : Int32)).toNatClampNeg)) m0 out next hs) (hn : ∀ hs2, next hs2 → WG G p l e room_1 s m args below meth c 9 (cells + 310) (slots + 5000) Q hs2 [(0, va_rf (some b)), (1, va_rf (some x0)), (2, va_rf (some m0)), (3, va_rf (some out)), (4, va_rf (some outD)), (5, .int v5)] [] 2696) : WG G p l e room_1 s m args below meth c 9 cells slots Q hs [(0, va_rf (some b)), (1, va_rf (some x0)), (2, va_rf (some m0)), (3, va_rf (some out)), (4, va_rf (some outD)), (5, .int v5)] [] 1020 := by
  obtain ⟨k, hs1, hw, ⟨fm, hm0⟩, hop⟩ := hop
  refine q_aload_n C 1 dL_law_1020 rfl ?_
  refine q_aload_n C 0 dL_law_1021 rfl ?_
  refine q_iload C 5 dL_law_1022 rfl ?_
  refine q_iconst C (1 : Int32) dL_law_1024 (by decide) ?_
  refine q_iadd C dL_law_1025 ?_
  refine q_scr C hX hbl hbA hj.1 dL_law_1026 ?_
  refine q_aload_n C 3 dL_law_1027 rfl ?_
  refine q_callL C (n := 3) [va_rf (some x0), .int (xs (v5 + (1 : Int32)).toNatClampNeg), va_rf (some out)] [] (m_L_unlock hw) cw_L_unlock ml_L_190 sm_L_unlock iw_L (by decide +kernel) ⟨(Nat.le_of_ble_eq_true rfl), (Nat.le_of_ble_eq_true rfl)⟩ ⟨by omega, by omega⟩ rfl rfl (by decide) dL_law_1028 (fun sz hbd => ?_)
  obtain ⟨bb, hs2, hmm, ⟨fm2, hm2⟩, hth, hcmp, hnx⟩ := hop sz hbd
  refine q_istoreP C [(6, .int k), (0, va_rf (some b)), (1, va_rf (some x0)), (2, va_rf (some m0)), (3, va_rf (some out)), (4, va_rf (some outD)), (5, .int v5)] dL_law_1031 (by decide) rfl ?_
  refine q_aload_n C 3 dL_law_1033 rfl ?_
  refine q_aload_n C 1 dL_law_1034 rfl ?_
  refine q_iload C 6 dL_law_1035 rfl ?_
  refine q_iconst C (1 : Int32) dL_law_1037 (by decide) ?_
  refine q_iadd C dL_law_1038 ?_
  refine q_scr C hX hbl hbA hj.1 dL_law_1039 ?_
  refine q_callE C (CN := RX9) (T := TX9) (N := 28) (ci := 12) (tv := tvI) [.int (xs (v5 + (1 : Int32)).toNatClampNeg)] [] hmm (m_X9_unlock hmm) lk_L_192 im_X9_unlock se_X9_X9_unlock rfl hm0 ⟨(Nat.le_of_ble_eq_true rfl), (Nat.le_of_ble_eq_true rfl)⟩ ⟨by omega, by omega⟩ rfl rfl (by simp only [List.map, cat_rf, cat_i, cat_a]; decide) dL_law_1040 ?_
  refine WG_st (st' := [.int bb]) rfl ?_
  refine q_istoreP C [(7, .int bb), (6, .int k), (0, va_rf (some b)), (1, va_rf (some x0)), (2, va_rf (some m0)), (3, va_rf (some out)), (4, va_rf (some outD)), (5, .int v5)] dL_law_1043 (by decide) rfl ?_
  refine q_aload_n C 4 dL_law_1045 rfl ?_
  refine q_callE C (CN := RX9) (T := TX9) (N := 28) (ci := 12) (tv := tvI) [] [] hth (m_X9_thrown hth) lk_L_154 im_X9_thrown se_X9_X9_thrown rfl hm2 ⟨(Nat.le_of_ble_eq_true rfl), (Nat.le_of_ble_eq_true rfl)⟩ ⟨by omega, by omega⟩ rfl rfl (by simp only [List.map, cat_rf, cat_i, cat_a]; decide) dL_law_1046 ?_
  refine WG_st (st' := [.int k]) rfl ?_
  refine q_iload C 1 dL_law_1049 rfl ?_
  refine q_icmpT C 1056 rfl dL_law_1051 (by decide) ?_
  refine q_iload C 1 dL_law_1056 rfl ?_
  by_cases hk0 : k = 0
  · refine q_ifF C hk0 dL_law_1058 1073 (by decide) ?_
    obtain ⟨f, hf, hfe⟩ := hcmp hk0
    refine q_aload_n C 5 dL_law_1061 rfl ?_
    refine q_iconst C (0 : Int32) dL_law_1062 (by decide) ?_
    refine q_lald C hf (by unfold vp_in; decide) dL_law_1063 ?_
    refine q_iload C 0 dL_law_1064 rfl ?_
    refine q_i2l C dL_law_1066 ?_
    refine q_lcmpE C hfe dL_law_1067 ?_
    refine q_ifeqT C 1073 rfl dL_law_1068 (by decide) ?_
    refine q_goto C 2696 dL_law_1073 (by decide) ?_
    refine WG.sub [2, 3, 4, 5, 6, 7] rfl ?_
    refine WG.widen (k := cells + 310) (n := slots + 5000) (by omega) (by omega) ?_
    exact hn _ hnx
  · refine q_ifneT C 1073 hk0 dL_law_1058 (by decide) ?_
    refine q_goto C 2696 dL_law_1073 (by decide) ?_
    refine WG.sub [2, 3, 4, 5, 6, 7] rfl ?_
    refine WG.widen (k := cells + 310) (n := slots + 5000) (by omega) (by omega) ?_
    exact hn _ hnx
set_option maxRecDepth 100000 in
set_option maxHeartbeats 4000000 in
theorem law_c12 {p : Program} {l : Launch} {e : Env} {s : State} {m : MethodId} {args : Array Value} {below : List Frame} {meth : Method} {c : Code} {cells slots : Nat} {Q : State → Prop} {G : GG} {hs : Hs} {b L x0 m0 out outD : Nat} {xs : Nat → Int32} {v5 : Int32} {next : Hs → Prop} (C : Cx G l p s m args c RL cL_law 9) (hX : va_X b L xs s s.heap) (hbl : b < s.heap.size) (hbA : ¬ gA G b) (hj : vp_in (v5 + 1) L ∧ vp_in (v5 + 2) L ∧ vp_in (v5 + 3) L ∧ vp_in (v5 + 4) L ∧ vp_in (v5 + 5) L) (hcb : cells + 310 ≤ room_1.cells ∧ slots + 5000 ≤ room_1.slots) (hop : opZ (f_L_isLocked (some x0) (xs (v5 + (1 : Int32)).toNatClampNeg) (some out)) (f_X9_isLocked m0 (xs (v5 + (1 : Int32)).toNatClampNeg)) m0 out next hs) (hn : ∀ hs2, next hs2 → WG G p l e room_1 s m args below meth c 9 (cells + 310) (slots + 5000) Q hs2 [(0, va_rf (some b)), (1, va_rf (some x0)), (2, va_rf (some m0)), (3, va_rf (some out)), (4, va_rf (some outD)), (5, .int v5)] [] 2696) : WG G p l e room_1 s m args below meth c 9 cells slots Q hs [(0, va_rf (some b)), (1, va_rf (some x0)), (2, va_rf (some m0)), (3, va_rf (some out)), (4, va_rf (some outD)), (5, .int v5)] [] 1076 := by
  obtain ⟨k, hs1, hw, ⟨fm, hm0⟩, hop⟩ := hop
  refine q_aload_n C 1 dL_law_1076 rfl ?_
  refine q_aload_n C 0 dL_law_1077 rfl ?_
  refine q_iload C 5 dL_law_1078 rfl ?_
  refine q_iconst C (1 : Int32) dL_law_1080 (by decide) ?_
  refine q_iadd C dL_law_1081 ?_
  refine q_scr C hX hbl hbA hj.1 dL_law_1082 ?_
  refine q_aload_n C 3 dL_law_1083 rfl ?_
  refine q_callL C (n := 3) [va_rf (some x0), .int (xs (v5 + (1 : Int32)).toNatClampNeg), va_rf (some out)] [] (m_L_isLocked hw) cw_L_isLocked ml_L_193 sm_L_isLocked iw_L (by decide +kernel) ⟨(Nat.le_of_ble_eq_true rfl), (Nat.le_of_ble_eq_true rfl)⟩ ⟨by omega, by omega⟩ rfl rfl (by decide) dL_law_1084 (fun sz hbd => ?_)
  obtain ⟨bb, hs2, hmm, ⟨fm2, hm2⟩, hth, hcmp, hnx⟩ := hop sz hbd
  refine q_istoreP C [(6, .int k), (0, va_rf (some b)), (1, va_rf (some x0)), (2, va_rf (some m0)), (3, va_rf (some out)), (4, va_rf (some outD)), (5, .int v5)] dL_law_1087 (by decide) rfl ?_
  refine q_aload_n C 3 dL_law_1089 rfl ?_
  refine q_aload_n C 1 dL_law_1090 rfl ?_
  refine q_iload C 6 dL_law_1091 rfl ?_
  refine q_iconst C (1 : Int32) dL_law_1093 (by decide) ?_
  refine q_iadd C dL_law_1094 ?_
  refine q_scr C hX hbl hbA hj.1 dL_law_1095 ?_
  refine q_callE C (CN := RX9) (T := TX9) (N := 28) (ci := 12) (tv := tvI) [.int (xs (v5 + (1 : Int32)).toNatClampNeg)] [] hmm (m_X9_isLocked hmm) lk_L_195 im_X9_isLocked se_X9_X9_isLocked rfl hm0 ⟨(Nat.le_of_ble_eq_true rfl), (Nat.le_of_ble_eq_true rfl)⟩ ⟨by omega, by omega⟩ rfl rfl (by simp only [List.map, cat_rf, cat_i, cat_a]; decide) dL_law_1096 ?_
  refine WG_st (st' := [.int bb]) rfl ?_
  refine q_istoreP C [(7, .int bb), (6, .int k), (0, va_rf (some b)), (1, va_rf (some x0)), (2, va_rf (some m0)), (3, va_rf (some out)), (4, va_rf (some outD)), (5, .int v5)] dL_law_1099 (by decide) rfl ?_
  refine q_aload_n C 4 dL_law_1101 rfl ?_
  refine q_callE C (CN := RX9) (T := TX9) (N := 28) (ci := 12) (tv := tvI) [] [] hth (m_X9_thrown hth) lk_L_154 im_X9_thrown se_X9_X9_thrown rfl hm2 ⟨(Nat.le_of_ble_eq_true rfl), (Nat.le_of_ble_eq_true rfl)⟩ ⟨by omega, by omega⟩ rfl rfl (by simp only [List.map, cat_rf, cat_i, cat_a]; decide) dL_law_1102 ?_
  refine WG_st (st' := [.int k]) rfl ?_
  refine q_iload C 1 dL_law_1105 rfl ?_
  refine q_icmpT C 1112 rfl dL_law_1107 (by decide) ?_
  refine q_iload C 1 dL_law_1112 rfl ?_
  by_cases hk0 : k = 0
  · refine q_ifF C hk0 dL_law_1114 1136 (by decide) ?_
    obtain ⟨f, hf, hfe⟩ := hcmp hk0
    refine q_aload_n C 5 dL_law_1117 rfl ?_
    refine q_iconst C (0 : Int32) dL_law_1118 (by decide) ?_
    refine q_lald C hf (by unfold vp_in; decide) dL_law_1119 ?_
    refine q_iload C 0 dL_law_1120 rfl ?_
    by_cases hb0 : bb = 0
    · refine q_ifeqT C 1129 hb0 dL_law_1122 (by decide) ?_
      refine q_lconst C (0 : Int64) dL_law_1129 (by decide) ?_
      refine q_lcmpE C (hfe.trans (if_pos hb0)) dL_law_1130 ?_
      refine q_ifeqT C 1136 rfl dL_law_1131 (by decide) ?_
      refine q_goto C 2696 dL_law_1136 (by decide) ?_
      refine WG.sub [2, 3, 4, 5, 6, 7] rfl ?_
      refine WG.widen (k := cells + 310) (n := slots + 5000) (by omega) (by omega) ?_
      exact hn _ hnx
    · refine q_ifT C hb0 dL_law_1122 1129 (by decide) ?_
      refine q_lconst C (1 : Int64) dL_law_1125 (by decide) ?_
      refine q_goto C 1130 dL_law_1126 (by decide) ?_
      refine q_lcmpE C (hfe.trans (if_neg hb0)) dL_law_1130 ?_
      refine q_ifeqT C 1136 rfl dL_law_1131 (by decide) ?_
      refine q_goto C 2696 dL_law_1136 (by decide) ?_
      refine WG.sub [2, 3, 4, 5, 6, 7] rfl ?_
      refine WG.widen (k := cells + 310) (n := slots + 5000) (by omega) (by omega) ?_
      exact hn _ hnx
  · refine q_ifneT C 1136 hk0 dL_law_1114 (by decide) ?_
    refine q_goto C 2696 dL_law_1136 (by decide) ?_
    refine WG.sub [2, 3, 4, 5, 6, 7] rfl ?_
    refine WG.widen (k := cells + 310) (n := slots + 5000) (by omega) (by omega) ?_
    exact hn _ hnx
set_option maxRecDepth 100000 in
set_option maxHeartbeats 4000000 in
theorem law_c13 {p : Program} {l : Launch} {e : Env} {s : State} {m : MethodId} {args : Array Value} {below : List Frame} {meth : Method} {c : Code} {cells slots : Nat} {Q : State → Prop} {G : GG} {hs : Hs} {b L x0 m0 out outD : Nat} {xs : Nat → Int32} {v5 : Int32} {next : Hs → Prop} (C : Cx G l p s m args c RL cL_law 9) (hX : va_X b L xs s s.heap) (hbl : b < s.heap.size) (hbA : ¬ gA G b) (hj : vp_in (v5 + 1) L ∧ vp_in (v5 + 2) L ∧ vp_in (v5 + 3) L ∧ vp_in (v5 + 4) L ∧ vp_in (v5 + 5) L) (hcb : cells + 310 ≤ room_1.cells ∧ slots + 5000 ≤ room_1.slots) (hop : opI (f_L_placeOf (some x0) (xs (v5 + (1 : Int32)).toNatClampNeg) (some out)) (f_X9_placeOf m0 (xs (v5 + (1 : Int32)).toNatClampNeg)) m0 out next hs) (hn : ∀ hs2, next hs2 → WG G p l e room_1 s m args below meth c 9 (cells + 310) (slots + 5000) Q hs2 [(0, va_rf (some b)), (1, va_rf (some x0)), (2, va_rf (some m0)), (3, va_rf (some out)), (4, va_rf (some outD)), (5, .int v5)] [] 2696) : WG G p l e room_1 s m args below meth c 9 cells slots Q hs [(0, va_rf (some b)), (1, va_rf (some x0)), (2, va_rf (some m0)), (3, va_rf (some out)), (4, va_rf (some outD)), (5, .int v5)] [] 1139 := by
  obtain ⟨k, hs1, hw, ⟨fm, hm0⟩, hop⟩ := hop
  refine q_aload_n C 1 dL_law_1139 rfl ?_
  refine q_aload_n C 0 dL_law_1140 rfl ?_
  refine q_iload C 5 dL_law_1141 rfl ?_
  refine q_iconst C (1 : Int32) dL_law_1143 (by decide) ?_
  refine q_iadd C dL_law_1144 ?_
  refine q_scr C hX hbl hbA hj.1 dL_law_1145 ?_
  refine q_aload_n C 3 dL_law_1146 rfl ?_
  refine q_callL C (n := 3) [va_rf (some x0), .int (xs (v5 + (1 : Int32)).toNatClampNeg), va_rf (some out)] [] (m_L_placeOf hw) cw_L_placeOf ml_L_196 sm_L_placeOf iw_L (by decide +kernel) ⟨(Nat.le_of_ble_eq_true rfl), (Nat.le_of_ble_eq_true rfl)⟩ ⟨by omega, by omega⟩ rfl rfl (by decide) dL_law_1147 (fun sz hbd => ?_)
  obtain ⟨bb, hs2, hmm, ⟨fm2, hm2⟩, hth, hcmp, hnx⟩ := hop sz hbd
  refine q_istoreP C [(6, .int k), (0, va_rf (some b)), (1, va_rf (some x0)), (2, va_rf (some m0)), (3, va_rf (some out)), (4, va_rf (some outD)), (5, .int v5)] dL_law_1150 (by decide) rfl ?_
  refine q_aload_n C 3 dL_law_1152 rfl ?_
  refine q_aload_n C 1 dL_law_1153 rfl ?_
  refine q_iload C 6 dL_law_1154 rfl ?_
  refine q_iconst C (1 : Int32) dL_law_1156 (by decide) ?_
  refine q_iadd C dL_law_1157 ?_
  refine q_scr C hX hbl hbA hj.1 dL_law_1158 ?_
  refine q_callE C (CN := RX9) (T := TX9) (N := 28) (ci := 12) (tv := tvI) [.int (xs (v5 + (1 : Int32)).toNatClampNeg)] [] hmm (m_X9_placeOf hmm) lk_L_198 im_X9_placeOf se_X9_X9_placeOf rfl hm0 ⟨(Nat.le_of_ble_eq_true rfl), (Nat.le_of_ble_eq_true rfl)⟩ ⟨by omega, by omega⟩ rfl rfl (by simp only [List.map, cat_rf, cat_i, cat_a]; decide) dL_law_1159 ?_
  refine WG_st (st' := [.int bb]) rfl ?_
  refine q_istoreP C [(7, .int bb), (6, .int k), (0, va_rf (some b)), (1, va_rf (some x0)), (2, va_rf (some m0)), (3, va_rf (some out)), (4, va_rf (some outD)), (5, .int v5)] dL_law_1162 (by decide) rfl ?_
  refine q_aload_n C 4 dL_law_1164 rfl ?_
  refine q_callE C (CN := RX9) (T := TX9) (N := 28) (ci := 12) (tv := tvI) [] [] hth (m_X9_thrown hth) lk_L_154 im_X9_thrown se_X9_X9_thrown rfl hm2 ⟨(Nat.le_of_ble_eq_true rfl), (Nat.le_of_ble_eq_true rfl)⟩ ⟨by omega, by omega⟩ rfl rfl (by simp only [List.map, cat_rf, cat_i, cat_a]; decide) dL_law_1165 ?_
  refine WG_st (st' := [.int k]) rfl ?_
  refine q_iload C 1 dL_law_1168 rfl ?_
  refine q_icmpT C 1175 rfl dL_law_1170 (by decide) ?_
  refine q_iload C 1 dL_law_1175 rfl ?_
  by_cases hk0 : k = 0
  · refine q_ifF C hk0 dL_law_1177 1192 (by decide) ?_
    obtain ⟨f, hf, hfe⟩ := hcmp hk0
    refine q_aload_n C 5 dL_law_1180 rfl ?_
    refine q_iconst C (0 : Int32) dL_law_1181 (by decide) ?_
    refine q_lald C hf (by unfold vp_in; decide) dL_law_1182 ?_
    refine q_iload C 0 dL_law_1183 rfl ?_
    refine q_i2l C dL_law_1185 ?_
    refine q_lcmpE C hfe dL_law_1186 ?_
    refine q_ifeqT C 1192 rfl dL_law_1187 (by decide) ?_
    refine q_goto C 2696 dL_law_1192 (by decide) ?_
    refine WG.sub [2, 3, 4, 5, 6, 7] rfl ?_
    refine WG.widen (k := cells + 310) (n := slots + 5000) (by omega) (by omega) ?_
    exact hn _ hnx
  · refine q_ifneT C 1192 hk0 dL_law_1177 (by decide) ?_
    refine q_goto C 2696 dL_law_1192 (by decide) ?_
    refine WG.sub [2, 3, 4, 5, 6, 7] rfl ?_
    refine WG.widen (k := cells + 310) (n := slots + 5000) (by omega) (by omega) ?_
    exact hn _ hnx
set_option maxRecDepth 100000 in
set_option maxHeartbeats 4000000 in
theorem law_c14 {p : Program} {l : Launch} {e : Env} {s : State} {m : MethodId} {args : Array Value} {below : List Frame} {meth : Method} {c : Code} {cells slots : Nat} {Q : State → Prop} {G : GG} {hs : Hs} {b L x0 m0 out outD : Nat} {xs : Nat → Int32} {v5 : Int32} {next : Hs → Prop} (C : Cx G l p s m args c RL cL_law 9) (hX : va_X b L xs s s.heap) (hbl : b < s.heap.size) (hbA : ¬ gA G b) (hj : vp_in (v5 + 1) L ∧ vp_in (v5 + 2) L ∧ vp_in (v5 + 3) L ∧ vp_in (v5 + 4) L ∧ vp_in (v5 + 5) L) (hcb : cells + 310 ≤ room_1.cells ∧ slots + 5000 ≤ room_1.slots) (hop : opI (f_L_groupAt (some x0) (xs (v5 + (1 : Int32)).toNatClampNeg) (xs (v5 + (2 : Int32)).toNatClampNeg) (some out)) (f_X9_groupAt m0 (xs (v5 + (1 : Int32)).toNatClampNeg) (xs (v5 + (2 : Int32)).toNatClampNeg)) m0 out next hs) (hn : ∀ hs2, next hs2 → WG G p l e room_1 s m args below meth c 9 (cells + 310) (slots + 5000) Q hs2 [(0, va_rf (some b)), (1, va_rf (some x0)), (2, va_rf (some m0)), (3, va_rf (some out)), (4, va_rf (some outD)), (5, .int v5)] [] 2696) : WG G p l e room_1 s m args below meth c 9 cells slots Q hs [(0, va_rf (some b)), (1, va_rf (some x0)), (2, va_rf (some m0)), (3, va_rf (some out)), (4, va_rf (some outD)), (5, .int v5)] [] 1195 := by
  obtain ⟨k, hs1, hw, ⟨fm, hm0⟩, hop⟩ := hop
  refine q_aload_n C 1 dL_law_1195 rfl ?_
  refine q_aload_n C 0 dL_law_1196 rfl ?_
  refine q_iload C 5 dL_law_1197 rfl ?_
  refine q_iconst C (1 : Int32) dL_law_1199 (by decide) ?_
  refine q_iadd C dL_law_1200 ?_
  refine q_scr C hX hbl hbA hj.1 dL_law_1201 ?_
  refine q_aload_n C 0 dL_law_1202 rfl ?_
  refine q_iload C 5 dL_law_1203 rfl ?_
  refine q_iconst C (2 : Int32) dL_law_1205 (by decide) ?_
  refine q_iadd C dL_law_1206 ?_
  refine q_scr C hX hbl hbA hj.2.1 dL_law_1207 ?_
  refine q_aload_n C 3 dL_law_1208 rfl ?_
  refine q_callL C (n := 4) [va_rf (some x0), .int (xs (v5 + (1 : Int32)).toNatClampNeg), .int (xs (v5 + (2 : Int32)).toNatClampNeg), va_rf (some out)] [] (m_L_groupAt hw) cw_L_groupAt ml_L_199 sm_L_groupAt iw_L (by decide +kernel) ⟨(Nat.le_of_ble_eq_true rfl), (Nat.le_of_ble_eq_true rfl)⟩ ⟨by omega, by omega⟩ rfl rfl (by decide) dL_law_1209 (fun sz hbd => ?_)
  obtain ⟨bb, hs2, hmm, ⟨fm2, hm2⟩, hth, hcmp, hnx⟩ := hop sz hbd
  refine q_istoreP C [(6, .int k), (0, va_rf (some b)), (1, va_rf (some x0)), (2, va_rf (some m0)), (3, va_rf (some out)), (4, va_rf (some outD)), (5, .int v5)] dL_law_1212 (by decide) rfl ?_
  refine q_aload_n C 3 dL_law_1214 rfl ?_
  refine q_aload_n C 1 dL_law_1215 rfl ?_
  refine q_iload C 6 dL_law_1216 rfl ?_
  refine q_iconst C (1 : Int32) dL_law_1218 (by decide) ?_
  refine q_iadd C dL_law_1219 ?_
  refine q_scr C hX hbl hbA hj.1 dL_law_1220 ?_
  refine q_aload_n C 1 dL_law_1221 rfl ?_
  refine q_iload C 6 dL_law_1222 rfl ?_
  refine q_iconst C (2 : Int32) dL_law_1224 (by decide) ?_
  refine q_iadd C dL_law_1225 ?_
  refine q_scr C hX hbl hbA hj.2.1 dL_law_1226 ?_
  refine q_callE C (CN := RX9) (T := TX9) (N := 28) (ci := 12) (tv := tvI) [.int (xs (v5 + (1 : Int32)).toNatClampNeg), .int (xs (v5 + (2 : Int32)).toNatClampNeg)] [] hmm (m_X9_groupAt hmm) lk_L_201 im_X9_groupAt se_X9_X9_groupAt rfl hm0 ⟨(Nat.le_of_ble_eq_true rfl), (Nat.le_of_ble_eq_true rfl)⟩ ⟨by omega, by omega⟩ rfl rfl (by simp only [List.map, cat_rf, cat_i, cat_a]; decide) dL_law_1227 ?_
  refine WG_st (st' := [.int bb]) rfl ?_
  refine q_istoreP C [(7, .int bb), (6, .int k), (0, va_rf (some b)), (1, va_rf (some x0)), (2, va_rf (some m0)), (3, va_rf (some out)), (4, va_rf (some outD)), (5, .int v5)] dL_law_1230 (by decide) rfl ?_
  refine q_aload_n C 4 dL_law_1232 rfl ?_
  refine q_callE C (CN := RX9) (T := TX9) (N := 28) (ci := 12) (tv := tvI) [] [] hth (m_X9_thrown hth) lk_L_154 im_X9_thrown se_X9_X9_thrown rfl hm2 ⟨(Nat.le_of_ble_eq_true rfl), (Nat.le_of_ble_eq_true rfl)⟩ ⟨by omega, by omega⟩ rfl rfl (by simp only [List.map, cat_rf, cat_i, cat_a]; decide) dL_law_1233 ?_
  refine WG_st (st' := [.int k]) rfl ?_
  refine q_iload C 1 dL_law_1236 rfl ?_
  refine q_icmpT C 1243 rfl dL_law_1238 (by decide) ?_
  refine q_iload C 1 dL_law_1243 rfl ?_
  by_cases hk0 : k = 0
  · refine q_ifF C hk0 dL_law_1245 1260 (by decide) ?_
    obtain ⟨f, hf, hfe⟩ := hcmp hk0
    refine q_aload_n C 5 dL_law_1248 rfl ?_
    refine q_iconst C (0 : Int32) dL_law_1249 (by decide) ?_
    refine q_lald C hf (by unfold vp_in; decide) dL_law_1250 ?_
    refine q_iload C 0 dL_law_1251 rfl ?_
    refine q_i2l C dL_law_1253 ?_
    refine q_lcmpE C hfe dL_law_1254 ?_
    refine q_ifeqT C 1260 rfl dL_law_1255 (by decide) ?_
    refine q_goto C 2696 dL_law_1260 (by decide) ?_
    refine WG.sub [2, 3, 4, 5, 6, 7] rfl ?_
    refine WG.widen (k := cells + 310) (n := slots + 5000) (by omega) (by omega) ?_
    exact hn _ hnx
  · refine q_ifneT C 1260 hk0 dL_law_1245 (by decide) ?_
    refine q_goto C 2696 dL_law_1260 (by decide) ?_
    refine WG.sub [2, 3, 4, 5, 6, 7] rfl ?_
    refine WG.widen (k := cells + 310) (n := slots + 5000) (by omega) (by omega) ?_
    exact hn _ hnx
set_option maxRecDepth 100000 in
set_option maxHeartbeats 4000000 in
theorem law_c15 {p : Program} {l : Launch} {e : Env} {s : State} {m : MethodId} {args : Array Value} {below : List Frame} {meth : Method} {c : Code} {cells slots : Nat} {Q : State → Prop} {G : GG} {hs : Hs} {b L x0 m0 out outD : Nat} {xs : Nat → Int32} {v5 : Int32} {next : Hs → Prop} (C : Cx G l p s m args c RL cL_law 9) (hX : va_X b L xs s s.heap) (hbl : b < s.heap.size) (hbA : ¬ gA G b) (hj : vp_in (v5 + 1) L ∧ vp_in (v5 + 2) L ∧ vp_in (v5 + 3) L ∧ vp_in (v5 + 4) L ∧ vp_in (v5 + 5) L) (hcb : cells + 310 ≤ room_1.cells ∧ slots + 5000 ≤ room_1.slots) (hop : opI (f_L_teacherAt (some x0) (xs (v5 + (1 : Int32)).toNatClampNeg) (xs (v5 + (2 : Int32)).toNatClampNeg) (some out)) (f_X9_teacherAt m0 (xs (v5 + (1 : Int32)).toNatClampNeg) (xs (v5 + (2 : Int32)).toNatClampNeg)) m0 out next hs) (hn : ∀ hs2, next hs2 → WG G p l e room_1 s m args below meth c 9 (cells + 310) (slots + 5000) Q hs2 [(0, va_rf (some b)), (1, va_rf (some x0)), (2, va_rf (some m0)), (3, va_rf (some out)), (4, va_rf (some outD)), (5, .int v5)] [] 2696) : WG G p l e room_1 s m args below meth c 9 cells slots Q hs [(0, va_rf (some b)), (1, va_rf (some x0)), (2, va_rf (some m0)), (3, va_rf (some out)), (4, va_rf (some outD)), (5, .int v5)] [] 1263 := by
  obtain ⟨k, hs1, hw, ⟨fm, hm0⟩, hop⟩ := hop
  refine q_aload_n C 1 dL_law_1263 rfl ?_
  refine q_aload_n C 0 dL_law_1264 rfl ?_
  refine q_iload C 5 dL_law_1265 rfl ?_
  refine q_iconst C (1 : Int32) dL_law_1267 (by decide) ?_
  refine q_iadd C dL_law_1268 ?_
  refine q_scr C hX hbl hbA hj.1 dL_law_1269 ?_
  refine q_aload_n C 0 dL_law_1270 rfl ?_
  refine q_iload C 5 dL_law_1271 rfl ?_
  refine q_iconst C (2 : Int32) dL_law_1273 (by decide) ?_
  refine q_iadd C dL_law_1274 ?_
  refine q_scr C hX hbl hbA hj.2.1 dL_law_1275 ?_
  refine q_aload_n C 3 dL_law_1276 rfl ?_
  refine q_callL C (n := 4) [va_rf (some x0), .int (xs (v5 + (1 : Int32)).toNatClampNeg), .int (xs (v5 + (2 : Int32)).toNatClampNeg), va_rf (some out)] [] (m_L_teacherAt hw) cw_L_teacherAt ml_L_202 sm_L_teacherAt iw_L (by decide +kernel) ⟨(Nat.le_of_ble_eq_true rfl), (Nat.le_of_ble_eq_true rfl)⟩ ⟨by omega, by omega⟩ rfl rfl (by decide) dL_law_1277 (fun sz hbd => ?_)
  obtain ⟨bb, hs2, hmm, ⟨fm2, hm2⟩, hth, hcmp, hnx⟩ := hop sz hbd
  refine q_istoreP C [(6, .int k), (0, va_rf (some b)), (1, va_rf (some x0)), (2, va_rf (some m0)), (3, va_rf (some out)), (4, va_rf (some outD)), (5, .int v5)] dL_law_1280 (by decide) rfl ?_
  refine q_aload_n C 3 dL_law_1282 rfl ?_
  refine q_aload_n C 1 dL_law_1283 rfl ?_
  refine q_iload C 6 dL_law_1284 rfl ?_
  refine q_iconst C (1 : Int32) dL_law_1286 (by decide) ?_
  refine q_iadd C dL_law_1287 ?_
  refine q_scr C hX hbl hbA hj.1 dL_law_1288 ?_
  refine q_aload_n C 1 dL_law_1289 rfl ?_
  refine q_iload C 6 dL_law_1290 rfl ?_
  refine q_iconst C (2 : Int32) dL_law_1292 (by decide) ?_
  refine q_iadd C dL_law_1293 ?_
  refine q_scr C hX hbl hbA hj.2.1 dL_law_1294 ?_
  refine q_callE C (CN := RX9) (T := TX9) (N := 28) (ci := 12) (tv := tvI) [.int (xs (v5 + (1 : Int32)).toNatClampNeg), .int (xs (v5 + (2 : Int32)).toNatClampNeg)] [] hmm (m_X9_teacherAt hmm) lk_L_204 im_X9_teacherAt se_X9_X9_teacherAt rfl hm0 ⟨(Nat.le_of_ble_eq_true rfl), (Nat.le_of_ble_eq_true rfl)⟩ ⟨by omega, by omega⟩ rfl rfl (by simp only [List.map, cat_rf, cat_i, cat_a]; decide) dL_law_1295 ?_
  refine WG_st (st' := [.int bb]) rfl ?_
  refine q_istoreP C [(7, .int bb), (6, .int k), (0, va_rf (some b)), (1, va_rf (some x0)), (2, va_rf (some m0)), (3, va_rf (some out)), (4, va_rf (some outD)), (5, .int v5)] dL_law_1298 (by decide) rfl ?_
  refine q_aload_n C 4 dL_law_1300 rfl ?_
  refine q_callE C (CN := RX9) (T := TX9) (N := 28) (ci := 12) (tv := tvI) [] [] hth (m_X9_thrown hth) lk_L_154 im_X9_thrown se_X9_X9_thrown rfl hm2 ⟨(Nat.le_of_ble_eq_true rfl), (Nat.le_of_ble_eq_true rfl)⟩ ⟨by omega, by omega⟩ rfl rfl (by simp only [List.map, cat_rf, cat_i, cat_a]; decide) dL_law_1301 ?_
  refine WG_st (st' := [.int k]) rfl ?_
  refine q_iload C 1 dL_law_1304 rfl ?_
  refine q_icmpT C 1311 rfl dL_law_1306 (by decide) ?_
  refine q_iload C 1 dL_law_1311 rfl ?_
  by_cases hk0 : k = 0
  · refine q_ifF C hk0 dL_law_1313 1328 (by decide) ?_
    obtain ⟨f, hf, hfe⟩ := hcmp hk0
    refine q_aload_n C 5 dL_law_1316 rfl ?_
    refine q_iconst C (0 : Int32) dL_law_1317 (by decide) ?_
    refine q_lald C hf (by unfold vp_in; decide) dL_law_1318 ?_
    refine q_iload C 0 dL_law_1319 rfl ?_
    refine q_i2l C dL_law_1321 ?_
    refine q_lcmpE C hfe dL_law_1322 ?_
    refine q_ifeqT C 1328 rfl dL_law_1323 (by decide) ?_
    refine q_goto C 2696 dL_law_1328 (by decide) ?_
    refine WG.sub [2, 3, 4, 5, 6, 7] rfl ?_
    refine WG.widen (k := cells + 310) (n := slots + 5000) (by omega) (by omega) ?_
    exact hn _ hnx
  · refine q_ifneT C 1328 hk0 dL_law_1313 (by decide) ?_
    refine q_goto C 2696 dL_law_1328 (by decide) ?_
    refine WG.sub [2, 3, 4, 5, 6, 7] rfl ?_
    refine WG.widen (k := cells + 310) (n := slots + 5000) (by omega) (by omega) ?_
    exact hn _ hnx
set_option maxRecDepth 100000 in
set_option maxHeartbeats 4000000 in
theorem law_c16 {p : Program} {l : Launch} {e : Env} {s : State} {m : MethodId} {args : Array Value} {below : List Frame} {meth : Method} {c : Code} {cells slots : Nat} {Q : State → Prop} {G : GG} {hs : Hs} {b L x0 m0 out outD : Nat} {xs : Nat → Int32} {v5 : Int32} {next : Hs → Prop} (C : Cx G l p s m args c RL cL_law 9) (hX : va_X b L xs s s.heap) (hbl : b < s.heap.size) (hbA : ¬ gA G b) (hj : vp_in (v5 + 1) L ∧ vp_in (v5 + 2) L ∧ vp_in (v5 + 3) L ∧ vp_in (v5 + 4) L ∧ vp_in (v5 + 5) L) (hcb : cells + 310 ≤ room_1.cells ∧ slots + 5000 ≤ room_1.slots) (hop : opI (f_L_possible (some x0) (xs (v5 + (1 : Int32)).toNatClampNeg) (some out)) (f_X9_possible m0 (xs (v5 + (1 : Int32)).toNatClampNeg)) m0 out next hs) (hn : ∀ hs2, next hs2 → WG G p l e room_1 s m args below meth c 9 (cells + 310) (slots + 5000) Q hs2 [(0, va_rf (some b)), (1, va_rf (some x0)), (2, va_rf (some m0)), (3, va_rf (some out)), (4, va_rf (some outD)), (5, .int v5)] [] 2696) : WG G p l e room_1 s m args below meth c 9 cells slots Q hs [(0, va_rf (some b)), (1, va_rf (some x0)), (2, va_rf (some m0)), (3, va_rf (some out)), (4, va_rf (some outD)), (5, .int v5)] [] 1331 := by
  obtain ⟨k, hs1, hw, ⟨fm, hm0⟩, hop⟩ := hop
  refine q_aload_n C 1 dL_law_1331 rfl ?_
  refine q_aload_n C 0 dL_law_1332 rfl ?_
  refine q_iload C 5 dL_law_1333 rfl ?_
  refine q_iconst C (1 : Int32) dL_law_1335 (by decide) ?_
  refine q_iadd C dL_law_1336 ?_
  refine q_scr C hX hbl hbA hj.1 dL_law_1337 ?_
  refine q_aload_n C 3 dL_law_1338 rfl ?_
  refine q_callL C (n := 3) [va_rf (some x0), .int (xs (v5 + (1 : Int32)).toNatClampNeg), va_rf (some out)] [] (m_L_possible hw) cw_L_possible ml_L_205 sm_L_possible iw_L (by decide +kernel) ⟨(Nat.le_of_ble_eq_true rfl), (Nat.le_of_ble_eq_true rfl)⟩ ⟨by omega, by omega⟩ rfl rfl (by decide) dL_law_1339 (fun sz hbd => ?_)
  obtain ⟨bb, hs2, hmm, ⟨fm2, hm2⟩, hth, hcmp, hnx⟩ := hop sz hbd
  refine q_istoreP C [(6, .int k), (0, va_rf (some b)), (1, va_rf (some x0)), (2, va_rf (some m0)), (3, va_rf (some out)), (4, va_rf (some outD)), (5, .int v5)] dL_law_1342 (by decide) rfl ?_
  refine q_aload_n C 3 dL_law_1344 rfl ?_
  refine q_aload_n C 1 dL_law_1345 rfl ?_
  refine q_iload C 6 dL_law_1346 rfl ?_
  refine q_iconst C (1 : Int32) dL_law_1348 (by decide) ?_
  refine q_iadd C dL_law_1349 ?_
  refine q_scr C hX hbl hbA hj.1 dL_law_1350 ?_
  refine q_callE C (CN := RX9) (T := TX9) (N := 28) (ci := 12) (tv := tvI) [.int (xs (v5 + (1 : Int32)).toNatClampNeg)] [] hmm (m_X9_possible hmm) lk_L_207 im_X9_possible se_X9_X9_possible rfl hm0 ⟨(Nat.le_of_ble_eq_true rfl), (Nat.le_of_ble_eq_true rfl)⟩ ⟨by omega, by omega⟩ rfl rfl (by simp only [List.map, cat_rf, cat_i, cat_a]; decide) dL_law_1351 ?_
  refine WG_st (st' := [.int bb]) rfl ?_
  refine q_istoreP C [(7, .int bb), (6, .int k), (0, va_rf (some b)), (1, va_rf (some x0)), (2, va_rf (some m0)), (3, va_rf (some out)), (4, va_rf (some outD)), (5, .int v5)] dL_law_1354 (by decide) rfl ?_
  refine q_aload_n C 4 dL_law_1356 rfl ?_
  refine q_callE C (CN := RX9) (T := TX9) (N := 28) (ci := 12) (tv := tvI) [] [] hth (m_X9_thrown hth) lk_L_154 im_X9_thrown se_X9_X9_thrown rfl hm2 ⟨(Nat.le_of_ble_eq_true rfl), (Nat.le_of_ble_eq_true rfl)⟩ ⟨by omega, by omega⟩ rfl rfl (by simp only [List.map, cat_rf, cat_i, cat_a]; decide) dL_law_1357 ?_
  refine WG_st (st' := [.int k]) rfl ?_
  refine q_iload C 1 dL_law_1360 rfl ?_
  refine q_icmpT C 1367 rfl dL_law_1362 (by decide) ?_
  refine q_iload C 1 dL_law_1367 rfl ?_
  by_cases hk0 : k = 0
  · refine q_ifF C hk0 dL_law_1369 1384 (by decide) ?_
    obtain ⟨f, hf, hfe⟩ := hcmp hk0
    refine q_aload_n C 5 dL_law_1372 rfl ?_
    refine q_iconst C (0 : Int32) dL_law_1373 (by decide) ?_
    refine q_lald C hf (by unfold vp_in; decide) dL_law_1374 ?_
    refine q_iload C 0 dL_law_1375 rfl ?_
    refine q_i2l C dL_law_1377 ?_
    refine q_lcmpE C hfe dL_law_1378 ?_
    refine q_ifeqT C 1384 rfl dL_law_1379 (by decide) ?_
    refine q_goto C 2696 dL_law_1384 (by decide) ?_
    refine WG.sub [2, 3, 4, 5, 6, 7] rfl ?_
    refine WG.widen (k := cells + 310) (n := slots + 5000) (by omega) (by omega) ?_
    exact hn _ hnx
  · refine q_ifneT C 1384 hk0 dL_law_1369 (by decide) ?_
    refine q_goto C 2696 dL_law_1384 (by decide) ?_
    refine WG.sub [2, 3, 4, 5, 6, 7] rfl ?_
    refine WG.widen (k := cells + 310) (n := slots + 5000) (by omega) (by omega) ?_
    exact hn _ hnx
set_option maxRecDepth 100000 in
set_option maxHeartbeats 4000000 in
theorem law_c17 {p : Program} {l : Launch} {e : Env} {s : State} {m : MethodId} {args : Array Value} {below : List Frame} {meth : Method} {c : Code} {cells slots : Nat} {Q : State → Prop} {G : GG} {hs : Hs} {b L x0 m0 out outD : Nat} {xs : Nat → Int32} {v5 : Int32} {next : Hs → Prop} (C : Cx G l p s m args c RL cL_law 9) (hX : va_X b L xs s s.heap) (hbl : b < s.heap.size) (hbA : ¬ gA G b) (hj : vp_in (v5 + 1) L ∧ vp_in (v5 + 2) L ∧ vp_in (v5 + 3) L ∧ vp_in (v5 + 4) L ∧ vp_in (v5 + 5) L) (hcb : cells + 310 ≤ room_1.cells ∧ slots + 5000 ≤ room_1.slots) (hop : opI (f_L_possibleAt (some x0) (xs (v5 + (1 : Int32)).toNatClampNeg) (xs (v5 + (2 : Int32)).toNatClampNeg) (some out)) (f_X9_possibleAt m0 (xs (v5 + (1 : Int32)).toNatClampNeg) (xs (v5 + (2 : Int32)).toNatClampNeg)) m0 out next hs) (hn : ∀ hs2, next hs2 → WG G p l e room_1 s m args below meth c 9 (cells + 310) (slots + 5000) Q hs2 [(0, va_rf (some b)), (1, va_rf (some x0)), (2, va_rf (some m0)), (3, va_rf (some out)), (4, va_rf (some outD)), (5, .int v5)] [] 2696) : WG G p l e room_1 s m args below meth c 9 cells slots Q hs [(0, va_rf (some b)), (1, va_rf (some x0)), (2, va_rf (some m0)), (3, va_rf (some out)), (4, va_rf (some outD)), (5, .int v5)] [] 1387 := by
  obtain ⟨k, hs1, hw, ⟨fm, hm0⟩, hop⟩ := hop
  refine q_aload_n C 1 dL_law_1387 rfl ?_
  refine q_aload_n C 0 dL_law_1388 rfl ?_
  refine q_iload C 5 dL_law_1389 rfl ?_
  refine q_iconst C (1 : Int32) dL_law_1391 (by decide) ?_
  refine q_iadd C dL_law_1392 ?_
  refine q_scr C hX hbl hbA hj.1 dL_law_1393 ?_
  refine q_aload_n C 0 dL_law_1394 rfl ?_
  refine q_iload C 5 dL_law_1395 rfl ?_
  refine q_iconst C (2 : Int32) dL_law_1397 (by decide) ?_
  refine q_iadd C dL_law_1398 ?_
  refine q_scr C hX hbl hbA hj.2.1 dL_law_1399 ?_
  refine q_aload_n C 3 dL_law_1400 rfl ?_
  refine q_callL C (n := 4) [va_rf (some x0), .int (xs (v5 + (1 : Int32)).toNatClampNeg), .int (xs (v5 + (2 : Int32)).toNatClampNeg), va_rf (some out)] [] (m_L_possibleAt hw) cw_L_possibleAt ml_L_208 sm_L_possibleAt iw_L (by decide +kernel) ⟨(Nat.le_of_ble_eq_true rfl), (Nat.le_of_ble_eq_true rfl)⟩ ⟨by omega, by omega⟩ rfl rfl (by decide) dL_law_1401 (fun sz hbd => ?_)
  obtain ⟨bb, hs2, hmm, ⟨fm2, hm2⟩, hth, hcmp, hnx⟩ := hop sz hbd
  refine q_istoreP C [(6, .int k), (0, va_rf (some b)), (1, va_rf (some x0)), (2, va_rf (some m0)), (3, va_rf (some out)), (4, va_rf (some outD)), (5, .int v5)] dL_law_1404 (by decide) rfl ?_
  refine q_aload_n C 3 dL_law_1406 rfl ?_
  refine q_aload_n C 1 dL_law_1407 rfl ?_
  refine q_iload C 6 dL_law_1408 rfl ?_
  refine q_iconst C (1 : Int32) dL_law_1410 (by decide) ?_
  refine q_iadd C dL_law_1411 ?_
  refine q_scr C hX hbl hbA hj.1 dL_law_1412 ?_
  refine q_aload_n C 1 dL_law_1413 rfl ?_
  refine q_iload C 6 dL_law_1414 rfl ?_
  refine q_iconst C (2 : Int32) dL_law_1416 (by decide) ?_
  refine q_iadd C dL_law_1417 ?_
  refine q_scr C hX hbl hbA hj.2.1 dL_law_1418 ?_
  refine q_callE C (CN := RX9) (T := TX9) (N := 28) (ci := 12) (tv := tvI) [.int (xs (v5 + (1 : Int32)).toNatClampNeg), .int (xs (v5 + (2 : Int32)).toNatClampNeg)] [] hmm (m_X9_possibleAt hmm) lk_L_210 im_X9_possibleAt se_X9_X9_possibleAt rfl hm0 ⟨(Nat.le_of_ble_eq_true rfl), (Nat.le_of_ble_eq_true rfl)⟩ ⟨by omega, by omega⟩ rfl rfl (by simp only [List.map, cat_rf, cat_i, cat_a]; decide) dL_law_1419 ?_
  refine WG_st (st' := [.int bb]) rfl ?_
  refine q_istoreP C [(7, .int bb), (6, .int k), (0, va_rf (some b)), (1, va_rf (some x0)), (2, va_rf (some m0)), (3, va_rf (some out)), (4, va_rf (some outD)), (5, .int v5)] dL_law_1422 (by decide) rfl ?_
  refine q_aload_n C 4 dL_law_1424 rfl ?_
  refine q_callE C (CN := RX9) (T := TX9) (N := 28) (ci := 12) (tv := tvI) [] [] hth (m_X9_thrown hth) lk_L_154 im_X9_thrown se_X9_X9_thrown rfl hm2 ⟨(Nat.le_of_ble_eq_true rfl), (Nat.le_of_ble_eq_true rfl)⟩ ⟨by omega, by omega⟩ rfl rfl (by simp only [List.map, cat_rf, cat_i, cat_a]; decide) dL_law_1425 ?_
  refine WG_st (st' := [.int k]) rfl ?_
  refine q_iload C 1 dL_law_1428 rfl ?_
  refine q_icmpT C 1435 rfl dL_law_1430 (by decide) ?_
  refine q_iload C 1 dL_law_1435 rfl ?_
  by_cases hk0 : k = 0
  · refine q_ifF C hk0 dL_law_1437 1452 (by decide) ?_
    obtain ⟨f, hf, hfe⟩ := hcmp hk0
    refine q_aload_n C 5 dL_law_1440 rfl ?_
    refine q_iconst C (0 : Int32) dL_law_1441 (by decide) ?_
    refine q_lald C hf (by unfold vp_in; decide) dL_law_1442 ?_
    refine q_iload C 0 dL_law_1443 rfl ?_
    refine q_i2l C dL_law_1445 ?_
    refine q_lcmpE C hfe dL_law_1446 ?_
    refine q_ifeqT C 1452 rfl dL_law_1447 (by decide) ?_
    refine q_goto C 2696 dL_law_1452 (by decide) ?_
    refine WG.sub [2, 3, 4, 5, 6, 7] rfl ?_
    refine WG.widen (k := cells + 310) (n := slots + 5000) (by omega) (by omega) ?_
    exact hn _ hnx
  · refine q_ifneT C 1452 hk0 dL_law_1437 (by decide) ?_
    refine q_goto C 2696 dL_law_1452 (by decide) ?_
    refine WG.sub [2, 3, 4, 5, 6, 7] rfl ?_
    refine WG.widen (k := cells + 310) (n := slots + 5000) (by omega) (by omega) ?_
    exact hn _ hnx
set_option maxRecDepth 100000 in
set_option maxHeartbeats 4000000 in
theorem law_c18 {p : Program} {l : Launch} {e : Env} {s : State} {m : MethodId} {args : Array Value} {below : List Frame} {meth : Method} {c : Code} {cells slots : Nat} {Q : State → Prop} {G : GG} {hs : Hs} {b L x0 m0 out outD : Nat} {xs : Nat → Int32} {v5 : Int32} {next : Hs → Prop} (C : Cx G l p s m args c RL cL_law 9) (hX : va_X b L xs s s.heap) (hbl : b < s.heap.size) (hbA : ¬ gA G b) (hj : vp_in (v5 + 1) L ∧ vp_in (v5 + 2) L ∧ vp_in (v5 + 3) L ∧ vp_in (v5 + 4) L ∧ vp_in (v5 + 5) L) (hcb : cells + 310 ≤ room_1.cells ∧ slots + 5000 ≤ room_1.slots) (hop : opI (f_L_cheapest (some x0) (xs (v5 + (1 : Int32)).toNatClampNeg) (some out)) (f_X9_cheapest m0 (xs (v5 + (1 : Int32)).toNatClampNeg)) m0 out next hs) (hn : ∀ hs2, next hs2 → WG G p l e room_1 s m args below meth c 9 (cells + 310) (slots + 5000) Q hs2 [(0, va_rf (some b)), (1, va_rf (some x0)), (2, va_rf (some m0)), (3, va_rf (some out)), (4, va_rf (some outD)), (5, .int v5)] [] 2696) : WG G p l e room_1 s m args below meth c 9 cells slots Q hs [(0, va_rf (some b)), (1, va_rf (some x0)), (2, va_rf (some m0)), (3, va_rf (some out)), (4, va_rf (some outD)), (5, .int v5)] [] 1455 := by
  obtain ⟨k, hs1, hw, ⟨fm, hm0⟩, hop⟩ := hop
  refine q_aload_n C 1 dL_law_1455 rfl ?_
  refine q_aload_n C 0 dL_law_1456 rfl ?_
  refine q_iload C 5 dL_law_1457 rfl ?_
  refine q_iconst C (1 : Int32) dL_law_1459 (by decide) ?_
  refine q_iadd C dL_law_1460 ?_
  refine q_scr C hX hbl hbA hj.1 dL_law_1461 ?_
  refine q_aload_n C 3 dL_law_1462 rfl ?_
  refine q_callL C (n := 3) [va_rf (some x0), .int (xs (v5 + (1 : Int32)).toNatClampNeg), va_rf (some out)] [] (m_L_cheapest hw) cw_L_cheapest ml_L_211 sm_L_cheapest iw_L (by decide +kernel) ⟨(Nat.le_of_ble_eq_true rfl), (Nat.le_of_ble_eq_true rfl)⟩ ⟨by omega, by omega⟩ rfl rfl (by decide) dL_law_1463 (fun sz hbd => ?_)
  obtain ⟨bb, hs2, hmm, ⟨fm2, hm2⟩, hth, hcmp, hnx⟩ := hop sz hbd
  refine q_istoreP C [(6, .int k), (0, va_rf (some b)), (1, va_rf (some x0)), (2, va_rf (some m0)), (3, va_rf (some out)), (4, va_rf (some outD)), (5, .int v5)] dL_law_1466 (by decide) rfl ?_
  refine q_aload_n C 3 dL_law_1468 rfl ?_
  refine q_aload_n C 1 dL_law_1469 rfl ?_
  refine q_iload C 6 dL_law_1470 rfl ?_
  refine q_iconst C (1 : Int32) dL_law_1472 (by decide) ?_
  refine q_iadd C dL_law_1473 ?_
  refine q_scr C hX hbl hbA hj.1 dL_law_1474 ?_
  refine q_callE C (CN := RX9) (T := TX9) (N := 28) (ci := 12) (tv := tvI) [.int (xs (v5 + (1 : Int32)).toNatClampNeg)] [] hmm (m_X9_cheapest hmm) lk_L_213 im_X9_cheapest se_X9_X9_cheapest rfl hm0 ⟨(Nat.le_of_ble_eq_true rfl), (Nat.le_of_ble_eq_true rfl)⟩ ⟨by omega, by omega⟩ rfl rfl (by simp only [List.map, cat_rf, cat_i, cat_a]; decide) dL_law_1475 ?_
  refine WG_st (st' := [.int bb]) rfl ?_
  refine q_istoreP C [(7, .int bb), (6, .int k), (0, va_rf (some b)), (1, va_rf (some x0)), (2, va_rf (some m0)), (3, va_rf (some out)), (4, va_rf (some outD)), (5, .int v5)] dL_law_1478 (by decide) rfl ?_
  refine q_aload_n C 4 dL_law_1480 rfl ?_
  refine q_callE C (CN := RX9) (T := TX9) (N := 28) (ci := 12) (tv := tvI) [] [] hth (m_X9_thrown hth) lk_L_154 im_X9_thrown se_X9_X9_thrown rfl hm2 ⟨(Nat.le_of_ble_eq_true rfl), (Nat.le_of_ble_eq_true rfl)⟩ ⟨by omega, by omega⟩ rfl rfl (by simp only [List.map, cat_rf, cat_i, cat_a]; decide) dL_law_1481 ?_
  refine WG_st (st' := [.int k]) rfl ?_
  refine q_iload C 1 dL_law_1484 rfl ?_
  refine q_icmpT C 1491 rfl dL_law_1486 (by decide) ?_
  refine q_iload C 1 dL_law_1491 rfl ?_
  by_cases hk0 : k = 0
  · refine q_ifF C hk0 dL_law_1493 1508 (by decide) ?_
    obtain ⟨f, hf, hfe⟩ := hcmp hk0
    refine q_aload_n C 5 dL_law_1496 rfl ?_
    refine q_iconst C (0 : Int32) dL_law_1497 (by decide) ?_
    refine q_lald C hf (by unfold vp_in; decide) dL_law_1498 ?_
    refine q_iload C 0 dL_law_1499 rfl ?_
    refine q_i2l C dL_law_1501 ?_
    refine q_lcmpE C hfe dL_law_1502 ?_
    refine q_ifeqT C 1508 rfl dL_law_1503 (by decide) ?_
    refine q_goto C 2696 dL_law_1508 (by decide) ?_
    refine WG.sub [2, 3, 4, 5, 6, 7] rfl ?_
    refine WG.widen (k := cells + 310) (n := slots + 5000) (by omega) (by omega) ?_
    exact hn _ hnx
  · refine q_ifneT C 1508 hk0 dL_law_1493 (by decide) ?_
    refine q_goto C 2696 dL_law_1508 (by decide) ?_
    refine WG.sub [2, 3, 4, 5, 6, 7] rfl ?_
    refine WG.widen (k := cells + 310) (n := slots + 5000) (by omega) (by omega) ?_
    exact hn _ hnx
set_option maxRecDepth 100000 in
set_option maxHeartbeats 4000000 in
theorem law_c19 {p : Program} {l : Launch} {e : Env} {s : State} {m : MethodId} {args : Array Value} {below : List Frame} {meth : Method} {c : Code} {cells slots : Nat} {Q : State → Prop} {G : GG} {hs : Hs} {b L x0 m0 out outD : Nat} {xs : Nat → Int32} {v5 : Int32} {next : Hs → Prop} (C : Cx G l p s m args c RL cL_law 9) (hX : va_X b L xs s s.heap) (hbl : b < s.heap.size) (hbA : ¬ gA G b) (hj : vp_in (v5 + 1) L ∧ vp_in (v5 + 2) L ∧ vp_in (v5 + 3) L ∧ vp_in (v5 + 4) L ∧ vp_in (v5 + 5) L) (hcb : cells + 310 ≤ room_1.cells ∧ slots + 5000 ≤ room_1.slots) (hop : opI (f_L_costWith (some x0) (xs (v5 + (1 : Int32)).toNatClampNeg) (xs (v5 + (2 : Int32)).toNatClampNeg) (xs (v5 + (3 : Int32)).toNatClampNeg) (some out)) (f_X9_costWith m0 (xs (v5 + (1 : Int32)).toNatClampNeg) (xs (v5 + (2 : Int32)).toNatClampNeg) (xs (v5 + (3 : Int32)).toNatClampNeg)) m0 out next hs) (hn : ∀ hs2, next hs2 → WG G p l e room_1 s m args below meth c 9 (cells + 310) (slots + 5000) Q hs2 [(0, va_rf (some b)), (1, va_rf (some x0)), (2, va_rf (some m0)), (3, va_rf (some out)), (4, va_rf (some outD)), (5, .int v5)] [] 2696) : WG G p l e room_1 s m args below meth c 9 cells slots Q hs [(0, va_rf (some b)), (1, va_rf (some x0)), (2, va_rf (some m0)), (3, va_rf (some out)), (4, va_rf (some outD)), (5, .int v5)] [] 1511 := by
  obtain ⟨k, hs1, hw, ⟨fm, hm0⟩, hop⟩ := hop
  refine q_aload_n C 1 dL_law_1511 rfl ?_
  refine q_aload_n C 0 dL_law_1512 rfl ?_
  refine q_iload C 5 dL_law_1513 rfl ?_
  refine q_iconst C (1 : Int32) dL_law_1515 (by decide) ?_
  refine q_iadd C dL_law_1516 ?_
  refine q_scr C hX hbl hbA hj.1 dL_law_1517 ?_
  refine q_aload_n C 0 dL_law_1518 rfl ?_
  refine q_iload C 5 dL_law_1519 rfl ?_
  refine q_iconst C (2 : Int32) dL_law_1521 (by decide) ?_
  refine q_iadd C dL_law_1522 ?_
  refine q_scr C hX hbl hbA hj.2.1 dL_law_1523 ?_
  refine q_aload_n C 0 dL_law_1524 rfl ?_
  refine q_iload C 5 dL_law_1525 rfl ?_
  refine q_iconst C (3 : Int32) dL_law_1527 (by decide) ?_
  refine q_iadd C dL_law_1528 ?_
  refine q_scr C hX hbl hbA hj.2.2.1 dL_law_1529 ?_
  refine q_aload_n C 3 dL_law_1530 rfl ?_
  refine q_callL C (n := 5) [va_rf (some x0), .int (xs (v5 + (1 : Int32)).toNatClampNeg), .int (xs (v5 + (2 : Int32)).toNatClampNeg), .int (xs (v5 + (3 : Int32)).toNatClampNeg), va_rf (some out)] [] (m_L_costWith hw) cw_L_costWith ml_L_214 sm_L_costWith iw_L (by decide +kernel) ⟨(Nat.le_of_ble_eq_true rfl), (Nat.le_of_ble_eq_true rfl)⟩ ⟨by omega, by omega⟩ rfl rfl (by decide) dL_law_1531 (fun sz hbd => ?_)
  obtain ⟨bb, hs2, hmm, ⟨fm2, hm2⟩, hth, hcmp, hnx⟩ := hop sz hbd
  refine q_istoreP C [(6, .int k), (0, va_rf (some b)), (1, va_rf (some x0)), (2, va_rf (some m0)), (3, va_rf (some out)), (4, va_rf (some outD)), (5, .int v5)] dL_law_1534 (by decide) rfl ?_
  refine q_aload_n C 3 dL_law_1536 rfl ?_
  refine q_aload_n C 1 dL_law_1537 rfl ?_
  refine q_iload C 6 dL_law_1538 rfl ?_
  refine q_iconst C (1 : Int32) dL_law_1540 (by decide) ?_
  refine q_iadd C dL_law_1541 ?_
  refine q_scr C hX hbl hbA hj.1 dL_law_1542 ?_
  refine q_aload_n C 1 dL_law_1543 rfl ?_
  refine q_iload C 6 dL_law_1544 rfl ?_
  refine q_iconst C (2 : Int32) dL_law_1546 (by decide) ?_
  refine q_iadd C dL_law_1547 ?_
  refine q_scr C hX hbl hbA hj.2.1 dL_law_1548 ?_
  refine q_aload_n C 1 dL_law_1549 rfl ?_
  refine q_iload C 6 dL_law_1550 rfl ?_
  refine q_iconst C (3 : Int32) dL_law_1552 (by decide) ?_
  refine q_iadd C dL_law_1553 ?_
  refine q_scr C hX hbl hbA hj.2.2.1 dL_law_1554 ?_
  refine q_callE C (CN := RX9) (T := TX9) (N := 28) (ci := 12) (tv := tvI) [.int (xs (v5 + (1 : Int32)).toNatClampNeg), .int (xs (v5 + (2 : Int32)).toNatClampNeg), .int (xs (v5 + (3 : Int32)).toNatClampNeg)] [] hmm (m_X9_costWith hmm) lk_L_216 im_X9_costWith se_X9_X9_costWith rfl hm0 ⟨(Nat.le_of_ble_eq_true rfl), (Nat.le_of_ble_eq_true rfl)⟩ ⟨by omega, by omega⟩ rfl rfl (by simp only [List.map, cat_rf, cat_i, cat_a]; decide) dL_law_1555 ?_
  refine WG_st (st' := [.int bb]) rfl ?_
  refine q_istoreP C [(7, .int bb), (6, .int k), (0, va_rf (some b)), (1, va_rf (some x0)), (2, va_rf (some m0)), (3, va_rf (some out)), (4, va_rf (some outD)), (5, .int v5)] dL_law_1558 (by decide) rfl ?_
  refine q_aload_n C 4 dL_law_1560 rfl ?_
  refine q_callE C (CN := RX9) (T := TX9) (N := 28) (ci := 12) (tv := tvI) [] [] hth (m_X9_thrown hth) lk_L_154 im_X9_thrown se_X9_X9_thrown rfl hm2 ⟨(Nat.le_of_ble_eq_true rfl), (Nat.le_of_ble_eq_true rfl)⟩ ⟨by omega, by omega⟩ rfl rfl (by simp only [List.map, cat_rf, cat_i, cat_a]; decide) dL_law_1561 ?_
  refine WG_st (st' := [.int k]) rfl ?_
  refine q_iload C 1 dL_law_1564 rfl ?_
  refine q_icmpT C 1571 rfl dL_law_1566 (by decide) ?_
  refine q_iload C 1 dL_law_1571 rfl ?_
  by_cases hk0 : k = 0
  · refine q_ifF C hk0 dL_law_1573 1588 (by decide) ?_
    obtain ⟨f, hf, hfe⟩ := hcmp hk0
    refine q_aload_n C 5 dL_law_1576 rfl ?_
    refine q_iconst C (0 : Int32) dL_law_1577 (by decide) ?_
    refine q_lald C hf (by unfold vp_in; decide) dL_law_1578 ?_
    refine q_iload C 0 dL_law_1579 rfl ?_
    refine q_i2l C dL_law_1581 ?_
    refine q_lcmpE C hfe dL_law_1582 ?_
    refine q_ifeqT C 1588 rfl dL_law_1583 (by decide) ?_
    refine q_goto C 2696 dL_law_1588 (by decide) ?_
    refine WG.sub [2, 3, 4, 5, 6, 7] rfl ?_
    refine WG.widen (k := cells + 310) (n := slots + 5000) (by omega) (by omega) ?_
    exact hn _ hnx
  · refine q_ifneT C 1588 hk0 dL_law_1573 (by decide) ?_
    refine q_goto C 2696 dL_law_1588 (by decide) ?_
    refine WG.sub [2, 3, 4, 5, 6, 7] rfl ?_
    refine WG.widen (k := cells + 310) (n := slots + 5000) (by omega) (by omega) ?_
    exact hn _ hnx
set_option maxRecDepth 100000 in
set_option maxHeartbeats 4000000 in
theorem law_c20 {p : Program} {l : Launch} {e : Env} {s : State} {m : MethodId} {args : Array Value} {below : List Frame} {meth : Method} {c : Code} {cells slots : Nat} {Q : State → Prop} {G : GG} {hs : Hs} {b L x0 m0 out outD : Nat} {xs : Nat → Int32} {v5 : Int32} {next : Hs → Prop} (C : Cx G l p s m args c RL cL_law 9) (hX : va_X b L xs s s.heap) (hbl : b < s.heap.size) (hbA : ¬ gA G b) (hj : vp_in (v5 + 1) L ∧ vp_in (v5 + 2) L ∧ vp_in (v5 + 3) L ∧ vp_in (v5 + 4) L ∧ vp_in (v5 + 5) L) (hcb : cells + 310 ≤ room_1.cells ∧ slots + 5000 ≤ room_1.slots) (hop : opI (f_L_hardest (some x0)  (some out)) (f_X9_hardest m0 ) m0 out next hs) (hn : ∀ hs2, next hs2 → WG G p l e room_1 s m args below meth c 9 (cells + 310) (slots + 5000) Q hs2 [(0, va_rf (some b)), (1, va_rf (some x0)), (2, va_rf (some m0)), (3, va_rf (some out)), (4, va_rf (some outD)), (5, .int v5)] [] 2696) : WG G p l e room_1 s m args below meth c 9 cells slots Q hs [(0, va_rf (some b)), (1, va_rf (some x0)), (2, va_rf (some m0)), (3, va_rf (some out)), (4, va_rf (some outD)), (5, .int v5)] [] 1591 := by
  obtain ⟨k, hs1, hw, ⟨fm, hm0⟩, hop⟩ := hop
  refine q_aload_n C 1 dL_law_1591 rfl ?_
  refine q_aload_n C 3 dL_law_1592 rfl ?_
  refine q_callL C (n := 2) [va_rf (some x0), va_rf (some out)] [] (m_L_hardest hw) cw_L_hardest ml_L_217 sm_L_hardest iw_L (by decide +kernel) ⟨(Nat.le_of_ble_eq_true rfl), (Nat.le_of_ble_eq_true rfl)⟩ ⟨by omega, by omega⟩ rfl rfl (by decide) dL_law_1593 (fun sz hbd => ?_)
  obtain ⟨bb, hs2, hmm, ⟨fm2, hm2⟩, hth, hcmp, hnx⟩ := hop sz hbd
  refine q_istoreP C [(6, .int k), (0, va_rf (some b)), (1, va_rf (some x0)), (2, va_rf (some m0)), (3, va_rf (some out)), (4, va_rf (some outD)), (5, .int v5)] dL_law_1596 (by decide) rfl ?_
  refine q_aload_n C 3 dL_law_1598 rfl ?_
  refine q_callE C (CN := RX9) (T := TX9) (N := 28) (ci := 12) (tv := tvI) [] [] hmm (m_X9_hardest hmm) lk_L_220 im_X9_hardest se_X9_X9_hardest rfl hm0 ⟨(Nat.le_of_ble_eq_true rfl), (Nat.le_of_ble_eq_true rfl)⟩ ⟨by omega, by omega⟩ rfl rfl (by simp only [List.map, cat_rf, cat_i, cat_a]; decide) dL_law_1599 ?_
  refine WG_st (st' := [.int bb]) rfl ?_
  refine q_istoreP C [(7, .int bb), (6, .int k), (0, va_rf (some b)), (1, va_rf (some x0)), (2, va_rf (some m0)), (3, va_rf (some out)), (4, va_rf (some outD)), (5, .int v5)] dL_law_1602 (by decide) rfl ?_
  refine q_aload_n C 4 dL_law_1604 rfl ?_
  refine q_callE C (CN := RX9) (T := TX9) (N := 28) (ci := 12) (tv := tvI) [] [] hth (m_X9_thrown hth) lk_L_154 im_X9_thrown se_X9_X9_thrown rfl hm2 ⟨(Nat.le_of_ble_eq_true rfl), (Nat.le_of_ble_eq_true rfl)⟩ ⟨by omega, by omega⟩ rfl rfl (by simp only [List.map, cat_rf, cat_i, cat_a]; decide) dL_law_1605 ?_
  refine WG_st (st' := [.int k]) rfl ?_
  refine q_iload C 1 dL_law_1608 rfl ?_
  refine q_icmpT C 1615 rfl dL_law_1610 (by decide) ?_
  refine q_iload C 1 dL_law_1615 rfl ?_
  by_cases hk0 : k = 0
  · refine q_ifF C hk0 dL_law_1617 1632 (by decide) ?_
    obtain ⟨f, hf, hfe⟩ := hcmp hk0
    refine q_aload_n C 5 dL_law_1620 rfl ?_
    refine q_iconst C (0 : Int32) dL_law_1621 (by decide) ?_
    refine q_lald C hf (by unfold vp_in; decide) dL_law_1622 ?_
    refine q_iload C 0 dL_law_1623 rfl ?_
    refine q_i2l C dL_law_1625 ?_
    refine q_lcmpE C hfe dL_law_1626 ?_
    refine q_ifeqT C 1632 rfl dL_law_1627 (by decide) ?_
    refine q_goto C 2696 dL_law_1632 (by decide) ?_
    refine WG.sub [2, 3, 4, 5, 6, 7] rfl ?_
    refine WG.widen (k := cells + 310) (n := slots + 5000) (by omega) (by omega) ?_
    exact hn _ hnx
  · refine q_ifneT C 1632 hk0 dL_law_1617 (by decide) ?_
    refine q_goto C 2696 dL_law_1632 (by decide) ?_
    refine WG.sub [2, 3, 4, 5, 6, 7] rfl ?_
    refine WG.widen (k := cells + 310) (n := slots + 5000) (by omega) (by omega) ?_
    exact hn _ hnx
set_option maxRecDepth 100000 in
set_option maxHeartbeats 4000000 in
theorem law_c21 {p : Program} {l : Launch} {e : Env} {s : State} {m : MethodId} {args : Array Value} {below : List Frame} {meth : Method} {c : Code} {cells slots : Nat} {Q : State → Prop} {G : GG} {hs : Hs} {b L x0 m0 out outD : Nat} {xs : Nat → Int32} {v5 : Int32} {next : Hs → Prop} (C : Cx G l p s m args c RL cL_law 9) (hX : va_X b L xs s s.heap) (hbl : b < s.heap.size) (hbA : ¬ gA G b) (hj : vp_in (v5 + 1) L ∧ vp_in (v5 + 2) L ∧ vp_in (v5 + 3) L ∧ vp_in (v5 + 4) L ∧ vp_in (v5 + 5) L) (hcb : cells + 310 ≤ room_1.cells ∧ slots + 5000 ≤ room_1.slots) (hop : opD (f_X8_fill x0) (f_X9_fill m0) x0 m0 next hs) (hn : ∀ hs2, next hs2 → WG G p l e room_1 s m args below meth c 9 (cells + 310) (slots + 5000) Q hs2 [(0, va_rf (some b)), (1, va_rf (some x0)), (2, va_rf (some m0)), (3, va_rf (some out)), (4, va_rf (some outD)), (5, .int v5)] [] 2696) : WG G p l e room_1 s m args below meth c 9 cells slots Q hs [(0, va_rf (some b)), (1, va_rf (some x0)), (2, va_rf (some m0)), (3, va_rf (some out)), (4, va_rf (some outD)), (5, .int v5)] [] 1635 := by
  obtain ⟨⟨fx, hx0⟩, r, hs1, hs2, hw, ⟨fm, hm0⟩, hmm, hnx⟩ := hop
  refine q_aload_n C 1 dL_law_1635 rfl ?_
  refine q_callE C (CN := RX8) (T := TX8) (N := 10) (ci := 11) (tv := tvI) [] [] hw (m_X8_fill hw) lk_L_221 im_X8_fill se_X8_X8_fill rfl hx0 ⟨(Nat.le_of_ble_eq_true rfl), (Nat.le_of_ble_eq_true rfl)⟩ ⟨by omega, by omega⟩ rfl rfl (by simp only [List.map, cat_rf, cat_i, cat_a]; decide) dL_law_1636 ?_
  refine WG_st (st' := [.int r]) rfl ?_
  refine q_aload_n C 2 dL_law_1639 rfl ?_
  refine q_callE C (CN := RX9) (T := TX9) (N := 28) (ci := 12) (tv := tvI) [] [.int r] hmm (m_X9_fill hmm) lk_L_224 im_X9_fill se_X9_X9_fill rfl hm0 ⟨(Nat.le_of_ble_eq_true rfl), (Nat.le_of_ble_eq_true rfl)⟩ ⟨by omega, by omega⟩ rfl rfl (by simp only [List.map, cat_rf, cat_i, cat_a]; decide) dL_law_1640 ?_
  refine WG_st (st' := [.int r, .int r]) rfl ?_
  refine q_icmpT C 2696 rfl dL_law_1643 (by decide) ?_
  refine WG.widen (k := cells + 310) (n := slots + 5000) (by omega) (by omega) ?_
  exact hn _ hnx
set_option maxRecDepth 100000 in
set_option maxHeartbeats 4000000 in
theorem law_c22 {p : Program} {l : Launch} {e : Env} {s : State} {m : MethodId} {args : Array Value} {below : List Frame} {meth : Method} {c : Code} {cells slots : Nat} {Q : State → Prop} {G : GG} {hs : Hs} {b L x0 m0 out outD : Nat} {xs : Nat → Int32} {v5 : Int32} {next : Hs → Prop} (C : Cx G l p s m args c RL cL_law 9) (hX : va_X b L xs s s.heap) (hbl : b < s.heap.size) (hbA : ¬ gA G b) (hj : vp_in (v5 + 1) L ∧ vp_in (v5 + 2) L ∧ vp_in (v5 + 3) L ∧ vp_in (v5 + 4) L ∧ vp_in (v5 + 5) L) (hcb : cells + 310 ≤ room_1.cells ∧ slots + 5000 ≤ room_1.slots) (hop : opI (f_L_improve (some x0) (xs (v5 + (1 : Int32)).toNatClampNeg) (some out)) (f_X9_improve m0 (xs (v5 + (1 : Int32)).toNatClampNeg)) m0 out next hs) (hn : ∀ hs2, next hs2 → WG G p l e room_1 s m args below meth c 9 (cells + 310) (slots + 5000) Q hs2 [(0, va_rf (some b)), (1, va_rf (some x0)), (2, va_rf (some m0)), (3, va_rf (some out)), (4, va_rf (some outD)), (5, .int v5)] [] 2696) : WG G p l e room_1 s m args below meth c 9 cells slots Q hs [(0, va_rf (some b)), (1, va_rf (some x0)), (2, va_rf (some m0)), (3, va_rf (some out)), (4, va_rf (some outD)), (5, .int v5)] [] 1648 := by
  obtain ⟨k, hs1, hw, ⟨fm, hm0⟩, hop⟩ := hop
  refine q_aload_n C 1 dL_law_1648 rfl ?_
  refine q_aload_n C 0 dL_law_1649 rfl ?_
  refine q_iload C 5 dL_law_1650 rfl ?_
  refine q_iconst C (1 : Int32) dL_law_1652 (by decide) ?_
  refine q_iadd C dL_law_1653 ?_
  refine q_scr C hX hbl hbA hj.1 dL_law_1654 ?_
  refine q_aload_n C 3 dL_law_1655 rfl ?_
  refine q_callL C (n := 3) [va_rf (some x0), .int (xs (v5 + (1 : Int32)).toNatClampNeg), va_rf (some out)] [] (m_L_improve hw) cw_L_improve ml_L_225 sm_L_improve iw_L (by decide +kernel) ⟨(Nat.le_of_ble_eq_true rfl), (Nat.le_of_ble_eq_true rfl)⟩ ⟨by omega, by omega⟩ rfl rfl (by decide) dL_law_1656 (fun sz hbd => ?_)
  obtain ⟨bb, hs2, hmm, ⟨fm2, hm2⟩, hth, hcmp, hnx⟩ := hop sz hbd
  refine q_istoreP C [(6, .int k), (0, va_rf (some b)), (1, va_rf (some x0)), (2, va_rf (some m0)), (3, va_rf (some out)), (4, va_rf (some outD)), (5, .int v5)] dL_law_1659 (by decide) rfl ?_
  refine q_aload_n C 3 dL_law_1661 rfl ?_
  refine q_aload_n C 1 dL_law_1662 rfl ?_
  refine q_iload C 6 dL_law_1663 rfl ?_
  refine q_iconst C (1 : Int32) dL_law_1665 (by decide) ?_
  refine q_iadd C dL_law_1666 ?_
  refine q_scr C hX hbl hbA hj.1 dL_law_1667 ?_
  refine q_callE C (CN := RX9) (T := TX9) (N := 28) (ci := 12) (tv := tvI) [.int (xs (v5 + (1 : Int32)).toNatClampNeg)] [] hmm (m_X9_improve hmm) lk_L_227 im_X9_improve se_X9_X9_improve rfl hm0 ⟨(Nat.le_of_ble_eq_true rfl), (Nat.le_of_ble_eq_true rfl)⟩ ⟨by omega, by omega⟩ rfl rfl (by simp only [List.map, cat_rf, cat_i, cat_a]; decide) dL_law_1668 ?_
  refine WG_st (st' := [.int bb]) rfl ?_
  refine q_istoreP C [(7, .int bb), (6, .int k), (0, va_rf (some b)), (1, va_rf (some x0)), (2, va_rf (some m0)), (3, va_rf (some out)), (4, va_rf (some outD)), (5, .int v5)] dL_law_1671 (by decide) rfl ?_
  refine q_aload_n C 4 dL_law_1673 rfl ?_
  refine q_callE C (CN := RX9) (T := TX9) (N := 28) (ci := 12) (tv := tvI) [] [] hth (m_X9_thrown hth) lk_L_154 im_X9_thrown se_X9_X9_thrown rfl hm2 ⟨(Nat.le_of_ble_eq_true rfl), (Nat.le_of_ble_eq_true rfl)⟩ ⟨by omega, by omega⟩ rfl rfl (by simp only [List.map, cat_rf, cat_i, cat_a]; decide) dL_law_1674 ?_
  refine WG_st (st' := [.int k]) rfl ?_
  refine q_iload C 1 dL_law_1677 rfl ?_
  refine q_icmpT C 1684 rfl dL_law_1679 (by decide) ?_
  refine q_iload C 1 dL_law_1684 rfl ?_
  by_cases hk0 : k = 0
  · refine q_ifF C hk0 dL_law_1686 1701 (by decide) ?_
    obtain ⟨f, hf, hfe⟩ := hcmp hk0
    refine q_aload_n C 5 dL_law_1689 rfl ?_
    refine q_iconst C (0 : Int32) dL_law_1690 (by decide) ?_
    refine q_lald C hf (by unfold vp_in; decide) dL_law_1691 ?_
    refine q_iload C 0 dL_law_1692 rfl ?_
    refine q_i2l C dL_law_1694 ?_
    refine q_lcmpE C hfe dL_law_1695 ?_
    refine q_ifeqT C 1701 rfl dL_law_1696 (by decide) ?_
    refine q_goto C 2696 dL_law_1701 (by decide) ?_
    refine WG.sub [2, 3, 4, 5, 6, 7] rfl ?_
    refine WG.widen (k := cells + 310) (n := slots + 5000) (by omega) (by omega) ?_
    exact hn _ hnx
  · refine q_ifneT C 1701 hk0 dL_law_1686 (by decide) ?_
    refine q_goto C 2696 dL_law_1701 (by decide) ?_
    refine WG.sub [2, 3, 4, 5, 6, 7] rfl ?_
    refine WG.widen (k := cells + 310) (n := slots + 5000) (by omega) (by omega) ?_
    exact hn _ hnx
set_option maxRecDepth 100000 in
set_option maxHeartbeats 4000000 in
theorem law_c23 {p : Program} {l : Launch} {e : Env} {s : State} {m : MethodId} {args : Array Value} {below : List Frame} {meth : Method} {c : Code} {cells slots : Nat} {Q : State → Prop} {G : GG} {hs : Hs} {b L x0 m0 out outD : Nat} {xs : Nat → Int32} {v5 : Int32} {next : Hs → Prop} (C : Cx G l p s m args c RL cL_law 9) (hX : va_X b L xs s s.heap) (hbl : b < s.heap.size) (hbA : ¬ gA G b) (hj : vp_in (v5 + 1) L ∧ vp_in (v5 + 2) L ∧ vp_in (v5 + 3) L ∧ vp_in (v5 + 4) L ∧ vp_in (v5 + 5) L) (hcb : cells + 310 ≤ room_1.cells ∧ slots + 5000 ≤ room_1.slots) (hop : opD (f_X8_cost x0) (f_X9_cost m0) x0 m0 next hs) (hn : ∀ hs2, next hs2 → WG G p l e room_1 s m args below meth c 9 (cells + 310) (slots + 5000) Q hs2 [(0, va_rf (some b)), (1, va_rf (some x0)), (2, va_rf (some m0)), (3, va_rf (some out)), (4, va_rf (some outD)), (5, .int v5)] [] 2696) : WG G p l e room_1 s m args below meth c 9 cells slots Q hs [(0, va_rf (some b)), (1, va_rf (some x0)), (2, va_rf (some m0)), (3, va_rf (some out)), (4, va_rf (some outD)), (5, .int v5)] [] 1704 := by
  obtain ⟨⟨fx, hx0⟩, r, hs1, hs2, hw, ⟨fm, hm0⟩, hmm, hnx⟩ := hop
  refine q_aload_n C 1 dL_law_1704 rfl ?_
  refine q_callE C (CN := RX8) (T := TX8) (N := 10) (ci := 11) (tv := tvI) [] [] hw (m_X8_cost hw) lk_L_228 im_X8_cost se_X8_X8_cost rfl hx0 ⟨(Nat.le_of_ble_eq_true rfl), (Nat.le_of_ble_eq_true rfl)⟩ ⟨by omega, by omega⟩ rfl rfl (by simp only [List.map, cat_rf, cat_i, cat_a]; decide) dL_law_1705 ?_
  refine WG_st (st' := [.int r]) rfl ?_
  refine q_aload_n C 2 dL_law_1708 rfl ?_
  refine q_callE C (CN := RX9) (T := TX9) (N := 28) (ci := 12) (tv := tvI) [] [.int r] hmm (m_X9_cost hmm) lk_L_231 im_X9_cost se_X9_X9_cost rfl hm0 ⟨(Nat.le_of_ble_eq_true rfl), (Nat.le_of_ble_eq_true rfl)⟩ ⟨by omega, by omega⟩ rfl rfl (by simp only [List.map, cat_rf, cat_i, cat_a]; decide) dL_law_1709 ?_
  refine WG_st (st' := [.int r, .int r]) rfl ?_
  refine q_icmpT C 2696 rfl dL_law_1712 (by decide) ?_
  refine WG.widen (k := cells + 310) (n := slots + 5000) (by omega) (by omega) ?_
  exact hn _ hnx
set_option maxRecDepth 100000 in
set_option maxHeartbeats 4000000 in
theorem law_c24 {p : Program} {l : Launch} {e : Env} {s : State} {m : MethodId} {args : Array Value} {below : List Frame} {meth : Method} {c : Code} {cells slots : Nat} {Q : State → Prop} {G : GG} {hs : Hs} {b L x0 m0 out outD : Nat} {xs : Nat → Int32} {v5 : Int32} {next : Hs → Prop} (C : Cx G l p s m args c RL cL_law 9) (hX : va_X b L xs s s.heap) (hbl : b < s.heap.size) (hbA : ¬ gA G b) (hj : vp_in (v5 + 1) L ∧ vp_in (v5 + 2) L ∧ vp_in (v5 + 3) L ∧ vp_in (v5 + 4) L ∧ vp_in (v5 + 5) L) (hcb : cells + 310 ≤ room_1.cells ∧ slots + 5000 ≤ room_1.slots) (hop : opD (f_X8_costAnew x0) (f_X9_costAnew m0) x0 m0 next hs) (hn : ∀ hs2, next hs2 → WG G p l e room_1 s m args below meth c 9 (cells + 310) (slots + 5000) Q hs2 [(0, va_rf (some b)), (1, va_rf (some x0)), (2, va_rf (some m0)), (3, va_rf (some out)), (4, va_rf (some outD)), (5, .int v5)] [] 2696) : WG G p l e room_1 s m args below meth c 9 cells slots Q hs [(0, va_rf (some b)), (1, va_rf (some x0)), (2, va_rf (some m0)), (3, va_rf (some out)), (4, va_rf (some outD)), (5, .int v5)] [] 1717 := by
  obtain ⟨⟨fx, hx0⟩, r, hs1, hs2, hw, ⟨fm, hm0⟩, hmm, hnx⟩ := hop
  refine q_aload_n C 1 dL_law_1717 rfl ?_
  refine q_callE C (CN := RX8) (T := TX8) (N := 10) (ci := 11) (tv := tvI) [] [] hw (m_X8_costAnew hw) lk_L_232 im_X8_costAnew se_X8_X8_costAnew rfl hx0 ⟨(Nat.le_of_ble_eq_true rfl), (Nat.le_of_ble_eq_true rfl)⟩ ⟨by omega, by omega⟩ rfl rfl (by simp only [List.map, cat_rf, cat_i, cat_a]; decide) dL_law_1718 ?_
  refine WG_st (st' := [.int r]) rfl ?_
  refine q_aload_n C 2 dL_law_1721 rfl ?_
  refine q_callE C (CN := RX9) (T := TX9) (N := 28) (ci := 12) (tv := tvI) [] [.int r] hmm (m_X9_costAnew hmm) lk_L_235 im_X9_costAnew se_X9_X9_costAnew rfl hm0 ⟨(Nat.le_of_ble_eq_true rfl), (Nat.le_of_ble_eq_true rfl)⟩ ⟨by omega, by omega⟩ rfl rfl (by simp only [List.map, cat_rf, cat_i, cat_a]; decide) dL_law_1722 ?_
  refine WG_st (st' := [.int r, .int r]) rfl ?_
  refine q_icmpT C 2696 rfl dL_law_1725 (by decide) ?_
  refine WG.widen (k := cells + 310) (n := slots + 5000) (by omega) (by omega) ?_
  exact hn _ hnx
set_option maxRecDepth 100000 in
set_option maxHeartbeats 4000000 in
theorem law_c25 {p : Program} {l : Launch} {e : Env} {s : State} {m : MethodId} {args : Array Value} {below : List Frame} {meth : Method} {c : Code} {cells slots : Nat} {Q : State → Prop} {G : GG} {hs : Hs} {b L x0 m0 out outD : Nat} {xs : Nat → Int32} {v5 : Int32} {next : Hs → Prop} (C : Cx G l p s m args c RL cL_law 9) (hX : va_X b L xs s s.heap) (hbl : b < s.heap.size) (hbA : ¬ gA G b) (hj : vp_in (v5 + 1) L ∧ vp_in (v5 + 2) L ∧ vp_in (v5 + 3) L ∧ vp_in (v5 + 4) L ∧ vp_in (v5 + 5) L) (hcb : cells + 310 ≤ room_1.cells ∧ slots + 5000 ≤ room_1.slots) (hop : opI (f_L_amount (some x0) (xs (v5 + (1 : Int32)).toNatClampNeg) (some out)) (f_X9_amount m0 (xs (v5 + (1 : Int32)).toNatClampNeg)) m0 out next hs) (hn : ∀ hs2, next hs2 → WG G p l e room_1 s m args below meth c 9 (cells + 310) (slots + 5000) Q hs2 [(0, va_rf (some b)), (1, va_rf (some x0)), (2, va_rf (some m0)), (3, va_rf (some out)), (4, va_rf (some outD)), (5, .int v5)] [] 2696) : WG G p l e room_1 s m args below meth c 9 cells slots Q hs [(0, va_rf (some b)), (1, va_rf (some x0)), (2, va_rf (some m0)), (3, va_rf (some out)), (4, va_rf (some outD)), (5, .int v5)] [] 1730 := by
  obtain ⟨k, hs1, hw, ⟨fm, hm0⟩, hop⟩ := hop
  refine q_aload_n C 1 dL_law_1730 rfl ?_
  refine q_aload_n C 0 dL_law_1731 rfl ?_
  refine q_iload C 5 dL_law_1732 rfl ?_
  refine q_iconst C (1 : Int32) dL_law_1734 (by decide) ?_
  refine q_iadd C dL_law_1735 ?_
  refine q_scr C hX hbl hbA hj.1 dL_law_1736 ?_
  refine q_aload_n C 3 dL_law_1737 rfl ?_
  refine q_callL C (n := 3) [va_rf (some x0), .int (xs (v5 + (1 : Int32)).toNatClampNeg), va_rf (some out)] [] (m_L_amount hw) cw_L_amount ml_L_236 sm_L_amount iw_L (by decide +kernel) ⟨(Nat.le_of_ble_eq_true rfl), (Nat.le_of_ble_eq_true rfl)⟩ ⟨by omega, by omega⟩ rfl rfl (by decide) dL_law_1738 (fun sz hbd => ?_)
  obtain ⟨bb, hs2, hmm, ⟨fm2, hm2⟩, hth, hcmp, hnx⟩ := hop sz hbd
  refine q_istoreP C [(6, .int k), (0, va_rf (some b)), (1, va_rf (some x0)), (2, va_rf (some m0)), (3, va_rf (some out)), (4, va_rf (some outD)), (5, .int v5)] dL_law_1741 (by decide) rfl ?_
  refine q_aload_n C 3 dL_law_1743 rfl ?_
  refine q_aload_n C 1 dL_law_1744 rfl ?_
  refine q_iload C 6 dL_law_1745 rfl ?_
  refine q_iconst C (1 : Int32) dL_law_1747 (by decide) ?_
  refine q_iadd C dL_law_1748 ?_
  refine q_scr C hX hbl hbA hj.1 dL_law_1749 ?_
  refine q_callE C (CN := RX9) (T := TX9) (N := 28) (ci := 12) (tv := tvI) [.int (xs (v5 + (1 : Int32)).toNatClampNeg)] [] hmm (m_X9_amount hmm) lk_L_238 im_X9_amount se_X9_X9_amount rfl hm0 ⟨(Nat.le_of_ble_eq_true rfl), (Nat.le_of_ble_eq_true rfl)⟩ ⟨by omega, by omega⟩ rfl rfl (by simp only [List.map, cat_rf, cat_i, cat_a]; decide) dL_law_1750 ?_
  refine WG_st (st' := [.int bb]) rfl ?_
  refine q_istoreP C [(7, .int bb), (6, .int k), (0, va_rf (some b)), (1, va_rf (some x0)), (2, va_rf (some m0)), (3, va_rf (some out)), (4, va_rf (some outD)), (5, .int v5)] dL_law_1753 (by decide) rfl ?_
  refine q_aload_n C 4 dL_law_1755 rfl ?_
  refine q_callE C (CN := RX9) (T := TX9) (N := 28) (ci := 12) (tv := tvI) [] [] hth (m_X9_thrown hth) lk_L_154 im_X9_thrown se_X9_X9_thrown rfl hm2 ⟨(Nat.le_of_ble_eq_true rfl), (Nat.le_of_ble_eq_true rfl)⟩ ⟨by omega, by omega⟩ rfl rfl (by simp only [List.map, cat_rf, cat_i, cat_a]; decide) dL_law_1756 ?_
  refine WG_st (st' := [.int k]) rfl ?_
  refine q_iload C 1 dL_law_1759 rfl ?_
  refine q_icmpT C 1766 rfl dL_law_1761 (by decide) ?_
  refine q_iload C 1 dL_law_1766 rfl ?_
  by_cases hk0 : k = 0
  · refine q_ifF C hk0 dL_law_1768 1783 (by decide) ?_
    obtain ⟨f, hf, hfe⟩ := hcmp hk0
    refine q_aload_n C 5 dL_law_1771 rfl ?_
    refine q_iconst C (0 : Int32) dL_law_1772 (by decide) ?_
    refine q_lald C hf (by unfold vp_in; decide) dL_law_1773 ?_
    refine q_iload C 0 dL_law_1774 rfl ?_
    refine q_i2l C dL_law_1776 ?_
    refine q_lcmpE C hfe dL_law_1777 ?_
    refine q_ifeqT C 1783 rfl dL_law_1778 (by decide) ?_
    refine q_goto C 2696 dL_law_1783 (by decide) ?_
    refine WG.sub [2, 3, 4, 5, 6, 7] rfl ?_
    refine WG.widen (k := cells + 310) (n := slots + 5000) (by omega) (by omega) ?_
    exact hn _ hnx
  · refine q_ifneT C 1783 hk0 dL_law_1768 (by decide) ?_
    refine q_goto C 2696 dL_law_1783 (by decide) ?_
    refine WG.sub [2, 3, 4, 5, 6, 7] rfl ?_
    refine WG.widen (k := cells + 310) (n := slots + 5000) (by omega) (by omega) ?_
    exact hn _ hnx
set_option maxRecDepth 100000 in
set_option maxHeartbeats 4000000 in
theorem law_c26 {p : Program} {l : Launch} {e : Env} {s : State} {m : MethodId} {args : Array Value} {below : List Frame} {meth : Method} {c : Code} {cells slots : Nat} {Q : State → Prop} {G : GG} {hs : Hs} {b L x0 m0 out outD : Nat} {xs : Nat → Int32} {v5 : Int32} {next : Hs → Prop} (C : Cx G l p s m args c RL cL_law 9) (hX : va_X b L xs s s.heap) (hbl : b < s.heap.size) (hbA : ¬ gA G b) (hj : vp_in (v5 + 1) L ∧ vp_in (v5 + 2) L ∧ vp_in (v5 + 3) L ∧ vp_in (v5 + 4) L ∧ vp_in (v5 + 5) L) (hcb : cells + 310 ≤ room_1.cells ∧ slots + 5000 ≤ room_1.slots) (hop : opD (f_X8_breaks x0) (f_X9_breaks m0) x0 m0 next hs) (hn : ∀ hs2, next hs2 → WG G p l e room_1 s m args below meth c 9 (cells + 310) (slots + 5000) Q hs2 [(0, va_rf (some b)), (1, va_rf (some x0)), (2, va_rf (some m0)), (3, va_rf (some out)), (4, va_rf (some outD)), (5, .int v5)] [] 2696) : WG G p l e room_1 s m args below meth c 9 cells slots Q hs [(0, va_rf (some b)), (1, va_rf (some x0)), (2, va_rf (some m0)), (3, va_rf (some out)), (4, va_rf (some outD)), (5, .int v5)] [] 1786 := by
  obtain ⟨⟨fx, hx0⟩, r, hs1, hs2, hw, ⟨fm, hm0⟩, hmm, hnx⟩ := hop
  refine q_aload_n C 1 dL_law_1786 rfl ?_
  refine q_callE C (CN := RX8) (T := TX8) (N := 10) (ci := 11) (tv := tvI) [] [] hw (m_X8_breaks hw) lk_L_239 im_X8_breaks se_X8_X8_breaks rfl hx0 ⟨(Nat.le_of_ble_eq_true rfl), (Nat.le_of_ble_eq_true rfl)⟩ ⟨by omega, by omega⟩ rfl rfl (by simp only [List.map, cat_rf, cat_i, cat_a]; decide) dL_law_1787 ?_
  refine WG_st (st' := [.int r]) rfl ?_
  refine q_aload_n C 2 dL_law_1790 rfl ?_
  refine q_callE C (CN := RX9) (T := TX9) (N := 28) (ci := 12) (tv := tvI) [] [.int r] hmm (m_X9_breaks hmm) lk_L_242 im_X9_breaks se_X9_X9_breaks rfl hm0 ⟨(Nat.le_of_ble_eq_true rfl), (Nat.le_of_ble_eq_true rfl)⟩ ⟨by omega, by omega⟩ rfl rfl (by simp only [List.map, cat_rf, cat_i, cat_a]; decide) dL_law_1791 ?_
  refine WG_st (st' := [.int r, .int r]) rfl ?_
  refine q_icmpT C 2696 rfl dL_law_1794 (by decide) ?_
  refine WG.widen (k := cells + 310) (n := slots + 5000) (by omega) (by omega) ?_
  exact hn _ hnx
set_option maxRecDepth 100000 in
set_option maxHeartbeats 4000000 in
theorem law_c27 {p : Program} {l : Launch} {e : Env} {s : State} {m : MethodId} {args : Array Value} {below : List Frame} {meth : Method} {c : Code} {cells slots : Nat} {Q : State → Prop} {G : GG} {hs : Hs} {b L x0 m0 out outD : Nat} {xs : Nat → Int32} {v5 : Int32} {next : Hs → Prop} (C : Cx G l p s m args c RL cL_law 9) (hX : va_X b L xs s s.heap) (hbl : b < s.heap.size) (hbA : ¬ gA G b) (hj : vp_in (v5 + 1) L ∧ vp_in (v5 + 2) L ∧ vp_in (v5 + 3) L ∧ vp_in (v5 + 4) L ∧ vp_in (v5 + 5) L) (hcb : cells + 310 ≤ room_1.cells ∧ slots + 5000 ≤ room_1.slots) (hop : opI (f_L_lacking (some x0) (xs (v5 + (1 : Int32)).toNatClampNeg) (some out)) (f_X9_lacking m0 (xs (v5 + (1 : Int32)).toNatClampNeg)) m0 out next hs) (hn : ∀ hs2, next hs2 → WG G p l e room_1 s m args below meth c 9 (cells + 310) (slots + 5000) Q hs2 [(0, va_rf (some b)), (1, va_rf (some x0)), (2, va_rf (some m0)), (3, va_rf (some out)), (4, va_rf (some outD)), (5, .int v5)] [] 2696) : WG G p l e room_1 s m args below meth c 9 cells slots Q hs [(0, va_rf (some b)), (1, va_rf (some x0)), (2, va_rf (some m0)), (3, va_rf (some out)), (4, va_rf (some outD)), (5, .int v5)] [] 1799 := by
  obtain ⟨k, hs1, hw, ⟨fm, hm0⟩, hop⟩ := hop
  refine q_aload_n C 1 dL_law_1799 rfl ?_
  refine q_aload_n C 0 dL_law_1800 rfl ?_
  refine q_iload C 5 dL_law_1801 rfl ?_
  refine q_iconst C (1 : Int32) dL_law_1803 (by decide) ?_
  refine q_iadd C dL_law_1804 ?_
  refine q_scr C hX hbl hbA hj.1 dL_law_1805 ?_
  refine q_aload_n C 3 dL_law_1806 rfl ?_
  refine q_callL C (n := 3) [va_rf (some x0), .int (xs (v5 + (1 : Int32)).toNatClampNeg), va_rf (some out)] [] (m_L_lacking hw) cw_L_lacking ml_L_243 sm_L_lacking iw_L (by decide +kernel) ⟨(Nat.le_of_ble_eq_true rfl), (Nat.le_of_ble_eq_true rfl)⟩ ⟨by omega, by omega⟩ rfl rfl (by decide) dL_law_1807 (fun sz hbd => ?_)
  obtain ⟨bb, hs2, hmm, ⟨fm2, hm2⟩, hth, hcmp, hnx⟩ := hop sz hbd
  refine q_istoreP C [(6, .int k), (0, va_rf (some b)), (1, va_rf (some x0)), (2, va_rf (some m0)), (3, va_rf (some out)), (4, va_rf (some outD)), (5, .int v5)] dL_law_1810 (by decide) rfl ?_
  refine q_aload_n C 3 dL_law_1812 rfl ?_
  refine q_aload_n C 1 dL_law_1813 rfl ?_
  refine q_iload C 6 dL_law_1814 rfl ?_
  refine q_iconst C (1 : Int32) dL_law_1816 (by decide) ?_
  refine q_iadd C dL_law_1817 ?_
  refine q_scr C hX hbl hbA hj.1 dL_law_1818 ?_
  refine q_callE C (CN := RX9) (T := TX9) (N := 28) (ci := 12) (tv := tvI) [.int (xs (v5 + (1 : Int32)).toNatClampNeg)] [] hmm (m_X9_lacking hmm) lk_L_245 im_X9_lacking se_X9_X9_lacking rfl hm0 ⟨(Nat.le_of_ble_eq_true rfl), (Nat.le_of_ble_eq_true rfl)⟩ ⟨by omega, by omega⟩ rfl rfl (by simp only [List.map, cat_rf, cat_i, cat_a]; decide) dL_law_1819 ?_
  refine WG_st (st' := [.int bb]) rfl ?_
  refine q_istoreP C [(7, .int bb), (6, .int k), (0, va_rf (some b)), (1, va_rf (some x0)), (2, va_rf (some m0)), (3, va_rf (some out)), (4, va_rf (some outD)), (5, .int v5)] dL_law_1822 (by decide) rfl ?_
  refine q_aload_n C 4 dL_law_1824 rfl ?_
  refine q_callE C (CN := RX9) (T := TX9) (N := 28) (ci := 12) (tv := tvI) [] [] hth (m_X9_thrown hth) lk_L_154 im_X9_thrown se_X9_X9_thrown rfl hm2 ⟨(Nat.le_of_ble_eq_true rfl), (Nat.le_of_ble_eq_true rfl)⟩ ⟨by omega, by omega⟩ rfl rfl (by simp only [List.map, cat_rf, cat_i, cat_a]; decide) dL_law_1825 ?_
  refine WG_st (st' := [.int k]) rfl ?_
  refine q_iload C 1 dL_law_1828 rfl ?_
  refine q_icmpT C 1835 rfl dL_law_1830 (by decide) ?_
  refine q_iload C 1 dL_law_1835 rfl ?_
  by_cases hk0 : k = 0
  · refine q_ifF C hk0 dL_law_1837 1852 (by decide) ?_
    obtain ⟨f, hf, hfe⟩ := hcmp hk0
    refine q_aload_n C 5 dL_law_1840 rfl ?_
    refine q_iconst C (0 : Int32) dL_law_1841 (by decide) ?_
    refine q_lald C hf (by unfold vp_in; decide) dL_law_1842 ?_
    refine q_iload C 0 dL_law_1843 rfl ?_
    refine q_i2l C dL_law_1845 ?_
    refine q_lcmpE C hfe dL_law_1846 ?_
    refine q_ifeqT C 1852 rfl dL_law_1847 (by decide) ?_
    refine q_goto C 2696 dL_law_1852 (by decide) ?_
    refine WG.sub [2, 3, 4, 5, 6, 7] rfl ?_
    refine WG.widen (k := cells + 310) (n := slots + 5000) (by omega) (by omega) ?_
    exact hn _ hnx
  · refine q_ifneT C 1852 hk0 dL_law_1837 (by decide) ?_
    refine q_goto C 2696 dL_law_1852 (by decide) ?_
    refine WG.sub [2, 3, 4, 5, 6, 7] rfl ?_
    refine WG.widen (k := cells + 310) (n := slots + 5000) (by omega) (by omega) ?_
    exact hn _ hnx
set_option maxRecDepth 100000 in
set_option maxHeartbeats 4000000 in
theorem law_c28 {p : Program} {l : Launch} {e : Env} {s : State} {m : MethodId} {args : Array Value} {below : List Frame} {meth : Method} {c : Code} {cells slots : Nat} {Q : State → Prop} {G : GG} {hs : Hs} {b L x0 m0 out outD : Nat} {xs : Nat → Int32} {v5 : Int32} {next : Hs → Prop} (C : Cx G l p s m args c RL cL_law 9) (hX : va_X b L xs s s.heap) (hbl : b < s.heap.size) (hbA : ¬ gA G b) (hj : vp_in (v5 + 1) L ∧ vp_in (v5 + 2) L ∧ vp_in (v5 + 3) L ∧ vp_in (v5 + 4) L ∧ vp_in (v5 + 5) L) (hcb : cells + 310 ≤ room_1.cells ∧ slots + 5000 ≤ room_1.slots) (hop : opI (f_L_lackingBySeats (some x0) (xs (v5 + (1 : Int32)).toNatClampNeg) (some out)) (f_X9_lackingBySeats m0 (xs (v5 + (1 : Int32)).toNatClampNeg)) m0 out next hs) (hn : ∀ hs2, next hs2 → WG G p l e room_1 s m args below meth c 9 (cells + 310) (slots + 5000) Q hs2 [(0, va_rf (some b)), (1, va_rf (some x0)), (2, va_rf (some m0)), (3, va_rf (some out)), (4, va_rf (some outD)), (5, .int v5)] [] 2696) : WG G p l e room_1 s m args below meth c 9 cells slots Q hs [(0, va_rf (some b)), (1, va_rf (some x0)), (2, va_rf (some m0)), (3, va_rf (some out)), (4, va_rf (some outD)), (5, .int v5)] [] 1855 := by
  obtain ⟨k, hs1, hw, ⟨fm, hm0⟩, hop⟩ := hop
  refine q_aload_n C 1 dL_law_1855 rfl ?_
  refine q_aload_n C 0 dL_law_1856 rfl ?_
  refine q_iload C 5 dL_law_1857 rfl ?_
  refine q_iconst C (1 : Int32) dL_law_1859 (by decide) ?_
  refine q_iadd C dL_law_1860 ?_
  refine q_scr C hX hbl hbA hj.1 dL_law_1861 ?_
  refine q_aload_n C 3 dL_law_1862 rfl ?_
  refine q_callL C (n := 3) [va_rf (some x0), .int (xs (v5 + (1 : Int32)).toNatClampNeg), va_rf (some out)] [] (m_L_lackingBySeats hw) cw_L_lackingBySeats ml_L_246 sm_L_lackingBySeats iw_L (by decide +kernel) ⟨(Nat.le_of_ble_eq_true rfl), (Nat.le_of_ble_eq_true rfl)⟩ ⟨by omega, by omega⟩ rfl rfl (by decide) dL_law_1863 (fun sz hbd => ?_)
  obtain ⟨bb, hs2, hmm, ⟨fm2, hm2⟩, hth, hcmp, hnx⟩ := hop sz hbd
  refine q_istoreP C [(6, .int k), (0, va_rf (some b)), (1, va_rf (some x0)), (2, va_rf (some m0)), (3, va_rf (some out)), (4, va_rf (some outD)), (5, .int v5)] dL_law_1866 (by decide) rfl ?_
  refine q_aload_n C 3 dL_law_1868 rfl ?_
  refine q_aload_n C 1 dL_law_1869 rfl ?_
  refine q_iload C 6 dL_law_1870 rfl ?_
  refine q_iconst C (1 : Int32) dL_law_1872 (by decide) ?_
  refine q_iadd C dL_law_1873 ?_
  refine q_scr C hX hbl hbA hj.1 dL_law_1874 ?_
  refine q_callE C (CN := RX9) (T := TX9) (N := 28) (ci := 12) (tv := tvI) [.int (xs (v5 + (1 : Int32)).toNatClampNeg)] [] hmm (m_X9_lackingBySeats hmm) lk_L_248 im_X9_lackingBySeats se_X9_X9_lackingBySeats rfl hm0 ⟨(Nat.le_of_ble_eq_true rfl), (Nat.le_of_ble_eq_true rfl)⟩ ⟨by omega, by omega⟩ rfl rfl (by simp only [List.map, cat_rf, cat_i, cat_a]; decide) dL_law_1875 ?_
  refine WG_st (st' := [.int bb]) rfl ?_
  refine q_istoreP C [(7, .int bb), (6, .int k), (0, va_rf (some b)), (1, va_rf (some x0)), (2, va_rf (some m0)), (3, va_rf (some out)), (4, va_rf (some outD)), (5, .int v5)] dL_law_1878 (by decide) rfl ?_
  refine q_aload_n C 4 dL_law_1880 rfl ?_
  refine q_callE C (CN := RX9) (T := TX9) (N := 28) (ci := 12) (tv := tvI) [] [] hth (m_X9_thrown hth) lk_L_154 im_X9_thrown se_X9_X9_thrown rfl hm2 ⟨(Nat.le_of_ble_eq_true rfl), (Nat.le_of_ble_eq_true rfl)⟩ ⟨by omega, by omega⟩ rfl rfl (by simp only [List.map, cat_rf, cat_i, cat_a]; decide) dL_law_1881 ?_
  refine WG_st (st' := [.int k]) rfl ?_
  refine q_iload C 1 dL_law_1884 rfl ?_
  refine q_icmpT C 1891 rfl dL_law_1886 (by decide) ?_
  refine q_iload C 1 dL_law_1891 rfl ?_
  by_cases hk0 : k = 0
  · refine q_ifF C hk0 dL_law_1893 1908 (by decide) ?_
    obtain ⟨f, hf, hfe⟩ := hcmp hk0
    refine q_aload_n C 5 dL_law_1896 rfl ?_
    refine q_iconst C (0 : Int32) dL_law_1897 (by decide) ?_
    refine q_lald C hf (by unfold vp_in; decide) dL_law_1898 ?_
    refine q_iload C 0 dL_law_1899 rfl ?_
    refine q_i2l C dL_law_1901 ?_
    refine q_lcmpE C hfe dL_law_1902 ?_
    refine q_ifeqT C 1908 rfl dL_law_1903 (by decide) ?_
    refine q_goto C 2696 dL_law_1908 (by decide) ?_
    refine WG.sub [2, 3, 4, 5, 6, 7] rfl ?_
    refine WG.widen (k := cells + 310) (n := slots + 5000) (by omega) (by omega) ?_
    exact hn _ hnx
  · refine q_ifneT C 1908 hk0 dL_law_1893 (by decide) ?_
    refine q_goto C 2696 dL_law_1908 (by decide) ?_
    refine WG.sub [2, 3, 4, 5, 6, 7] rfl ?_
    refine WG.widen (k := cells + 310) (n := slots + 5000) (by omega) (by omega) ?_
    exact hn _ hnx
set_option maxRecDepth 100000 in
set_option maxHeartbeats 4000000 in
theorem law_c29 {p : Program} {l : Launch} {e : Env} {s : State} {m : MethodId} {args : Array Value} {below : List Frame} {meth : Method} {c : Code} {cells slots : Nat} {Q : State → Prop} {G : GG} {hs : Hs} {b L x0 m0 out outD : Nat} {xs : Nat → Int32} {v5 : Int32} {next : Hs → Prop} (C : Cx G l p s m args c RL cL_law 9) (hX : va_X b L xs s s.heap) (hbl : b < s.heap.size) (hbA : ¬ gA G b) (hj : vp_in (v5 + 1) L ∧ vp_in (v5 + 2) L ∧ vp_in (v5 + 3) L ∧ vp_in (v5 + 4) L ∧ vp_in (v5 + 5) L) (hcb : cells + 310 ≤ room_1.cells ∧ slots + 5000 ≤ room_1.slots) (hop : opI (f_L_ill (some x0) (xs (v5 + (1 : Int32)).toNatClampNeg) (xs (v5 + (2 : Int32)).toNatClampNeg) (some out)) (f_X9_ill m0 (xs (v5 + (1 : Int32)).toNatClampNeg) (xs (v5 + (2 : Int32)).toNatClampNeg)) m0 out next hs) (hn : ∀ hs2, next hs2 → WG G p l e room_1 s m args below meth c 9 (cells + 310) (slots + 5000) Q hs2 [(0, va_rf (some b)), (1, va_rf (some x0)), (2, va_rf (some m0)), (3, va_rf (some out)), (4, va_rf (some outD)), (5, .int v5)] [] 2696) : WG G p l e room_1 s m args below meth c 9 cells slots Q hs [(0, va_rf (some b)), (1, va_rf (some x0)), (2, va_rf (some m0)), (3, va_rf (some out)), (4, va_rf (some outD)), (5, .int v5)] [] 1911 := by
  obtain ⟨k, hs1, hw, ⟨fm, hm0⟩, hop⟩ := hop
  refine q_aload_n C 1 dL_law_1911 rfl ?_
  refine q_aload_n C 0 dL_law_1912 rfl ?_
  refine q_iload C 5 dL_law_1913 rfl ?_
  refine q_iconst C (1 : Int32) dL_law_1915 (by decide) ?_
  refine q_iadd C dL_law_1916 ?_
  refine q_scr C hX hbl hbA hj.1 dL_law_1917 ?_
  refine q_aload_n C 0 dL_law_1918 rfl ?_
  refine q_iload C 5 dL_law_1919 rfl ?_
  refine q_iconst C (2 : Int32) dL_law_1921 (by decide) ?_
  refine q_iadd C dL_law_1922 ?_
  refine q_scr C hX hbl hbA hj.2.1 dL_law_1923 ?_
  refine q_aload_n C 3 dL_law_1924 rfl ?_
  refine q_callL C (n := 4) [va_rf (some x0), .int (xs (v5 + (1 : Int32)).toNatClampNeg), .int (xs (v5 + (2 : Int32)).toNatClampNeg), va_rf (some out)] [] (m_L_ill hw) cw_L_ill ml_L_249 sm_L_ill iw_L (by decide +kernel) ⟨(Nat.le_of_ble_eq_true rfl), (Nat.le_of_ble_eq_true rfl)⟩ ⟨by omega, by omega⟩ rfl rfl (by decide) dL_law_1925 (fun sz hbd => ?_)
  obtain ⟨bb, hs2, hmm, ⟨fm2, hm2⟩, hth, hcmp, hnx⟩ := hop sz hbd
  refine q_istoreP C [(6, .int k), (0, va_rf (some b)), (1, va_rf (some x0)), (2, va_rf (some m0)), (3, va_rf (some out)), (4, va_rf (some outD)), (5, .int v5)] dL_law_1928 (by decide) rfl ?_
  refine q_aload_n C 3 dL_law_1930 rfl ?_
  refine q_aload_n C 1 dL_law_1931 rfl ?_
  refine q_iload C 6 dL_law_1932 rfl ?_
  refine q_iconst C (1 : Int32) dL_law_1934 (by decide) ?_
  refine q_iadd C dL_law_1935 ?_
  refine q_scr C hX hbl hbA hj.1 dL_law_1936 ?_
  refine q_aload_n C 1 dL_law_1937 rfl ?_
  refine q_iload C 6 dL_law_1938 rfl ?_
  refine q_iconst C (2 : Int32) dL_law_1940 (by decide) ?_
  refine q_iadd C dL_law_1941 ?_
  refine q_scr C hX hbl hbA hj.2.1 dL_law_1942 ?_
  refine q_callE C (CN := RX9) (T := TX9) (N := 28) (ci := 12) (tv := tvI) [.int (xs (v5 + (1 : Int32)).toNatClampNeg), .int (xs (v5 + (2 : Int32)).toNatClampNeg)] [] hmm (m_X9_ill hmm) lk_L_251 im_X9_ill se_X9_X9_ill rfl hm0 ⟨(Nat.le_of_ble_eq_true rfl), (Nat.le_of_ble_eq_true rfl)⟩ ⟨by omega, by omega⟩ rfl rfl (by simp only [List.map, cat_rf, cat_i, cat_a]; decide) dL_law_1943 ?_
  refine WG_st (st' := [.int bb]) rfl ?_
  refine q_istoreP C [(7, .int bb), (6, .int k), (0, va_rf (some b)), (1, va_rf (some x0)), (2, va_rf (some m0)), (3, va_rf (some out)), (4, va_rf (some outD)), (5, .int v5)] dL_law_1946 (by decide) rfl ?_
  refine q_aload_n C 4 dL_law_1948 rfl ?_
  refine q_callE C (CN := RX9) (T := TX9) (N := 28) (ci := 12) (tv := tvI) [] [] hth (m_X9_thrown hth) lk_L_154 im_X9_thrown se_X9_X9_thrown rfl hm2 ⟨(Nat.le_of_ble_eq_true rfl), (Nat.le_of_ble_eq_true rfl)⟩ ⟨by omega, by omega⟩ rfl rfl (by simp only [List.map, cat_rf, cat_i, cat_a]; decide) dL_law_1949 ?_
  refine WG_st (st' := [.int k]) rfl ?_
  refine q_iload C 1 dL_law_1952 rfl ?_
  refine q_icmpT C 1959 rfl dL_law_1954 (by decide) ?_
  refine q_iload C 1 dL_law_1959 rfl ?_
  by_cases hk0 : k = 0
  · refine q_ifF C hk0 dL_law_1961 1976 (by decide) ?_
    obtain ⟨f, hf, hfe⟩ := hcmp hk0
    refine q_aload_n C 5 dL_law_1964 rfl ?_
    refine q_iconst C (0 : Int32) dL_law_1965 (by decide) ?_
    refine q_lald C hf (by unfold vp_in; decide) dL_law_1966 ?_
    refine q_iload C 0 dL_law_1967 rfl ?_
    refine q_i2l C dL_law_1969 ?_
    refine q_lcmpE C hfe dL_law_1970 ?_
    refine q_ifeqT C 1976 rfl dL_law_1971 (by decide) ?_
    refine q_goto C 2696 dL_law_1976 (by decide) ?_
    refine WG.sub [2, 3, 4, 5, 6, 7] rfl ?_
    refine WG.widen (k := cells + 310) (n := slots + 5000) (by omega) (by omega) ?_
    exact hn _ hnx
  · refine q_ifneT C 1976 hk0 dL_law_1961 (by decide) ?_
    refine q_goto C 2696 dL_law_1976 (by decide) ?_
    refine WG.sub [2, 3, 4, 5, 6, 7] rfl ?_
    refine WG.widen (k := cells + 310) (n := slots + 5000) (by omega) (by omega) ?_
    exact hn _ hnx
set_option maxRecDepth 100000 in
set_option maxHeartbeats 4000000 in
theorem law_c30 {p : Program} {l : Launch} {e : Env} {s : State} {m : MethodId} {args : Array Value} {below : List Frame} {meth : Method} {c : Code} {cells slots : Nat} {Q : State → Prop} {G : GG} {hs : Hs} {b L x0 m0 out outD : Nat} {xs : Nat → Int32} {v5 : Int32} {next : Hs → Prop} (C : Cx G l p s m args c RL cL_law 9) (hX : va_X b L xs s s.heap) (hbl : b < s.heap.size) (hbA : ¬ gA G b) (hj : vp_in (v5 + 1) L ∧ vp_in (v5 + 2) L ∧ vp_in (v5 + 3) L ∧ vp_in (v5 + 4) L ∧ vp_in (v5 + 5) L) (hcb : cells + 310 ≤ room_1.cells ∧ slots + 5000 ≤ room_1.slots) (hop : opI (f_L_close (some x0) (xs (v5 + (1 : Int32)).toNatClampNeg) (some out)) (f_X9_close m0 (xs (v5 + (1 : Int32)).toNatClampNeg)) m0 out next hs) (hn : ∀ hs2, next hs2 → WG G p l e room_1 s m args below meth c 9 (cells + 310) (slots + 5000) Q hs2 [(0, va_rf (some b)), (1, va_rf (some x0)), (2, va_rf (some m0)), (3, va_rf (some out)), (4, va_rf (some outD)), (5, .int v5)] [] 2696) : WG G p l e room_1 s m args below meth c 9 cells slots Q hs [(0, va_rf (some b)), (1, va_rf (some x0)), (2, va_rf (some m0)), (3, va_rf (some out)), (4, va_rf (some outD)), (5, .int v5)] [] 1979 := by
  obtain ⟨k, hs1, hw, ⟨fm, hm0⟩, hop⟩ := hop
  refine q_aload_n C 1 dL_law_1979 rfl ?_
  refine q_aload_n C 0 dL_law_1980 rfl ?_
  refine q_iload C 5 dL_law_1981 rfl ?_
  refine q_iconst C (1 : Int32) dL_law_1983 (by decide) ?_
  refine q_iadd C dL_law_1984 ?_
  refine q_scr C hX hbl hbA hj.1 dL_law_1985 ?_
  refine q_aload_n C 3 dL_law_1986 rfl ?_
  refine q_callL C (n := 3) [va_rf (some x0), .int (xs (v5 + (1 : Int32)).toNatClampNeg), va_rf (some out)] [] (m_L_close hw) cw_L_close ml_L_252 sm_L_close iw_L (by decide +kernel) ⟨(Nat.le_of_ble_eq_true rfl), (Nat.le_of_ble_eq_true rfl)⟩ ⟨by omega, by omega⟩ rfl rfl (by decide) dL_law_1987 (fun sz hbd => ?_)
  obtain ⟨bb, hs2, hmm, ⟨fm2, hm2⟩, hth, hcmp, hnx⟩ := hop sz hbd
  refine q_istoreP C [(6, .int k), (0, va_rf (some b)), (1, va_rf (some x0)), (2, va_rf (some m0)), (3, va_rf (some out)), (4, va_rf (some outD)), (5, .int v5)] dL_law_1990 (by decide) rfl ?_
  refine q_aload_n C 3 dL_law_1992 rfl ?_
  refine q_aload_n C 1 dL_law_1993 rfl ?_
  refine q_iload C 6 dL_law_1994 rfl ?_
  refine q_iconst C (1 : Int32) dL_law_1996 (by decide) ?_
  refine q_iadd C dL_law_1997 ?_
  refine q_scr C hX hbl hbA hj.1 dL_law_1998 ?_
  refine q_callE C (CN := RX9) (T := TX9) (N := 28) (ci := 12) (tv := tvI) [.int (xs (v5 + (1 : Int32)).toNatClampNeg)] [] hmm (m_X9_close hmm) lk_L_254 im_X9_close se_X9_X9_close rfl hm0 ⟨(Nat.le_of_ble_eq_true rfl), (Nat.le_of_ble_eq_true rfl)⟩ ⟨by omega, by omega⟩ rfl rfl (by simp only [List.map, cat_rf, cat_i, cat_a]; decide) dL_law_1999 ?_
  refine WG_st (st' := [.int bb]) rfl ?_
  refine q_istoreP C [(7, .int bb), (6, .int k), (0, va_rf (some b)), (1, va_rf (some x0)), (2, va_rf (some m0)), (3, va_rf (some out)), (4, va_rf (some outD)), (5, .int v5)] dL_law_2002 (by decide) rfl ?_
  refine q_aload_n C 4 dL_law_2004 rfl ?_
  refine q_callE C (CN := RX9) (T := TX9) (N := 28) (ci := 12) (tv := tvI) [] [] hth (m_X9_thrown hth) lk_L_154 im_X9_thrown se_X9_X9_thrown rfl hm2 ⟨(Nat.le_of_ble_eq_true rfl), (Nat.le_of_ble_eq_true rfl)⟩ ⟨by omega, by omega⟩ rfl rfl (by simp only [List.map, cat_rf, cat_i, cat_a]; decide) dL_law_2005 ?_
  refine WG_st (st' := [.int k]) rfl ?_
  refine q_iload C 1 dL_law_2008 rfl ?_
  refine q_icmpT C 2015 rfl dL_law_2010 (by decide) ?_
  refine q_iload C 1 dL_law_2015 rfl ?_
  by_cases hk0 : k = 0
  · refine q_ifF C hk0 dL_law_2017 2032 (by decide) ?_
    obtain ⟨f, hf, hfe⟩ := hcmp hk0
    refine q_aload_n C 5 dL_law_2020 rfl ?_
    refine q_iconst C (0 : Int32) dL_law_2021 (by decide) ?_
    refine q_lald C hf (by unfold vp_in; decide) dL_law_2022 ?_
    refine q_iload C 0 dL_law_2023 rfl ?_
    refine q_i2l C dL_law_2025 ?_
    refine q_lcmpE C hfe dL_law_2026 ?_
    refine q_ifeqT C 2032 rfl dL_law_2027 (by decide) ?_
    refine q_goto C 2696 dL_law_2032 (by decide) ?_
    refine WG.sub [2, 3, 4, 5, 6, 7] rfl ?_
    refine WG.widen (k := cells + 310) (n := slots + 5000) (by omega) (by omega) ?_
    exact hn _ hnx
  · refine q_ifneT C 2032 hk0 dL_law_2017 (by decide) ?_
    refine q_goto C 2696 dL_law_2032 (by decide) ?_
    refine WG.sub [2, 3, 4, 5, 6, 7] rfl ?_
    refine WG.widen (k := cells + 310) (n := slots + 5000) (by omega) (by omega) ?_
    exact hn _ hnx
set_option maxRecDepth 100000 in
set_option maxHeartbeats 4000000 in
theorem law_c31 {p : Program} {l : Launch} {e : Env} {s : State} {m : MethodId} {args : Array Value} {below : List Frame} {meth : Method} {c : Code} {cells slots : Nat} {Q : State → Prop} {G : GG} {hs : Hs} {b L x0 m0 out outD : Nat} {xs : Nat → Int32} {v5 : Int32} {next : Hs → Prop} (C : Cx G l p s m args c RL cL_law 9) (hX : va_X b L xs s s.heap) (hbl : b < s.heap.size) (hbA : ¬ gA G b) (hj : vp_in (v5 + 1) L ∧ vp_in (v5 + 2) L ∧ vp_in (v5 + 3) L ∧ vp_in (v5 + 4) L ∧ vp_in (v5 + 5) L) (hcb : cells + 310 ≤ room_1.cells ∧ slots + 5000 ≤ room_1.slots) (hop : opI (f_L_open (some x0) (xs (v5 + (1 : Int32)).toNatClampNeg) (some out)) (f_X9_open m0 (xs (v5 + (1 : Int32)).toNatClampNeg)) m0 out next hs) (hn : ∀ hs2, next hs2 → WG G p l e room_1 s m args below meth c 9 (cells + 310) (slots + 5000) Q hs2 [(0, va_rf (some b)), (1, va_rf (some x0)), (2, va_rf (some m0)), (3, va_rf (some out)), (4, va_rf (some outD)), (5, .int v5)] [] 2696) : WG G p l e room_1 s m args below meth c 9 cells slots Q hs [(0, va_rf (some b)), (1, va_rf (some x0)), (2, va_rf (some m0)), (3, va_rf (some out)), (4, va_rf (some outD)), (5, .int v5)] [] 2035 := by
  obtain ⟨k, hs1, hw, ⟨fm, hm0⟩, hop⟩ := hop
  refine q_aload_n C 1 dL_law_2035 rfl ?_
  refine q_aload_n C 0 dL_law_2036 rfl ?_
  refine q_iload C 5 dL_law_2037 rfl ?_
  refine q_iconst C (1 : Int32) dL_law_2039 (by decide) ?_
  refine q_iadd C dL_law_2040 ?_
  refine q_scr C hX hbl hbA hj.1 dL_law_2041 ?_
  refine q_aload_n C 3 dL_law_2042 rfl ?_
  refine q_callL C (n := 3) [va_rf (some x0), .int (xs (v5 + (1 : Int32)).toNatClampNeg), va_rf (some out)] [] (m_L_open hw) cw_L_open ml_L_255 sm_L_open iw_L (by decide +kernel) ⟨(Nat.le_of_ble_eq_true rfl), (Nat.le_of_ble_eq_true rfl)⟩ ⟨by omega, by omega⟩ rfl rfl (by decide) dL_law_2043 (fun sz hbd => ?_)
  obtain ⟨bb, hs2, hmm, ⟨fm2, hm2⟩, hth, hcmp, hnx⟩ := hop sz hbd
  refine q_istoreP C [(6, .int k), (0, va_rf (some b)), (1, va_rf (some x0)), (2, va_rf (some m0)), (3, va_rf (some out)), (4, va_rf (some outD)), (5, .int v5)] dL_law_2046 (by decide) rfl ?_
  refine q_aload_n C 3 dL_law_2048 rfl ?_
  refine q_aload_n C 1 dL_law_2049 rfl ?_
  refine q_iload C 6 dL_law_2050 rfl ?_
  refine q_iconst C (1 : Int32) dL_law_2052 (by decide) ?_
  refine q_iadd C dL_law_2053 ?_
  refine q_scr C hX hbl hbA hj.1 dL_law_2054 ?_
  refine q_callE C (CN := RX9) (T := TX9) (N := 28) (ci := 12) (tv := tvI) [.int (xs (v5 + (1 : Int32)).toNatClampNeg)] [] hmm (m_X9_open hmm) lk_L_257 im_X9_open se_X9_X9_open rfl hm0 ⟨(Nat.le_of_ble_eq_true rfl), (Nat.le_of_ble_eq_true rfl)⟩ ⟨by omega, by omega⟩ rfl rfl (by simp only [List.map, cat_rf, cat_i, cat_a]; decide) dL_law_2055 ?_
  refine WG_st (st' := [.int bb]) rfl ?_
  refine q_istoreP C [(7, .int bb), (6, .int k), (0, va_rf (some b)), (1, va_rf (some x0)), (2, va_rf (some m0)), (3, va_rf (some out)), (4, va_rf (some outD)), (5, .int v5)] dL_law_2058 (by decide) rfl ?_
  refine q_aload_n C 4 dL_law_2060 rfl ?_
  refine q_callE C (CN := RX9) (T := TX9) (N := 28) (ci := 12) (tv := tvI) [] [] hth (m_X9_thrown hth) lk_L_154 im_X9_thrown se_X9_X9_thrown rfl hm2 ⟨(Nat.le_of_ble_eq_true rfl), (Nat.le_of_ble_eq_true rfl)⟩ ⟨by omega, by omega⟩ rfl rfl (by simp only [List.map, cat_rf, cat_i, cat_a]; decide) dL_law_2061 ?_
  refine WG_st (st' := [.int k]) rfl ?_
  refine q_iload C 1 dL_law_2064 rfl ?_
  refine q_icmpT C 2071 rfl dL_law_2066 (by decide) ?_
  refine q_iload C 1 dL_law_2071 rfl ?_
  by_cases hk0 : k = 0
  · refine q_ifF C hk0 dL_law_2073 2088 (by decide) ?_
    obtain ⟨f, hf, hfe⟩ := hcmp hk0
    refine q_aload_n C 5 dL_law_2076 rfl ?_
    refine q_iconst C (0 : Int32) dL_law_2077 (by decide) ?_
    refine q_lald C hf (by unfold vp_in; decide) dL_law_2078 ?_
    refine q_iload C 0 dL_law_2079 rfl ?_
    refine q_i2l C dL_law_2081 ?_
    refine q_lcmpE C hfe dL_law_2082 ?_
    refine q_ifeqT C 2088 rfl dL_law_2083 (by decide) ?_
    refine q_goto C 2696 dL_law_2088 (by decide) ?_
    refine WG.sub [2, 3, 4, 5, 6, 7] rfl ?_
    refine WG.widen (k := cells + 310) (n := slots + 5000) (by omega) (by omega) ?_
    exact hn _ hnx
  · refine q_ifneT C 2088 hk0 dL_law_2073 (by decide) ?_
    refine q_goto C 2696 dL_law_2088 (by decide) ?_
    refine WG.sub [2, 3, 4, 5, 6, 7] rfl ?_
    refine WG.widen (k := cells + 310) (n := slots + 5000) (by omega) (by omega) ?_
    exact hn _ hnx
set_option maxRecDepth 100000 in
set_option maxHeartbeats 4000000 in
theorem law_c32 {p : Program} {l : Launch} {e : Env} {s : State} {m : MethodId} {args : Array Value} {below : List Frame} {meth : Method} {c : Code} {cells slots : Nat} {Q : State → Prop} {G : GG} {hs : Hs} {b L x0 m0 out outD : Nat} {xs : Nat → Int32} {v5 : Int32} {next : Hs → Prop} (C : Cx G l p s m args c RL cL_law 9) (hX : va_X b L xs s s.heap) (hbl : b < s.heap.size) (hbA : ¬ gA G b) (hj : vp_in (v5 + 1) L ∧ vp_in (v5 + 2) L ∧ vp_in (v5 + 3) L ∧ vp_in (v5 + 4) L ∧ vp_in (v5 + 5) L) (hcb : cells + 310 ≤ room_1.cells ∧ slots + 5000 ≤ room_1.slots) (hop : opI (f_L_passDay (some x0)  (some out)) (f_X9_passDay m0 ) m0 out next hs) (hn : ∀ hs2, next hs2 → WG G p l e room_1 s m args below meth c 9 (cells + 310) (slots + 5000) Q hs2 [(0, va_rf (some b)), (1, va_rf (some x0)), (2, va_rf (some m0)), (3, va_rf (some out)), (4, va_rf (some outD)), (5, .int v5)] [] 2696) : WG G p l e room_1 s m args below meth c 9 cells slots Q hs [(0, va_rf (some b)), (1, va_rf (some x0)), (2, va_rf (some m0)), (3, va_rf (some out)), (4, va_rf (some outD)), (5, .int v5)] [] 2091 := by
  obtain ⟨k, hs1, hw, ⟨fm, hm0⟩, hop⟩ := hop
  refine q_aload_n C 1 dL_law_2091 rfl ?_
  refine q_aload_n C 3 dL_law_2092 rfl ?_
  refine q_callL C (n := 2) [va_rf (some x0), va_rf (some out)] [] (m_L_passDay hw) cw_L_passDay ml_L_258 sm_L_passDay iw_L (by decide +kernel) ⟨(Nat.le_of_ble_eq_true rfl), (Nat.le_of_ble_eq_true rfl)⟩ ⟨by omega, by omega⟩ rfl rfl (by decide) dL_law_2093 (fun sz hbd => ?_)
  obtain ⟨bb, hs2, hmm, ⟨fm2, hm2⟩, hth, hcmp, hnx⟩ := hop sz hbd
  refine q_istoreP C [(6, .int k), (0, va_rf (some b)), (1, va_rf (some x0)), (2, va_rf (some m0)), (3, va_rf (some out)), (4, va_rf (some outD)), (5, .int v5)] dL_law_2096 (by decide) rfl ?_
  refine q_aload_n C 3 dL_law_2098 rfl ?_
  refine q_callE C (CN := RX9) (T := TX9) (N := 28) (ci := 12) (tv := tvI) [] [] hmm (m_X9_passDay hmm) lk_L_260 im_X9_passDay se_X9_X9_passDay rfl hm0 ⟨(Nat.le_of_ble_eq_true rfl), (Nat.le_of_ble_eq_true rfl)⟩ ⟨by omega, by omega⟩ rfl rfl (by simp only [List.map, cat_rf, cat_i, cat_a]; decide) dL_law_2099 ?_
  refine WG_st (st' := [.int bb]) rfl ?_
  refine q_istoreP C [(7, .int bb), (6, .int k), (0, va_rf (some b)), (1, va_rf (some x0)), (2, va_rf (some m0)), (3, va_rf (some out)), (4, va_rf (some outD)), (5, .int v5)] dL_law_2102 (by decide) rfl ?_
  refine q_aload_n C 4 dL_law_2104 rfl ?_
  refine q_callE C (CN := RX9) (T := TX9) (N := 28) (ci := 12) (tv := tvI) [] [] hth (m_X9_thrown hth) lk_L_154 im_X9_thrown se_X9_X9_thrown rfl hm2 ⟨(Nat.le_of_ble_eq_true rfl), (Nat.le_of_ble_eq_true rfl)⟩ ⟨by omega, by omega⟩ rfl rfl (by simp only [List.map, cat_rf, cat_i, cat_a]; decide) dL_law_2105 ?_
  refine WG_st (st' := [.int k]) rfl ?_
  refine q_iload C 1 dL_law_2108 rfl ?_
  refine q_icmpT C 2115 rfl dL_law_2110 (by decide) ?_
  refine q_iload C 1 dL_law_2115 rfl ?_
  by_cases hk0 : k = 0
  · refine q_ifF C hk0 dL_law_2117 2132 (by decide) ?_
    obtain ⟨f, hf, hfe⟩ := hcmp hk0
    refine q_aload_n C 5 dL_law_2120 rfl ?_
    refine q_iconst C (0 : Int32) dL_law_2121 (by decide) ?_
    refine q_lald C hf (by unfold vp_in; decide) dL_law_2122 ?_
    refine q_iload C 0 dL_law_2123 rfl ?_
    refine q_i2l C dL_law_2125 ?_
    refine q_lcmpE C hfe dL_law_2126 ?_
    refine q_ifeqT C 2132 rfl dL_law_2127 (by decide) ?_
    refine q_goto C 2696 dL_law_2132 (by decide) ?_
    refine WG.sub [2, 3, 4, 5, 6, 7] rfl ?_
    refine WG.widen (k := cells + 310) (n := slots + 5000) (by omega) (by omega) ?_
    exact hn _ hnx
  · refine q_ifneT C 2132 hk0 dL_law_2117 (by decide) ?_
    refine q_goto C 2696 dL_law_2132 (by decide) ?_
    refine WG.sub [2, 3, 4, 5, 6, 7] rfl ?_
    refine WG.widen (k := cells + 310) (n := slots + 5000) (by omega) (by omega) ?_
    exact hn _ hnx
set_option maxRecDepth 100000 in
set_option maxHeartbeats 4000000 in
theorem law_c33 {p : Program} {l : Launch} {e : Env} {s : State} {m : MethodId} {args : Array Value} {below : List Frame} {meth : Method} {c : Code} {cells slots : Nat} {Q : State → Prop} {G : GG} {hs : Hs} {b L x0 m0 out outD : Nat} {xs : Nat → Int32} {v5 : Int32} {next : Hs → Prop} (C : Cx G l p s m args c RL cL_law 9) (hX : va_X b L xs s s.heap) (hbl : b < s.heap.size) (hbA : ¬ gA G b) (hj : vp_in (v5 + 1) L ∧ vp_in (v5 + 2) L ∧ vp_in (v5 + 3) L ∧ vp_in (v5 + 4) L ∧ vp_in (v5 + 5) L) (hcb : cells + 310 ≤ room_1.cells ∧ slots + 5000 ≤ room_1.slots) (hop : opI (f_L_nextWeek (some x0)  (some out)) (f_X9_nextWeek m0 ) m0 out next hs) (hn : ∀ hs2, next hs2 → WG G p l e room_1 s m args below meth c 9 (cells + 310) (slots + 5000) Q hs2 [(0, va_rf (some b)), (1, va_rf (some x0)), (2, va_rf (some m0)), (3, va_rf (some out)), (4, va_rf (some outD)), (5, .int v5)] [] 2696) : WG G p l e room_1 s m args below meth c 9 cells slots Q hs [(0, va_rf (some b)), (1, va_rf (some x0)), (2, va_rf (some m0)), (3, va_rf (some out)), (4, va_rf (some outD)), (5, .int v5)] [] 2135 := by
  obtain ⟨k, hs1, hw, ⟨fm, hm0⟩, hop⟩ := hop
  refine q_aload_n C 1 dL_law_2135 rfl ?_
  refine q_aload_n C 3 dL_law_2136 rfl ?_
  refine q_callL C (n := 2) [va_rf (some x0), va_rf (some out)] [] (m_L_nextWeek hw) cw_L_nextWeek ml_L_261 sm_L_nextWeek iw_L (by decide +kernel) ⟨(Nat.le_of_ble_eq_true rfl), (Nat.le_of_ble_eq_true rfl)⟩ ⟨by omega, by omega⟩ rfl rfl (by decide) dL_law_2137 (fun sz hbd => ?_)
  obtain ⟨bb, hs2, hmm, ⟨fm2, hm2⟩, hth, hcmp, hnx⟩ := hop sz hbd
  refine q_istoreP C [(6, .int k), (0, va_rf (some b)), (1, va_rf (some x0)), (2, va_rf (some m0)), (3, va_rf (some out)), (4, va_rf (some outD)), (5, .int v5)] dL_law_2140 (by decide) rfl ?_
  refine q_aload_n C 3 dL_law_2142 rfl ?_
  refine q_callE C (CN := RX9) (T := TX9) (N := 28) (ci := 12) (tv := tvI) [] [] hmm (m_X9_nextWeek hmm) lk_L_263 im_X9_nextWeek se_X9_X9_nextWeek rfl hm0 ⟨(Nat.le_of_ble_eq_true rfl), (Nat.le_of_ble_eq_true rfl)⟩ ⟨by omega, by omega⟩ rfl rfl (by simp only [List.map, cat_rf, cat_i, cat_a]; decide) dL_law_2143 ?_
  refine WG_st (st' := [.int bb]) rfl ?_
  refine q_istoreP C [(7, .int bb), (6, .int k), (0, va_rf (some b)), (1, va_rf (some x0)), (2, va_rf (some m0)), (3, va_rf (some out)), (4, va_rf (some outD)), (5, .int v5)] dL_law_2146 (by decide) rfl ?_
  refine q_aload_n C 4 dL_law_2148 rfl ?_
  refine q_callE C (CN := RX9) (T := TX9) (N := 28) (ci := 12) (tv := tvI) [] [] hth (m_X9_thrown hth) lk_L_154 im_X9_thrown se_X9_X9_thrown rfl hm2 ⟨(Nat.le_of_ble_eq_true rfl), (Nat.le_of_ble_eq_true rfl)⟩ ⟨by omega, by omega⟩ rfl rfl (by simp only [List.map, cat_rf, cat_i, cat_a]; decide) dL_law_2149 ?_
  refine WG_st (st' := [.int k]) rfl ?_
  refine q_iload C 1 dL_law_2152 rfl ?_
  refine q_icmpT C 2159 rfl dL_law_2154 (by decide) ?_
  refine q_iload C 1 dL_law_2159 rfl ?_
  by_cases hk0 : k = 0
  · refine q_ifF C hk0 dL_law_2161 2176 (by decide) ?_
    obtain ⟨f, hf, hfe⟩ := hcmp hk0
    refine q_aload_n C 5 dL_law_2164 rfl ?_
    refine q_iconst C (0 : Int32) dL_law_2165 (by decide) ?_
    refine q_lald C hf (by unfold vp_in; decide) dL_law_2166 ?_
    refine q_iload C 0 dL_law_2167 rfl ?_
    refine q_i2l C dL_law_2169 ?_
    refine q_lcmpE C hfe dL_law_2170 ?_
    refine q_ifeqT C 2176 rfl dL_law_2171 (by decide) ?_
    refine q_goto C 2696 dL_law_2176 (by decide) ?_
    refine WG.sub [2, 3, 4, 5, 6, 7] rfl ?_
    refine WG.widen (k := cells + 310) (n := slots + 5000) (by omega) (by omega) ?_
    exact hn _ hnx
  · refine q_ifneT C 2176 hk0 dL_law_2161 (by decide) ?_
    refine q_goto C 2696 dL_law_2176 (by decide) ?_
    refine WG.sub [2, 3, 4, 5, 6, 7] rfl ?_
    refine WG.widen (k := cells + 310) (n := slots + 5000) (by omega) (by omega) ?_
    exact hn _ hnx
set_option maxRecDepth 100000 in
set_option maxHeartbeats 4000000 in
theorem law_c34 {p : Program} {l : Launch} {e : Env} {s : State} {m : MethodId} {args : Array Value} {below : List Frame} {meth : Method} {c : Code} {cells slots : Nat} {Q : State → Prop} {G : GG} {hs : Hs} {b L x0 m0 out outD : Nat} {xs : Nat → Int32} {v5 : Int32} {next : Hs → Prop} (C : Cx G l p s m args c RL cL_law 9) (hX : va_X b L xs s s.heap) (hbl : b < s.heap.size) (hbA : ¬ gA G b) (hj : vp_in (v5 + 1) L ∧ vp_in (v5 + 2) L ∧ vp_in (v5 + 3) L ∧ vp_in (v5 + 4) L ∧ vp_in (v5 + 5) L) (hcb : cells + 310 ≤ room_1.cells ∧ slots + 5000 ≤ room_1.slots) (hop : opD (f_X8_today x0) (f_X9_today m0) x0 m0 next hs) (hn : ∀ hs2, next hs2 → WG G p l e room_1 s m args below meth c 9 (cells + 310) (slots + 5000) Q hs2 [(0, va_rf (some b)), (1, va_rf (some x0)), (2, va_rf (some m0)), (3, va_rf (some out)), (4, va_rf (some outD)), (5, .int v5)] [] 2696) : WG G p l e room_1 s m args below meth c 9 cells slots Q hs [(0, va_rf (some b)), (1, va_rf (some x0)), (2, va_rf (some m0)), (3, va_rf (some out)), (4, va_rf (some outD)), (5, .int v5)] [] 2179 := by
  obtain ⟨⟨fx, hx0⟩, r, hs1, hs2, hw, ⟨fm, hm0⟩, hmm, hnx⟩ := hop
  refine q_aload_n C 1 dL_law_2179 rfl ?_
  refine q_callE C (CN := RX8) (T := TX8) (N := 10) (ci := 11) (tv := tvI) [] [] hw (m_X8_today hw) lk_L_264 im_X8_today se_X8_X8_today rfl hx0 ⟨(Nat.le_of_ble_eq_true rfl), (Nat.le_of_ble_eq_true rfl)⟩ ⟨by omega, by omega⟩ rfl rfl (by simp only [List.map, cat_rf, cat_i, cat_a]; decide) dL_law_2180 ?_
  refine WG_st (st' := [.int r]) rfl ?_
  refine q_aload_n C 2 dL_law_2183 rfl ?_
  refine q_callE C (CN := RX9) (T := TX9) (N := 28) (ci := 12) (tv := tvI) [] [.int r] hmm (m_X9_today hmm) lk_L_267 im_X9_today se_X9_X9_today rfl hm0 ⟨(Nat.le_of_ble_eq_true rfl), (Nat.le_of_ble_eq_true rfl)⟩ ⟨by omega, by omega⟩ rfl rfl (by simp only [List.map, cat_rf, cat_i, cat_a]; decide) dL_law_2184 ?_
  refine WG_st (st' := [.int r, .int r]) rfl ?_
  refine q_icmpT C 2696 rfl dL_law_2187 (by decide) ?_
  refine WG.widen (k := cells + 310) (n := slots + 5000) (by omega) (by omega) ?_
  exact hn _ hnx
set_option maxRecDepth 100000 in
set_option maxHeartbeats 4000000 in
theorem law_c35 {p : Program} {l : Launch} {e : Env} {s : State} {m : MethodId} {args : Array Value} {below : List Frame} {meth : Method} {c : Code} {cells slots : Nat} {Q : State → Prop} {G : GG} {hs : Hs} {b L x0 m0 out outD : Nat} {xs : Nat → Int32} {v5 : Int32} {next : Hs → Prop} (C : Cx G l p s m args c RL cL_law 9) (hX : va_X b L xs s s.heap) (hbl : b < s.heap.size) (hbA : ¬ gA G b) (hj : vp_in (v5 + 1) L ∧ vp_in (v5 + 2) L ∧ vp_in (v5 + 3) L ∧ vp_in (v5 + 4) L ∧ vp_in (v5 + 5) L) (hcb : cells + 310 ≤ room_1.cells ∧ slots + 5000 ≤ room_1.slots) (hop : opI (f_L_account (some x0) (xs (v5 + (1 : Int32)).toNatClampNeg) (some out)) (f_X9_account m0 (xs (v5 + (1 : Int32)).toNatClampNeg)) m0 out next hs) (hn : ∀ hs2, next hs2 → WG G p l e room_1 s m args below meth c 9 (cells + 310) (slots + 5000) Q hs2 [(0, va_rf (some b)), (1, va_rf (some x0)), (2, va_rf (some m0)), (3, va_rf (some out)), (4, va_rf (some outD)), (5, .int v5)] [] 2696) : WG G p l e room_1 s m args below meth c 9 cells slots Q hs [(0, va_rf (some b)), (1, va_rf (some x0)), (2, va_rf (some m0)), (3, va_rf (some out)), (4, va_rf (some outD)), (5, .int v5)] [] 2192 := by
  obtain ⟨k, hs1, hw, ⟨fm, hm0⟩, hop⟩ := hop
  refine q_aload_n C 1 dL_law_2192 rfl ?_
  refine q_aload_n C 0 dL_law_2193 rfl ?_
  refine q_iload C 5 dL_law_2194 rfl ?_
  refine q_iconst C (1 : Int32) dL_law_2196 (by decide) ?_
  refine q_iadd C dL_law_2197 ?_
  refine q_scr C hX hbl hbA hj.1 dL_law_2198 ?_
  refine q_aload_n C 3 dL_law_2199 rfl ?_
  refine q_callL C (n := 3) [va_rf (some x0), .int (xs (v5 + (1 : Int32)).toNatClampNeg), va_rf (some out)] [] (m_L_account hw) cw_L_account ml_L_268 sm_L_account iw_L (by decide +kernel) ⟨(Nat.le_of_ble_eq_true rfl), (Nat.le_of_ble_eq_true rfl)⟩ ⟨by omega, by omega⟩ rfl rfl (by decide) dL_law_2200 (fun sz hbd => ?_)
  obtain ⟨bb, hs2, hmm, ⟨fm2, hm2⟩, hth, hcmp, hnx⟩ := hop sz hbd
  refine q_istoreP C [(6, .int k), (0, va_rf (some b)), (1, va_rf (some x0)), (2, va_rf (some m0)), (3, va_rf (some out)), (4, va_rf (some outD)), (5, .int v5)] dL_law_2203 (by decide) rfl ?_
  refine q_aload_n C 3 dL_law_2205 rfl ?_
  refine q_aload_n C 1 dL_law_2206 rfl ?_
  refine q_iload C 6 dL_law_2207 rfl ?_
  refine q_iconst C (1 : Int32) dL_law_2209 (by decide) ?_
  refine q_iadd C dL_law_2210 ?_
  refine q_scr C hX hbl hbA hj.1 dL_law_2211 ?_
  refine q_callE C (CN := RX9) (T := TX9) (N := 28) (ci := 12) (tv := tvI) [.int (xs (v5 + (1 : Int32)).toNatClampNeg)] [] hmm (m_X9_account hmm) lk_L_270 im_X9_account se_X9_X9_account rfl hm0 ⟨(Nat.le_of_ble_eq_true rfl), (Nat.le_of_ble_eq_true rfl)⟩ ⟨by omega, by omega⟩ rfl rfl (by simp only [List.map, cat_rf, cat_i, cat_a]; decide) dL_law_2212 ?_
  refine WG_st (st' := [.int bb]) rfl ?_
  refine q_istoreP C [(7, .int bb), (6, .int k), (0, va_rf (some b)), (1, va_rf (some x0)), (2, va_rf (some m0)), (3, va_rf (some out)), (4, va_rf (some outD)), (5, .int v5)] dL_law_2215 (by decide) rfl ?_
  refine q_aload_n C 4 dL_law_2217 rfl ?_
  refine q_callE C (CN := RX9) (T := TX9) (N := 28) (ci := 12) (tv := tvI) [] [] hth (m_X9_thrown hth) lk_L_154 im_X9_thrown se_X9_X9_thrown rfl hm2 ⟨(Nat.le_of_ble_eq_true rfl), (Nat.le_of_ble_eq_true rfl)⟩ ⟨by omega, by omega⟩ rfl rfl (by simp only [List.map, cat_rf, cat_i, cat_a]; decide) dL_law_2218 ?_
  refine WG_st (st' := [.int k]) rfl ?_
  refine q_iload C 1 dL_law_2221 rfl ?_
  refine q_icmpT C 2228 rfl dL_law_2223 (by decide) ?_
  refine q_iload C 1 dL_law_2228 rfl ?_
  by_cases hk0 : k = 0
  · refine q_ifF C hk0 dL_law_2230 2245 (by decide) ?_
    obtain ⟨f, hf, hfe⟩ := hcmp hk0
    refine q_aload_n C 5 dL_law_2233 rfl ?_
    refine q_iconst C (0 : Int32) dL_law_2234 (by decide) ?_
    refine q_lald C hf (by unfold vp_in; decide) dL_law_2235 ?_
    refine q_iload C 0 dL_law_2236 rfl ?_
    refine q_i2l C dL_law_2238 ?_
    refine q_lcmpE C hfe dL_law_2239 ?_
    refine q_ifeqT C 2245 rfl dL_law_2240 (by decide) ?_
    refine q_goto C 2696 dL_law_2245 (by decide) ?_
    refine WG.sub [2, 3, 4, 5, 6, 7] rfl ?_
    refine WG.widen (k := cells + 310) (n := slots + 5000) (by omega) (by omega) ?_
    exact hn _ hnx
  · refine q_ifneT C 2245 hk0 dL_law_2230 (by decide) ?_
    refine q_goto C 2696 dL_law_2245 (by decide) ?_
    refine WG.sub [2, 3, 4, 5, 6, 7] rfl ?_
    refine WG.widen (k := cells + 310) (n := slots + 5000) (by omega) (by omega) ?_
    exact hn _ hnx
set_option maxRecDepth 100000 in
set_option maxHeartbeats 4000000 in
theorem law_c36 {p : Program} {l : Launch} {e : Env} {s : State} {m : MethodId} {args : Array Value} {below : List Frame} {meth : Method} {c : Code} {cells slots : Nat} {Q : State → Prop} {G : GG} {hs : Hs} {b L x0 m0 out outD : Nat} {xs : Nat → Int32} {v5 : Int32} {next : Hs → Prop} (C : Cx G l p s m args c RL cL_law 9) (hX : va_X b L xs s s.heap) (hbl : b < s.heap.size) (hbA : ¬ gA G b) (hj : vp_in (v5 + 1) L ∧ vp_in (v5 + 2) L ∧ vp_in (v5 + 3) L ∧ vp_in (v5 + 4) L ∧ vp_in (v5 + 5) L) (hcb : cells + 310 ≤ room_1.cells ∧ slots + 5000 ≤ room_1.slots) (hop : opI (f_L_save (some x0)  (some out)) (f_X9_save m0 ) m0 out next hs) (hn : ∀ hs2, next hs2 → WG G p l e room_1 s m args below meth c 9 (cells + 310) (slots + 5000) Q hs2 [(0, va_rf (some b)), (1, va_rf (some x0)), (2, va_rf (some m0)), (3, va_rf (some out)), (4, va_rf (some outD)), (5, .int v5)] [] 2696) : WG G p l e room_1 s m args below meth c 9 cells slots Q hs [(0, va_rf (some b)), (1, va_rf (some x0)), (2, va_rf (some m0)), (3, va_rf (some out)), (4, va_rf (some outD)), (5, .int v5)] [] 2248 := by
  obtain ⟨k, hs1, hw, ⟨fm, hm0⟩, hop⟩ := hop
  refine q_aload_n C 1 dL_law_2248 rfl ?_
  refine q_aload_n C 3 dL_law_2249 rfl ?_
  refine q_callL C (n := 2) [va_rf (some x0), va_rf (some out)] [] (m_L_save hw) cw_L_save ml_L_271 sm_L_save iw_L (by decide +kernel) ⟨(Nat.le_of_ble_eq_true rfl), (Nat.le_of_ble_eq_true rfl)⟩ ⟨by omega, by omega⟩ rfl rfl (by decide) dL_law_2250 (fun sz hbd => ?_)
  obtain ⟨bb, hs2, hmm, ⟨fm2, hm2⟩, hth, hcmp, hnx⟩ := hop sz hbd
  refine q_istoreP C [(6, .int k), (0, va_rf (some b)), (1, va_rf (some x0)), (2, va_rf (some m0)), (3, va_rf (some out)), (4, va_rf (some outD)), (5, .int v5)] dL_law_2253 (by decide) rfl ?_
  refine q_aload_n C 3 dL_law_2255 rfl ?_
  refine q_callE C (CN := RX9) (T := TX9) (N := 28) (ci := 12) (tv := tvI) [] [] hmm (m_X9_save hmm) lk_L_273 im_X9_save se_X9_X9_save rfl hm0 ⟨(Nat.le_of_ble_eq_true rfl), (Nat.le_of_ble_eq_true rfl)⟩ ⟨by omega, by omega⟩ rfl rfl (by simp only [List.map, cat_rf, cat_i, cat_a]; decide) dL_law_2256 ?_
  refine WG_st (st' := [.int bb]) rfl ?_
  refine q_istoreP C [(7, .int bb), (6, .int k), (0, va_rf (some b)), (1, va_rf (some x0)), (2, va_rf (some m0)), (3, va_rf (some out)), (4, va_rf (some outD)), (5, .int v5)] dL_law_2259 (by decide) rfl ?_
  refine q_aload_n C 4 dL_law_2261 rfl ?_
  refine q_callE C (CN := RX9) (T := TX9) (N := 28) (ci := 12) (tv := tvI) [] [] hth (m_X9_thrown hth) lk_L_154 im_X9_thrown se_X9_X9_thrown rfl hm2 ⟨(Nat.le_of_ble_eq_true rfl), (Nat.le_of_ble_eq_true rfl)⟩ ⟨by omega, by omega⟩ rfl rfl (by simp only [List.map, cat_rf, cat_i, cat_a]; decide) dL_law_2262 ?_
  refine WG_st (st' := [.int k]) rfl ?_
  refine q_iload C 1 dL_law_2265 rfl ?_
  refine q_icmpT C 2272 rfl dL_law_2267 (by decide) ?_
  refine q_iload C 1 dL_law_2272 rfl ?_
  by_cases hk0 : k = 0
  · refine q_ifF C hk0 dL_law_2274 2289 (by decide) ?_
    obtain ⟨f, hf, hfe⟩ := hcmp hk0
    refine q_aload_n C 5 dL_law_2277 rfl ?_
    refine q_iconst C (0 : Int32) dL_law_2278 (by decide) ?_
    refine q_lald C hf (by unfold vp_in; decide) dL_law_2279 ?_
    refine q_iload C 0 dL_law_2280 rfl ?_
    refine q_i2l C dL_law_2282 ?_
    refine q_lcmpE C hfe dL_law_2283 ?_
    refine q_ifeqT C 2289 rfl dL_law_2284 (by decide) ?_
    refine q_goto C 2696 dL_law_2289 (by decide) ?_
    refine WG.sub [2, 3, 4, 5, 6, 7] rfl ?_
    refine WG.widen (k := cells + 310) (n := slots + 5000) (by omega) (by omega) ?_
    exact hn _ hnx
  · refine q_ifneT C 2289 hk0 dL_law_2274 (by decide) ?_
    refine q_goto C 2696 dL_law_2289 (by decide) ?_
    refine WG.sub [2, 3, 4, 5, 6, 7] rfl ?_
    refine WG.widen (k := cells + 310) (n := slots + 5000) (by omega) (by omega) ?_
    exact hn _ hnx
set_option maxRecDepth 100000 in
set_option maxHeartbeats 4000000 in
theorem law_c37 {p : Program} {l : Launch} {e : Env} {s : State} {m : MethodId} {args : Array Value} {below : List Frame} {meth : Method} {c : Code} {cells slots : Nat} {Q : State → Prop} {G : GG} {hs : Hs} {b L x0 m0 out outD : Nat} {xs : Nat → Int32} {v5 : Int32} {next : Hs → Prop} (C : Cx G l p s m args c RL cL_law 9) (hX : va_X b L xs s s.heap) (hbl : b < s.heap.size) (hbA : ¬ gA G b) (hj : vp_in (v5 + 1) L ∧ vp_in (v5 + 2) L ∧ vp_in (v5 + 3) L ∧ vp_in (v5 + 4) L ∧ vp_in (v5 + 5) L) (hcb : cells + 310 ≤ room_1.cells ∧ slots + 5000 ≤ room_1.slots) (hop : opI (f_L_placeIn (some x0) (xs (v5 + (1 : Int32)).toNatClampNeg) (xs (v5 + (2 : Int32)).toNatClampNeg) (some out)) (f_X9_placeIn m0 (xs (v5 + (1 : Int32)).toNatClampNeg) (xs (v5 + (2 : Int32)).toNatClampNeg)) m0 out next hs) (hn : ∀ hs2, next hs2 → WG G p l e room_1 s m args below meth c 9 (cells + 310) (slots + 5000) Q hs2 [(0, va_rf (some b)), (1, va_rf (some x0)), (2, va_rf (some m0)), (3, va_rf (some out)), (4, va_rf (some outD)), (5, .int v5)] [] 2696) : WG G p l e room_1 s m args below meth c 9 cells slots Q hs [(0, va_rf (some b)), (1, va_rf (some x0)), (2, va_rf (some m0)), (3, va_rf (some out)), (4, va_rf (some outD)), (5, .int v5)] [] 2292 := by
  obtain ⟨k, hs1, hw, ⟨fm, hm0⟩, hop⟩ := hop
  refine q_aload_n C 1 dL_law_2292 rfl ?_
  refine q_aload_n C 0 dL_law_2293 rfl ?_
  refine q_iload C 5 dL_law_2294 rfl ?_
  refine q_iconst C (1 : Int32) dL_law_2296 (by decide) ?_
  refine q_iadd C dL_law_2297 ?_
  refine q_scr C hX hbl hbA hj.1 dL_law_2298 ?_
  refine q_aload_n C 0 dL_law_2299 rfl ?_
  refine q_iload C 5 dL_law_2300 rfl ?_
  refine q_iconst C (2 : Int32) dL_law_2302 (by decide) ?_
  refine q_iadd C dL_law_2303 ?_
  refine q_scr C hX hbl hbA hj.2.1 dL_law_2304 ?_
  refine q_aload_n C 3 dL_law_2305 rfl ?_
  refine q_callL C (n := 4) [va_rf (some x0), .int (xs (v5 + (1 : Int32)).toNatClampNeg), .int (xs (v5 + (2 : Int32)).toNatClampNeg), va_rf (some out)] [] (m_L_placeIn hw) cw_L_placeIn ml_L_274 sm_L_placeIn iw_L (by decide +kernel) ⟨(Nat.le_of_ble_eq_true rfl), (Nat.le_of_ble_eq_true rfl)⟩ ⟨by omega, by omega⟩ rfl rfl (by decide) dL_law_2306 (fun sz hbd => ?_)
  obtain ⟨bb, hs2, hmm, ⟨fm2, hm2⟩, hth, hcmp, hnx⟩ := hop sz hbd
  refine q_istoreP C [(6, .int k), (0, va_rf (some b)), (1, va_rf (some x0)), (2, va_rf (some m0)), (3, va_rf (some out)), (4, va_rf (some outD)), (5, .int v5)] dL_law_2309 (by decide) rfl ?_
  refine q_aload_n C 3 dL_law_2311 rfl ?_
  refine q_aload_n C 1 dL_law_2312 rfl ?_
  refine q_iload C 6 dL_law_2313 rfl ?_
  refine q_iconst C (1 : Int32) dL_law_2315 (by decide) ?_
  refine q_iadd C dL_law_2316 ?_
  refine q_scr C hX hbl hbA hj.1 dL_law_2317 ?_
  refine q_aload_n C 1 dL_law_2318 rfl ?_
  refine q_iload C 6 dL_law_2319 rfl ?_
  refine q_iconst C (2 : Int32) dL_law_2321 (by decide) ?_
  refine q_iadd C dL_law_2322 ?_
  refine q_scr C hX hbl hbA hj.2.1 dL_law_2323 ?_
  refine q_callE C (CN := RX9) (T := TX9) (N := 28) (ci := 12) (tv := tvI) [.int (xs (v5 + (1 : Int32)).toNatClampNeg), .int (xs (v5 + (2 : Int32)).toNatClampNeg)] [] hmm (m_X9_placeIn hmm) lk_L_276 im_X9_placeIn se_X9_X9_placeIn rfl hm0 ⟨(Nat.le_of_ble_eq_true rfl), (Nat.le_of_ble_eq_true rfl)⟩ ⟨by omega, by omega⟩ rfl rfl (by simp only [List.map, cat_rf, cat_i, cat_a]; decide) dL_law_2324 ?_
  refine WG_st (st' := [.int bb]) rfl ?_
  refine q_istoreP C [(7, .int bb), (6, .int k), (0, va_rf (some b)), (1, va_rf (some x0)), (2, va_rf (some m0)), (3, va_rf (some out)), (4, va_rf (some outD)), (5, .int v5)] dL_law_2327 (by decide) rfl ?_
  refine q_aload_n C 4 dL_law_2329 rfl ?_
  refine q_callE C (CN := RX9) (T := TX9) (N := 28) (ci := 12) (tv := tvI) [] [] hth (m_X9_thrown hth) lk_L_154 im_X9_thrown se_X9_X9_thrown rfl hm2 ⟨(Nat.le_of_ble_eq_true rfl), (Nat.le_of_ble_eq_true rfl)⟩ ⟨by omega, by omega⟩ rfl rfl (by simp only [List.map, cat_rf, cat_i, cat_a]; decide) dL_law_2330 ?_
  refine WG_st (st' := [.int k]) rfl ?_
  refine q_iload C 1 dL_law_2333 rfl ?_
  refine q_icmpT C 2340 rfl dL_law_2335 (by decide) ?_
  refine q_iload C 1 dL_law_2340 rfl ?_
  by_cases hk0 : k = 0
  · refine q_ifF C hk0 dL_law_2342 2357 (by decide) ?_
    obtain ⟨f, hf, hfe⟩ := hcmp hk0
    refine q_aload_n C 5 dL_law_2345 rfl ?_
    refine q_iconst C (0 : Int32) dL_law_2346 (by decide) ?_
    refine q_lald C hf (by unfold vp_in; decide) dL_law_2347 ?_
    refine q_iload C 0 dL_law_2348 rfl ?_
    refine q_i2l C dL_law_2350 ?_
    refine q_lcmpE C hfe dL_law_2351 ?_
    refine q_ifeqT C 2357 rfl dL_law_2352 (by decide) ?_
    refine q_goto C 2696 dL_law_2357 (by decide) ?_
    refine WG.sub [2, 3, 4, 5, 6, 7] rfl ?_
    refine WG.widen (k := cells + 310) (n := slots + 5000) (by omega) (by omega) ?_
    exact hn _ hnx
  · refine q_ifneT C 2357 hk0 dL_law_2342 (by decide) ?_
    refine q_goto C 2696 dL_law_2357 (by decide) ?_
    refine WG.sub [2, 3, 4, 5, 6, 7] rfl ?_
    refine WG.widen (k := cells + 310) (n := slots + 5000) (by omega) (by omega) ?_
    exact hn _ hnx
set_option maxRecDepth 100000 in
set_option maxHeartbeats 4000000 in
theorem law_c38 {p : Program} {l : Launch} {e : Env} {s : State} {m : MethodId} {args : Array Value} {below : List Frame} {meth : Method} {c : Code} {cells slots : Nat} {Q : State → Prop} {G : GG} {hs : Hs} {b L x0 m0 out outD : Nat} {xs : Nat → Int32} {v5 : Int32} {next : Hs → Prop} (C : Cx G l p s m args c RL cL_law 9) (hX : va_X b L xs s s.heap) (hbl : b < s.heap.size) (hbA : ¬ gA G b) (hj : vp_in (v5 + 1) L ∧ vp_in (v5 + 2) L ∧ vp_in (v5 + 3) L ∧ vp_in (v5 + 4) L ∧ vp_in (v5 + 5) L) (hcb : cells + 310 ≤ room_1.cells ∧ slots + 5000 ≤ room_1.slots) (hop : opI (f_L_differences (some x0) (xs (v5 + (1 : Int32)).toNatClampNeg) (xs (v5 + (2 : Int32)).toNatClampNeg) (some out)) (f_X9_differences m0 (xs (v5 + (1 : Int32)).toNatClampNeg) (xs (v5 + (2 : Int32)).toNatClampNeg)) m0 out next hs) (hn : ∀ hs2, next hs2 → WG G p l e room_1 s m args below meth c 9 (cells + 310) (slots + 5000) Q hs2 [(0, va_rf (some b)), (1, va_rf (some x0)), (2, va_rf (some m0)), (3, va_rf (some out)), (4, va_rf (some outD)), (5, .int v5)] [] 2696) : WG G p l e room_1 s m args below meth c 9 cells slots Q hs [(0, va_rf (some b)), (1, va_rf (some x0)), (2, va_rf (some m0)), (3, va_rf (some out)), (4, va_rf (some outD)), (5, .int v5)] [] 2360 := by
  obtain ⟨k, hs1, hw, ⟨fm, hm0⟩, hop⟩ := hop
  refine q_aload_n C 1 dL_law_2360 rfl ?_
  refine q_aload_n C 0 dL_law_2361 rfl ?_
  refine q_iload C 5 dL_law_2362 rfl ?_
  refine q_iconst C (1 : Int32) dL_law_2364 (by decide) ?_
  refine q_iadd C dL_law_2365 ?_
  refine q_scr C hX hbl hbA hj.1 dL_law_2366 ?_
  refine q_aload_n C 0 dL_law_2367 rfl ?_
  refine q_iload C 5 dL_law_2368 rfl ?_
  refine q_iconst C (2 : Int32) dL_law_2370 (by decide) ?_
  refine q_iadd C dL_law_2371 ?_
  refine q_scr C hX hbl hbA hj.2.1 dL_law_2372 ?_
  refine q_aload_n C 3 dL_law_2373 rfl ?_
  refine q_callL C (n := 4) [va_rf (some x0), .int (xs (v5 + (1 : Int32)).toNatClampNeg), .int (xs (v5 + (2 : Int32)).toNatClampNeg), va_rf (some out)] [] (m_L_differences hw) cw_L_differences ml_L_277 sm_L_differences iw_L (by decide +kernel) ⟨(Nat.le_of_ble_eq_true rfl), (Nat.le_of_ble_eq_true rfl)⟩ ⟨by omega, by omega⟩ rfl rfl (by decide) dL_law_2374 (fun sz hbd => ?_)
  obtain ⟨bb, hs2, hmm, ⟨fm2, hm2⟩, hth, hcmp, hnx⟩ := hop sz hbd
  refine q_istoreP C [(6, .int k), (0, va_rf (some b)), (1, va_rf (some x0)), (2, va_rf (some m0)), (3, va_rf (some out)), (4, va_rf (some outD)), (5, .int v5)] dL_law_2377 (by decide) rfl ?_
  refine q_aload_n C 3 dL_law_2379 rfl ?_
  refine q_aload_n C 1 dL_law_2380 rfl ?_
  refine q_iload C 6 dL_law_2381 rfl ?_
  refine q_iconst C (1 : Int32) dL_law_2383 (by decide) ?_
  refine q_iadd C dL_law_2384 ?_
  refine q_scr C hX hbl hbA hj.1 dL_law_2385 ?_
  refine q_aload_n C 1 dL_law_2386 rfl ?_
  refine q_iload C 6 dL_law_2387 rfl ?_
  refine q_iconst C (2 : Int32) dL_law_2389 (by decide) ?_
  refine q_iadd C dL_law_2390 ?_
  refine q_scr C hX hbl hbA hj.2.1 dL_law_2391 ?_
  refine q_callE C (CN := RX9) (T := TX9) (N := 28) (ci := 12) (tv := tvI) [.int (xs (v5 + (1 : Int32)).toNatClampNeg), .int (xs (v5 + (2 : Int32)).toNatClampNeg)] [] hmm (m_X9_differences hmm) lk_L_279 im_X9_differences se_X9_X9_differences rfl hm0 ⟨(Nat.le_of_ble_eq_true rfl), (Nat.le_of_ble_eq_true rfl)⟩ ⟨by omega, by omega⟩ rfl rfl (by simp only [List.map, cat_rf, cat_i, cat_a]; decide) dL_law_2392 ?_
  refine WG_st (st' := [.int bb]) rfl ?_
  refine q_istoreP C [(7, .int bb), (6, .int k), (0, va_rf (some b)), (1, va_rf (some x0)), (2, va_rf (some m0)), (3, va_rf (some out)), (4, va_rf (some outD)), (5, .int v5)] dL_law_2395 (by decide) rfl ?_
  refine q_aload_n C 4 dL_law_2397 rfl ?_
  refine q_callE C (CN := RX9) (T := TX9) (N := 28) (ci := 12) (tv := tvI) [] [] hth (m_X9_thrown hth) lk_L_154 im_X9_thrown se_X9_X9_thrown rfl hm2 ⟨(Nat.le_of_ble_eq_true rfl), (Nat.le_of_ble_eq_true rfl)⟩ ⟨by omega, by omega⟩ rfl rfl (by simp only [List.map, cat_rf, cat_i, cat_a]; decide) dL_law_2398 ?_
  refine WG_st (st' := [.int k]) rfl ?_
  refine q_iload C 1 dL_law_2401 rfl ?_
  refine q_icmpT C 2408 rfl dL_law_2403 (by decide) ?_
  refine q_iload C 1 dL_law_2408 rfl ?_
  by_cases hk0 : k = 0
  · refine q_ifF C hk0 dL_law_2410 2425 (by decide) ?_
    obtain ⟨f, hf, hfe⟩ := hcmp hk0
    refine q_aload_n C 5 dL_law_2413 rfl ?_
    refine q_iconst C (0 : Int32) dL_law_2414 (by decide) ?_
    refine q_lald C hf (by unfold vp_in; decide) dL_law_2415 ?_
    refine q_iload C 0 dL_law_2416 rfl ?_
    refine q_i2l C dL_law_2418 ?_
    refine q_lcmpE C hfe dL_law_2419 ?_
    refine q_ifeqT C 2425 rfl dL_law_2420 (by decide) ?_
    refine q_goto C 2696 dL_law_2425 (by decide) ?_
    refine WG.sub [2, 3, 4, 5, 6, 7] rfl ?_
    refine WG.widen (k := cells + 310) (n := slots + 5000) (by omega) (by omega) ?_
    exact hn _ hnx
  · refine q_ifneT C 2425 hk0 dL_law_2410 (by decide) ?_
    refine q_goto C 2696 dL_law_2425 (by decide) ?_
    refine WG.sub [2, 3, 4, 5, 6, 7] rfl ?_
    refine WG.widen (k := cells + 310) (n := slots + 5000) (by omega) (by omega) ?_
    exact hn _ hnx
set_option maxRecDepth 100000 in
set_option maxHeartbeats 4000000 in
theorem law_c39 {p : Program} {l : Launch} {e : Env} {s : State} {m : MethodId} {args : Array Value} {below : List Frame} {meth : Method} {c : Code} {cells slots : Nat} {Q : State → Prop} {G : GG} {hs : Hs} {b L x0 m0 out outD : Nat} {xs : Nat → Int32} {v5 : Int32} {next : Hs → Prop} (C : Cx G l p s m args c RL cL_law 9) (hX : va_X b L xs s s.heap) (hbl : b < s.heap.size) (hbA : ¬ gA G b) (hj : vp_in (v5 + 1) L ∧ vp_in (v5 + 2) L ∧ vp_in (v5 + 3) L ∧ vp_in (v5 + 4) L ∧ vp_in (v5 + 5) L) (hcb : cells + 310 ≤ room_1.cells ∧ slots + 5000 ≤ room_1.slots) (hop : opI (f_L_restore (some x0) (xs (v5 + (1 : Int32)).toNatClampNeg) (some out)) (f_X9_restore m0 (xs (v5 + (1 : Int32)).toNatClampNeg)) m0 out next hs) (hn : ∀ hs2, next hs2 → WG G p l e room_1 s m args below meth c 9 (cells + 310) (slots + 5000) Q hs2 [(0, va_rf (some b)), (1, va_rf (some x0)), (2, va_rf (some m0)), (3, va_rf (some out)), (4, va_rf (some outD)), (5, .int v5)] [] 2696) : WG G p l e room_1 s m args below meth c 9 cells slots Q hs [(0, va_rf (some b)), (1, va_rf (some x0)), (2, va_rf (some m0)), (3, va_rf (some out)), (4, va_rf (some outD)), (5, .int v5)] [] 2428 := by
  obtain ⟨k, hs1, hw, ⟨fm, hm0⟩, hop⟩ := hop
  refine q_aload_n C 1 dL_law_2428 rfl ?_
  refine q_aload_n C 0 dL_law_2429 rfl ?_
  refine q_iload C 5 dL_law_2430 rfl ?_
  refine q_iconst C (1 : Int32) dL_law_2432 (by decide) ?_
  refine q_iadd C dL_law_2433 ?_
  refine q_scr C hX hbl hbA hj.1 dL_law_2434 ?_
  refine q_aload_n C 3 dL_law_2435 rfl ?_
  refine q_callL C (n := 3) [va_rf (some x0), .int (xs (v5 + (1 : Int32)).toNatClampNeg), va_rf (some out)] [] (m_L_restore hw) cw_L_restore ml_L_280 sm_L_restore iw_L (by decide +kernel) ⟨(Nat.le_of_ble_eq_true rfl), (Nat.le_of_ble_eq_true rfl)⟩ ⟨by omega, by omega⟩ rfl rfl (by decide) dL_law_2436 (fun sz hbd => ?_)
  obtain ⟨bb, hs2, hmm, ⟨fm2, hm2⟩, hth, hcmp, hnx⟩ := hop sz hbd
  refine q_istoreP C [(6, .int k), (0, va_rf (some b)), (1, va_rf (some x0)), (2, va_rf (some m0)), (3, va_rf (some out)), (4, va_rf (some outD)), (5, .int v5)] dL_law_2439 (by decide) rfl ?_
  refine q_aload_n C 3 dL_law_2441 rfl ?_
  refine q_aload_n C 1 dL_law_2442 rfl ?_
  refine q_iload C 6 dL_law_2443 rfl ?_
  refine q_iconst C (1 : Int32) dL_law_2445 (by decide) ?_
  refine q_iadd C dL_law_2446 ?_
  refine q_scr C hX hbl hbA hj.1 dL_law_2447 ?_
  refine q_callE C (CN := RX9) (T := TX9) (N := 28) (ci := 12) (tv := tvI) [.int (xs (v5 + (1 : Int32)).toNatClampNeg)] [] hmm (m_X9_restore hmm) lk_L_282 im_X9_restore se_X9_X9_restore rfl hm0 ⟨(Nat.le_of_ble_eq_true rfl), (Nat.le_of_ble_eq_true rfl)⟩ ⟨by omega, by omega⟩ rfl rfl (by simp only [List.map, cat_rf, cat_i, cat_a]; decide) dL_law_2448 ?_
  refine WG_st (st' := [.int bb]) rfl ?_
  refine q_istoreP C [(7, .int bb), (6, .int k), (0, va_rf (some b)), (1, va_rf (some x0)), (2, va_rf (some m0)), (3, va_rf (some out)), (4, va_rf (some outD)), (5, .int v5)] dL_law_2451 (by decide) rfl ?_
  refine q_aload_n C 4 dL_law_2453 rfl ?_
  refine q_callE C (CN := RX9) (T := TX9) (N := 28) (ci := 12) (tv := tvI) [] [] hth (m_X9_thrown hth) lk_L_154 im_X9_thrown se_X9_X9_thrown rfl hm2 ⟨(Nat.le_of_ble_eq_true rfl), (Nat.le_of_ble_eq_true rfl)⟩ ⟨by omega, by omega⟩ rfl rfl (by simp only [List.map, cat_rf, cat_i, cat_a]; decide) dL_law_2454 ?_
  refine WG_st (st' := [.int k]) rfl ?_
  refine q_iload C 1 dL_law_2457 rfl ?_
  refine q_icmpT C 2464 rfl dL_law_2459 (by decide) ?_
  refine q_iload C 1 dL_law_2464 rfl ?_
  by_cases hk0 : k = 0
  · refine q_ifF C hk0 dL_law_2466 2481 (by decide) ?_
    obtain ⟨f, hf, hfe⟩ := hcmp hk0
    refine q_aload_n C 5 dL_law_2469 rfl ?_
    refine q_iconst C (0 : Int32) dL_law_2470 (by decide) ?_
    refine q_lald C hf (by unfold vp_in; decide) dL_law_2471 ?_
    refine q_iload C 0 dL_law_2472 rfl ?_
    refine q_i2l C dL_law_2474 ?_
    refine q_lcmpE C hfe dL_law_2475 ?_
    refine q_ifeqT C 2481 rfl dL_law_2476 (by decide) ?_
    refine q_goto C 2696 dL_law_2481 (by decide) ?_
    refine WG.sub [2, 3, 4, 5, 6, 7] rfl ?_
    refine WG.widen (k := cells + 310) (n := slots + 5000) (by omega) (by omega) ?_
    exact hn _ hnx
  · refine q_ifneT C 2481 hk0 dL_law_2466 (by decide) ?_
    refine q_goto C 2696 dL_law_2481 (by decide) ?_
    refine WG.sub [2, 3, 4, 5, 6, 7] rfl ?_
    refine WG.widen (k := cells + 310) (n := slots + 5000) (by omega) (by omega) ?_
    exact hn _ hnx
set_option maxRecDepth 100000 in
set_option maxHeartbeats 4000000 in
theorem law_c40 {p : Program} {l : Launch} {e : Env} {s : State} {m : MethodId} {args : Array Value} {below : List Frame} {meth : Method} {c : Code} {cells slots : Nat} {Q : State → Prop} {G : GG} {hs : Hs} {b L x0 m0 out outD : Nat} {xs : Nat → Int32} {v5 : Int32} {next : Hs → Prop} (C : Cx G l p s m args c RL cL_law 9) (hX : va_X b L xs s s.heap) (hbl : b < s.heap.size) (hbA : ¬ gA G b) (hj : vp_in (v5 + 1) L ∧ vp_in (v5 + 2) L ∧ vp_in (v5 + 3) L ∧ vp_in (v5 + 4) L ∧ vp_in (v5 + 5) L) (hcb : cells + 310 ≤ room_1.cells ∧ slots + 5000 ≤ room_1.slots) (hop : opI (f_L_merge (some x0) (xs (v5 + (1 : Int32)).toNatClampNeg) (xs (v5 + (2 : Int32)).toNatClampNeg) (some out)) (f_X9_merge m0 (xs (v5 + (1 : Int32)).toNatClampNeg) (xs (v5 + (2 : Int32)).toNatClampNeg)) m0 out next hs) (hn : ∀ hs2, next hs2 → WG G p l e room_1 s m args below meth c 9 (cells + 310) (slots + 5000) Q hs2 [(0, va_rf (some b)), (1, va_rf (some x0)), (2, va_rf (some m0)), (3, va_rf (some out)), (4, va_rf (some outD)), (5, .int v5)] [] 2696) : WG G p l e room_1 s m args below meth c 9 cells slots Q hs [(0, va_rf (some b)), (1, va_rf (some x0)), (2, va_rf (some m0)), (3, va_rf (some out)), (4, va_rf (some outD)), (5, .int v5)] [] 2484 := by
  obtain ⟨k, hs1, hw, ⟨fm, hm0⟩, hop⟩ := hop
  refine q_aload_n C 1 dL_law_2484 rfl ?_
  refine q_aload_n C 0 dL_law_2485 rfl ?_
  refine q_iload C 5 dL_law_2486 rfl ?_
  refine q_iconst C (1 : Int32) dL_law_2488 (by decide) ?_
  refine q_iadd C dL_law_2489 ?_
  refine q_scr C hX hbl hbA hj.1 dL_law_2490 ?_
  refine q_aload_n C 0 dL_law_2491 rfl ?_
  refine q_iload C 5 dL_law_2492 rfl ?_
  refine q_iconst C (2 : Int32) dL_law_2494 (by decide) ?_
  refine q_iadd C dL_law_2495 ?_
  refine q_scr C hX hbl hbA hj.2.1 dL_law_2496 ?_
  refine q_aload_n C 3 dL_law_2497 rfl ?_
  refine q_callL C (n := 4) [va_rf (some x0), .int (xs (v5 + (1 : Int32)).toNatClampNeg), .int (xs (v5 + (2 : Int32)).toNatClampNeg), va_rf (some out)] [] (m_L_merge hw) cw_L_merge ml_L_283 sm_L_merge iw_L (by decide +kernel) ⟨(Nat.le_of_ble_eq_true rfl), (Nat.le_of_ble_eq_true rfl)⟩ ⟨by omega, by omega⟩ rfl rfl (by decide) dL_law_2498 (fun sz hbd => ?_)
  obtain ⟨bb, hs2, hmm, ⟨fm2, hm2⟩, hth, hcmp, hnx⟩ := hop sz hbd
  refine q_istoreP C [(6, .int k), (0, va_rf (some b)), (1, va_rf (some x0)), (2, va_rf (some m0)), (3, va_rf (some out)), (4, va_rf (some outD)), (5, .int v5)] dL_law_2501 (by decide) rfl ?_
  refine q_aload_n C 3 dL_law_2503 rfl ?_
  refine q_aload_n C 1 dL_law_2504 rfl ?_
  refine q_iload C 6 dL_law_2505 rfl ?_
  refine q_iconst C (1 : Int32) dL_law_2507 (by decide) ?_
  refine q_iadd C dL_law_2508 ?_
  refine q_scr C hX hbl hbA hj.1 dL_law_2509 ?_
  refine q_aload_n C 1 dL_law_2510 rfl ?_
  refine q_iload C 6 dL_law_2511 rfl ?_
  refine q_iconst C (2 : Int32) dL_law_2513 (by decide) ?_
  refine q_iadd C dL_law_2514 ?_
  refine q_scr C hX hbl hbA hj.2.1 dL_law_2515 ?_
  refine q_callE C (CN := RX9) (T := TX9) (N := 28) (ci := 12) (tv := tvI) [.int (xs (v5 + (1 : Int32)).toNatClampNeg), .int (xs (v5 + (2 : Int32)).toNatClampNeg)] [] hmm (m_X9_merge hmm) lk_L_285 im_X9_merge se_X9_X9_merge rfl hm0 ⟨(Nat.le_of_ble_eq_true rfl), (Nat.le_of_ble_eq_true rfl)⟩ ⟨by omega, by omega⟩ rfl rfl (by simp only [List.map, cat_rf, cat_i, cat_a]; decide) dL_law_2516 ?_
  refine WG_st (st' := [.int bb]) rfl ?_
  refine q_istoreP C [(7, .int bb), (6, .int k), (0, va_rf (some b)), (1, va_rf (some x0)), (2, va_rf (some m0)), (3, va_rf (some out)), (4, va_rf (some outD)), (5, .int v5)] dL_law_2519 (by decide) rfl ?_
  refine q_aload_n C 4 dL_law_2521 rfl ?_
  refine q_callE C (CN := RX9) (T := TX9) (N := 28) (ci := 12) (tv := tvI) [] [] hth (m_X9_thrown hth) lk_L_154 im_X9_thrown se_X9_X9_thrown rfl hm2 ⟨(Nat.le_of_ble_eq_true rfl), (Nat.le_of_ble_eq_true rfl)⟩ ⟨by omega, by omega⟩ rfl rfl (by simp only [List.map, cat_rf, cat_i, cat_a]; decide) dL_law_2522 ?_
  refine WG_st (st' := [.int k]) rfl ?_
  refine q_iload C 1 dL_law_2525 rfl ?_
  refine q_icmpT C 2532 rfl dL_law_2527 (by decide) ?_
  refine q_iload C 1 dL_law_2532 rfl ?_
  by_cases hk0 : k = 0
  · refine q_ifF C hk0 dL_law_2534 2549 (by decide) ?_
    obtain ⟨f, hf, hfe⟩ := hcmp hk0
    refine q_aload_n C 5 dL_law_2537 rfl ?_
    refine q_iconst C (0 : Int32) dL_law_2538 (by decide) ?_
    refine q_lald C hf (by unfold vp_in; decide) dL_law_2539 ?_
    refine q_iload C 0 dL_law_2540 rfl ?_
    refine q_i2l C dL_law_2542 ?_
    refine q_lcmpE C hfe dL_law_2543 ?_
    refine q_ifeqT C 2549 rfl dL_law_2544 (by decide) ?_
    refine q_goto C 2696 dL_law_2549 (by decide) ?_
    refine WG.sub [2, 3, 4, 5, 6, 7] rfl ?_
    refine WG.widen (k := cells + 310) (n := slots + 5000) (by omega) (by omega) ?_
    exact hn _ hnx
  · refine q_ifneT C 2549 hk0 dL_law_2534 (by decide) ?_
    refine q_goto C 2696 dL_law_2549 (by decide) ?_
    refine WG.sub [2, 3, 4, 5, 6, 7] rfl ?_
    refine WG.widen (k := cells + 310) (n := slots + 5000) (by omega) (by omega) ?_
    exact hn _ hnx
set_option maxRecDepth 100000 in
set_option maxHeartbeats 4000000 in
theorem law_c43 {p : Program} {l : Launch} {e : Env} {s : State} {m : MethodId} {args : Array Value} {below : List Frame} {meth : Method} {c : Code} {cells slots : Nat} {Q : State → Prop} {G : GG} {hs : Hs} {b L x0 m0 out outD : Nat} {xs : Nat → Int32} {v5 : Int32} {next : Hs → Prop} (C : Cx G l p s m args c RL cL_law 9) (hX : va_X b L xs s s.heap) (hbl : b < s.heap.size) (hbA : ¬ gA G b) (hj : vp_in (v5 + 1) L ∧ vp_in (v5 + 2) L ∧ vp_in (v5 + 3) L ∧ vp_in (v5 + 4) L ∧ vp_in (v5 + 5) L) (hcb : cells + 310 ≤ room_1.cells ∧ slots + 5000 ≤ room_1.slots) (hop : opD (f_X8_isSound x0) (f_X9_isSound m0) x0 m0 next hs) (hn : ∀ hs2, next hs2 → WG G p l e room_1 s m args below meth c 9 (cells + 310) (slots + 5000) Q hs2 [(0, va_rf (some b)), (1, va_rf (some x0)), (2, va_rf (some m0)), (3, va_rf (some out)), (4, va_rf (some outD)), (5, .int v5)] [] 2696) : WG G p l e room_1 s m args below meth c 9 cells slots Q hs [(0, va_rf (some b)), (1, va_rf (some x0)), (2, va_rf (some m0)), (3, va_rf (some out)), (4, va_rf (some outD)), (5, .int v5)] [] 2683 := by
  obtain ⟨⟨fx, hx0⟩, r, hs1, hs2, hw, ⟨fm, hm0⟩, hmm, hnx⟩ := hop
  refine q_aload_n C 1 dL_law_2683 rfl ?_
  refine q_callE C (CN := RX8) (T := TX8) (N := 10) (ci := 11) (tv := tvI) [] [] hw (m_X8_isSound hw) lk_L_293 im_X8_isSound se_X8_X8_isSound rfl hx0 ⟨(Nat.le_of_ble_eq_true rfl), (Nat.le_of_ble_eq_true rfl)⟩ ⟨by omega, by omega⟩ rfl rfl (by simp only [List.map, cat_rf, cat_i, cat_a]; decide) dL_law_2684 ?_
  refine WG_st (st' := [.int r]) rfl ?_
  refine q_aload_n C 2 dL_law_2687 rfl ?_
  refine q_callE C (CN := RX9) (T := TX9) (N := 28) (ci := 12) (tv := tvI) [] [.int r] hmm (m_X9_isSound hmm) lk_L_297 im_X9_isSound se_X9_X9_isSound rfl hm0 ⟨(Nat.le_of_ble_eq_true rfl), (Nat.le_of_ble_eq_true rfl)⟩ ⟨by omega, by omega⟩ rfl rfl (by simp only [List.map, cat_rf, cat_i, cat_a]; decide) dL_law_2688 ?_
  refine WG_st (st' := [.int r, .int r]) rfl ?_
  refine q_icmpT C 2696 rfl dL_law_2691 (by decide) ?_
  refine WG.widen (k := cells + 310) (n := slots + 5000) (by omega) (by omega) ?_
  exact hn _ hnx
def LawStep (x0 m0 out outD : Nat) (v a1 a2 a3 a4 a5 : Int32) (next : Hs → Prop) (hs : Hs) : Prop :=
  if v = (0 : Int32) then opI (f_L_addRoom (some x0) a1 a2 a3 (some out)) (f_X9_addRoom m0 a1 a2 a3) m0 out next hs else
  if v = (1 : Int32) then opI (f_L_addTeacher (some x0) a1 (some out)) (f_X9_addTeacher m0 a1) m0 out next hs else
  if v = (2 : Int32) then opI (f_L_addGroup (some x0) a1 (some out)) (f_X9_addGroup m0 a1) m0 out next hs else
  if v = (3 : Int32) then opI (f_L_addLesson (some x0) a1 a2 a3 a4 a5 (some out)) (f_X9_addLesson m0 a1 a2 a3 a4 a5) m0 out next hs else
  if v = (4 : Int32) then opI (f_L_setWish (some x0) a1 a2 a3 (some out)) (f_X9_setWish m0 a1 a2 a3) m0 out next hs else
  if v = (5 : Int32) then opI (f_L_setWeight (some x0) a1 a2 (some out)) (f_X9_setWeight m0 a1 a2) m0 out next hs else
  if v = (6 : Int32) then opI (f_L_reason (some x0) a1 a2 a3 (some out)) (f_X9_reason m0 a1 a2 a3) m0 out next hs else
  if v = (7 : Int32) then opI (f_L_reasons (some x0) a1 a2 (some out)) (f_X9_reasons m0 a1 a2) m0 out next hs else
  if v = (8 : Int32) then opI (f_L_place (some x0) a1 a2 a3 (some out)) (f_X9_place m0 a1 a2 a3) m0 out next hs else
  if v = (9 : Int32) then opI (f_L_remove (some x0) a1 (some out)) (f_X9_remove m0 a1) m0 out next hs else
  if v = (10 : Int32) then opI (f_L_lock (some x0) a1 (some out)) (f_X9_lock m0 a1) m0 out next hs else
  if v = (11 : Int32) then opI (f_L_unlock (some x0) a1 (some out)) (f_X9_unlock m0 a1) m0 out next hs else
  if v = (12 : Int32) then opZ (f_L_isLocked (some x0) a1 (some out)) (f_X9_isLocked m0 a1) m0 out next hs else
  if v = (13 : Int32) then opI (f_L_placeOf (some x0) a1 (some out)) (f_X9_placeOf m0 a1) m0 out next hs else
  if v = (14 : Int32) then opI (f_L_groupAt (some x0) a1 a2 (some out)) (f_X9_groupAt m0 a1 a2) m0 out next hs else
  if v = (15 : Int32) then opI (f_L_teacherAt (some x0) a1 a2 (some out)) (f_X9_teacherAt m0 a1 a2) m0 out next hs else
  if v = (16 : Int32) then opI (f_L_possible (some x0) a1 (some out)) (f_X9_possible m0 a1) m0 out next hs else
  if v = (17 : Int32) then opI (f_L_possibleAt (some x0) a1 a2 (some out)) (f_X9_possibleAt m0 a1 a2) m0 out next hs else
  if v = (18 : Int32) then opI (f_L_cheapest (some x0) a1 (some out)) (f_X9_cheapest m0 a1) m0 out next hs else
  if v = (19 : Int32) then opI (f_L_costWith (some x0) a1 a2 a3 (some out)) (f_X9_costWith m0 a1 a2 a3) m0 out next hs else
  if v = (20 : Int32) then opI (f_L_hardest (some x0)  (some out)) (f_X9_hardest m0 ) m0 out next hs else
  if v = (21 : Int32) then opD (f_X8_fill x0) (f_X9_fill m0) x0 m0 next hs else
  if v = (22 : Int32) then opI (f_L_improve (some x0) a1 (some out)) (f_X9_improve m0 a1) m0 out next hs else
  if v = (23 : Int32) then opD (f_X8_cost x0) (f_X9_cost m0) x0 m0 next hs else
  if v = (24 : Int32) then opD (f_X8_costAnew x0) (f_X9_costAnew m0) x0 m0 next hs else
  if v = (25 : Int32) then opI (f_L_amount (some x0) a1 (some out)) (f_X9_amount m0 a1) m0 out next hs else
  if v = (26 : Int32) then opD (f_X8_breaks x0) (f_X9_breaks m0) x0 m0 next hs else
  if v = (27 : Int32) then opI (f_L_lacking (some x0) a1 (some out)) (f_X9_lacking m0 a1) m0 out next hs else
  if v = (28 : Int32) then opI (f_L_lackingBySeats (some x0) a1 (some out)) (f_X9_lackingBySeats m0 a1) m0 out next hs else
  if v = (29 : Int32) then opI (f_L_ill (some x0) a1 a2 (some out)) (f_X9_ill m0 a1 a2) m0 out next hs else
  if v = (30 : Int32) then opI (f_L_close (some x0) a1 (some out)) (f_X9_close m0 a1) m0 out next hs else
  if v = (31 : Int32) then opI (f_L_open (some x0) a1 (some out)) (f_X9_open m0 a1) m0 out next hs else
  if v = (32 : Int32) then opI (f_L_passDay (some x0)  (some out)) (f_X9_passDay m0 ) m0 out next hs else
  if v = (33 : Int32) then opI (f_L_nextWeek (some x0)  (some out)) (f_X9_nextWeek m0 ) m0 out next hs else
  if v = (34 : Int32) then opD (f_X8_today x0) (f_X9_today m0) x0 m0 next hs else
  if v = (35 : Int32) then opI (f_L_account (some x0) a1 (some out)) (f_X9_account m0 a1) m0 out next hs else
  if v = (36 : Int32) then opI (f_L_save (some x0)  (some out)) (f_X9_save m0 ) m0 out next hs else
  if v = (37 : Int32) then opI (f_L_placeIn (some x0) a1 a2 (some out)) (f_X9_placeIn m0 a1 a2) m0 out next hs else
  if v = (38 : Int32) then opI (f_L_differences (some x0) a1 a2 (some out)) (f_X9_differences m0 a1 a2) m0 out next hs else
  if v = (39 : Int32) then opI (f_L_restore (some x0) a1 (some out)) (f_X9_restore m0 a1) m0 out next hs else
  if v = (40 : Int32) then opI (f_L_merge (some x0) a1 a2 (some out)) (f_X9_merge m0 a1 a2) m0 out next hs else
  if v = (41 : Int32) then opF (f_L_placedShare (some x0)  (some outD)) (f_X9_placedShare m0 ) m0 outD next hs else
  if v = (42 : Int32) then opW (f_L_meanPossible (some x0)  (some outD)) (f_X9_meanPossible m0 ) m0 outD next hs else
  if v = (43 : Int32) then opD (f_X8_isSound x0) (f_X9_isSound m0) x0 m0 next hs else
  next hs
