theorem ml_L_7 : Cond.methodLink RL 7 yX8_addRoom ∈ Tg := Tg_of (i := 580) (by decide +kernel) (by decide +kernel)
theorem lk_L_7 : Lk RL 7 yX8_addRoom cX8_addRoom 5 (some .int) 3 := ⟨ml_L_7, cd_X8_addRoom, iw_X8, by decide +kernel⟩
theorem im_X8_addRoom : Cond.instanceMethod yX8_addRoom ∈ Tg := Tg_of (i := 581) (by decide +kernel) (by decide +kernel)
theorem se_X8_X8_addRoom : Cond.selects RX8 yX8_addRoom yX8_addRoom ∈ Tg := Tg_of (i := 582) (by decide +kernel) (by decide +kernel)
theorem wc_L_x13 : Cond.classLink RL 13 "java/lang/IllegalArgumentException" ∈ Tg := Tg_of (i := 578) (by decide +kernel) (by decide +kernel)
theorem wc_L_x15 : Cond.classLink RL 15 "java/lang/IllegalStateException" ∈ Tg := Tg_of (i := 579) (by decide +kernel) (by decide +kernel)
def f_L_addRoom (x : Option Nat) (p1 : Int32) (p2 : Int32) (p3 : Int32) (out : Option Nat) : OO Int32 := rcv x 11 fun a => call (f_X8_addRoom a p1 p2 p3) (fun (r : Int32) => stL out (0 : Int32) r.toInt64 (rtn (0 : Int32))) (fun k => (if k = 1 then rtn (1 : Int32) else (if k = 2 then rtn (2 : Int32) else failO)))
set_option maxRecDepth 100000 in
set_option maxHeartbeats 4000000 in
theorem m_L_addRoom {G : GG} {l : Launch} {x : Option Nat} {p1 : Int32} {p2 : Int32} {p3 : Int32} {out : Option Nat} {hs hs' : Hs} {kk : Int32} (h : f_L_addRoom x p1 p2 p3 out hs = some (.ok kk, hs')) : CTW G l yL_addRoom cL_addRoom 6 [(0, 12, 15, 13), (0, 12, 19, 15)] 8 224 2 35 [va_rf x, .int p1, .int p2, .int p3, va_rf out] hs kk hs' := by
  refine vx_ofWH (cc := cL_addRoom) (maxL := 6) (ret := (some .int)) (hh := [(0, 12, 15, 13), (0, 12, 19, 15)]) (by decide +kernel) rfl ?_
  intro p e s m args below meth c s₁ B hml hv
  obtain ⟨hav, hR, hKn⟩ := hv
  subst hav
  have hts := atoms_spec (ws := .codeWith yL_addRoom cL_addRoom 6 (some .int) [(0, 12, 15, 13), (0, 12, 19, 15)] :: Tg) B.pre
  have hT := vx_table (x := yL_addRoom) B (hts _ List.mem_cons_self)
  have C : Cx G l p s m _ c RL cL_addRoom 6 := ⟨B.exec, B.bytes, hml, findClass_of_methodNamed B.named, fun w hw => hts w (List.mem_cons_of_mem _ hw), hKn, fun q hq => Nat.le_trans hR.2.2.1 hq⟩
  have key : WG G p l e { frames := 8, cells := 2, slots := 35, locals := 224 } s m ([va_rf x, .int p1, .int p2, .int p3, va_rf out] : List Value).toArray below meth c 6 0 0 (vx_MQ below (QcW G kk hs') XCW ([va_rf x, .int p1, .int p2, .int p3, va_rf out] : List Value).toArray s 2 35 (gA G)) hs [(0, va_rf x), (1, .int p1), (2, .int p2), (3, .int p3), (4, va_rf out)] [] 0 := by
    unfold f_L_addRoom at h
    have hr := B.returns
    have hlk := B.notSynchronized
    refine q_aload C 4 dL_addRoom_0 rfl ?_
    refine q_iconst C (0 : Int32) dL_addRoom_2 (by decide) ?_
    refine q_aload_n C 0 dL_addRoom_3 rfl ?_
    refine q_iload_n C 1 dL_addRoom_4 rfl ?_
    refine q_iload_n C 2 dL_addRoom_5 rfl ?_
    refine q_iload_n C 3 dL_addRoom_6 rfl ?_
    refine q_callW C (CN := RX8) (T := TX8) (N := 10) (tv := tvI) [.int p1, .int p2, .int p3] [.int (0 : Int32), va_rf out] (fun a0 o2 hs1 hm => m_X8_addRoom hm) lk_L_7 im_X8_addRoom se_X8_X8_addRoom rfl ⟨(Nat.le_of_ble_eq_true rfl), (Nat.le_of_ble_eq_true rfl)⟩ ⟨(Nat.le_of_ble_eq_true rfl), (Nat.le_of_ble_eq_true rfl)⟩ rfl rfl (by simp only [List.map, cat_rf, cat_i, cat_a]; decide) dL_addRoom_7 h ?_ ?_
    · intro k sz hs1 hk H locs ls ce q hR hS e1 e2 e3 c1
      by_cases hk0 : k = 1
      · subst hk0
        rw [if_pos rfl] at hk
        cases hk
        exact vx_catch (own := RL) (name := "java/lang/IllegalArgumentException") (E := exN 1) C.2.2.2.1 [] ⟨0, 12, 15, 13⟩ [⟨0, 12, 19, 15⟩] (by rw [hT]; rfl) (fun z hz => nomatch hz) (by decide) (by decide) (C.2.2.2.2.1 _ wc_L_x13) (va_Nw.use rfl (C.kn.2.2.2.1 ("java/lang/IllegalArgumentException", "java/lang/IllegalArgumentException") (by decide +kernel))) e1 e2 e3 (q_hand C hr hlk (Nat.le_of_ble_eq_true rfl) (Nat.le_of_ble_eq_true rfl) (Or.inr ⟨rfl, dL_addRoom_15⟩) (by decide) dL_addRoom_17 (by decide) dL_addRoom_18 hR hS c1)
      · rw [if_neg hk0] at hk
        by_cases hk1 : k = 2
        · subst hk1
          rw [if_pos rfl] at hk
          cases hk
          exact vx_catch (own := RL) (name := "java/lang/IllegalStateException") (E := exN 2) C.2.2.2.1 [⟨0, 12, 15, 13⟩] ⟨0, 12, 19, 15⟩ [] (by rw [hT]; rfl) (fun z hz => by
        simp only [List.mem_cons, List.not_mem_nil, or_false] at hz
        rcases hz with rfl
        · exact Or.inr ⟨by decide, "java/lang/IllegalArgumentException", C.2.2.2.2.1 _ wc_L_x13, kn_nc C.kn ("java/lang/IllegalStateException", "java/lang/IllegalArgumentException") (by decide +kernel)⟩) (by decide) (by decide) (C.2.2.2.2.1 _ wc_L_x15) (va_Nw.use rfl (C.kn.2.2.2.1 ("java/lang/IllegalStateException", "java/lang/IllegalStateException") (by decide +kernel))) e1 e2 e3 (q_hand C hr hlk (Nat.le_of_ble_eq_true rfl) (Nat.le_of_ble_eq_true rfl) (Or.inr ⟨rfl, dL_addRoom_19⟩) (by decide) dL_addRoom_21 (by decide) dL_addRoom_22 hR hS c1)
        · rw [if_neg hk1] at hk
          exact absurd hk failO_e
    · intro r hs h
      refine WG_st (st' := .int r :: [.int (0 : Int32), va_rf out]) rfl ?_
      refine q_i2l C dL_addRoom_10 ?_
      refine q_last C dL_addRoom_11 h (fun hs h => ?_)
      refine q_goto C 23 dL_addRoom_12 (by decide) ?_
      refine q_iconst C (0 : Int32) dL_addRoom_23 (by decide) ?_
      exact q_wret C hr hlk (Nat.le_of_ble_eq_true rfl) (Nat.le_of_ble_eq_true rfl) dL_addRoom_24 h
  rw [lg_entry_eq]
  cases x <;> cases out <;> exact key _ _ _ hR va_S.rf ⟨lv_entry _ (n := 6) (Nat.le_of_ble_eq_true rfl), (c1_r (c1_i (c1_i (c1_i (c1_r c1_n)))))⟩
theorem ml_L_17 : Cond.methodLink RL 17 yX8_addTeacher ∈ Tg := Tg_of (i := 772) (by decide +kernel) (by decide +kernel)
theorem lk_L_17 : Lk RL 17 yX8_addTeacher cX8_addTeacher 3 (some .int) 1 := ⟨ml_L_17, cd_X8_addTeacher, iw_X8, by decide +kernel⟩
theorem im_X8_addTeacher : Cond.instanceMethod yX8_addTeacher ∈ Tg := Tg_of (i := 773) (by decide +kernel) (by decide +kernel)
theorem se_X8_X8_addTeacher : Cond.selects RX8 yX8_addTeacher yX8_addTeacher ∈ Tg := Tg_of (i := 774) (by decide +kernel) (by decide +kernel)
def f_L_addTeacher (x : Option Nat) (p1 : Int32) (out : Option Nat) : OO Int32 := rcv x 11 fun a => call (f_X8_addTeacher a p1) (fun (r : Int32) => stL out (0 : Int32) r.toInt64 (rtn (0 : Int32))) (fun k => (if k = 1 then rtn (1 : Int32) else (if k = 2 then rtn (2 : Int32) else failO)))
set_option maxRecDepth 100000 in
set_option maxHeartbeats 4000000 in
theorem m_L_addTeacher {G : GG} {l : Launch} {x : Option Nat} {p1 : Int32} {out : Option Nat} {hs hs' : Hs} {kk : Int32} (h : f_L_addTeacher x p1 out hs = some (.ok kk, hs')) : CTW G l yL_addTeacher cL_addTeacher 4 [(0, 9, 12, 13), (0, 9, 15, 15)] 8 222 3 63 [va_rf x, .int p1, va_rf out] hs kk hs' := by
  refine vx_ofWH (cc := cL_addTeacher) (maxL := 4) (ret := (some .int)) (hh := [(0, 9, 12, 13), (0, 9, 15, 15)]) (by decide +kernel) rfl ?_
  intro p e s m args below meth c s₁ B hml hv
  obtain ⟨hav, hR, hKn⟩ := hv
  subst hav
  have hts := atoms_spec (ws := .codeWith yL_addTeacher cL_addTeacher 4 (some .int) [(0, 9, 12, 13), (0, 9, 15, 15)] :: Tg) B.pre
  have hT := vx_table (x := yL_addTeacher) B (hts _ List.mem_cons_self)
  have C : Cx G l p s m _ c RL cL_addTeacher 4 := ⟨B.exec, B.bytes, hml, findClass_of_methodNamed B.named, fun w hw => hts w (List.mem_cons_of_mem _ hw), hKn, fun q hq => Nat.le_trans hR.2.2.1 hq⟩
  have key : WG G p l e { frames := 8, cells := 3, slots := 63, locals := 222 } s m ([va_rf x, .int p1, va_rf out] : List Value).toArray below meth c 4 0 0 (vx_MQ below (QcW G kk hs') XCW ([va_rf x, .int p1, va_rf out] : List Value).toArray s 3 63 (gA G)) hs [(0, va_rf x), (1, .int p1), (2, va_rf out)] [] 0 := by
    unfold f_L_addTeacher at h
    have hr := B.returns
    have hlk := B.notSynchronized
    refine q_aload_n C 2 dL_addTeacher_0 rfl ?_
    refine q_iconst C (0 : Int32) dL_addTeacher_1 (by decide) ?_
    refine q_aload_n C 0 dL_addTeacher_2 rfl ?_
    refine q_iload_n C 1 dL_addTeacher_3 rfl ?_
    refine q_callW C (CN := RX8) (T := TX8) (N := 10) (tv := tvI) [.int p1] [.int (0 : Int32), va_rf out] (fun a0 o2 hs1 hm => m_X8_addTeacher hm) lk_L_17 im_X8_addTeacher se_X8_X8_addTeacher rfl ⟨(Nat.le_of_ble_eq_true rfl), (Nat.le_of_ble_eq_true rfl)⟩ ⟨(Nat.le_of_ble_eq_true rfl), (Nat.le_of_ble_eq_true rfl)⟩ rfl rfl (by simp only [List.map, cat_rf, cat_i, cat_a]; decide) dL_addTeacher_4 h ?_ ?_
    · intro k sz hs1 hk H locs ls ce q hR hS e1 e2 e3 c1
      by_cases hk0 : k = 1
      · subst hk0
        rw [if_pos rfl] at hk
        cases hk
        exact vx_catch (own := RL) (name := "java/lang/IllegalArgumentException") (E := exN 1) C.2.2.2.1 [] ⟨0, 9, 12, 13⟩ [⟨0, 9, 15, 15⟩] (by rw [hT]; rfl) (fun z hz => nomatch hz) (by decide) (by decide) (C.2.2.2.2.1 _ wc_L_x13) (va_Nw.use rfl (C.kn.2.2.2.1 ("java/lang/IllegalArgumentException", "java/lang/IllegalArgumentException") (by decide +kernel))) e1 e2 e3 (q_hand C hr hlk (Nat.le_of_ble_eq_true rfl) (Nat.le_of_ble_eq_true rfl) (Or.inl ⟨_, rfl, rfl, dL_addTeacher_12⟩) (by decide) dL_addTeacher_13 (by decide) dL_addTeacher_14 hR hS c1)
      · rw [if_neg hk0] at hk
        by_cases hk1 : k = 2
        · subst hk1
          rw [if_pos rfl] at hk
          cases hk
          exact vx_catch (own := RL) (name := "java/lang/IllegalStateException") (E := exN 2) C.2.2.2.1 [⟨0, 9, 12, 13⟩] ⟨0, 9, 15, 15⟩ [] (by rw [hT]; rfl) (fun z hz => by
        simp only [List.mem_cons, List.not_mem_nil, or_false] at hz
        rcases hz with rfl
        · exact Or.inr ⟨by decide, "java/lang/IllegalArgumentException", C.2.2.2.2.1 _ wc_L_x13, kn_nc C.kn ("java/lang/IllegalStateException", "java/lang/IllegalArgumentException") (by decide +kernel)⟩) (by decide) (by decide) (C.2.2.2.2.1 _ wc_L_x15) (va_Nw.use rfl (C.kn.2.2.2.1 ("java/lang/IllegalStateException", "java/lang/IllegalStateException") (by decide +kernel))) e1 e2 e3 (q_hand C hr hlk (Nat.le_of_ble_eq_true rfl) (Nat.le_of_ble_eq_true rfl) (Or.inl ⟨_, rfl, rfl, dL_addTeacher_15⟩) (by decide) dL_addTeacher_16 (by decide) dL_addTeacher_17 hR hS c1)
        · rw [if_neg hk1] at hk
          exact absurd hk failO_e
    · intro r hs h
      refine WG_st (st' := .int r :: [.int (0 : Int32), va_rf out]) rfl ?_
      refine q_i2l C dL_addTeacher_7 ?_
      refine q_last C dL_addTeacher_8 h (fun hs h => ?_)
      refine q_goto C 18 dL_addTeacher_9 (by decide) ?_
      refine q_iconst C (0 : Int32) dL_addTeacher_18 (by decide) ?_
      exact q_wret C hr hlk (Nat.le_of_ble_eq_true rfl) (Nat.le_of_ble_eq_true rfl) dL_addTeacher_19 h
  rw [lg_entry_eq]
  cases x <;> cases out <;> exact key _ _ _ hR va_S.rf ⟨lv_entry _ (n := 4) (Nat.le_of_ble_eq_true rfl), (c1_r (c1_i (c1_r c1_n)))⟩
theorem ml_L_21 : Cond.methodLink RL 21 yX8_addGroup ∈ Tg := Tg_of (i := 808) (by decide +kernel) (by decide +kernel)
theorem lk_L_21 : Lk RL 21 yX8_addGroup cX8_addGroup 3 (some .int) 1 := ⟨ml_L_21, cd_X8_addGroup, iw_X8, by decide +kernel⟩
theorem im_X8_addGroup : Cond.instanceMethod yX8_addGroup ∈ Tg := Tg_of (i := 809) (by decide +kernel) (by decide +kernel)
theorem se_X8_X8_addGroup : Cond.selects RX8 yX8_addGroup yX8_addGroup ∈ Tg := Tg_of (i := 810) (by decide +kernel) (by decide +kernel)
def f_L_addGroup (x : Option Nat) (p1 : Int32) (out : Option Nat) : OO Int32 := rcv x 11 fun a => call (f_X8_addGroup a p1) (fun (r : Int32) => stL out (0 : Int32) r.toInt64 (rtn (0 : Int32))) (fun k => (if k = 1 then rtn (1 : Int32) else (if k = 2 then rtn (2 : Int32) else failO)))
set_option maxRecDepth 100000 in
set_option maxHeartbeats 4000000 in
theorem m_L_addGroup {G : GG} {l : Launch} {x : Option Nat} {p1 : Int32} {out : Option Nat} {hs hs' : Hs} {kk : Int32} (h : f_L_addGroup x p1 out hs = some (.ok kk, hs')) : CTW G l yL_addGroup cL_addGroup 4 [(0, 9, 12, 13), (0, 9, 15, 15)] 8 222 2 31 [va_rf x, .int p1, va_rf out] hs kk hs' := by
  refine vx_ofWH (cc := cL_addGroup) (maxL := 4) (ret := (some .int)) (hh := [(0, 9, 12, 13), (0, 9, 15, 15)]) (by decide +kernel) rfl ?_
  intro p e s m args below meth c s₁ B hml hv
  obtain ⟨hav, hR, hKn⟩ := hv
  subst hav
  have hts := atoms_spec (ws := .codeWith yL_addGroup cL_addGroup 4 (some .int) [(0, 9, 12, 13), (0, 9, 15, 15)] :: Tg) B.pre
  have hT := vx_table (x := yL_addGroup) B (hts _ List.mem_cons_self)
  have C : Cx G l p s m _ c RL cL_addGroup 4 := ⟨B.exec, B.bytes, hml, findClass_of_methodNamed B.named, fun w hw => hts w (List.mem_cons_of_mem _ hw), hKn, fun q hq => Nat.le_trans hR.2.2.1 hq⟩
  have key : WG G p l e { frames := 8, cells := 2, slots := 31, locals := 222 } s m ([va_rf x, .int p1, va_rf out] : List Value).toArray below meth c 4 0 0 (vx_MQ below (QcW G kk hs') XCW ([va_rf x, .int p1, va_rf out] : List Value).toArray s 2 31 (gA G)) hs [(0, va_rf x), (1, .int p1), (2, va_rf out)] [] 0 := by
    unfold f_L_addGroup at h
    have hr := B.returns
    have hlk := B.notSynchronized
    refine q_aload_n C 2 dL_addGroup_0 rfl ?_
    refine q_iconst C (0 : Int32) dL_addGroup_1 (by decide) ?_
    refine q_aload_n C 0 dL_addGroup_2 rfl ?_
    refine q_iload_n C 1 dL_addGroup_3 rfl ?_
    refine q_callW C (CN := RX8) (T := TX8) (N := 10) (tv := tvI) [.int p1] [.int (0 : Int32), va_rf out] (fun a0 o2 hs1 hm => m_X8_addGroup hm) lk_L_21 im_X8_addGroup se_X8_X8_addGroup rfl ⟨(Nat.le_of_ble_eq_true rfl), (Nat.le_of_ble_eq_true rfl)⟩ ⟨(Nat.le_of_ble_eq_true rfl), (Nat.le_of_ble_eq_true rfl)⟩ rfl rfl (by simp only [List.map, cat_rf, cat_i, cat_a]; decide) dL_addGroup_4 h ?_ ?_
    · intro k sz hs1 hk H locs ls ce q hR hS e1 e2 e3 c1
      by_cases hk0 : k = 1
      · subst hk0
        rw [if_pos rfl] at hk
        cases hk
        exact vx_catch (own := RL) (name := "java/lang/IllegalArgumentException") (E := exN 1) C.2.2.2.1 [] ⟨0, 9, 12, 13⟩ [⟨0, 9, 15, 15⟩] (by rw [hT]; rfl) (fun z hz => nomatch hz) (by decide) (by decide) (C.2.2.2.2.1 _ wc_L_x13) (va_Nw.use rfl (C.kn.2.2.2.1 ("java/lang/IllegalArgumentException", "java/lang/IllegalArgumentException") (by decide +kernel))) e1 e2 e3 (q_hand C hr hlk (Nat.le_of_ble_eq_true rfl) (Nat.le_of_ble_eq_true rfl) (Or.inl ⟨_, rfl, rfl, dL_addGroup_12⟩) (by decide) dL_addGroup_13 (by decide) dL_addGroup_14 hR hS c1)
      · rw [if_neg hk0] at hk
        by_cases hk1 : k = 2
        · subst hk1
          rw [if_pos rfl] at hk
          cases hk
          exact vx_catch (own := RL) (name := "java/lang/IllegalStateException") (E := exN 2) C.2.2.2.1 [⟨0, 9, 12, 13⟩] ⟨0, 9, 15, 15⟩ [] (by rw [hT]; rfl) (fun z hz => by
        simp only [List.mem_cons, List.not_mem_nil, or_false] at hz
        rcases hz with rfl
        · exact Or.inr ⟨by decide, "java/lang/IllegalArgumentException", C.2.2.2.2.1 _ wc_L_x13, kn_nc C.kn ("java/lang/IllegalStateException", "java/lang/IllegalArgumentException") (by decide +kernel)⟩) (by decide) (by decide) (C.2.2.2.2.1 _ wc_L_x15) (va_Nw.use rfl (C.kn.2.2.2.1 ("java/lang/IllegalStateException", "java/lang/IllegalStateException") (by decide +kernel))) e1 e2 e3 (q_hand C hr hlk (Nat.le_of_ble_eq_true rfl) (Nat.le_of_ble_eq_true rfl) (Or.inl ⟨_, rfl, rfl, dL_addGroup_15⟩) (by decide) dL_addGroup_16 (by decide) dL_addGroup_17 hR hS c1)
        · rw [if_neg hk1] at hk
          exact absurd hk failO_e
    · intro r hs h
      refine WG_st (st' := .int r :: [.int (0 : Int32), va_rf out]) rfl ?_
      refine q_i2l C dL_addGroup_7 ?_
      refine q_last C dL_addGroup_8 h (fun hs h => ?_)
      refine q_goto C 18 dL_addGroup_9 (by decide) ?_
      refine q_iconst C (0 : Int32) dL_addGroup_18 (by decide) ?_
      exact q_wret C hr hlk (Nat.le_of_ble_eq_true rfl) (Nat.le_of_ble_eq_true rfl) dL_addGroup_19 h
  rw [lg_entry_eq]
  cases x <;> cases out <;> exact key _ _ _ hR va_S.rf ⟨lv_entry _ (n := 4) (Nat.le_of_ble_eq_true rfl), (c1_r (c1_i (c1_r c1_n)))⟩
theorem ml_L_24 : Cond.methodLink RL 24 yX8_addLesson ∈ Tg := Tg_of (i := 853) (by decide +kernel) (by decide +kernel)
theorem lk_L_24 : Lk RL 24 yX8_addLesson cX8_addLesson 9 (some .int) 5 := ⟨ml_L_24, cd_X8_addLesson, iw_X8, by decide +kernel⟩
theorem im_X8_addLesson : Cond.instanceMethod yX8_addLesson ∈ Tg := Tg_of (i := 854) (by decide +kernel) (by decide +kernel)
theorem se_X8_X8_addLesson : Cond.selects RX8 yX8_addLesson yX8_addLesson ∈ Tg := Tg_of (i := 855) (by decide +kernel) (by decide +kernel)
theorem wc_L_x28 : Cond.classLink RL 28 "java/lang/IndexOutOfBoundsException" ∈ Tg := Tg_of (i := 829) (by decide +kernel) (by decide +kernel)
def f_L_addLesson (x : Option Nat) (p1 : Int32) (p2 : Int32) (p3 : Int32) (p4 : Int32) (p5 : Int32) (out : Option Nat) : OO Int32 := rcv x 11 fun a => call (f_X8_addLesson a p1 p2 p3 p4 p5) (fun (r : Int32) => stL out (0 : Int32) r.toInt64 (rtn (0 : Int32))) (fun k => (if k = 0 then rtn (1 : Int32) else (if k = 1 then rtn (2 : Int32) else (if k = 2 then rtn (3 : Int32) else failO))))
set_option maxRecDepth 100000 in
set_option maxHeartbeats 4000000 in
theorem m_L_addLesson {G : GG} {l : Launch} {x : Option Nat} {p1 : Int32} {p2 : Int32} {p3 : Int32} {p4 : Int32} {p5 : Int32} {out : Option Nat} {hs hs' : Hs} {kk : Int32} (h : f_L_addLesson x p1 p2 p3 p4 p5 out hs = some (.ok kk, hs')) : CTW G l yL_addLesson cL_addLesson 8 [(0, 16, 19, 28), (0, 16, 23, 13), (0, 16, 27, 15)] 8 249 8 84 [va_rf x, .int p1, .int p2, .int p3, .int p4, .int p5, va_rf out] hs kk hs' := by
  refine vx_ofWH (cc := cL_addLesson) (maxL := 8) (ret := (some .int)) (hh := [(0, 16, 19, 28), (0, 16, 23, 13), (0, 16, 27, 15)]) (by decide +kernel) rfl ?_
  intro p e s m args below meth c s₁ B hml hv
  obtain ⟨hav, hR, hKn⟩ := hv
  subst hav
  have hts := atoms_spec (ws := .codeWith yL_addLesson cL_addLesson 8 (some .int) [(0, 16, 19, 28), (0, 16, 23, 13), (0, 16, 27, 15)] :: Tg) B.pre
  have hT := vx_table (x := yL_addLesson) B (hts _ List.mem_cons_self)
  have C : Cx G l p s m _ c RL cL_addLesson 8 := ⟨B.exec, B.bytes, hml, findClass_of_methodNamed B.named, fun w hw => hts w (List.mem_cons_of_mem _ hw), hKn, fun q hq => Nat.le_trans hR.2.2.1 hq⟩
  have key : WG G p l e { frames := 8, cells := 8, slots := 84, locals := 249 } s m ([va_rf x, .int p1, .int p2, .int p3, .int p4, .int p5, va_rf out] : List Value).toArray below meth c 8 0 0 (vx_MQ below (QcW G kk hs') XCW ([va_rf x, .int p1, .int p2, .int p3, .int p4, .int p5, va_rf out] : List Value).toArray s 8 84 (gA G)) hs [(0, va_rf x), (1, .int p1), (2, .int p2), (3, .int p3), (4, .int p4), (5, .int p5), (6, va_rf out)] [] 0 := by
    unfold f_L_addLesson at h
    have hr := B.returns
    have hlk := B.notSynchronized
    refine q_aload C 6 dL_addLesson_0 rfl ?_
    refine q_iconst C (0 : Int32) dL_addLesson_2 (by decide) ?_
    refine q_aload_n C 0 dL_addLesson_3 rfl ?_
    refine q_iload_n C 1 dL_addLesson_4 rfl ?_
    refine q_iload_n C 2 dL_addLesson_5 rfl ?_
    refine q_iload_n C 3 dL_addLesson_6 rfl ?_
    refine q_iload C 4 dL_addLesson_7 rfl ?_
    refine q_iload C 5 dL_addLesson_9 rfl ?_
    refine q_callW C (CN := RX8) (T := TX8) (N := 10) (tv := tvI) [.int p1, .int p2, .int p3, .int p4, .int p5] [.int (0 : Int32), va_rf out] (fun a0 o2 hs1 hm => m_X8_addLesson hm) lk_L_24 im_X8_addLesson se_X8_X8_addLesson rfl ⟨(Nat.le_of_ble_eq_true rfl), (Nat.le_of_ble_eq_true rfl)⟩ ⟨(Nat.le_of_ble_eq_true rfl), (Nat.le_of_ble_eq_true rfl)⟩ rfl rfl (by simp only [List.map, cat_rf, cat_i, cat_a]; decide) dL_addLesson_11 h ?_ ?_
    · intro k sz hs1 hk H locs ls ce q hR hS e1 e2 e3 c1
      by_cases hk0 : k = 0
      · subst hk0
        rw [if_pos rfl] at hk
        cases hk
        exact vx_catch (own := RL) (name := "java/lang/IndexOutOfBoundsException") (E := exN 0) C.2.2.2.1 [] ⟨0, 16, 19, 28⟩ [⟨0, 16, 23, 13⟩, ⟨0, 16, 27, 15⟩] (by rw [hT]; rfl) (fun z hz => nomatch hz) (by decide) (by decide) (C.2.2.2.2.1 _ wc_L_x28) (va_Nw.use rfl (C.kn.2.2.2.1 ("java/lang/IndexOutOfBoundsException", "java/lang/IndexOutOfBoundsException") (by decide +kernel))) e1 e2 e3 (q_hand C hr hlk (Nat.le_of_ble_eq_true rfl) (Nat.le_of_ble_eq_true rfl) (Or.inr ⟨rfl, dL_addLesson_19⟩) (by decide) dL_addLesson_21 (by decide) dL_addLesson_22 hR hS c1)
      · rw [if_neg hk0] at hk
        by_cases hk1 : k = 1
        · subst hk1
          rw [if_pos rfl] at hk
          cases hk
          exact vx_catch (own := RL) (name := "java/lang/IllegalArgumentException") (E := exN 1) C.2.2.2.1 [⟨0, 16, 19, 28⟩] ⟨0, 16, 23, 13⟩ [⟨0, 16, 27, 15⟩] (by rw [hT]; rfl) (fun z hz => by
        simp only [List.mem_cons, List.not_mem_nil, or_false] at hz
        rcases hz with rfl
        · exact Or.inr ⟨by decide, "java/lang/IndexOutOfBoundsException", C.2.2.2.2.1 _ wc_L_x28, kn_nc C.kn ("java/lang/IllegalArgumentException", "java/lang/IndexOutOfBoundsException") (by decide +kernel)⟩) (by decide) (by decide) (C.2.2.2.2.1 _ wc_L_x13) (va_Nw.use rfl (C.kn.2.2.2.1 ("java/lang/IllegalArgumentException", "java/lang/IllegalArgumentException") (by decide +kernel))) e1 e2 e3 (q_hand C hr hlk (Nat.le_of_ble_eq_true rfl) (Nat.le_of_ble_eq_true rfl) (Or.inr ⟨rfl, dL_addLesson_23⟩) (by decide) dL_addLesson_25 (by decide) dL_addLesson_26 hR hS c1)
        · rw [if_neg hk1] at hk
          by_cases hk2 : k = 2
          · subst hk2
            rw [if_pos rfl] at hk
            cases hk
            exact vx_catch (own := RL) (name := "java/lang/IllegalStateException") (E := exN 2) C.2.2.2.1 [⟨0, 16, 19, 28⟩, ⟨0, 16, 23, 13⟩] ⟨0, 16, 27, 15⟩ [] (by rw [hT]; rfl) (fun z hz => by
        simp only [List.mem_cons, List.not_mem_nil, or_false] at hz
        rcases hz with rfl | rfl
        · exact Or.inr ⟨by decide, "java/lang/IndexOutOfBoundsException", C.2.2.2.2.1 _ wc_L_x28, kn_nc C.kn ("java/lang/IllegalStateException", "java/lang/IndexOutOfBoundsException") (by decide +kernel)⟩
        · exact Or.inr ⟨by decide, "java/lang/IllegalArgumentException", C.2.2.2.2.1 _ wc_L_x13, kn_nc C.kn ("java/lang/IllegalStateException", "java/lang/IllegalArgumentException") (by decide +kernel)⟩) (by decide) (by decide) (C.2.2.2.2.1 _ wc_L_x15) (va_Nw.use rfl (C.kn.2.2.2.1 ("java/lang/IllegalStateException", "java/lang/IllegalStateException") (by decide +kernel))) e1 e2 e3 (q_hand C hr hlk (Nat.le_of_ble_eq_true rfl) (Nat.le_of_ble_eq_true rfl) (Or.inr ⟨rfl, dL_addLesson_27⟩) (by decide) dL_addLesson_29 (by decide) dL_addLesson_30 hR hS c1)
          · rw [if_neg hk2] at hk
            exact absurd hk failO_e
    · intro r hs h
      refine WG_st (st' := .int r :: [.int (0 : Int32), va_rf out]) rfl ?_
      refine q_i2l C dL_addLesson_14 ?_
      refine q_last C dL_addLesson_15 h (fun hs h => ?_)
      refine q_goto C 31 dL_addLesson_16 (by decide) ?_
      refine q_iconst C (0 : Int32) dL_addLesson_31 (by decide) ?_
      exact q_wret C hr hlk (Nat.le_of_ble_eq_true rfl) (Nat.le_of_ble_eq_true rfl) dL_addLesson_32 h
  rw [lg_entry_eq]
  cases x <;> cases out <;> exact key _ _ _ hR va_S.rf ⟨lv_entry _ (n := 8) (Nat.le_of_ble_eq_true rfl), (c1_r (c1_i (c1_i (c1_i (c1_i (c1_i (c1_r c1_n)))))))⟩
theorem ml_L_30 : Cond.methodLink RL 30 yX8_setWish ∈ Tg := Tg_of (i := 965) (by decide +kernel) (by decide +kernel)
theorem lk_L_30 : Lk RL 30 yX8_setWish cX8_setWish 5 (some .int) 3 := ⟨ml_L_30, cd_X8_setWish, iw_X8, by decide +kernel⟩
theorem im_X8_setWish : Cond.instanceMethod yX8_setWish ∈ Tg := Tg_of (i := 966) (by decide +kernel) (by decide +kernel)
theorem se_X8_X8_setWish : Cond.selects RX8 yX8_setWish yX8_setWish ∈ Tg := Tg_of (i := 967) (by decide +kernel) (by decide +kernel)
def f_L_setWish (x : Option Nat) (p1 : Int32) (p2 : Int32) (p3 : Int32) (out : Option Nat) : OO Int32 := rcv x 11 fun a => call (f_X8_setWish a p1 p2 p3) (fun (r : Int32) => stL out (0 : Int32) r.toInt64 (rtn (0 : Int32))) (fun k => (if k = 0 then rtn (1 : Int32) else (if k = 1 then rtn (2 : Int32) else failO)))
set_option maxRecDepth 100000 in
set_option maxHeartbeats 4000000 in
theorem m_L_setWish {G : GG} {l : Launch} {x : Option Nat} {p1 : Int32} {p2 : Int32} {p3 : Int32} {out : Option Nat} {hs hs' : Hs} {kk : Int32} (h : f_L_setWish x p1 p2 p3 out hs = some (.ok kk, hs')) : CTW G l yL_setWish cL_setWish 6 [(0, 12, 15, 28), (0, 12, 19, 13)] 8 245 3 18 [va_rf x, .int p1, .int p2, .int p3, va_rf out] hs kk hs' := by
  refine vx_ofWH (cc := cL_setWish) (maxL := 6) (ret := (some .int)) (hh := [(0, 12, 15, 28), (0, 12, 19, 13)]) (by decide +kernel) rfl ?_
  intro p e s m args below meth c s₁ B hml hv
  obtain ⟨hav, hR, hKn⟩ := hv
  subst hav
  have hts := atoms_spec (ws := .codeWith yL_setWish cL_setWish 6 (some .int) [(0, 12, 15, 28), (0, 12, 19, 13)] :: Tg) B.pre
  have hT := vx_table (x := yL_setWish) B (hts _ List.mem_cons_self)
  have C : Cx G l p s m _ c RL cL_setWish 6 := ⟨B.exec, B.bytes, hml, findClass_of_methodNamed B.named, fun w hw => hts w (List.mem_cons_of_mem _ hw), hKn, fun q hq => Nat.le_trans hR.2.2.1 hq⟩
  have key : WG G p l e { frames := 8, cells := 3, slots := 18, locals := 245 } s m ([va_rf x, .int p1, .int p2, .int p3, va_rf out] : List Value).toArray below meth c 6 0 0 (vx_MQ below (QcW G kk hs') XCW ([va_rf x, .int p1, .int p2, .int p3, va_rf out] : List Value).toArray s 3 18 (gA G)) hs [(0, va_rf x), (1, .int p1), (2, .int p2), (3, .int p3), (4, va_rf out)] [] 0 := by
    unfold f_L_setWish at h
    have hr := B.returns
    have hlk := B.notSynchronized
    refine q_aload C 4 dL_setWish_0 rfl ?_
    refine q_iconst C (0 : Int32) dL_setWish_2 (by decide) ?_
    refine q_aload_n C 0 dL_setWish_3 rfl ?_
    refine q_iload_n C 1 dL_setWish_4 rfl ?_
    refine q_iload_n C 2 dL_setWish_5 rfl ?_
    refine q_iload_n C 3 dL_setWish_6 rfl ?_
    refine q_callW C (CN := RX8) (T := TX8) (N := 10) (tv := tvI) [.int p1, .int p2, .int p3] [.int (0 : Int32), va_rf out] (fun a0 o2 hs1 hm => m_X8_setWish hm) lk_L_30 im_X8_setWish se_X8_X8_setWish rfl ⟨(Nat.le_of_ble_eq_true rfl), (Nat.le_of_ble_eq_true rfl)⟩ ⟨(Nat.le_of_ble_eq_true rfl), (Nat.le_of_ble_eq_true rfl)⟩ rfl rfl (by simp only [List.map, cat_rf, cat_i, cat_a]; decide) dL_setWish_7 h ?_ ?_
    · intro k sz hs1 hk H locs ls ce q hR hS e1 e2 e3 c1
      by_cases hk0 : k = 0
      · subst hk0
        rw [if_pos rfl] at hk
        cases hk
        exact vx_catch (own := RL) (name := "java/lang/IndexOutOfBoundsException") (E := exN 0) C.2.2.2.1 [] ⟨0, 12, 15, 28⟩ [⟨0, 12, 19, 13⟩] (by rw [hT]; rfl) (fun z hz => nomatch hz) (by decide) (by decide) (C.2.2.2.2.1 _ wc_L_x28) (va_Nw.use rfl (C.kn.2.2.2.1 ("java/lang/IndexOutOfBoundsException", "java/lang/IndexOutOfBoundsException") (by decide +kernel))) e1 e2 e3 (q_hand C hr hlk (Nat.le_of_ble_eq_true rfl) (Nat.le_of_ble_eq_true rfl) (Or.inr ⟨rfl, dL_setWish_15⟩) (by decide) dL_setWish_17 (by decide) dL_setWish_18 hR hS c1)
      · rw [if_neg hk0] at hk
        by_cases hk1 : k = 1
        · subst hk1
          rw [if_pos rfl] at hk
          cases hk
          exact vx_catch (own := RL) (name := "java/lang/IllegalArgumentException") (E := exN 1) C.2.2.2.1 [⟨0, 12, 15, 28⟩] ⟨0, 12, 19, 13⟩ [] (by rw [hT]; rfl) (fun z hz => by
        simp only [List.mem_cons, List.not_mem_nil, or_false] at hz
        rcases hz with rfl
        · exact Or.inr ⟨by decide, "java/lang/IndexOutOfBoundsException", C.2.2.2.2.1 _ wc_L_x28, kn_nc C.kn ("java/lang/IllegalArgumentException", "java/lang/IndexOutOfBoundsException") (by decide +kernel)⟩) (by decide) (by decide) (C.2.2.2.2.1 _ wc_L_x13) (va_Nw.use rfl (C.kn.2.2.2.1 ("java/lang/IllegalArgumentException", "java/lang/IllegalArgumentException") (by decide +kernel))) e1 e2 e3 (q_hand C hr hlk (Nat.le_of_ble_eq_true rfl) (Nat.le_of_ble_eq_true rfl) (Or.inr ⟨rfl, dL_setWish_19⟩) (by decide) dL_setWish_21 (by decide) dL_setWish_22 hR hS c1)
        · rw [if_neg hk1] at hk
          exact absurd hk failO_e
    · intro r hs h
      refine WG_st (st' := .int r :: [.int (0 : Int32), va_rf out]) rfl ?_
      refine q_i2l C dL_setWish_10 ?_
      refine q_last C dL_setWish_11 h (fun hs h => ?_)
      refine q_goto C 23 dL_setWish_12 (by decide) ?_
      refine q_iconst C (0 : Int32) dL_setWish_23 (by decide) ?_
      exact q_wret C hr hlk (Nat.le_of_ble_eq_true rfl) (Nat.le_of_ble_eq_true rfl) dL_setWish_24 h
  rw [lg_entry_eq]
  cases x <;> cases out <;> exact key _ _ _ hR va_S.rf ⟨lv_entry _ (n := 6) (Nat.le_of_ble_eq_true rfl), (c1_r (c1_i (c1_i (c1_i (c1_r c1_n)))))⟩
theorem ml_L_33 : Cond.methodLink RL 33 yX8_setWeight ∈ Tg := Tg_of (i := 981) (by decide +kernel) (by decide +kernel)
theorem lk_L_33 : Lk RL 33 yX8_setWeight cX8_setWeight 3 (some .int) 2 := ⟨ml_L_33, cd_X8_setWeight, iw_X8, by decide +kernel⟩
theorem im_X8_setWeight : Cond.instanceMethod yX8_setWeight ∈ Tg := Tg_of (i := 982) (by decide +kernel) (by decide +kernel)
theorem se_X8_X8_setWeight : Cond.selects RX8 yX8_setWeight yX8_setWeight ∈ Tg := Tg_of (i := 983) (by decide +kernel) (by decide +kernel)
def f_L_setWeight (x : Option Nat) (p1 : Int32) (p2 : Int32) (out : Option Nat) : OO Int32 := rcv x 11 fun a => call (f_X8_setWeight a p1 p2) (fun (r : Int32) => stL out (0 : Int32) r.toInt64 (rtn (0 : Int32))) (fun k => (if k = 1 then rtn (1 : Int32) else failO))
set_option maxRecDepth 100000 in
set_option maxHeartbeats 4000000 in
theorem m_L_setWeight {G : GG} {l : Launch} {x : Option Nat} {p1 : Int32} {p2 : Int32} {out : Option Nat} {hs hs' : Hs} {kk : Int32} (h : f_L_setWeight x p1 p2 out hs = some (.ok kk, hs')) : CTW G l yL_setWeight cL_setWeight 5 [(0, 10, 13, 13)] 8 242 2 12 [va_rf x, .int p1, .int p2, va_rf out] hs kk hs' := by
  refine vx_ofWH (cc := cL_setWeight) (maxL := 5) (ret := (some .int)) (hh := [(0, 10, 13, 13)]) (by decide +kernel) rfl ?_
  intro p e s m args below meth c s₁ B hml hv
  obtain ⟨hav, hR, hKn⟩ := hv
  subst hav
  have hts := atoms_spec (ws := .codeWith yL_setWeight cL_setWeight 5 (some .int) [(0, 10, 13, 13)] :: Tg) B.pre
  have hT := vx_table (x := yL_setWeight) B (hts _ List.mem_cons_self)
  have C : Cx G l p s m _ c RL cL_setWeight 5 := ⟨B.exec, B.bytes, hml, findClass_of_methodNamed B.named, fun w hw => hts w (List.mem_cons_of_mem _ hw), hKn, fun q hq => Nat.le_trans hR.2.2.1 hq⟩
  have key : WG G p l e { frames := 8, cells := 2, slots := 12, locals := 242 } s m ([va_rf x, .int p1, .int p2, va_rf out] : List Value).toArray below meth c 5 0 0 (vx_MQ below (QcW G kk hs') XCW ([va_rf x, .int p1, .int p2, va_rf out] : List Value).toArray s 2 12 (gA G)) hs [(0, va_rf x), (1, .int p1), (2, .int p2), (3, va_rf out)] [] 0 := by
    unfold f_L_setWeight at h
    have hr := B.returns
    have hlk := B.notSynchronized
    refine q_aload_n C 3 dL_setWeight_0 rfl ?_
    refine q_iconst C (0 : Int32) dL_setWeight_1 (by decide) ?_
    refine q_aload_n C 0 dL_setWeight_2 rfl ?_
    refine q_iload_n C 1 dL_setWeight_3 rfl ?_
    refine q_iload_n C 2 dL_setWeight_4 rfl ?_
    refine q_callW C (CN := RX8) (T := TX8) (N := 10) (tv := tvI) [.int p1, .int p2] [.int (0 : Int32), va_rf out] (fun a0 o2 hs1 hm => m_X8_setWeight hm) lk_L_33 im_X8_setWeight se_X8_X8_setWeight rfl ⟨(Nat.le_of_ble_eq_true rfl), (Nat.le_of_ble_eq_true rfl)⟩ ⟨(Nat.le_of_ble_eq_true rfl), (Nat.le_of_ble_eq_true rfl)⟩ rfl rfl (by simp only [List.map, cat_rf, cat_i, cat_a]; decide) dL_setWeight_5 h ?_ ?_
    · intro k sz hs1 hk H locs ls ce q hR hS e1 e2 e3 c1
      by_cases hk0 : k = 1
      · subst hk0
        rw [if_pos rfl] at hk
        cases hk
        exact vx_catch (own := RL) (name := "java/lang/IllegalArgumentException") (E := exN 1) C.2.2.2.1 [] ⟨0, 10, 13, 13⟩ [] (by rw [hT]; rfl) (fun z hz => nomatch hz) (by decide) (by decide) (C.2.2.2.2.1 _ wc_L_x13) (va_Nw.use rfl (C.kn.2.2.2.1 ("java/lang/IllegalArgumentException", "java/lang/IllegalArgumentException") (by decide +kernel))) e1 e2 e3 (q_hand C hr hlk (Nat.le_of_ble_eq_true rfl) (Nat.le_of_ble_eq_true rfl) (Or.inr ⟨rfl, dL_setWeight_13⟩) (by decide) dL_setWeight_15 (by decide) dL_setWeight_16 hR hS c1)
      · rw [if_neg hk0] at hk
        exact absurd hk failO_e
    · intro r hs h
      refine WG_st (st' := .int r :: [.int (0 : Int32), va_rf out]) rfl ?_
      refine q_i2l C dL_setWeight_8 ?_
      refine q_last C dL_setWeight_9 h (fun hs h => ?_)
      refine q_goto C 17 dL_setWeight_10 (by decide) ?_
      refine q_iconst C (0 : Int32) dL_setWeight_17 (by decide) ?_
      exact q_wret C hr hlk (Nat.le_of_ble_eq_true rfl) (Nat.le_of_ble_eq_true rfl) dL_setWeight_18 h
  rw [lg_entry_eq]
  cases x <;> cases out <;> exact key _ _ _ hR va_S.rf ⟨lv_entry _ (n := 5) (Nat.le_of_ble_eq_true rfl), (c1_r (c1_i (c1_i (c1_r c1_n))))⟩
theorem ml_L_37 : Cond.methodLink RL 37 yX8_reason ∈ Tg := Tg_of (i := 997) (by decide +kernel) (by decide +kernel)
theorem lk_L_37 : Lk RL 37 yX8_reason cX8_reason 8 (some .char) 3 := ⟨ml_L_37, cd_X8_reason, iw_X8, by decide +kernel⟩
theorem im_X8_reason : Cond.instanceMethod yX8_reason ∈ Tg := Tg_of (i := 998) (by decide +kernel) (by decide +kernel)
theorem se_X8_X8_reason : Cond.selects RX8 yX8_reason yX8_reason ∈ Tg := Tg_of (i := 999) (by decide +kernel) (by decide +kernel)
def f_L_reason (x : Option Nat) (p1 : Int32) (p2 : Int32) (p3 : Int32) (out : Option Nat) : OO Int32 := rcv x 11 fun a => call (f_X8_reason a p1 p2 p3) (fun (r : Int32) => stL out (0 : Int32) r.toInt64 (rtn (0 : Int32))) (fun k => (if k = 0 then rtn (1 : Int32) else (if k = 1 then rtn (2 : Int32) else failO)))
set_option maxRecDepth 100000 in
set_option maxHeartbeats 4000000 in
theorem m_L_reason {G : GG} {l : Launch} {x : Option Nat} {p1 : Int32} {p2 : Int32} {p3 : Int32} {out : Option Nat} {hs hs' : Hs} {kk : Int32} (h : f_L_reason x p1 p2 p3 out hs = some (.ok kk, hs')) : CTW G l yL_reason cL_reason 6 [(0, 12, 15, 28), (0, 12, 19, 13)] 10 391 3 18 [va_rf x, .int p1, .int p2, .int p3, va_rf out] hs kk hs' := by
  refine vx_ofWH (cc := cL_reason) (maxL := 6) (ret := (some .int)) (hh := [(0, 12, 15, 28), (0, 12, 19, 13)]) (by decide +kernel) rfl ?_
  intro p e s m args below meth c s₁ B hml hv
  obtain ⟨hav, hR, hKn⟩ := hv
  subst hav
  have hts := atoms_spec (ws := .codeWith yL_reason cL_reason 6 (some .int) [(0, 12, 15, 28), (0, 12, 19, 13)] :: Tg) B.pre
  have hT := vx_table (x := yL_reason) B (hts _ List.mem_cons_self)
  have C : Cx G l p s m _ c RL cL_reason 6 := ⟨B.exec, B.bytes, hml, findClass_of_methodNamed B.named, fun w hw => hts w (List.mem_cons_of_mem _ hw), hKn, fun q hq => Nat.le_trans hR.2.2.1 hq⟩
  have key : WG G p l e { frames := 10, cells := 3, slots := 18, locals := 391 } s m ([va_rf x, .int p1, .int p2, .int p3, va_rf out] : List Value).toArray below meth c 6 0 0 (vx_MQ below (QcW G kk hs') XCW ([va_rf x, .int p1, .int p2, .int p3, va_rf out] : List Value).toArray s 3 18 (gA G)) hs [(0, va_rf x), (1, .int p1), (2, .int p2), (3, .int p3), (4, va_rf out)] [] 0 := by
    unfold f_L_reason at h
    have hr := B.returns
    have hlk := B.notSynchronized
    refine q_aload C 4 dL_reason_0 rfl ?_
    refine q_iconst C (0 : Int32) dL_reason_2 (by decide) ?_
    refine q_aload_n C 0 dL_reason_3 rfl ?_
    refine q_iload_n C 1 dL_reason_4 rfl ?_
    refine q_iload_n C 2 dL_reason_5 rfl ?_
    refine q_iload_n C 3 dL_reason_6 rfl ?_
    refine q_callW C (CN := RX8) (T := TX8) (N := 10) (tv := tvI) [.int p1, .int p2, .int p3] [.int (0 : Int32), va_rf out] (fun a0 o2 hs1 hm => m_X8_reason hm) lk_L_37 im_X8_reason se_X8_X8_reason rfl ⟨(Nat.le_of_ble_eq_true rfl), (Nat.le_of_ble_eq_true rfl)⟩ ⟨(Nat.le_of_ble_eq_true rfl), (Nat.le_of_ble_eq_true rfl)⟩ rfl rfl (by simp only [List.map, cat_rf, cat_i, cat_a]; decide) dL_reason_7 h ?_ ?_
    · intro k sz hs1 hk H locs ls ce q hR hS e1 e2 e3 c1
      by_cases hk0 : k = 0
      · subst hk0
        rw [if_pos rfl] at hk
        cases hk
        exact vx_catch (own := RL) (name := "java/lang/IndexOutOfBoundsException") (E := exN 0) C.2.2.2.1 [] ⟨0, 12, 15, 28⟩ [⟨0, 12, 19, 13⟩] (by rw [hT]; rfl) (fun z hz => nomatch hz) (by decide) (by decide) (C.2.2.2.2.1 _ wc_L_x28) (va_Nw.use rfl (C.kn.2.2.2.1 ("java/lang/IndexOutOfBoundsException", "java/lang/IndexOutOfBoundsException") (by decide +kernel))) e1 e2 e3 (q_hand C hr hlk (Nat.le_of_ble_eq_true rfl) (Nat.le_of_ble_eq_true rfl) (Or.inr ⟨rfl, dL_reason_15⟩) (by decide) dL_reason_17 (by decide) dL_reason_18 hR hS c1)
      · rw [if_neg hk0] at hk
        by_cases hk1 : k = 1
        · subst hk1
          rw [if_pos rfl] at hk
          cases hk
          exact vx_catch (own := RL) (name := "java/lang/IllegalArgumentException") (E := exN 1) C.2.2.2.1 [⟨0, 12, 15, 28⟩] ⟨0, 12, 19, 13⟩ [] (by rw [hT]; rfl) (fun z hz => by
        simp only [List.mem_cons, List.not_mem_nil, or_false] at hz
        rcases hz with rfl
        · exact Or.inr ⟨by decide, "java/lang/IndexOutOfBoundsException", C.2.2.2.2.1 _ wc_L_x28, kn_nc C.kn ("java/lang/IllegalArgumentException", "java/lang/IndexOutOfBoundsException") (by decide +kernel)⟩) (by decide) (by decide) (C.2.2.2.2.1 _ wc_L_x13) (va_Nw.use rfl (C.kn.2.2.2.1 ("java/lang/IllegalArgumentException", "java/lang/IllegalArgumentException") (by decide +kernel))) e1 e2 e3 (q_hand C hr hlk (Nat.le_of_ble_eq_true rfl) (Nat.le_of_ble_eq_true rfl) (Or.inr ⟨rfl, dL_reason_19⟩) (by decide) dL_reason_21 (by decide) dL_reason_22 hR hS c1)
        · rw [if_neg hk1] at hk
          exact absurd hk failO_e
    · intro r hs h
      refine WG_st (st' := .int r :: [.int (0 : Int32), va_rf out]) rfl ?_
      refine q_i2l C dL_reason_10 ?_
      refine q_last C dL_reason_11 h (fun hs h => ?_)
      refine q_goto C 23 dL_reason_12 (by decide) ?_
      refine q_iconst C (0 : Int32) dL_reason_23 (by decide) ?_
      exact q_wret C hr hlk (Nat.le_of_ble_eq_true rfl) (Nat.le_of_ble_eq_true rfl) dL_reason_24 h
  rw [lg_entry_eq]
  cases x <;> cases out <;> exact key _ _ _ hR va_S.rf ⟨lv_entry _ (n := 6) (Nat.le_of_ble_eq_true rfl), (c1_r (c1_i (c1_i (c1_i (c1_r c1_n)))))⟩
theorem ml_L_41 : Cond.methodLink RL 41 yX8_reasons ∈ Tg := Tg_of (i := 1055) (by decide +kernel) (by decide +kernel)
theorem lk_L_41 : Lk RL 41 yX8_reasons cX8_reasons 5 (some .int) 2 := ⟨ml_L_41, cd_X8_reasons, iw_X8, by decide +kernel⟩
theorem im_X8_reasons : Cond.instanceMethod yX8_reasons ∈ Tg := Tg_of (i := 1056) (by decide +kernel) (by decide +kernel)
theorem se_X8_X8_reasons : Cond.selects RX8 yX8_reasons yX8_reasons ∈ Tg := Tg_of (i := 1057) (by decide +kernel) (by decide +kernel)
theorem wc_L_x44 : Cond.classLink RL 44 "java/util/NoSuchElementException" ∈ Tg := Tg_of (i := 1054) (by decide +kernel) (by decide +kernel)
def f_L_reasons (x : Option Nat) (p1 : Int32) (p2 : Int32) (out : Option Nat) : OO Int32 := rcv x 11 fun a => call (f_X8_reasons a p1 p2) (fun (r : Int32) => stL out (0 : Int32) r.toInt64 (rtn (0 : Int32))) (fun k => (if k = 0 then rtn (1 : Int32) else (if k = 1 then rtn (2 : Int32) else (if k = 3 then rtn (3 : Int32) else failO))))
set_option maxRecDepth 100000 in
set_option maxHeartbeats 4000000 in
theorem m_L_reasons {G : GG} {l : Launch} {x : Option Nat} {p1 : Int32} {p2 : Int32} {out : Option Nat} {hs hs' : Hs} {kk : Int32} (h : f_L_reasons x p1 p2 out hs = some (.ok kk, hs')) : CTW G l yL_reasons cL_reasons 5 [(0, 10, 13, 28), (0, 10, 17, 13), (0, 10, 21, 44)] 10 388 3 18 [va_rf x, .int p1, .int p2, va_rf out] hs kk hs' := by
  refine vx_ofWH (cc := cL_reasons) (maxL := 5) (ret := (some .int)) (hh := [(0, 10, 13, 28), (0, 10, 17, 13), (0, 10, 21, 44)]) (by decide +kernel) rfl ?_
  intro p e s m args below meth c s₁ B hml hv
  obtain ⟨hav, hR, hKn⟩ := hv
  subst hav
  have hts := atoms_spec (ws := .codeWith yL_reasons cL_reasons 5 (some .int) [(0, 10, 13, 28), (0, 10, 17, 13), (0, 10, 21, 44)] :: Tg) B.pre
  have hT := vx_table (x := yL_reasons) B (hts _ List.mem_cons_self)
  have C : Cx G l p s m _ c RL cL_reasons 5 := ⟨B.exec, B.bytes, hml, findClass_of_methodNamed B.named, fun w hw => hts w (List.mem_cons_of_mem _ hw), hKn, fun q hq => Nat.le_trans hR.2.2.1 hq⟩
  have key : WG G p l e { frames := 10, cells := 3, slots := 18, locals := 388 } s m ([va_rf x, .int p1, .int p2, va_rf out] : List Value).toArray below meth c 5 0 0 (vx_MQ below (QcW G kk hs') XCW ([va_rf x, .int p1, .int p2, va_rf out] : List Value).toArray s 3 18 (gA G)) hs [(0, va_rf x), (1, .int p1), (2, .int p2), (3, va_rf out)] [] 0 := by
    unfold f_L_reasons at h
    have hr := B.returns
    have hlk := B.notSynchronized
    refine q_aload_n C 3 dL_reasons_0 rfl ?_
    refine q_iconst C (0 : Int32) dL_reasons_1 (by decide) ?_
    refine q_aload_n C 0 dL_reasons_2 rfl ?_
    refine q_iload_n C 1 dL_reasons_3 rfl ?_
    refine q_iload_n C 2 dL_reasons_4 rfl ?_
    refine q_callW C (CN := RX8) (T := TX8) (N := 10) (tv := tvI) [.int p1, .int p2] [.int (0 : Int32), va_rf out] (fun a0 o2 hs1 hm => m_X8_reasons hm) lk_L_41 im_X8_reasons se_X8_X8_reasons rfl ⟨(Nat.le_of_ble_eq_true rfl), (Nat.le_of_ble_eq_true rfl)⟩ ⟨(Nat.le_of_ble_eq_true rfl), (Nat.le_of_ble_eq_true rfl)⟩ rfl rfl (by simp only [List.map, cat_rf, cat_i, cat_a]; decide) dL_reasons_5 h ?_ ?_
    · intro k sz hs1 hk H locs ls ce q hR hS e1 e2 e3 c1
      by_cases hk0 : k = 0
      · subst hk0
        rw [if_pos rfl] at hk
        cases hk
        exact vx_catch (own := RL) (name := "java/lang/IndexOutOfBoundsException") (E := exN 0) C.2.2.2.1 [] ⟨0, 10, 13, 28⟩ [⟨0, 10, 17, 13⟩, ⟨0, 10, 21, 44⟩] (by rw [hT]; rfl) (fun z hz => nomatch hz) (by decide) (by decide) (C.2.2.2.2.1 _ wc_L_x28) (va_Nw.use rfl (C.kn.2.2.2.1 ("java/lang/IndexOutOfBoundsException", "java/lang/IndexOutOfBoundsException") (by decide +kernel))) e1 e2 e3 (q_hand C hr hlk (Nat.le_of_ble_eq_true rfl) (Nat.le_of_ble_eq_true rfl) (Or.inr ⟨rfl, dL_reasons_13⟩) (by decide) dL_reasons_15 (by decide) dL_reasons_16 hR hS c1)
      · rw [if_neg hk0] at hk
        by_cases hk1 : k = 1
        · subst hk1
          rw [if_pos rfl] at hk
          cases hk
          exact vx_catch (own := RL) (name := "java/lang/IllegalArgumentException") (E := exN 1) C.2.2.2.1 [⟨0, 10, 13, 28⟩] ⟨0, 10, 17, 13⟩ [⟨0, 10, 21, 44⟩] (by rw [hT]; rfl) (fun z hz => by
        simp only [List.mem_cons, List.not_mem_nil, or_false] at hz
        rcases hz with rfl
        · exact Or.inr ⟨by decide, "java/lang/IndexOutOfBoundsException", C.2.2.2.2.1 _ wc_L_x28, kn_nc C.kn ("java/lang/IllegalArgumentException", "java/lang/IndexOutOfBoundsException") (by decide +kernel)⟩) (by decide) (by decide) (C.2.2.2.2.1 _ wc_L_x13) (va_Nw.use rfl (C.kn.2.2.2.1 ("java/lang/IllegalArgumentException", "java/lang/IllegalArgumentException") (by decide +kernel))) e1 e2 e3 (q_hand C hr hlk (Nat.le_of_ble_eq_true rfl) (Nat.le_of_ble_eq_true rfl) (Or.inr ⟨rfl, dL_reasons_17⟩) (by decide) dL_reasons_19 (by decide) dL_reasons_20 hR hS c1)
        · rw [if_neg hk1] at hk
          by_cases hk2 : k = 3
          · subst hk2
            rw [if_pos rfl] at hk
            cases hk
            exact vx_catch (own := RL) (name := "java/util/NoSuchElementException") (E := exN 3) C.2.2.2.1 [⟨0, 10, 13, 28⟩, ⟨0, 10, 17, 13⟩] ⟨0, 10, 21, 44⟩ [] (by rw [hT]; rfl) (fun z hz => by
        simp only [List.mem_cons, List.not_mem_nil, or_false] at hz
        rcases hz with rfl | rfl
        · exact Or.inr ⟨by decide, "java/lang/IndexOutOfBoundsException", C.2.2.2.2.1 _ wc_L_x28, kn_nc C.kn ("java/util/NoSuchElementException", "java/lang/IndexOutOfBoundsException") (by decide +kernel)⟩
        · exact Or.inr ⟨by decide, "java/lang/IllegalArgumentException", C.2.2.2.2.1 _ wc_L_x13, kn_nc C.kn ("java/util/NoSuchElementException", "java/lang/IllegalArgumentException") (by decide +kernel)⟩) (by decide) (by decide) (C.2.2.2.2.1 _ wc_L_x44) (va_Nw.use rfl (C.kn.2.2.2.1 ("java/util/NoSuchElementException", "java/util/NoSuchElementException") (by decide +kernel))) e1 e2 e3 (q_hand C hr hlk (Nat.le_of_ble_eq_true rfl) (Nat.le_of_ble_eq_true rfl) (Or.inr ⟨rfl, dL_reasons_21⟩) (by decide) dL_reasons_23 (by decide) dL_reasons_24 hR hS c1)
          · rw [if_neg hk2] at hk
            exact absurd hk failO_e
    · intro r hs h
      refine WG_st (st' := .int r :: [.int (0 : Int32), va_rf out]) rfl ?_
      refine q_i2l C dL_reasons_8 ?_
      refine q_last C dL_reasons_9 h (fun hs h => ?_)
      refine q_goto C 25 dL_reasons_10 (by decide) ?_
      refine q_iconst C (0 : Int32) dL_reasons_25 (by decide) ?_
      exact q_wret C hr hlk (Nat.le_of_ble_eq_true rfl) (Nat.le_of_ble_eq_true rfl) dL_reasons_26 h
  rw [lg_entry_eq]
  cases x <;> cases out <;> exact key _ _ _ hR va_S.rf ⟨lv_entry _ (n := 5) (Nat.le_of_ble_eq_true rfl), (c1_r (c1_i (c1_i (c1_r c1_n))))⟩
theorem ml_L_46 : Cond.methodLink RL 46 yX8_place ∈ Tg := Tg_of (i := 1092) (by decide +kernel) (by decide +kernel)
theorem lk_L_46 : Lk RL 46 yX8_place cX8_place 6 (some .int) 3 := ⟨ml_L_46, cd_X8_place, iw_X8, by decide +kernel⟩
theorem im_X8_place : Cond.instanceMethod yX8_place ∈ Tg := Tg_of (i := 1093) (by decide +kernel) (by decide +kernel)
theorem se_X8_X8_place : Cond.selects RX8 yX8_place yX8_place ∈ Tg := Tg_of (i := 1094) (by decide +kernel) (by decide +kernel)
theorem wc_L_x49 : Cond.classLink RL 49 "java/lang/UnsupportedOperationException" ∈ Tg := Tg_of (i := 1091) (by decide +kernel) (by decide +kernel)
def f_L_place (x : Option Nat) (p1 : Int32) (p2 : Int32) (p3 : Int32) (out : Option Nat) : OO Int32 := rcv x 11 fun a => call (f_X8_place a p1 p2 p3) (fun (r : Int32) => stL out (0 : Int32) r.toInt64 (rtn (0 : Int32))) (fun k => (if k = 0 then rtn (1 : Int32) else (if k = 1 then rtn (2 : Int32) else (if k = 2 then rtn (3 : Int32) else (if k = 4 then rtn (4 : Int32) else failO)))))
set_option maxRecDepth 100000 in
set_option maxHeartbeats 4000000 in
theorem m_L_place {G : GG} {l : Launch} {x : Option Nat} {p1 : Int32} {p2 : Int32} {p3 : Int32} {out : Option Nat} {hs hs' : Hs} {kk : Int32} (h : f_L_place x p1 p2 p3 out hs = some (.ok kk, hs')) : CTW G l yL_place cL_place 6 [(0, 12, 15, 28), (0, 12, 19, 13), (0, 12, 23, 15), (0, 12, 27, 49)] 11 412 5 30 [va_rf x, .int p1, .int p2, .int p3, va_rf out] hs kk hs' := by
  refine vx_ofWH (cc := cL_place) (maxL := 6) (ret := (some .int)) (hh := [(0, 12, 15, 28), (0, 12, 19, 13), (0, 12, 23, 15), (0, 12, 27, 49)]) (by decide +kernel) rfl ?_
  intro p e s m args below meth c s₁ B hml hv
  obtain ⟨hav, hR, hKn⟩ := hv
  subst hav
  have hts := atoms_spec (ws := .codeWith yL_place cL_place 6 (some .int) [(0, 12, 15, 28), (0, 12, 19, 13), (0, 12, 23, 15), (0, 12, 27, 49)] :: Tg) B.pre
  have hT := vx_table (x := yL_place) B (hts _ List.mem_cons_self)
  have C : Cx G l p s m _ c RL cL_place 6 := ⟨B.exec, B.bytes, hml, findClass_of_methodNamed B.named, fun w hw => hts w (List.mem_cons_of_mem _ hw), hKn, fun q hq => Nat.le_trans hR.2.2.1 hq⟩
  have key : WG G p l e { frames := 11, cells := 5, slots := 30, locals := 412 } s m ([va_rf x, .int p1, .int p2, .int p3, va_rf out] : List Value).toArray below meth c 6 0 0 (vx_MQ below (QcW G kk hs') XCW ([va_rf x, .int p1, .int p2, .int p3, va_rf out] : List Value).toArray s 5 30 (gA G)) hs [(0, va_rf x), (1, .int p1), (2, .int p2), (3, .int p3), (4, va_rf out)] [] 0 := by
    unfold f_L_place at h
    have hr := B.returns
    have hlk := B.notSynchronized
    refine q_aload C 4 dL_place_0 rfl ?_
    refine q_iconst C (0 : Int32) dL_place_2 (by decide) ?_
    refine q_aload_n C 0 dL_place_3 rfl ?_
    refine q_iload_n C 1 dL_place_4 rfl ?_
    refine q_iload_n C 2 dL_place_5 rfl ?_
    refine q_iload_n C 3 dL_place_6 rfl ?_
    refine q_callW C (CN := RX8) (T := TX8) (N := 10) (tv := tvI) [.int p1, .int p2, .int p3] [.int (0 : Int32), va_rf out] (fun a0 o2 hs1 hm => m_X8_place hm) lk_L_46 im_X8_place se_X8_X8_place rfl ⟨(Nat.le_of_ble_eq_true rfl), (Nat.le_of_ble_eq_true rfl)⟩ ⟨(Nat.le_of_ble_eq_true rfl), (Nat.le_of_ble_eq_true rfl)⟩ rfl rfl (by simp only [List.map, cat_rf, cat_i, cat_a]; decide) dL_place_7 h ?_ ?_
    · intro k sz hs1 hk H locs ls ce q hR hS e1 e2 e3 c1
      by_cases hk0 : k = 0
      · subst hk0
        rw [if_pos rfl] at hk
        cases hk
        exact vx_catch (own := RL) (name := "java/lang/IndexOutOfBoundsException") (E := exN 0) C.2.2.2.1 [] ⟨0, 12, 15, 28⟩ [⟨0, 12, 19, 13⟩, ⟨0, 12, 23, 15⟩, ⟨0, 12, 27, 49⟩] (by rw [hT]; rfl) (fun z hz => nomatch hz) (by decide) (by decide) (C.2.2.2.2.1 _ wc_L_x28) (va_Nw.use rfl (C.kn.2.2.2.1 ("java/lang/IndexOutOfBoundsException", "java/lang/IndexOutOfBoundsException") (by decide +kernel))) e1 e2 e3 (q_hand C hr hlk (Nat.le_of_ble_eq_true rfl) (Nat.le_of_ble_eq_true rfl) (Or.inr ⟨rfl, dL_place_15⟩) (by decide) dL_place_17 (by decide) dL_place_18 hR hS c1)
      · rw [if_neg hk0] at hk
        by_cases hk1 : k = 1
        · subst hk1
          rw [if_pos rfl] at hk
          cases hk
          exact vx_catch (own := RL) (name := "java/lang/IllegalArgumentException") (E := exN 1) C.2.2.2.1 [⟨0, 12, 15, 28⟩] ⟨0, 12, 19, 13⟩ [⟨0, 12, 23, 15⟩, ⟨0, 12, 27, 49⟩] (by rw [hT]; rfl) (fun z hz => by
        simp only [List.mem_cons, List.not_mem_nil, or_false] at hz
        rcases hz with rfl
        · exact Or.inr ⟨by decide, "java/lang/IndexOutOfBoundsException", C.2.2.2.2.1 _ wc_L_x28, kn_nc C.kn ("java/lang/IllegalArgumentException", "java/lang/IndexOutOfBoundsException") (by decide +kernel)⟩) (by decide) (by decide) (C.2.2.2.2.1 _ wc_L_x13) (va_Nw.use rfl (C.kn.2.2.2.1 ("java/lang/IllegalArgumentException", "java/lang/IllegalArgumentException") (by decide +kernel))) e1 e2 e3 (q_hand C hr hlk (Nat.le_of_ble_eq_true rfl) (Nat.le_of_ble_eq_true rfl) (Or.inr ⟨rfl, dL_place_19⟩) (by decide) dL_place_21 (by decide) dL_place_22 hR hS c1)
        · rw [if_neg hk1] at hk
          by_cases hk2 : k = 2
          · subst hk2
            rw [if_pos rfl] at hk
            cases hk
            exact vx_catch (own := RL) (name := "java/lang/IllegalStateException") (E := exN 2) C.2.2.2.1 [⟨0, 12, 15, 28⟩, ⟨0, 12, 19, 13⟩] ⟨0, 12, 23, 15⟩ [⟨0, 12, 27, 49⟩] (by rw [hT]; rfl) (fun z hz => by
        simp only [List.mem_cons, List.not_mem_nil, or_false] at hz
        rcases hz with rfl | rfl
        · exact Or.inr ⟨by decide, "java/lang/IndexOutOfBoundsException", C.2.2.2.2.1 _ wc_L_x28, kn_nc C.kn ("java/lang/IllegalStateException", "java/lang/IndexOutOfBoundsException") (by decide +kernel)⟩
        · exact Or.inr ⟨by decide, "java/lang/IllegalArgumentException", C.2.2.2.2.1 _ wc_L_x13, kn_nc C.kn ("java/lang/IllegalStateException", "java/lang/IllegalArgumentException") (by decide +kernel)⟩) (by decide) (by decide) (C.2.2.2.2.1 _ wc_L_x15) (va_Nw.use rfl (C.kn.2.2.2.1 ("java/lang/IllegalStateException", "java/lang/IllegalStateException") (by decide +kernel))) e1 e2 e3 (q_hand C hr hlk (Nat.le_of_ble_eq_true rfl) (Nat.le_of_ble_eq_true rfl) (Or.inr ⟨rfl, dL_place_23⟩) (by decide) dL_place_25 (by decide) dL_place_26 hR hS c1)
          · rw [if_neg hk2] at hk
            by_cases hk3 : k = 4
            · subst hk3
              rw [if_pos rfl] at hk
              cases hk
              exact vx_catch (own := RL) (name := "java/lang/UnsupportedOperationException") (E := exN 4) C.2.2.2.1 [⟨0, 12, 15, 28⟩, ⟨0, 12, 19, 13⟩, ⟨0, 12, 23, 15⟩] ⟨0, 12, 27, 49⟩ [] (by rw [hT]; rfl) (fun z hz => by
        simp only [List.mem_cons, List.not_mem_nil, or_false] at hz
        rcases hz with rfl | rfl | rfl
        · exact Or.inr ⟨by decide, "java/lang/IndexOutOfBoundsException", C.2.2.2.2.1 _ wc_L_x28, kn_nc C.kn ("java/lang/UnsupportedOperationException", "java/lang/IndexOutOfBoundsException") (by decide +kernel)⟩
        · exact Or.inr ⟨by decide, "java/lang/IllegalArgumentException", C.2.2.2.2.1 _ wc_L_x13, kn_nc C.kn ("java/lang/UnsupportedOperationException", "java/lang/IllegalArgumentException") (by decide +kernel)⟩
        · exact Or.inr ⟨by decide, "java/lang/IllegalStateException", C.2.2.2.2.1 _ wc_L_x15, kn_nc C.kn ("java/lang/UnsupportedOperationException", "java/lang/IllegalStateException") (by decide +kernel)⟩) (by decide) (by decide) (C.2.2.2.2.1 _ wc_L_x49) (va_Nw.use rfl (C.kn.2.2.2.1 ("java/lang/UnsupportedOperationException", "java/lang/UnsupportedOperationException") (by decide +kernel))) e1 e2 e3 (q_hand C hr hlk (Nat.le_of_ble_eq_true rfl) (Nat.le_of_ble_eq_true rfl) (Or.inr ⟨rfl, dL_place_27⟩) (by decide) dL_place_29 (by decide) dL_place_30 hR hS c1)
            · rw [if_neg hk3] at hk
              exact absurd hk failO_e
    · intro r hs h
      refine WG_st (st' := .int r :: [.int (0 : Int32), va_rf out]) rfl ?_
      refine q_i2l C dL_place_10 ?_
      refine q_last C dL_place_11 h (fun hs h => ?_)
      refine q_goto C 31 dL_place_12 (by decide) ?_
      refine q_iconst C (0 : Int32) dL_place_31 (by decide) ?_
      exact q_wret C hr hlk (Nat.le_of_ble_eq_true rfl) (Nat.le_of_ble_eq_true rfl) dL_place_32 h
  rw [lg_entry_eq]
  cases x <;> cases out <;> exact key _ _ _ hR va_S.rf ⟨lv_entry _ (n := 6) (Nat.le_of_ble_eq_true rfl), (c1_r (c1_i (c1_i (c1_i (c1_r c1_n)))))⟩
theorem ml_L_51 : Cond.methodLink RL 51 yX8_remove ∈ Tg := Tg_of (i := 1129) (by decide +kernel) (by decide +kernel)
theorem lk_L_51 : Lk RL 51 yX8_remove cX8_remove 3 (some .int) 1 := ⟨ml_L_51, cd_X8_remove, iw_X8, by decide +kernel⟩
theorem im_X8_remove : Cond.instanceMethod yX8_remove ∈ Tg := Tg_of (i := 1130) (by decide +kernel) (by decide +kernel)
theorem se_X8_X8_remove : Cond.selects RX8 yX8_remove yX8_remove ∈ Tg := Tg_of (i := 1131) (by decide +kernel) (by decide +kernel)
def f_L_remove (x : Option Nat) (p1 : Int32) (out : Option Nat) : OO Int32 := rcv x 11 fun a => call (f_X8_remove a p1) (fun (r : Int32) => stL out (0 : Int32) r.toInt64 (rtn (0 : Int32))) (fun k => (if k = 0 then rtn (1 : Int32) else (if k = 2 then rtn (2 : Int32) else failO)))
set_option maxRecDepth 100000 in
set_option maxHeartbeats 4000000 in
theorem m_L_remove {G : GG} {l : Launch} {x : Option Nat} {p1 : Int32} {out : Option Nat} {hs hs' : Hs} {kk : Int32} (h : f_L_remove x p1 out hs = some (.ok kk, hs')) : CTW G l yL_remove cL_remove 4 [(0, 9, 12, 28), (0, 9, 15, 15)] 8 243 3 18 [va_rf x, .int p1, va_rf out] hs kk hs' := by
  refine vx_ofWH (cc := cL_remove) (maxL := 4) (ret := (some .int)) (hh := [(0, 9, 12, 28), (0, 9, 15, 15)]) (by decide +kernel) rfl ?_
  intro p e s m args below meth c s₁ B hml hv
  obtain ⟨hav, hR, hKn⟩ := hv
  subst hav
  have hts := atoms_spec (ws := .codeWith yL_remove cL_remove 4 (some .int) [(0, 9, 12, 28), (0, 9, 15, 15)] :: Tg) B.pre
  have hT := vx_table (x := yL_remove) B (hts _ List.mem_cons_self)
  have C : Cx G l p s m _ c RL cL_remove 4 := ⟨B.exec, B.bytes, hml, findClass_of_methodNamed B.named, fun w hw => hts w (List.mem_cons_of_mem _ hw), hKn, fun q hq => Nat.le_trans hR.2.2.1 hq⟩
  have key : WG G p l e { frames := 8, cells := 3, slots := 18, locals := 243 } s m ([va_rf x, .int p1, va_rf out] : List Value).toArray below meth c 4 0 0 (vx_MQ below (QcW G kk hs') XCW ([va_rf x, .int p1, va_rf out] : List Value).toArray s 3 18 (gA G)) hs [(0, va_rf x), (1, .int p1), (2, va_rf out)] [] 0 := by
    unfold f_L_remove at h
    have hr := B.returns
    have hlk := B.notSynchronized
    refine q_aload_n C 2 dL_remove_0 rfl ?_
    refine q_iconst C (0 : Int32) dL_remove_1 (by decide) ?_
    refine q_aload_n C 0 dL_remove_2 rfl ?_
    refine q_iload_n C 1 dL_remove_3 rfl ?_
    refine q_callW C (CN := RX8) (T := TX8) (N := 10) (tv := tvI) [.int p1] [.int (0 : Int32), va_rf out] (fun a0 o2 hs1 hm => m_X8_remove hm) lk_L_51 im_X8_remove se_X8_X8_remove rfl ⟨(Nat.le_of_ble_eq_true rfl), (Nat.le_of_ble_eq_true rfl)⟩ ⟨(Nat.le_of_ble_eq_true rfl), (Nat.le_of_ble_eq_true rfl)⟩ rfl rfl (by simp only [List.map, cat_rf, cat_i, cat_a]; decide) dL_remove_4 h ?_ ?_
    · intro k sz hs1 hk H locs ls ce q hR hS e1 e2 e3 c1
      by_cases hk0 : k = 0
      · subst hk0
        rw [if_pos rfl] at hk
        cases hk
        exact vx_catch (own := RL) (name := "java/lang/IndexOutOfBoundsException") (E := exN 0) C.2.2.2.1 [] ⟨0, 9, 12, 28⟩ [⟨0, 9, 15, 15⟩] (by rw [hT]; rfl) (fun z hz => nomatch hz) (by decide) (by decide) (C.2.2.2.2.1 _ wc_L_x28) (va_Nw.use rfl (C.kn.2.2.2.1 ("java/lang/IndexOutOfBoundsException", "java/lang/IndexOutOfBoundsException") (by decide +kernel))) e1 e2 e3 (q_hand C hr hlk (Nat.le_of_ble_eq_true rfl) (Nat.le_of_ble_eq_true rfl) (Or.inl ⟨_, rfl, rfl, dL_remove_12⟩) (by decide) dL_remove_13 (by decide) dL_remove_14 hR hS c1)
      · rw [if_neg hk0] at hk
        by_cases hk1 : k = 2
        · subst hk1
          rw [if_pos rfl] at hk
          cases hk
          exact vx_catch (own := RL) (name := "java/lang/IllegalStateException") (E := exN 2) C.2.2.2.1 [⟨0, 9, 12, 28⟩] ⟨0, 9, 15, 15⟩ [] (by rw [hT]; rfl) (fun z hz => by
        simp only [List.mem_cons, List.not_mem_nil, or_false] at hz
        rcases hz with rfl
        · exact Or.inr ⟨by decide, "java/lang/IndexOutOfBoundsException", C.2.2.2.2.1 _ wc_L_x28, kn_nc C.kn ("java/lang/IllegalStateException", "java/lang/IndexOutOfBoundsException") (by decide +kernel)⟩) (by decide) (by decide) (C.2.2.2.2.1 _ wc_L_x15) (va_Nw.use rfl (C.kn.2.2.2.1 ("java/lang/IllegalStateException", "java/lang/IllegalStateException") (by decide +kernel))) e1 e2 e3 (q_hand C hr hlk (Nat.le_of_ble_eq_true rfl) (Nat.le_of_ble_eq_true rfl) (Or.inl ⟨_, rfl, rfl, dL_remove_15⟩) (by decide) dL_remove_16 (by decide) dL_remove_17 hR hS c1)
        · rw [if_neg hk1] at hk
          exact absurd hk failO_e
    · intro r hs h
      refine WG_st (st' := .int r :: [.int (0 : Int32), va_rf out]) rfl ?_
      refine q_i2l C dL_remove_7 ?_
      refine q_last C dL_remove_8 h (fun hs h => ?_)
      refine q_goto C 18 dL_remove_9 (by decide) ?_
      refine q_iconst C (0 : Int32) dL_remove_18 (by decide) ?_
      exact q_wret C hr hlk (Nat.le_of_ble_eq_true rfl) (Nat.le_of_ble_eq_true rfl) dL_remove_19 h
  rw [lg_entry_eq]
  cases x <;> cases out <;> exact key _ _ _ hR va_S.rf ⟨lv_entry _ (n := 4) (Nat.le_of_ble_eq_true rfl), (c1_r (c1_i (c1_r c1_n)))⟩
theorem ml_L_54 : Cond.methodLink RL 54 yX8_lock ∈ Tg := Tg_of (i := 1141) (by decide +kernel) (by decide +kernel)
theorem lk_L_54 : Lk RL 54 yX8_lock cX8_lock 3 (some .int) 1 := ⟨ml_L_54, cd_X8_lock, iw_X8, by decide +kernel⟩
theorem im_X8_lock : Cond.instanceMethod yX8_lock ∈ Tg := Tg_of (i := 1142) (by decide +kernel) (by decide +kernel)
theorem se_X8_X8_lock : Cond.selects RX8 yX8_lock yX8_lock ∈ Tg := Tg_of (i := 1143) (by decide +kernel) (by decide +kernel)
def f_L_lock (x : Option Nat) (p1 : Int32) (out : Option Nat) : OO Int32 := rcv x 11 fun a => call (f_X8_lock a p1) (fun (r : Int32) => stL out (0 : Int32) r.toInt64 (rtn (0 : Int32))) (fun k => (if k = 0 then rtn (1 : Int32) else (if k = 2 then rtn (2 : Int32) else failO)))
set_option maxRecDepth 100000 in
set_option maxHeartbeats 4000000 in
theorem m_L_lock {G : GG} {l : Launch} {x : Option Nat} {p1 : Int32} {out : Option Nat} {hs hs' : Hs} {kk : Int32} (h : f_L_lock x p1 out hs = some (.ok kk, hs')) : CTW G l yL_lock cL_lock 4 [(0, 9, 12, 28), (0, 9, 15, 15)] 8 243 3 18 [va_rf x, .int p1, va_rf out] hs kk hs' := by
  refine vx_ofWH (cc := cL_lock) (maxL := 4) (ret := (some .int)) (hh := [(0, 9, 12, 28), (0, 9, 15, 15)]) (by decide +kernel) rfl ?_
  intro p e s m args below meth c s₁ B hml hv
  obtain ⟨hav, hR, hKn⟩ := hv
  subst hav
  have hts := atoms_spec (ws := .codeWith yL_lock cL_lock 4 (some .int) [(0, 9, 12, 28), (0, 9, 15, 15)] :: Tg) B.pre
  have hT := vx_table (x := yL_lock) B (hts _ List.mem_cons_self)
  have C : Cx G l p s m _ c RL cL_lock 4 := ⟨B.exec, B.bytes, hml, findClass_of_methodNamed B.named, fun w hw => hts w (List.mem_cons_of_mem _ hw), hKn, fun q hq => Nat.le_trans hR.2.2.1 hq⟩
  have key : WG G p l e { frames := 8, cells := 3, slots := 18, locals := 243 } s m ([va_rf x, .int p1, va_rf out] : List Value).toArray below meth c 4 0 0 (vx_MQ below (QcW G kk hs') XCW ([va_rf x, .int p1, va_rf out] : List Value).toArray s 3 18 (gA G)) hs [(0, va_rf x), (1, .int p1), (2, va_rf out)] [] 0 := by
    unfold f_L_lock at h
    have hr := B.returns
    have hlk := B.notSynchronized
    refine q_aload_n C 2 dL_lock_0 rfl ?_
    refine q_iconst C (0 : Int32) dL_lock_1 (by decide) ?_
    refine q_aload_n C 0 dL_lock_2 rfl ?_
    refine q_iload_n C 1 dL_lock_3 rfl ?_
    refine q_callW C (CN := RX8) (T := TX8) (N := 10) (tv := tvI) [.int p1] [.int (0 : Int32), va_rf out] (fun a0 o2 hs1 hm => m_X8_lock hm) lk_L_54 im_X8_lock se_X8_X8_lock rfl ⟨(Nat.le_of_ble_eq_true rfl), (Nat.le_of_ble_eq_true rfl)⟩ ⟨(Nat.le_of_ble_eq_true rfl), (Nat.le_of_ble_eq_true rfl)⟩ rfl rfl (by simp only [List.map, cat_rf, cat_i, cat_a]; decide) dL_lock_4 h ?_ ?_
    · intro k sz hs1 hk H locs ls ce q hR hS e1 e2 e3 c1
      by_cases hk0 : k = 0
      · subst hk0
        rw [if_pos rfl] at hk
        cases hk
        exact vx_catch (own := RL) (name := "java/lang/IndexOutOfBoundsException") (E := exN 0) C.2.2.2.1 [] ⟨0, 9, 12, 28⟩ [⟨0, 9, 15, 15⟩] (by rw [hT]; rfl) (fun z hz => nomatch hz) (by decide) (by decide) (C.2.2.2.2.1 _ wc_L_x28) (va_Nw.use rfl (C.kn.2.2.2.1 ("java/lang/IndexOutOfBoundsException", "java/lang/IndexOutOfBoundsException") (by decide +kernel))) e1 e2 e3 (q_hand C hr hlk (Nat.le_of_ble_eq_true rfl) (Nat.le_of_ble_eq_true rfl) (Or.inl ⟨_, rfl, rfl, dL_lock_12⟩) (by decide) dL_lock_13 (by decide) dL_lock_14 hR hS c1)
      · rw [if_neg hk0] at hk
        by_cases hk1 : k = 2
        · subst hk1
          rw [if_pos rfl] at hk
          cases hk
          exact vx_catch (own := RL) (name := "java/lang/IllegalStateException") (E := exN 2) C.2.2.2.1 [⟨0, 9, 12, 28⟩] ⟨0, 9, 15, 15⟩ [] (by rw [hT]; rfl) (fun z hz => by
        simp only [List.mem_cons, List.not_mem_nil, or_false] at hz
        rcases hz with rfl
        · exact Or.inr ⟨by decide, "java/lang/IndexOutOfBoundsException", C.2.2.2.2.1 _ wc_L_x28, kn_nc C.kn ("java/lang/IllegalStateException", "java/lang/IndexOutOfBoundsException") (by decide +kernel)⟩) (by decide) (by decide) (C.2.2.2.2.1 _ wc_L_x15) (va_Nw.use rfl (C.kn.2.2.2.1 ("java/lang/IllegalStateException", "java/lang/IllegalStateException") (by decide +kernel))) e1 e2 e3 (q_hand C hr hlk (Nat.le_of_ble_eq_true rfl) (Nat.le_of_ble_eq_true rfl) (Or.inl ⟨_, rfl, rfl, dL_lock_15⟩) (by decide) dL_lock_16 (by decide) dL_lock_17 hR hS c1)
        · rw [if_neg hk1] at hk
          exact absurd hk failO_e
    · intro r hs h
      refine WG_st (st' := .int r :: [.int (0 : Int32), va_rf out]) rfl ?_
      refine q_i2l C dL_lock_7 ?_
      refine q_last C dL_lock_8 h (fun hs h => ?_)
      refine q_goto C 18 dL_lock_9 (by decide) ?_
      refine q_iconst C (0 : Int32) dL_lock_18 (by decide) ?_
      exact q_wret C hr hlk (Nat.le_of_ble_eq_true rfl) (Nat.le_of_ble_eq_true rfl) dL_lock_19 h
  rw [lg_entry_eq]
  cases x <;> cases out <;> exact key _ _ _ hR va_S.rf ⟨lv_entry _ (n := 4) (Nat.le_of_ble_eq_true rfl), (c1_r (c1_i (c1_r c1_n)))⟩
theorem ml_L_57 : Cond.methodLink RL 57 yX8_unlock ∈ Tg := Tg_of (i := 1152) (by decide +kernel) (by decide +kernel)
theorem lk_L_57 : Lk RL 57 yX8_unlock cX8_unlock 3 (some .int) 1 := ⟨ml_L_57, cd_X8_unlock, iw_X8, by decide +kernel⟩
theorem im_X8_unlock : Cond.instanceMethod yX8_unlock ∈ Tg := Tg_of (i := 1153) (by decide +kernel) (by decide +kernel)
theorem se_X8_X8_unlock : Cond.selects RX8 yX8_unlock yX8_unlock ∈ Tg := Tg_of (i := 1154) (by decide +kernel) (by decide +kernel)
def f_L_unlock (x : Option Nat) (p1 : Int32) (out : Option Nat) : OO Int32 := rcv x 11 fun a => call (f_X8_unlock a p1) (fun (r : Int32) => stL out (0 : Int32) r.toInt64 (rtn (0 : Int32))) (fun k => (if k = 0 then rtn (1 : Int32) else (if k = 2 then rtn (2 : Int32) else failO)))
set_option maxRecDepth 100000 in
set_option maxHeartbeats 4000000 in
theorem m_L_unlock {G : GG} {l : Launch} {x : Option Nat} {p1 : Int32} {out : Option Nat} {hs hs' : Hs} {kk : Int32} (h : f_L_unlock x p1 out hs = some (.ok kk, hs')) : CTW G l yL_unlock cL_unlock 4 [(0, 9, 12, 28), (0, 9, 15, 15)] 8 243 2 12 [va_rf x, .int p1, va_rf out] hs kk hs' := by
  refine vx_ofWH (cc := cL_unlock) (maxL := 4) (ret := (some .int)) (hh := [(0, 9, 12, 28), (0, 9, 15, 15)]) (by decide +kernel) rfl ?_
  intro p e s m args below meth c s₁ B hml hv
  obtain ⟨hav, hR, hKn⟩ := hv
  subst hav
  have hts := atoms_spec (ws := .codeWith yL_unlock cL_unlock 4 (some .int) [(0, 9, 12, 28), (0, 9, 15, 15)] :: Tg) B.pre
  have hT := vx_table (x := yL_unlock) B (hts _ List.mem_cons_self)
  have C : Cx G l p s m _ c RL cL_unlock 4 := ⟨B.exec, B.bytes, hml, findClass_of_methodNamed B.named, fun w hw => hts w (List.mem_cons_of_mem _ hw), hKn, fun q hq => Nat.le_trans hR.2.2.1 hq⟩
  have key : WG G p l e { frames := 8, cells := 2, slots := 12, locals := 243 } s m ([va_rf x, .int p1, va_rf out] : List Value).toArray below meth c 4 0 0 (vx_MQ below (QcW G kk hs') XCW ([va_rf x, .int p1, va_rf out] : List Value).toArray s 2 12 (gA G)) hs [(0, va_rf x), (1, .int p1), (2, va_rf out)] [] 0 := by
    unfold f_L_unlock at h
    have hr := B.returns
    have hlk := B.notSynchronized
    refine q_aload_n C 2 dL_unlock_0 rfl ?_
    refine q_iconst C (0 : Int32) dL_unlock_1 (by decide) ?_
    refine q_aload_n C 0 dL_unlock_2 rfl ?_
    refine q_iload_n C 1 dL_unlock_3 rfl ?_
    refine q_callW C (CN := RX8) (T := TX8) (N := 10) (tv := tvI) [.int p1] [.int (0 : Int32), va_rf out] (fun a0 o2 hs1 hm => m_X8_unlock hm) lk_L_57 im_X8_unlock se_X8_X8_unlock rfl ⟨(Nat.le_of_ble_eq_true rfl), (Nat.le_of_ble_eq_true rfl)⟩ ⟨(Nat.le_of_ble_eq_true rfl), (Nat.le_of_ble_eq_true rfl)⟩ rfl rfl (by simp only [List.map, cat_rf, cat_i, cat_a]; decide) dL_unlock_4 h ?_ ?_
    · intro k sz hs1 hk H locs ls ce q hR hS e1 e2 e3 c1
      by_cases hk0 : k = 0
      · subst hk0
        rw [if_pos rfl] at hk
        cases hk
        exact vx_catch (own := RL) (name := "java/lang/IndexOutOfBoundsException") (E := exN 0) C.2.2.2.1 [] ⟨0, 9, 12, 28⟩ [⟨0, 9, 15, 15⟩] (by rw [hT]; rfl) (fun z hz => nomatch hz) (by decide) (by decide) (C.2.2.2.2.1 _ wc_L_x28) (va_Nw.use rfl (C.kn.2.2.2.1 ("java/lang/IndexOutOfBoundsException", "java/lang/IndexOutOfBoundsException") (by decide +kernel))) e1 e2 e3 (q_hand C hr hlk (Nat.le_of_ble_eq_true rfl) (Nat.le_of_ble_eq_true rfl) (Or.inl ⟨_, rfl, rfl, dL_unlock_12⟩) (by decide) dL_unlock_13 (by decide) dL_unlock_14 hR hS c1)
      · rw [if_neg hk0] at hk
        by_cases hk1 : k = 2
        · subst hk1
          rw [if_pos rfl] at hk
          cases hk
          exact vx_catch (own := RL) (name := "java/lang/IllegalStateException") (E := exN 2) C.2.2.2.1 [⟨0, 9, 12, 28⟩] ⟨0, 9, 15, 15⟩ [] (by rw [hT]; rfl) (fun z hz => by
        simp only [List.mem_cons, List.not_mem_nil, or_false] at hz
        rcases hz with rfl
        · exact Or.inr ⟨by decide, "java/lang/IndexOutOfBoundsException", C.2.2.2.2.1 _ wc_L_x28, kn_nc C.kn ("java/lang/IllegalStateException", "java/lang/IndexOutOfBoundsException") (by decide +kernel)⟩) (by decide) (by decide) (C.2.2.2.2.1 _ wc_L_x15) (va_Nw.use rfl (C.kn.2.2.2.1 ("java/lang/IllegalStateException", "java/lang/IllegalStateException") (by decide +kernel))) e1 e2 e3 (q_hand C hr hlk (Nat.le_of_ble_eq_true rfl) (Nat.le_of_ble_eq_true rfl) (Or.inl ⟨_, rfl, rfl, dL_unlock_15⟩) (by decide) dL_unlock_16 (by decide) dL_unlock_17 hR hS c1)
        · rw [if_neg hk1] at hk
          exact absurd hk failO_e
    · intro r hs h
      refine WG_st (st' := .int r :: [.int (0 : Int32), va_rf out]) rfl ?_
      refine q_i2l C dL_unlock_7 ?_
      refine q_last C dL_unlock_8 h (fun hs h => ?_)
      refine q_goto C 18 dL_unlock_9 (by decide) ?_
      refine q_iconst C (0 : Int32) dL_unlock_18 (by decide) ?_
      exact q_wret C hr hlk (Nat.le_of_ble_eq_true rfl) (Nat.le_of_ble_eq_true rfl) dL_unlock_19 h
  rw [lg_entry_eq]
  cases x <;> cases out <;> exact key _ _ _ hR va_S.rf ⟨lv_entry _ (n := 4) (Nat.le_of_ble_eq_true rfl), (c1_r (c1_i (c1_r c1_n)))⟩
theorem ml_L_60 : Cond.methodLink RL 60 yX8_isLocked ∈ Tg := Tg_of (i := 1160) (by decide +kernel) (by decide +kernel)
theorem lk_L_60 : Lk RL 60 yX8_isLocked cX8_isLocked 2 (some .boolean) 1 := ⟨ml_L_60, cd_X8_isLocked, iw_X8, by decide +kernel⟩
theorem im_X8_isLocked : Cond.instanceMethod yX8_isLocked ∈ Tg := Tg_of (i := 1161) (by decide +kernel) (by decide +kernel)
theorem se_X8_X8_isLocked : Cond.selects RX8 yX8_isLocked yX8_isLocked ∈ Tg := Tg_of (i := 1162) (by decide +kernel) (by decide +kernel)
def f_L_isLocked (x : Option Nat) (p1 : Int32) (out : Option Nat) : OO Int32 := rcv x 11 fun a => call (f_X8_isLocked a p1) (fun (r : Int32) => (if r = 0 then stL out (0 : Int32) (0 : Int64) (rtn (0 : Int32)) else stL out (0 : Int32) (1 : Int64) (rtn (0 : Int32)))) (fun k => (if k = 0 then rtn (1 : Int32) else failO))
set_option maxRecDepth 100000 in
set_option maxHeartbeats 4000000 in
theorem m_L_isLocked {G : GG} {l : Launch} {x : Option Nat} {p1 : Int32} {out : Option Nat} {hs hs' : Hs} {kk : Int32} (h : f_L_isLocked x p1 out hs = some (.ok kk, hs')) : CTW G l yL_isLocked cL_isLocked 4 [(0, 16, 19, 28)] 8 242 1 6 [va_rf x, .int p1, va_rf out] hs kk hs' := by
  refine vx_ofWH (cc := cL_isLocked) (maxL := 4) (ret := (some .int)) (hh := [(0, 16, 19, 28)]) (by decide +kernel) rfl ?_
  intro p e s m args below meth c s₁ B hml hv
  obtain ⟨hav, hR, hKn⟩ := hv
  subst hav
  have hts := atoms_spec (ws := .codeWith yL_isLocked cL_isLocked 4 (some .int) [(0, 16, 19, 28)] :: Tg) B.pre
  have hT := vx_table (x := yL_isLocked) B (hts _ List.mem_cons_self)
  have C : Cx G l p s m _ c RL cL_isLocked 4 := ⟨B.exec, B.bytes, hml, findClass_of_methodNamed B.named, fun w hw => hts w (List.mem_cons_of_mem _ hw), hKn, fun q hq => Nat.le_trans hR.2.2.1 hq⟩
  have key : WG G p l e { frames := 8, cells := 1, slots := 6, locals := 242 } s m ([va_rf x, .int p1, va_rf out] : List Value).toArray below meth c 4 0 0 (vx_MQ below (QcW G kk hs') XCW ([va_rf x, .int p1, va_rf out] : List Value).toArray s 1 6 (gA G)) hs [(0, va_rf x), (1, .int p1), (2, va_rf out)] [] 0 := by
    unfold f_L_isLocked at h
    have hr := B.returns
    have hlk := B.notSynchronized
    refine q_aload_n C 2 dL_isLocked_0 rfl ?_
    refine q_iconst C (0 : Int32) dL_isLocked_1 (by decide) ?_
    refine q_aload_n C 0 dL_isLocked_2 rfl ?_
    refine q_iload_n C 1 dL_isLocked_3 rfl ?_
    refine q_callW C (CN := RX8) (T := TX8) (N := 10) (tv := tvI) [.int p1] [.int (0 : Int32), va_rf out] (fun a0 o2 hs1 hm => m_X8_isLocked hm) lk_L_60 im_X8_isLocked se_X8_X8_isLocked rfl ⟨(Nat.le_of_ble_eq_true rfl), (Nat.le_of_ble_eq_true rfl)⟩ ⟨(Nat.le_of_ble_eq_true rfl), (Nat.le_of_ble_eq_true rfl)⟩ rfl rfl (by simp only [List.map, cat_rf, cat_i, cat_a]; decide) dL_isLocked_4 h ?_ ?_
    · intro k sz hs1 hk H locs ls ce q hR hS e1 e2 e3 c1
      by_cases hk0 : k = 0
      · subst hk0
        rw [if_pos rfl] at hk
        cases hk
        exact vx_catch (own := RL) (name := "java/lang/IndexOutOfBoundsException") (E := exN 0) C.2.2.2.1 [] ⟨0, 16, 19, 28⟩ [] (by rw [hT]; rfl) (fun z hz => nomatch hz) (by decide) (by decide) (C.2.2.2.2.1 _ wc_L_x28) (va_Nw.use rfl (C.kn.2.2.2.1 ("java/lang/IndexOutOfBoundsException", "java/lang/IndexOutOfBoundsException") (by decide +kernel))) e1 e2 e3 (q_hand C hr hlk (Nat.le_of_ble_eq_true rfl) (Nat.le_of_ble_eq_true rfl) (Or.inl ⟨_, rfl, rfl, dL_isLocked_19⟩) (by decide) dL_isLocked_20 (by decide) dL_isLocked_21 hR hS c1)
      · rw [if_neg hk0] at hk
        exact absurd hk failO_e
    · intro r hs h
      refine WG_st (st' := .int r :: [.int (0 : Int32), va_rf out]) rfl ?_
      refine q_if_eq C 14 dL_isLocked_7 (by decide) h (fun h => ?_) (fun h => ?_)
      · refine q_lconst C (0 : Int64) dL_isLocked_14 (by decide) ?_
        refine q_last C dL_isLocked_15 h (fun hs h => ?_)
        refine q_goto C 22 dL_isLocked_16 (by decide) ?_
        refine q_iconst C (0 : Int32) dL_isLocked_22 (by decide) ?_
        exact q_wret C hr hlk (Nat.le_of_ble_eq_true rfl) (Nat.le_of_ble_eq_true rfl) dL_isLocked_23 h
      · refine q_lconst C (1 : Int64) dL_isLocked_10 (by decide) ?_
        refine q_goto C 15 dL_isLocked_11 (by decide) ?_
        refine q_last C dL_isLocked_15 h (fun hs h => ?_)
        refine q_goto C 22 dL_isLocked_16 (by decide) ?_
        refine q_iconst C (0 : Int32) dL_isLocked_22 (by decide) ?_
        exact q_wret C hr hlk (Nat.le_of_ble_eq_true rfl) (Nat.le_of_ble_eq_true rfl) dL_isLocked_23 h
  rw [lg_entry_eq]
  cases x <;> cases out <;> exact key _ _ _ hR va_S.rf ⟨lv_entry _ (n := 4) (Nat.le_of_ble_eq_true rfl), (c1_r (c1_i (c1_r c1_n)))⟩
theorem ml_L_64 : Cond.methodLink RL 64 yX8_placeOf ∈ Tg := Tg_of (i := 1167) (by decide +kernel) (by decide +kernel)
theorem lk_L_64 : Lk RL 64 yX8_placeOf cX8_placeOf 3 (some .int) 1 := ⟨ml_L_64, cd_X8_placeOf, iw_X8, by decide +kernel⟩
theorem im_X8_placeOf : Cond.instanceMethod yX8_placeOf ∈ Tg := Tg_of (i := 1168) (by decide +kernel) (by decide +kernel)
theorem se_X8_X8_placeOf : Cond.selects RX8 yX8_placeOf yX8_placeOf ∈ Tg := Tg_of (i := 1169) (by decide +kernel) (by decide +kernel)
def f_L_placeOf (x : Option Nat) (p1 : Int32) (out : Option Nat) : OO Int32 := rcv x 11 fun a => call (f_X8_placeOf a p1) (fun (r : Int32) => stL out (0 : Int32) r.toInt64 (rtn (0 : Int32))) (fun k => (if k = 0 then rtn (1 : Int32) else (if k = 3 then rtn (2 : Int32) else failO)))
set_option maxRecDepth 100000 in
set_option maxHeartbeats 4000000 in
theorem m_L_placeOf {G : GG} {l : Launch} {x : Option Nat} {p1 : Int32} {out : Option Nat} {hs hs' : Hs} {kk : Int32} (h : f_L_placeOf x p1 out hs = some (.ok kk, hs')) : CTW G l yL_placeOf cL_placeOf 4 [(0, 9, 12, 28), (0, 9, 15, 44)] 8 243 2 12 [va_rf x, .int p1, va_rf out] hs kk hs' := by
  refine vx_ofWH (cc := cL_placeOf) (maxL := 4) (ret := (some .int)) (hh := [(0, 9, 12, 28), (0, 9, 15, 44)]) (by decide +kernel) rfl ?_
  intro p e s m args below meth c s₁ B hml hv
  obtain ⟨hav, hR, hKn⟩ := hv
  subst hav
  have hts := atoms_spec (ws := .codeWith yL_placeOf cL_placeOf 4 (some .int) [(0, 9, 12, 28), (0, 9, 15, 44)] :: Tg) B.pre
  have hT := vx_table (x := yL_placeOf) B (hts _ List.mem_cons_self)
  have C : Cx G l p s m _ c RL cL_placeOf 4 := ⟨B.exec, B.bytes, hml, findClass_of_methodNamed B.named, fun w hw => hts w (List.mem_cons_of_mem _ hw), hKn, fun q hq => Nat.le_trans hR.2.2.1 hq⟩
  have key : WG G p l e { frames := 8, cells := 2, slots := 12, locals := 243 } s m ([va_rf x, .int p1, va_rf out] : List Value).toArray below meth c 4 0 0 (vx_MQ below (QcW G kk hs') XCW ([va_rf x, .int p1, va_rf out] : List Value).toArray s 2 12 (gA G)) hs [(0, va_rf x), (1, .int p1), (2, va_rf out)] [] 0 := by
    unfold f_L_placeOf at h
    have hr := B.returns
    have hlk := B.notSynchronized
    refine q_aload_n C 2 dL_placeOf_0 rfl ?_
    refine q_iconst C (0 : Int32) dL_placeOf_1 (by decide) ?_
    refine q_aload_n C 0 dL_placeOf_2 rfl ?_
    refine q_iload_n C 1 dL_placeOf_3 rfl ?_
    refine q_callW C (CN := RX8) (T := TX8) (N := 10) (tv := tvI) [.int p1] [.int (0 : Int32), va_rf out] (fun a0 o2 hs1 hm => m_X8_placeOf hm) lk_L_64 im_X8_placeOf se_X8_X8_placeOf rfl ⟨(Nat.le_of_ble_eq_true rfl), (Nat.le_of_ble_eq_true rfl)⟩ ⟨(Nat.le_of_ble_eq_true rfl), (Nat.le_of_ble_eq_true rfl)⟩ rfl rfl (by simp only [List.map, cat_rf, cat_i, cat_a]; decide) dL_placeOf_4 h ?_ ?_
    · intro k sz hs1 hk H locs ls ce q hR hS e1 e2 e3 c1
      by_cases hk0 : k = 0
      · subst hk0
        rw [if_pos rfl] at hk
        cases hk
        exact vx_catch (own := RL) (name := "java/lang/IndexOutOfBoundsException") (E := exN 0) C.2.2.2.1 [] ⟨0, 9, 12, 28⟩ [⟨0, 9, 15, 44⟩] (by rw [hT]; rfl) (fun z hz => nomatch hz) (by decide) (by decide) (C.2.2.2.2.1 _ wc_L_x28) (va_Nw.use rfl (C.kn.2.2.2.1 ("java/lang/IndexOutOfBoundsException", "java/lang/IndexOutOfBoundsException") (by decide +kernel))) e1 e2 e3 (q_hand C hr hlk (Nat.le_of_ble_eq_true rfl) (Nat.le_of_ble_eq_true rfl) (Or.inl ⟨_, rfl, rfl, dL_placeOf_12⟩) (by decide) dL_placeOf_13 (by decide) dL_placeOf_14 hR hS c1)
      · rw [if_neg hk0] at hk
        by_cases hk1 : k = 3
        · subst hk1
          rw [if_pos rfl] at hk
          cases hk
          exact vx_catch (own := RL) (name := "java/util/NoSuchElementException") (E := exN 3) C.2.2.2.1 [⟨0, 9, 12, 28⟩] ⟨0, 9, 15, 44⟩ [] (by rw [hT]; rfl) (fun z hz => by
        simp only [List.mem_cons, List.not_mem_nil, or_false] at hz
        rcases hz with rfl
        · exact Or.inr ⟨by decide, "java/lang/IndexOutOfBoundsException", C.2.2.2.2.1 _ wc_L_x28, kn_nc C.kn ("java/util/NoSuchElementException", "java/lang/IndexOutOfBoundsException") (by decide +kernel)⟩) (by decide) (by decide) (C.2.2.2.2.1 _ wc_L_x44) (va_Nw.use rfl (C.kn.2.2.2.1 ("java/util/NoSuchElementException", "java/util/NoSuchElementException") (by decide +kernel))) e1 e2 e3 (q_hand C hr hlk (Nat.le_of_ble_eq_true rfl) (Nat.le_of_ble_eq_true rfl) (Or.inl ⟨_, rfl, rfl, dL_placeOf_15⟩) (by decide) dL_placeOf_16 (by decide) dL_placeOf_17 hR hS c1)
        · rw [if_neg hk1] at hk
          exact absurd hk failO_e
    · intro r hs h
      refine WG_st (st' := .int r :: [.int (0 : Int32), va_rf out]) rfl ?_
      refine q_i2l C dL_placeOf_7 ?_
      refine q_last C dL_placeOf_8 h (fun hs h => ?_)
      refine q_goto C 18 dL_placeOf_9 (by decide) ?_
      refine q_iconst C (0 : Int32) dL_placeOf_18 (by decide) ?_
      exact q_wret C hr hlk (Nat.le_of_ble_eq_true rfl) (Nat.le_of_ble_eq_true rfl) dL_placeOf_19 h
  rw [lg_entry_eq]
  cases x <;> cases out <;> exact key _ _ _ hR va_S.rf ⟨lv_entry _ (n := 4) (Nat.le_of_ble_eq_true rfl), (c1_r (c1_i (c1_r c1_n)))⟩
theorem ml_L_67 : Cond.methodLink RL 67 yX8_groupAt ∈ Tg := Tg_of (i := 1178) (by decide +kernel) (by decide +kernel)
theorem lk_L_67 : Lk RL 67 yX8_groupAt cX8_groupAt 6 (some .int) 2 := ⟨ml_L_67, cd_X8_groupAt, iw_X8, by decide +kernel⟩
theorem im_X8_groupAt : Cond.instanceMethod yX8_groupAt ∈ Tg := Tg_of (i := 1179) (by decide +kernel) (by decide +kernel)
theorem se_X8_X8_groupAt : Cond.selects RX8 yX8_groupAt yX8_groupAt ∈ Tg := Tg_of (i := 1180) (by decide +kernel) (by decide +kernel)
def f_L_groupAt (x : Option Nat) (p1 : Int32) (p2 : Int32) (out : Option Nat) : OO Int32 := rcv x 11 fun a => call (f_X8_groupAt a p1 p2) (fun (r : Int32) => stL out (0 : Int32) r.toInt64 (rtn (0 : Int32))) (fun k => (if k = 0 then rtn (1 : Int32) else (if k = 1 then rtn (2 : Int32) else (if k = 3 then rtn (3 : Int32) else failO))))
set_option maxRecDepth 100000 in
set_option maxHeartbeats 4000000 in
theorem m_L_groupAt {G : GG} {l : Launch} {x : Option Nat} {p1 : Int32} {p2 : Int32} {out : Option Nat} {hs hs' : Hs} {kk : Int32} (h : f_L_groupAt x p1 p2 out hs = some (.ok kk, hs')) : CTW G l yL_groupAt cL_groupAt 5 [(0, 10, 13, 28), (0, 10, 17, 13), (0, 10, 21, 44)] 8 246 3 18 [va_rf x, .int p1, .int p2, va_rf out] hs kk hs' := by
  refine vx_ofWH (cc := cL_groupAt) (maxL := 5) (ret := (some .int)) (hh := [(0, 10, 13, 28), (0, 10, 17, 13), (0, 10, 21, 44)]) (by decide +kernel) rfl ?_
  intro p e s m args below meth c s₁ B hml hv
  obtain ⟨hav, hR, hKn⟩ := hv
  subst hav
  have hts := atoms_spec (ws := .codeWith yL_groupAt cL_groupAt 5 (some .int) [(0, 10, 13, 28), (0, 10, 17, 13), (0, 10, 21, 44)] :: Tg) B.pre
  have hT := vx_table (x := yL_groupAt) B (hts _ List.mem_cons_self)
  have C : Cx G l p s m _ c RL cL_groupAt 5 := ⟨B.exec, B.bytes, hml, findClass_of_methodNamed B.named, fun w hw => hts w (List.mem_cons_of_mem _ hw), hKn, fun q hq => Nat.le_trans hR.2.2.1 hq⟩
  have key : WG G p l e { frames := 8, cells := 3, slots := 18, locals := 246 } s m ([va_rf x, .int p1, .int p2, va_rf out] : List Value).toArray below meth c 5 0 0 (vx_MQ below (QcW G kk hs') XCW ([va_rf x, .int p1, .int p2, va_rf out] : List Value).toArray s 3 18 (gA G)) hs [(0, va_rf x), (1, .int p1), (2, .int p2), (3, va_rf out)] [] 0 := by
    unfold f_L_groupAt at h
    have hr := B.returns
    have hlk := B.notSynchronized
    refine q_aload_n C 3 dL_groupAt_0 rfl ?_
    refine q_iconst C (0 : Int32) dL_groupAt_1 (by decide) ?_
    refine q_aload_n C 0 dL_groupAt_2 rfl ?_
    refine q_iload_n C 1 dL_groupAt_3 rfl ?_
    refine q_iload_n C 2 dL_groupAt_4 rfl ?_
    refine q_callW C (CN := RX8) (T := TX8) (N := 10) (tv := tvI) [.int p1, .int p2] [.int (0 : Int32), va_rf out] (fun a0 o2 hs1 hm => m_X8_groupAt hm) lk_L_67 im_X8_groupAt se_X8_X8_groupAt rfl ⟨(Nat.le_of_ble_eq_true rfl), (Nat.le_of_ble_eq_true rfl)⟩ ⟨(Nat.le_of_ble_eq_true rfl), (Nat.le_of_ble_eq_true rfl)⟩ rfl rfl (by simp only [List.map, cat_rf, cat_i, cat_a]; decide) dL_groupAt_5 h ?_ ?_
    · intro k sz hs1 hk H locs ls ce q hR hS e1 e2 e3 c1
      by_cases hk0 : k = 0
      · subst hk0
        rw [if_pos rfl] at hk
        cases hk
        exact vx_catch (own := RL) (name := "java/lang/IndexOutOfBoundsException") (E := exN 0) C.2.2.2.1 [] ⟨0, 10, 13, 28⟩ [⟨0, 10, 17, 13⟩, ⟨0, 10, 21, 44⟩] (by rw [hT]; rfl) (fun z hz => nomatch hz) (by decide) (by decide) (C.2.2.2.2.1 _ wc_L_x28) (va_Nw.use rfl (C.kn.2.2.2.1 ("java/lang/IndexOutOfBoundsException", "java/lang/IndexOutOfBoundsException") (by decide +kernel))) e1 e2 e3 (q_hand C hr hlk (Nat.le_of_ble_eq_true rfl) (Nat.le_of_ble_eq_true rfl) (Or.inr ⟨rfl, dL_groupAt_13⟩) (by decide) dL_groupAt_15 (by decide) dL_groupAt_16 hR hS c1)
      · rw [if_neg hk0] at hk
        by_cases hk1 : k = 1
        · subst hk1
          rw [if_pos rfl] at hk
          cases hk
          exact vx_catch (own := RL) (name := "java/lang/IllegalArgumentException") (E := exN 1) C.2.2.2.1 [⟨0, 10, 13, 28⟩] ⟨0, 10, 17, 13⟩ [⟨0, 10, 21, 44⟩] (by rw [hT]; rfl) (fun z hz => by
        simp only [List.mem_cons, List.not_mem_nil, or_false] at hz
        rcases hz with rfl
        · exact Or.inr ⟨by decide, "java/lang/IndexOutOfBoundsException", C.2.2.2.2.1 _ wc_L_x28, kn_nc C.kn ("java/lang/IllegalArgumentException", "java/lang/IndexOutOfBoundsException") (by decide +kernel)⟩) (by decide) (by decide) (C.2.2.2.2.1 _ wc_L_x13) (va_Nw.use rfl (C.kn.2.2.2.1 ("java/lang/IllegalArgumentException", "java/lang/IllegalArgumentException") (by decide +kernel))) e1 e2 e3 (q_hand C hr hlk (Nat.le_of_ble_eq_true rfl) (Nat.le_of_ble_eq_true rfl) (Or.inr ⟨rfl, dL_groupAt_17⟩) (by decide) dL_groupAt_19 (by decide) dL_groupAt_20 hR hS c1)
        · rw [if_neg hk1] at hk
          by_cases hk2 : k = 3
          · subst hk2
            rw [if_pos rfl] at hk
            cases hk
            exact vx_catch (own := RL) (name := "java/util/NoSuchElementException") (E := exN 3) C.2.2.2.1 [⟨0, 10, 13, 28⟩, ⟨0, 10, 17, 13⟩] ⟨0, 10, 21, 44⟩ [] (by rw [hT]; rfl) (fun z hz => by
        simp only [List.mem_cons, List.not_mem_nil, or_false] at hz
        rcases hz with rfl | rfl
        · exact Or.inr ⟨by decide, "java/lang/IndexOutOfBoundsException", C.2.2.2.2.1 _ wc_L_x28, kn_nc C.kn ("java/util/NoSuchElementException", "java/lang/IndexOutOfBoundsException") (by decide +kernel)⟩
        · exact Or.inr ⟨by decide, "java/lang/IllegalArgumentException", C.2.2.2.2.1 _ wc_L_x13, kn_nc C.kn ("java/util/NoSuchElementException", "java/lang/IllegalArgumentException") (by decide +kernel)⟩) (by decide) (by decide) (C.2.2.2.2.1 _ wc_L_x44) (va_Nw.use rfl (C.kn.2.2.2.1 ("java/util/NoSuchElementException", "java/util/NoSuchElementException") (by decide +kernel))) e1 e2 e3 (q_hand C hr hlk (Nat.le_of_ble_eq_true rfl) (Nat.le_of_ble_eq_true rfl) (Or.inr ⟨rfl, dL_groupAt_21⟩) (by decide) dL_groupAt_23 (by decide) dL_groupAt_24 hR hS c1)
          · rw [if_neg hk2] at hk
            exact absurd hk failO_e
    · intro r hs h
      refine WG_st (st' := .int r :: [.int (0 : Int32), va_rf out]) rfl ?_
      refine q_i2l C dL_groupAt_8 ?_
      refine q_last C dL_groupAt_9 h (fun hs h => ?_)
      refine q_goto C 25 dL_groupAt_10 (by decide) ?_
      refine q_iconst C (0 : Int32) dL_groupAt_25 (by decide) ?_
      exact q_wret C hr hlk (Nat.le_of_ble_eq_true rfl) (Nat.le_of_ble_eq_true rfl) dL_groupAt_26 h
  rw [lg_entry_eq]
  cases x <;> cases out <;> exact key _ _ _ hR va_S.rf ⟨lv_entry _ (n := 5) (Nat.le_of_ble_eq_true rfl), (c1_r (c1_i (c1_i (c1_r c1_n))))⟩
theorem ml_L_70 : Cond.methodLink RL 70 yX8_teacherAt ∈ Tg := Tg_of (i := 1187) (by decide +kernel) (by decide +kernel)
theorem lk_L_70 : Lk RL 70 yX8_teacherAt cX8_teacherAt 6 (some .int) 2 := ⟨ml_L_70, cd_X8_teacherAt, iw_X8, by decide +kernel⟩
theorem im_X8_teacherAt : Cond.instanceMethod yX8_teacherAt ∈ Tg := Tg_of (i := 1188) (by decide +kernel) (by decide +kernel)
theorem se_X8_X8_teacherAt : Cond.selects RX8 yX8_teacherAt yX8_teacherAt ∈ Tg := Tg_of (i := 1189) (by decide +kernel) (by decide +kernel)
def f_L_teacherAt (x : Option Nat) (p1 : Int32) (p2 : Int32) (out : Option Nat) : OO Int32 := rcv x 11 fun a => call (f_X8_teacherAt a p1 p2) (fun (r : Int32) => stL out (0 : Int32) r.toInt64 (rtn (0 : Int32))) (fun k => (if k = 0 then rtn (1 : Int32) else (if k = 1 then rtn (2 : Int32) else (if k = 3 then rtn (3 : Int32) else failO))))
set_option maxRecDepth 100000 in
set_option maxHeartbeats 4000000 in
theorem m_L_teacherAt {G : GG} {l : Launch} {x : Option Nat} {p1 : Int32} {p2 : Int32} {out : Option Nat} {hs hs' : Hs} {kk : Int32} (h : f_L_teacherAt x p1 p2 out hs = some (.ok kk, hs')) : CTW G l yL_teacherAt cL_teacherAt 5 [(0, 10, 13, 28), (0, 10, 17, 13), (0, 10, 21, 44)] 8 246 3 18 [va_rf x, .int p1, .int p2, va_rf out] hs kk hs' := by
  refine vx_ofWH (cc := cL_teacherAt) (maxL := 5) (ret := (some .int)) (hh := [(0, 10, 13, 28), (0, 10, 17, 13), (0, 10, 21, 44)]) (by decide +kernel) rfl ?_
  intro p e s m args below meth c s₁ B hml hv
  obtain ⟨hav, hR, hKn⟩ := hv
  subst hav
  have hts := atoms_spec (ws := .codeWith yL_teacherAt cL_teacherAt 5 (some .int) [(0, 10, 13, 28), (0, 10, 17, 13), (0, 10, 21, 44)] :: Tg) B.pre
  have hT := vx_table (x := yL_teacherAt) B (hts _ List.mem_cons_self)
  have C : Cx G l p s m _ c RL cL_teacherAt 5 := ⟨B.exec, B.bytes, hml, findClass_of_methodNamed B.named, fun w hw => hts w (List.mem_cons_of_mem _ hw), hKn, fun q hq => Nat.le_trans hR.2.2.1 hq⟩
  have key : WG G p l e { frames := 8, cells := 3, slots := 18, locals := 246 } s m ([va_rf x, .int p1, .int p2, va_rf out] : List Value).toArray below meth c 5 0 0 (vx_MQ below (QcW G kk hs') XCW ([va_rf x, .int p1, .int p2, va_rf out] : List Value).toArray s 3 18 (gA G)) hs [(0, va_rf x), (1, .int p1), (2, .int p2), (3, va_rf out)] [] 0 := by
    unfold f_L_teacherAt at h
    have hr := B.returns
    have hlk := B.notSynchronized
    refine q_aload_n C 3 dL_teacherAt_0 rfl ?_
    refine q_iconst C (0 : Int32) dL_teacherAt_1 (by decide) ?_
    refine q_aload_n C 0 dL_teacherAt_2 rfl ?_
    refine q_iload_n C 1 dL_teacherAt_3 rfl ?_
    refine q_iload_n C 2 dL_teacherAt_4 rfl ?_
    refine q_callW C (CN := RX8) (T := TX8) (N := 10) (tv := tvI) [.int p1, .int p2] [.int (0 : Int32), va_rf out] (fun a0 o2 hs1 hm => m_X8_teacherAt hm) lk_L_70 im_X8_teacherAt se_X8_X8_teacherAt rfl ⟨(Nat.le_of_ble_eq_true rfl), (Nat.le_of_ble_eq_true rfl)⟩ ⟨(Nat.le_of_ble_eq_true rfl), (Nat.le_of_ble_eq_true rfl)⟩ rfl rfl (by simp only [List.map, cat_rf, cat_i, cat_a]; decide) dL_teacherAt_5 h ?_ ?_
    · intro k sz hs1 hk H locs ls ce q hR hS e1 e2 e3 c1
      by_cases hk0 : k = 0
      · subst hk0
        rw [if_pos rfl] at hk
        cases hk
        exact vx_catch (own := RL) (name := "java/lang/IndexOutOfBoundsException") (E := exN 0) C.2.2.2.1 [] ⟨0, 10, 13, 28⟩ [⟨0, 10, 17, 13⟩, ⟨0, 10, 21, 44⟩] (by rw [hT]; rfl) (fun z hz => nomatch hz) (by decide) (by decide) (C.2.2.2.2.1 _ wc_L_x28) (va_Nw.use rfl (C.kn.2.2.2.1 ("java/lang/IndexOutOfBoundsException", "java/lang/IndexOutOfBoundsException") (by decide +kernel))) e1 e2 e3 (q_hand C hr hlk (Nat.le_of_ble_eq_true rfl) (Nat.le_of_ble_eq_true rfl) (Or.inr ⟨rfl, dL_teacherAt_13⟩) (by decide) dL_teacherAt_15 (by decide) dL_teacherAt_16 hR hS c1)
      · rw [if_neg hk0] at hk
        by_cases hk1 : k = 1
        · subst hk1
          rw [if_pos rfl] at hk
          cases hk
          exact vx_catch (own := RL) (name := "java/lang/IllegalArgumentException") (E := exN 1) C.2.2.2.1 [⟨0, 10, 13, 28⟩] ⟨0, 10, 17, 13⟩ [⟨0, 10, 21, 44⟩] (by rw [hT]; rfl) (fun z hz => by
        simp only [List.mem_cons, List.not_mem_nil, or_false] at hz
        rcases hz with rfl
        · exact Or.inr ⟨by decide, "java/lang/IndexOutOfBoundsException", C.2.2.2.2.1 _ wc_L_x28, kn_nc C.kn ("java/lang/IllegalArgumentException", "java/lang/IndexOutOfBoundsException") (by decide +kernel)⟩) (by decide) (by decide) (C.2.2.2.2.1 _ wc_L_x13) (va_Nw.use rfl (C.kn.2.2.2.1 ("java/lang/IllegalArgumentException", "java/lang/IllegalArgumentException") (by decide +kernel))) e1 e2 e3 (q_hand C hr hlk (Nat.le_of_ble_eq_true rfl) (Nat.le_of_ble_eq_true rfl) (Or.inr ⟨rfl, dL_teacherAt_17⟩) (by decide) dL_teacherAt_19 (by decide) dL_teacherAt_20 hR hS c1)
        · rw [if_neg hk1] at hk
          by_cases hk2 : k = 3
          · subst hk2
            rw [if_pos rfl] at hk
            cases hk
            exact vx_catch (own := RL) (name := "java/util/NoSuchElementException") (E := exN 3) C.2.2.2.1 [⟨0, 10, 13, 28⟩, ⟨0, 10, 17, 13⟩] ⟨0, 10, 21, 44⟩ [] (by rw [hT]; rfl) (fun z hz => by
        simp only [List.mem_cons, List.not_mem_nil, or_false] at hz
        rcases hz with rfl | rfl
        · exact Or.inr ⟨by decide, "java/lang/IndexOutOfBoundsException", C.2.2.2.2.1 _ wc_L_x28, kn_nc C.kn ("java/util/NoSuchElementException", "java/lang/IndexOutOfBoundsException") (by decide +kernel)⟩
        · exact Or.inr ⟨by decide, "java/lang/IllegalArgumentException", C.2.2.2.2.1 _ wc_L_x13, kn_nc C.kn ("java/util/NoSuchElementException", "java/lang/IllegalArgumentException") (by decide +kernel)⟩) (by decide) (by decide) (C.2.2.2.2.1 _ wc_L_x44) (va_Nw.use rfl (C.kn.2.2.2.1 ("java/util/NoSuchElementException", "java/util/NoSuchElementException") (by decide +kernel))) e1 e2 e3 (q_hand C hr hlk (Nat.le_of_ble_eq_true rfl) (Nat.le_of_ble_eq_true rfl) (Or.inr ⟨rfl, dL_teacherAt_21⟩) (by decide) dL_teacherAt_23 (by decide) dL_teacherAt_24 hR hS c1)
          · rw [if_neg hk2] at hk
            exact absurd hk failO_e
    · intro r hs h
      refine WG_st (st' := .int r :: [.int (0 : Int32), va_rf out]) rfl ?_
      refine q_i2l C dL_teacherAt_8 ?_
      refine q_last C dL_teacherAt_9 h (fun hs h => ?_)
      refine q_goto C 25 dL_teacherAt_10 (by decide) ?_
      refine q_iconst C (0 : Int32) dL_teacherAt_25 (by decide) ?_
      exact q_wret C hr hlk (Nat.le_of_ble_eq_true rfl) (Nat.le_of_ble_eq_true rfl) dL_teacherAt_26 h
  rw [lg_entry_eq]
  cases x <;> cases out <;> exact key _ _ _ hR va_S.rf ⟨lv_entry _ (n := 5) (Nat.le_of_ble_eq_true rfl), (c1_r (c1_i (c1_i (c1_r c1_n))))⟩
theorem ml_L_73 : Cond.methodLink RL 73 yX8_possible ∈ Tg := Tg_of (i := 1195) (by decide +kernel) (by decide +kernel)
theorem lk_L_73 : Lk RL 73 yX8_possible cX8_possible 2 (some .int) 1 := ⟨ml_L_73, cd_X8_possible, iw_X8, by decide +kernel⟩
theorem im_X8_possible : Cond.instanceMethod yX8_possible ∈ Tg := Tg_of (i := 1196) (by decide +kernel) (by decide +kernel)
theorem se_X8_X8_possible : Cond.selects RX8 yX8_possible yX8_possible ∈ Tg := Tg_of (i := 1197) (by decide +kernel) (by decide +kernel)
def f_L_possible (x : Option Nat) (p1 : Int32) (out : Option Nat) : OO Int32 := rcv x 11 fun a => call (f_X8_possible a p1) (fun (r : Int32) => stL out (0 : Int32) r.toInt64 (rtn (0 : Int32))) (fun k => (if k = 0 then rtn (1 : Int32) else failO))
set_option maxRecDepth 100000 in
set_option maxHeartbeats 4000000 in
theorem m_L_possible {G : GG} {l : Launch} {x : Option Nat} {p1 : Int32} {out : Option Nat} {hs hs' : Hs} {kk : Int32} (h : f_L_possible x p1 out hs = some (.ok kk, hs')) : CTW G l yL_possible cL_possible 4 [(0, 9, 12, 28)] 12 426 1 6 [va_rf x, .int p1, va_rf out] hs kk hs' := by
  refine vx_ofWH (cc := cL_possible) (maxL := 4) (ret := (some .int)) (hh := [(0, 9, 12, 28)]) (by decide +kernel) rfl ?_
  intro p e s m args below meth c s₁ B hml hv
  obtain ⟨hav, hR, hKn⟩ := hv
  subst hav
  have hts := atoms_spec (ws := .codeWith yL_possible cL_possible 4 (some .int) [(0, 9, 12, 28)] :: Tg) B.pre
  have hT := vx_table (x := yL_possible) B (hts _ List.mem_cons_self)
  have C : Cx G l p s m _ c RL cL_possible 4 := ⟨B.exec, B.bytes, hml, findClass_of_methodNamed B.named, fun w hw => hts w (List.mem_cons_of_mem _ hw), hKn, fun q hq => Nat.le_trans hR.2.2.1 hq⟩
  have key : WG G p l e { frames := 12, cells := 1, slots := 6, locals := 426 } s m ([va_rf x, .int p1, va_rf out] : List Value).toArray below meth c 4 0 0 (vx_MQ below (QcW G kk hs') XCW ([va_rf x, .int p1, va_rf out] : List Value).toArray s 1 6 (gA G)) hs [(0, va_rf x), (1, .int p1), (2, va_rf out)] [] 0 := by
    unfold f_L_possible at h
    have hr := B.returns
    have hlk := B.notSynchronized
    refine q_aload_n C 2 dL_possible_0 rfl ?_
    refine q_iconst C (0 : Int32) dL_possible_1 (by decide) ?_
    refine q_aload_n C 0 dL_possible_2 rfl ?_
    refine q_iload_n C 1 dL_possible_3 rfl ?_
    refine q_callW C (CN := RX8) (T := TX8) (N := 10) (tv := tvI) [.int p1] [.int (0 : Int32), va_rf out] (fun a0 o2 hs1 hm => m_X8_possible hm) lk_L_73 im_X8_possible se_X8_X8_possible rfl ⟨(Nat.le_of_ble_eq_true rfl), (Nat.le_of_ble_eq_true rfl)⟩ ⟨(Nat.le_of_ble_eq_true rfl), (Nat.le_of_ble_eq_true rfl)⟩ rfl rfl (by simp only [List.map, cat_rf, cat_i, cat_a]; decide) dL_possible_4 h ?_ ?_
    · intro k sz hs1 hk H locs ls ce q hR hS e1 e2 e3 c1
      by_cases hk0 : k = 0
      · subst hk0
        rw [if_pos rfl] at hk
        cases hk
        exact vx_catch (own := RL) (name := "java/lang/IndexOutOfBoundsException") (E := exN 0) C.2.2.2.1 [] ⟨0, 9, 12, 28⟩ [] (by rw [hT]; rfl) (fun z hz => nomatch hz) (by decide) (by decide) (C.2.2.2.2.1 _ wc_L_x28) (va_Nw.use rfl (C.kn.2.2.2.1 ("java/lang/IndexOutOfBoundsException", "java/lang/IndexOutOfBoundsException") (by decide +kernel))) e1 e2 e3 (q_hand C hr hlk (Nat.le_of_ble_eq_true rfl) (Nat.le_of_ble_eq_true rfl) (Or.inl ⟨_, rfl, rfl, dL_possible_12⟩) (by decide) dL_possible_13 (by decide) dL_possible_14 hR hS c1)
      · rw [if_neg hk0] at hk
        exact absurd hk failO_e
    · intro r hs h
      refine WG_st (st' := .int r :: [.int (0 : Int32), va_rf out]) rfl ?_
      refine q_i2l C dL_possible_7 ?_
      refine q_last C dL_possible_8 h (fun hs h => ?_)
      refine q_goto C 15 dL_possible_9 (by decide) ?_
      refine q_iconst C (0 : Int32) dL_possible_15 (by decide) ?_
      exact q_wret C hr hlk (Nat.le_of_ble_eq_true rfl) (Nat.le_of_ble_eq_true rfl) dL_possible_16 h
  rw [lg_entry_eq]
  cases x <;> cases out <;> exact key _ _ _ hR va_S.rf ⟨lv_entry _ (n := 4) (Nat.le_of_ble_eq_true rfl), (c1_r (c1_i (c1_r c1_n)))⟩
theorem ml_L_76 : Cond.methodLink RL 76 yX8_possibleAt ∈ Tg := Tg_of (i := 1203) (by decide +kernel) (by decide +kernel)
theorem lk_L_76 : Lk RL 76 yX8_possibleAt cX8_possibleAt 4 (some .int) 2 := ⟨ml_L_76, cd_X8_possibleAt, iw_X8, by decide +kernel⟩
theorem im_X8_possibleAt : Cond.instanceMethod yX8_possibleAt ∈ Tg := Tg_of (i := 1204) (by decide +kernel) (by decide +kernel)
theorem se_X8_X8_possibleAt : Cond.selects RX8 yX8_possibleAt yX8_possibleAt ∈ Tg := Tg_of (i := 1205) (by decide +kernel) (by decide +kernel)
def f_L_possibleAt (x : Option Nat) (p1 : Int32) (p2 : Int32) (out : Option Nat) : OO Int32 := rcv x 11 fun a => call (f_X8_possibleAt a p1 p2) (fun (r : Int32) => stL out (0 : Int32) r.toInt64 (rtn (0 : Int32))) (fun k => (if k = 0 then rtn (1 : Int32) else (if k = 3 then rtn (2 : Int32) else failO)))
set_option maxRecDepth 100000 in
set_option maxHeartbeats 4000000 in
theorem m_L_possibleAt {G : GG} {l : Launch} {x : Option Nat} {p1 : Int32} {p2 : Int32} {out : Option Nat} {hs hs' : Hs} {kk : Int32} (h : f_L_possibleAt x p1 p2 out hs = some (.ok kk, hs')) : CTW G l yL_possibleAt cL_possibleAt 5 [(0, 10, 13, 28), (0, 10, 17, 44)] 12 431 2 12 [va_rf x, .int p1, .int p2, va_rf out] hs kk hs' := by
  refine vx_ofWH (cc := cL_possibleAt) (maxL := 5) (ret := (some .int)) (hh := [(0, 10, 13, 28), (0, 10, 17, 44)]) (by decide +kernel) rfl ?_
  intro p e s m args below meth c s₁ B hml hv
  obtain ⟨hav, hR, hKn⟩ := hv
  subst hav
  have hts := atoms_spec (ws := .codeWith yL_possibleAt cL_possibleAt 5 (some .int) [(0, 10, 13, 28), (0, 10, 17, 44)] :: Tg) B.pre
  have hT := vx_table (x := yL_possibleAt) B (hts _ List.mem_cons_self)
  have C : Cx G l p s m _ c RL cL_possibleAt 5 := ⟨B.exec, B.bytes, hml, findClass_of_methodNamed B.named, fun w hw => hts w (List.mem_cons_of_mem _ hw), hKn, fun q hq => Nat.le_trans hR.2.2.1 hq⟩
  have key : WG G p l e { frames := 12, cells := 2, slots := 12, locals := 431 } s m ([va_rf x, .int p1, .int p2, va_rf out] : List Value).toArray below meth c 5 0 0 (vx_MQ below (QcW G kk hs') XCW ([va_rf x, .int p1, .int p2, va_rf out] : List Value).toArray s 2 12 (gA G)) hs [(0, va_rf x), (1, .int p1), (2, .int p2), (3, va_rf out)] [] 0 := by
    unfold f_L_possibleAt at h
    have hr := B.returns
    have hlk := B.notSynchronized
    refine q_aload_n C 3 dL_possibleAt_0 rfl ?_
    refine q_iconst C (0 : Int32) dL_possibleAt_1 (by decide) ?_
    refine q_aload_n C 0 dL_possibleAt_2 rfl ?_
    refine q_iload_n C 1 dL_possibleAt_3 rfl ?_
    refine q_iload_n C 2 dL_possibleAt_4 rfl ?_
    refine q_callW C (CN := RX8) (T := TX8) (N := 10) (tv := tvI) [.int p1, .int p2] [.int (0 : Int32), va_rf out] (fun a0 o2 hs1 hm => m_X8_possibleAt hm) lk_L_76 im_X8_possibleAt se_X8_X8_possibleAt rfl ⟨(Nat.le_of_ble_eq_true rfl), (Nat.le_of_ble_eq_true rfl)⟩ ⟨(Nat.le_of_ble_eq_true rfl), (Nat.le_of_ble_eq_true rfl)⟩ rfl rfl (by simp only [List.map, cat_rf, cat_i, cat_a]; decide) dL_possibleAt_5 h ?_ ?_
    · intro k sz hs1 hk H locs ls ce q hR hS e1 e2 e3 c1
      by_cases hk0 : k = 0
      · subst hk0
        rw [if_pos rfl] at hk
        cases hk
        exact vx_catch (own := RL) (name := "java/lang/IndexOutOfBoundsException") (E := exN 0) C.2.2.2.1 [] ⟨0, 10, 13, 28⟩ [⟨0, 10, 17, 44⟩] (by rw [hT]; rfl) (fun z hz => nomatch hz) (by decide) (by decide) (C.2.2.2.2.1 _ wc_L_x28) (va_Nw.use rfl (C.kn.2.2.2.1 ("java/lang/IndexOutOfBoundsException", "java/lang/IndexOutOfBoundsException") (by decide +kernel))) e1 e2 e3 (q_hand C hr hlk (Nat.le_of_ble_eq_true rfl) (Nat.le_of_ble_eq_true rfl) (Or.inr ⟨rfl, dL_possibleAt_13⟩) (by decide) dL_possibleAt_15 (by decide) dL_possibleAt_16 hR hS c1)
      · rw [if_neg hk0] at hk
        by_cases hk1 : k = 3
        · subst hk1
          rw [if_pos rfl] at hk
          cases hk
          exact vx_catch (own := RL) (name := "java/util/NoSuchElementException") (E := exN 3) C.2.2.2.1 [⟨0, 10, 13, 28⟩] ⟨0, 10, 17, 44⟩ [] (by rw [hT]; rfl) (fun z hz => by
        simp only [List.mem_cons, List.not_mem_nil, or_false] at hz
        rcases hz with rfl
        · exact Or.inr ⟨by decide, "java/lang/IndexOutOfBoundsException", C.2.2.2.2.1 _ wc_L_x28, kn_nc C.kn ("java/util/NoSuchElementException", "java/lang/IndexOutOfBoundsException") (by decide +kernel)⟩) (by decide) (by decide) (C.2.2.2.2.1 _ wc_L_x44) (va_Nw.use rfl (C.kn.2.2.2.1 ("java/util/NoSuchElementException", "java/util/NoSuchElementException") (by decide +kernel))) e1 e2 e3 (q_hand C hr hlk (Nat.le_of_ble_eq_true rfl) (Nat.le_of_ble_eq_true rfl) (Or.inr ⟨rfl, dL_possibleAt_17⟩) (by decide) dL_possibleAt_19 (by decide) dL_possibleAt_20 hR hS c1)
        · rw [if_neg hk1] at hk
          exact absurd hk failO_e
    · intro r hs h
      refine WG_st (st' := .int r :: [.int (0 : Int32), va_rf out]) rfl ?_
      refine q_i2l C dL_possibleAt_8 ?_
      refine q_last C dL_possibleAt_9 h (fun hs h => ?_)
      refine q_goto C 21 dL_possibleAt_10 (by decide) ?_
      refine q_iconst C (0 : Int32) dL_possibleAt_21 (by decide) ?_
      exact q_wret C hr hlk (Nat.le_of_ble_eq_true rfl) (Nat.le_of_ble_eq_true rfl) dL_possibleAt_22 h
  rw [lg_entry_eq]
  cases x <;> cases out <;> exact key _ _ _ hR va_S.rf ⟨lv_entry _ (n := 5) (Nat.le_of_ble_eq_true rfl), (c1_r (c1_i (c1_i (c1_r c1_n))))⟩
theorem ml_L_79 : Cond.methodLink RL 79 yX8_cheapest ∈ Tg := Tg_of (i := 1219) (by decide +kernel) (by decide +kernel)
theorem lk_L_79 : Lk RL 79 yX8_cheapest cX8_cheapest 3 (some .int) 1 := ⟨ml_L_79, cd_X8_cheapest, iw_X8, by decide +kernel⟩
theorem im_X8_cheapest : Cond.instanceMethod yX8_cheapest ∈ Tg := Tg_of (i := 1220) (by decide +kernel) (by decide +kernel)
theorem se_X8_X8_cheapest : Cond.selects RX8 yX8_cheapest yX8_cheapest ∈ Tg := Tg_of (i := 1221) (by decide +kernel) (by decide +kernel)
def f_L_cheapest (x : Option Nat) (p1 : Int32) (out : Option Nat) : OO Int32 := rcv x 11 fun a => call (f_X8_cheapest a p1) (fun (r : Int32) => stL out (0 : Int32) r.toInt64 (rtn (0 : Int32))) (fun k => (if k = 0 then rtn (1 : Int32) else (if k = 3 then rtn (2 : Int32) else failO)))
set_option maxRecDepth 100000 in
set_option maxHeartbeats 4000000 in
theorem m_L_cheapest {G : GG} {l : Launch} {x : Option Nat} {p1 : Int32} {out : Option Nat} {hs hs' : Hs} {kk : Int32} (h : f_L_cheapest x p1 out hs = some (.ok kk, hs')) : CTW G l yL_cheapest cL_cheapest 4 [(0, 9, 12, 28), (0, 9, 15, 44)] 12 427 2 12 [va_rf x, .int p1, va_rf out] hs kk hs' := by
  refine vx_ofWH (cc := cL_cheapest) (maxL := 4) (ret := (some .int)) (hh := [(0, 9, 12, 28), (0, 9, 15, 44)]) (by decide +kernel) rfl ?_
  intro p e s m args below meth c s₁ B hml hv
  obtain ⟨hav, hR, hKn⟩ := hv
  subst hav
  have hts := atoms_spec (ws := .codeWith yL_cheapest cL_cheapest 4 (some .int) [(0, 9, 12, 28), (0, 9, 15, 44)] :: Tg) B.pre
  have hT := vx_table (x := yL_cheapest) B (hts _ List.mem_cons_self)
  have C : Cx G l p s m _ c RL cL_cheapest 4 := ⟨B.exec, B.bytes, hml, findClass_of_methodNamed B.named, fun w hw => hts w (List.mem_cons_of_mem _ hw), hKn, fun q hq => Nat.le_trans hR.2.2.1 hq⟩
  have key : WG G p l e { frames := 12, cells := 2, slots := 12, locals := 427 } s m ([va_rf x, .int p1, va_rf out] : List Value).toArray below meth c 4 0 0 (vx_MQ below (QcW G kk hs') XCW ([va_rf x, .int p1, va_rf out] : List Value).toArray s 2 12 (gA G)) hs [(0, va_rf x), (1, .int p1), (2, va_rf out)] [] 0 := by
    unfold f_L_cheapest at h
    have hr := B.returns
    have hlk := B.notSynchronized
    refine q_aload_n C 2 dL_cheapest_0 rfl ?_
    refine q_iconst C (0 : Int32) dL_cheapest_1 (by decide) ?_
    refine q_aload_n C 0 dL_cheapest_2 rfl ?_
    refine q_iload_n C 1 dL_cheapest_3 rfl ?_
    refine q_callW C (CN := RX8) (T := TX8) (N := 10) (tv := tvI) [.int p1] [.int (0 : Int32), va_rf out] (fun a0 o2 hs1 hm => m_X8_cheapest hm) lk_L_79 im_X8_cheapest se_X8_X8_cheapest rfl ⟨(Nat.le_of_ble_eq_true rfl), (Nat.le_of_ble_eq_true rfl)⟩ ⟨(Nat.le_of_ble_eq_true rfl), (Nat.le_of_ble_eq_true rfl)⟩ rfl rfl (by simp only [List.map, cat_rf, cat_i, cat_a]; decide) dL_cheapest_4 h ?_ ?_
    · intro k sz hs1 hk H locs ls ce q hR hS e1 e2 e3 c1
      by_cases hk0 : k = 0
      · subst hk0
        rw [if_pos rfl] at hk
        cases hk
        exact vx_catch (own := RL) (name := "java/lang/IndexOutOfBoundsException") (E := exN 0) C.2.2.2.1 [] ⟨0, 9, 12, 28⟩ [⟨0, 9, 15, 44⟩] (by rw [hT]; rfl) (fun z hz => nomatch hz) (by decide) (by decide) (C.2.2.2.2.1 _ wc_L_x28) (va_Nw.use rfl (C.kn.2.2.2.1 ("java/lang/IndexOutOfBoundsException", "java/lang/IndexOutOfBoundsException") (by decide +kernel))) e1 e2 e3 (q_hand C hr hlk (Nat.le_of_ble_eq_true rfl) (Nat.le_of_ble_eq_true rfl) (Or.inl ⟨_, rfl, rfl, dL_cheapest_12⟩) (by decide) dL_cheapest_13 (by decide) dL_cheapest_14 hR hS c1)
      · rw [if_neg hk0] at hk
        by_cases hk1 : k = 3
        · subst hk1
          rw [if_pos rfl] at hk
          cases hk
          exact vx_catch (own := RL) (name := "java/util/NoSuchElementException") (E := exN 3) C.2.2.2.1 [⟨0, 9, 12, 28⟩] ⟨0, 9, 15, 44⟩ [] (by rw [hT]; rfl) (fun z hz => by
        simp only [List.mem_cons, List.not_mem_nil, or_false] at hz
        rcases hz with rfl
        · exact Or.inr ⟨by decide, "java/lang/IndexOutOfBoundsException", C.2.2.2.2.1 _ wc_L_x28, kn_nc C.kn ("java/util/NoSuchElementException", "java/lang/IndexOutOfBoundsException") (by decide +kernel)⟩) (by decide) (by decide) (C.2.2.2.2.1 _ wc_L_x44) (va_Nw.use rfl (C.kn.2.2.2.1 ("java/util/NoSuchElementException", "java/util/NoSuchElementException") (by decide +kernel))) e1 e2 e3 (q_hand C hr hlk (Nat.le_of_ble_eq_true rfl) (Nat.le_of_ble_eq_true rfl) (Or.inl ⟨_, rfl, rfl, dL_cheapest_15⟩) (by decide) dL_cheapest_16 (by decide) dL_cheapest_17 hR hS c1)
        · rw [if_neg hk1] at hk
          exact absurd hk failO_e
    · intro r hs h
      refine WG_st (st' := .int r :: [.int (0 : Int32), va_rf out]) rfl ?_
      refine q_i2l C dL_cheapest_7 ?_
      refine q_last C dL_cheapest_8 h (fun hs h => ?_)
      refine q_goto C 18 dL_cheapest_9 (by decide) ?_
      refine q_iconst C (0 : Int32) dL_cheapest_18 (by decide) ?_
      exact q_wret C hr hlk (Nat.le_of_ble_eq_true rfl) (Nat.le_of_ble_eq_true rfl) dL_cheapest_19 h
  rw [lg_entry_eq]
  cases x <;> cases out <;> exact key _ _ _ hR va_S.rf ⟨lv_entry _ (n := 4) (Nat.le_of_ble_eq_true rfl), (c1_r (c1_i (c1_r c1_n)))⟩
theorem ml_L_82 : Cond.methodLink RL 82 yX8_costWith ∈ Tg := Tg_of (i := 1228) (by decide +kernel) (by decide +kernel)
theorem lk_L_82 : Lk RL 82 yX8_costWith cX8_costWith 6 (some .int) 3 := ⟨ml_L_82, cd_X8_costWith, iw_X8, by decide +kernel⟩
theorem im_X8_costWith : Cond.instanceMethod yX8_costWith ∈ Tg := Tg_of (i := 1229) (by decide +kernel) (by decide +kernel)
theorem se_X8_X8_costWith : Cond.selects RX8 yX8_costWith yX8_costWith ∈ Tg := Tg_of (i := 1230) (by decide +kernel) (by decide +kernel)
def f_L_costWith (x : Option Nat) (p1 : Int32) (p2 : Int32) (p3 : Int32) (out : Option Nat) : OO Int32 := rcv x 11 fun a => call (f_X8_costWith a p1 p2 p3) (fun (r : Int32) => stL out (0 : Int32) r.toInt64 (rtn (0 : Int32))) (fun k => (if k = 0 then rtn (1 : Int32) else (if k = 1 then rtn (2 : Int32) else (if k = 4 then rtn (3 : Int32) else failO))))
set_option maxRecDepth 100000 in
set_option maxHeartbeats 4000000 in
theorem m_L_costWith {G : GG} {l : Launch} {x : Option Nat} {p1 : Int32} {p2 : Int32} {p3 : Int32} {out : Option Nat} {hs hs' : Hs} {kk : Int32} (h : f_L_costWith x p1 p2 p3 out hs = some (.ok kk, hs')) : CTW G l yL_costWith cL_costWith 6 [(0, 12, 15, 28), (0, 12, 19, 13), (0, 12, 23, 49)] 11 412 4 24 [va_rf x, .int p1, .int p2, .int p3, va_rf out] hs kk hs' := by
  refine vx_ofWH (cc := cL_costWith) (maxL := 6) (ret := (some .int)) (hh := [(0, 12, 15, 28), (0, 12, 19, 13), (0, 12, 23, 49)]) (by decide +kernel) rfl ?_
  intro p e s m args below meth c s₁ B hml hv
  obtain ⟨hav, hR, hKn⟩ := hv
  subst hav
  have hts := atoms_spec (ws := .codeWith yL_costWith cL_costWith 6 (some .int) [(0, 12, 15, 28), (0, 12, 19, 13), (0, 12, 23, 49)] :: Tg) B.pre
  have hT := vx_table (x := yL_costWith) B (hts _ List.mem_cons_self)
  have C : Cx G l p s m _ c RL cL_costWith 6 := ⟨B.exec, B.bytes, hml, findClass_of_methodNamed B.named, fun w hw => hts w (List.mem_cons_of_mem _ hw), hKn, fun q hq => Nat.le_trans hR.2.2.1 hq⟩
  have key : WG G p l e { frames := 11, cells := 4, slots := 24, locals := 412 } s m ([va_rf x, .int p1, .int p2, .int p3, va_rf out] : List Value).toArray below meth c 6 0 0 (vx_MQ below (QcW G kk hs') XCW ([va_rf x, .int p1, .int p2, .int p3, va_rf out] : List Value).toArray s 4 24 (gA G)) hs [(0, va_rf x), (1, .int p1), (2, .int p2), (3, .int p3), (4, va_rf out)] [] 0 := by
    unfold f_L_costWith at h
    have hr := B.returns
    have hlk := B.notSynchronized
    refine q_aload C 4 dL_costWith_0 rfl ?_
    refine q_iconst C (0 : Int32) dL_costWith_2 (by decide) ?_
    refine q_aload_n C 0 dL_costWith_3 rfl ?_
    refine q_iload_n C 1 dL_costWith_4 rfl ?_
    refine q_iload_n C 2 dL_costWith_5 rfl ?_
    refine q_iload_n C 3 dL_costWith_6 rfl ?_
    refine q_callW C (CN := RX8) (T := TX8) (N := 10) (tv := tvI) [.int p1, .int p2, .int p3] [.int (0 : Int32), va_rf out] (fun a0 o2 hs1 hm => m_X8_costWith hm) lk_L_82 im_X8_costWith se_X8_X8_costWith rfl ⟨(Nat.le_of_ble_eq_true rfl), (Nat.le_of_ble_eq_true rfl)⟩ ⟨(Nat.le_of_ble_eq_true rfl), (Nat.le_of_ble_eq_true rfl)⟩ rfl rfl (by simp only [List.map, cat_rf, cat_i, cat_a]; decide) dL_costWith_7 h ?_ ?_
    · intro k sz hs1 hk H locs ls ce q hR hS e1 e2 e3 c1
      by_cases hk0 : k = 0
      · subst hk0
        rw [if_pos rfl] at hk
        cases hk
        exact vx_catch (own := RL) (name := "java/lang/IndexOutOfBoundsException") (E := exN 0) C.2.2.2.1 [] ⟨0, 12, 15, 28⟩ [⟨0, 12, 19, 13⟩, ⟨0, 12, 23, 49⟩] (by rw [hT]; rfl) (fun z hz => nomatch hz) (by decide) (by decide) (C.2.2.2.2.1 _ wc_L_x28) (va_Nw.use rfl (C.kn.2.2.2.1 ("java/lang/IndexOutOfBoundsException", "java/lang/IndexOutOfBoundsException") (by decide +kernel))) e1 e2 e3 (q_hand C hr hlk (Nat.le_of_ble_eq_true rfl) (Nat.le_of_ble_eq_true rfl) (Or.inr ⟨rfl, dL_costWith_15⟩) (by decide) dL_costWith_17 (by decide) dL_costWith_18 hR hS c1)
      · rw [if_neg hk0] at hk
        by_cases hk1 : k = 1
        · subst hk1
          rw [if_pos rfl] at hk
          cases hk
          exact vx_catch (own := RL) (name := "java/lang/IllegalArgumentException") (E := exN 1) C.2.2.2.1 [⟨0, 12, 15, 28⟩] ⟨0, 12, 19, 13⟩ [⟨0, 12, 23, 49⟩] (by rw [hT]; rfl) (fun z hz => by
        simp only [List.mem_cons, List.not_mem_nil, or_false] at hz
        rcases hz with rfl
        · exact Or.inr ⟨by decide, "java/lang/IndexOutOfBoundsException", C.2.2.2.2.1 _ wc_L_x28, kn_nc C.kn ("java/lang/IllegalArgumentException", "java/lang/IndexOutOfBoundsException") (by decide +kernel)⟩) (by decide) (by decide) (C.2.2.2.2.1 _ wc_L_x13) (va_Nw.use rfl (C.kn.2.2.2.1 ("java/lang/IllegalArgumentException", "java/lang/IllegalArgumentException") (by decide +kernel))) e1 e2 e3 (q_hand C hr hlk (Nat.le_of_ble_eq_true rfl) (Nat.le_of_ble_eq_true rfl) (Or.inr ⟨rfl, dL_costWith_19⟩) (by decide) dL_costWith_21 (by decide) dL_costWith_22 hR hS c1)
        · rw [if_neg hk1] at hk
          by_cases hk2 : k = 4
          · subst hk2
            rw [if_pos rfl] at hk
            cases hk
            exact vx_catch (own := RL) (name := "java/lang/UnsupportedOperationException") (E := exN 4) C.2.2.2.1 [⟨0, 12, 15, 28⟩, ⟨0, 12, 19, 13⟩] ⟨0, 12, 23, 49⟩ [] (by rw [hT]; rfl) (fun z hz => by
        simp only [List.mem_cons, List.not_mem_nil, or_false] at hz
        rcases hz with rfl | rfl
        · exact Or.inr ⟨by decide, "java/lang/IndexOutOfBoundsException", C.2.2.2.2.1 _ wc_L_x28, kn_nc C.kn ("java/lang/UnsupportedOperationException", "java/lang/IndexOutOfBoundsException") (by decide +kernel)⟩
        · exact Or.inr ⟨by decide, "java/lang/IllegalArgumentException", C.2.2.2.2.1 _ wc_L_x13, kn_nc C.kn ("java/lang/UnsupportedOperationException", "java/lang/IllegalArgumentException") (by decide +kernel)⟩) (by decide) (by decide) (C.2.2.2.2.1 _ wc_L_x49) (va_Nw.use rfl (C.kn.2.2.2.1 ("java/lang/UnsupportedOperationException", "java/lang/UnsupportedOperationException") (by decide +kernel))) e1 e2 e3 (q_hand C hr hlk (Nat.le_of_ble_eq_true rfl) (Nat.le_of_ble_eq_true rfl) (Or.inr ⟨rfl, dL_costWith_23⟩) (by decide) dL_costWith_25 (by decide) dL_costWith_26 hR hS c1)
          · rw [if_neg hk2] at hk
            exact absurd hk failO_e
    · intro r hs h
      refine WG_st (st' := .int r :: [.int (0 : Int32), va_rf out]) rfl ?_
      refine q_i2l C dL_costWith_10 ?_
      refine q_last C dL_costWith_11 h (fun hs h => ?_)
      refine q_goto C 27 dL_costWith_12 (by decide) ?_
      refine q_iconst C (0 : Int32) dL_costWith_27 (by decide) ?_
      exact q_wret C hr hlk (Nat.le_of_ble_eq_true rfl) (Nat.le_of_ble_eq_true rfl) dL_costWith_28 h
  rw [lg_entry_eq]
  cases x <;> cases out <;> exact key _ _ _ hR va_S.rf ⟨lv_entry _ (n := 6) (Nat.le_of_ble_eq_true rfl), (c1_r (c1_i (c1_i (c1_i (c1_r c1_n)))))⟩
theorem ml_L_85 : Cond.methodLink RL 85 yX8_hardest ∈ Tg := Tg_of (i := 1240) (by decide +kernel) (by decide +kernel)
theorem lk_L_85 : Lk RL 85 yX8_hardest cX8_hardest 2 (some .int) 0 := ⟨ml_L_85, cd_X8_hardest, iw_X8, by decide +kernel⟩
theorem im_X8_hardest : Cond.instanceMethod yX8_hardest ∈ Tg := Tg_of (i := 1241) (by decide +kernel) (by decide +kernel)
theorem se_X8_X8_hardest : Cond.selects RX8 yX8_hardest yX8_hardest ∈ Tg := Tg_of (i := 1242) (by decide +kernel) (by decide +kernel)
def f_L_hardest (x : Option Nat) (out : Option Nat) : OO Int32 := rcv x 11 fun a => call (f_X8_hardest a ) (fun (r : Int32) => stL out (0 : Int32) r.toInt64 (rtn (0 : Int32))) (fun k => (if k = 3 then rtn (1 : Int32) else failO))
set_option maxRecDepth 100000 in
set_option maxHeartbeats 4000000 in
theorem m_L_hardest {G : GG} {l : Launch} {x : Option Nat} {out : Option Nat} {hs hs' : Hs} {kk : Int32} (h : f_L_hardest x out hs = some (.ok kk, hs')) : CTW G l yL_hardest cL_hardest 3 [(0, 8, 11, 44)] 13 451 1 6 [va_rf x, va_rf out] hs kk hs' := by
  refine vx_ofWH (cc := cL_hardest) (maxL := 3) (ret := (some .int)) (hh := [(0, 8, 11, 44)]) (by decide +kernel) rfl ?_
  intro p e s m args below meth c s₁ B hml hv
  obtain ⟨hav, hR, hKn⟩ := hv
  subst hav
  have hts := atoms_spec (ws := .codeWith yL_hardest cL_hardest 3 (some .int) [(0, 8, 11, 44)] :: Tg) B.pre
  have hT := vx_table (x := yL_hardest) B (hts _ List.mem_cons_self)
  have C : Cx G l p s m _ c RL cL_hardest 3 := ⟨B.exec, B.bytes, hml, findClass_of_methodNamed B.named, fun w hw => hts w (List.mem_cons_of_mem _ hw), hKn, fun q hq => Nat.le_trans hR.2.2.1 hq⟩
  have key : WG G p l e { frames := 13, cells := 1, slots := 6, locals := 451 } s m ([va_rf x, va_rf out] : List Value).toArray below meth c 3 0 0 (vx_MQ below (QcW G kk hs') XCW ([va_rf x, va_rf out] : List Value).toArray s 1 6 (gA G)) hs [(0, va_rf x), (1, va_rf out)] [] 0 := by
    unfold f_L_hardest at h
    have hr := B.returns
    have hlk := B.notSynchronized
    refine q_aload_n C 1 dL_hardest_0 rfl ?_
    refine q_iconst C (0 : Int32) dL_hardest_1 (by decide) ?_
    refine q_aload_n C 0 dL_hardest_2 rfl ?_
    refine q_callW C (CN := RX8) (T := TX8) (N := 10) (tv := tvI) [] [.int (0 : Int32), va_rf out] (fun a0 o2 hs1 hm => m_X8_hardest hm) lk_L_85 im_X8_hardest se_X8_X8_hardest rfl ⟨(Nat.le_of_ble_eq_true rfl), (Nat.le_of_ble_eq_true rfl)⟩ ⟨(Nat.le_of_ble_eq_true rfl), (Nat.le_of_ble_eq_true rfl)⟩ rfl rfl (by simp only [List.map, cat_rf, cat_i, cat_a]; decide) dL_hardest_3 h ?_ ?_
    · intro k sz hs1 hk H locs ls ce q hR hS e1 e2 e3 c1
      by_cases hk0 : k = 3
      · subst hk0
        rw [if_pos rfl] at hk
        cases hk
        exact vx_catch (own := RL) (name := "java/util/NoSuchElementException") (E := exN 3) C.2.2.2.1 [] ⟨0, 8, 11, 44⟩ [] (by rw [hT]; rfl) (fun z hz => nomatch hz) (by decide) (by decide) (C.2.2.2.2.1 _ wc_L_x44) (va_Nw.use rfl (C.kn.2.2.2.1 ("java/util/NoSuchElementException", "java/util/NoSuchElementException") (by decide +kernel))) e1 e2 e3 (q_hand C hr hlk (Nat.le_of_ble_eq_true rfl) (Nat.le_of_ble_eq_true rfl) (Or.inl ⟨_, rfl, rfl, dL_hardest_11⟩) (by decide) dL_hardest_12 (by decide) dL_hardest_13 hR hS c1)
      · rw [if_neg hk0] at hk
        exact absurd hk failO_e
    · intro r hs h
      refine WG_st (st' := .int r :: [.int (0 : Int32), va_rf out]) rfl ?_
      refine q_i2l C dL_hardest_6 ?_
      refine q_last C dL_hardest_7 h (fun hs h => ?_)
      refine q_goto C 14 dL_hardest_8 (by decide) ?_
      refine q_iconst C (0 : Int32) dL_hardest_14 (by decide) ?_
      exact q_wret C hr hlk (Nat.le_of_ble_eq_true rfl) (Nat.le_of_ble_eq_true rfl) dL_hardest_15 h
  rw [lg_entry_eq]
  cases x <;> cases out <;> exact key _ _ _ hR va_S.rf ⟨lv_entry _ (n := 3) (Nat.le_of_ble_eq_true rfl), (c1_r (c1_r c1_n))⟩
theorem ml_L_89 : Cond.methodLink RL 89 yX8_improve ∈ Tg := Tg_of (i := 1249) (by decide +kernel) (by decide +kernel)
theorem lk_L_89 : Lk RL 89 yX8_improve cX8_improve 2 (some .int) 1 := ⟨ml_L_89, cd_X8_improve, iw_X8, by decide +kernel⟩
theorem im_X8_improve : Cond.instanceMethod yX8_improve ∈ Tg := Tg_of (i := 1250) (by decide +kernel) (by decide +kernel)
theorem se_X8_X8_improve : Cond.selects RX8 yX8_improve yX8_improve ∈ Tg := Tg_of (i := 1251) (by decide +kernel) (by decide +kernel)
def f_L_improve (x : Option Nat) (p1 : Int32) (out : Option Nat) : OO Int32 := rcv x 11 fun a => call (f_X8_improve a p1) (fun (r : Int32) => stL out (0 : Int32) r.toInt64 (rtn (0 : Int32))) (fun k => (if k = 1 then rtn (1 : Int32) else failO))
set_option maxRecDepth 100000 in
set_option maxHeartbeats 4000000 in
theorem m_L_improve {G : GG} {l : Launch} {x : Option Nat} {p1 : Int32} {out : Option Nat} {hs hs' : Hs} {kk : Int32} (h : f_L_improve x p1 out hs = some (.ok kk, hs')) : CTW G l yL_improve cL_improve 4 [(0, 9, 12, 13)] 14 479 1 6 [va_rf x, .int p1, va_rf out] hs kk hs' := by
  refine vx_ofWH (cc := cL_improve) (maxL := 4) (ret := (some .int)) (hh := [(0, 9, 12, 13)]) (by decide +kernel) rfl ?_
  intro p e s m args below meth c s₁ B hml hv
  obtain ⟨hav, hR, hKn⟩ := hv
  subst hav
  have hts := atoms_spec (ws := .codeWith yL_improve cL_improve 4 (some .int) [(0, 9, 12, 13)] :: Tg) B.pre
  have hT := vx_table (x := yL_improve) B (hts _ List.mem_cons_self)
  have C : Cx G l p s m _ c RL cL_improve 4 := ⟨B.exec, B.bytes, hml, findClass_of_methodNamed B.named, fun w hw => hts w (List.mem_cons_of_mem _ hw), hKn, fun q hq => Nat.le_trans hR.2.2.1 hq⟩
  have key : WG G p l e { frames := 14, cells := 1, slots := 6, locals := 479 } s m ([va_rf x, .int p1, va_rf out] : List Value).toArray below meth c 4 0 0 (vx_MQ below (QcW G kk hs') XCW ([va_rf x, .int p1, va_rf out] : List Value).toArray s 1 6 (gA G)) hs [(0, va_rf x), (1, .int p1), (2, va_rf out)] [] 0 := by
    unfold f_L_improve at h
    have hr := B.returns
    have hlk := B.notSynchronized
    refine q_aload_n C 2 dL_improve_0 rfl ?_
    refine q_iconst C (0 : Int32) dL_improve_1 (by decide) ?_
    refine q_aload_n C 0 dL_improve_2 rfl ?_
    refine q_iload_n C 1 dL_improve_3 rfl ?_
    refine q_callW C (CN := RX8) (T := TX8) (N := 10) (tv := tvI) [.int p1] [.int (0 : Int32), va_rf out] (fun a0 o2 hs1 hm => m_X8_improve hm) lk_L_89 im_X8_improve se_X8_X8_improve rfl ⟨(Nat.le_of_ble_eq_true rfl), (Nat.le_of_ble_eq_true rfl)⟩ ⟨(Nat.le_of_ble_eq_true rfl), (Nat.le_of_ble_eq_true rfl)⟩ rfl rfl (by simp only [List.map, cat_rf, cat_i, cat_a]; decide) dL_improve_4 h ?_ ?_
    · intro k sz hs1 hk H locs ls ce q hR hS e1 e2 e3 c1
      by_cases hk0 : k = 1
      · subst hk0
        rw [if_pos rfl] at hk
        cases hk
        exact vx_catch (own := RL) (name := "java/lang/IllegalArgumentException") (E := exN 1) C.2.2.2.1 [] ⟨0, 9, 12, 13⟩ [] (by rw [hT]; rfl) (fun z hz => nomatch hz) (by decide) (by decide) (C.2.2.2.2.1 _ wc_L_x13) (va_Nw.use rfl (C.kn.2.2.2.1 ("java/lang/IllegalArgumentException", "java/lang/IllegalArgumentException") (by decide +kernel))) e1 e2 e3 (q_hand C hr hlk (Nat.le_of_ble_eq_true rfl) (Nat.le_of_ble_eq_true rfl) (Or.inl ⟨_, rfl, rfl, dL_improve_12⟩) (by decide) dL_improve_13 (by decide) dL_improve_14 hR hS c1)
      · rw [if_neg hk0] at hk
        exact absurd hk failO_e
    · intro r hs h
      refine WG_st (st' := .int r :: [.int (0 : Int32), va_rf out]) rfl ?_
      refine q_i2l C dL_improve_7 ?_
      refine q_last C dL_improve_8 h (fun hs h => ?_)
      refine q_goto C 15 dL_improve_9 (by decide) ?_
      refine q_iconst C (0 : Int32) dL_improve_15 (by decide) ?_
      exact q_wret C hr hlk (Nat.le_of_ble_eq_true rfl) (Nat.le_of_ble_eq_true rfl) dL_improve_16 h
  rw [lg_entry_eq]
  cases x <;> cases out <;> exact key _ _ _ hR va_S.rf ⟨lv_entry _ (n := 4) (Nat.le_of_ble_eq_true rfl), (c1_r (c1_i (c1_r c1_n)))⟩
theorem ml_L_92 : Cond.methodLink RL 92 yX8_amount ∈ Tg := Tg_of (i := 1307) (by decide +kernel) (by decide +kernel)
theorem lk_L_92 : Lk RL 92 yX8_amount cX8_amount 2 (some .int) 1 := ⟨ml_L_92, cd_X8_amount, iw_X8, by decide +kernel⟩
theorem im_X8_amount : Cond.instanceMethod yX8_amount ∈ Tg := Tg_of (i := 1308) (by decide +kernel) (by decide +kernel)
theorem se_X8_X8_amount : Cond.selects RX8 yX8_amount yX8_amount ∈ Tg := Tg_of (i := 1309) (by decide +kernel) (by decide +kernel)
def f_L_amount (x : Option Nat) (p1 : Int32) (out : Option Nat) : OO Int32 := rcv x 11 fun a => call (f_X8_amount a p1) (fun (r : Int32) => stL out (0 : Int32) r.toInt64 (rtn (0 : Int32))) (fun k => (if k = 1 then rtn (1 : Int32) else failO))
set_option maxRecDepth 100000 in
set_option maxHeartbeats 4000000 in
theorem m_L_amount {G : GG} {l : Launch} {x : Option Nat} {p1 : Int32} {out : Option Nat} {hs hs' : Hs} {kk : Int32} (h : f_L_amount x p1 out hs = some (.ok kk, hs')) : CTW G l yL_amount cL_amount 4 [(0, 9, 12, 13)] 8 241 1 6 [va_rf x, .int p1, va_rf out] hs kk hs' := by
  refine vx_ofWH (cc := cL_amount) (maxL := 4) (ret := (some .int)) (hh := [(0, 9, 12, 13)]) (by decide +kernel) rfl ?_
  intro p e s m args below meth c s₁ B hml hv
  obtain ⟨hav, hR, hKn⟩ := hv
  subst hav
  have hts := atoms_spec (ws := .codeWith yL_amount cL_amount 4 (some .int) [(0, 9, 12, 13)] :: Tg) B.pre
  have hT := vx_table (x := yL_amount) B (hts _ List.mem_cons_self)
  have C : Cx G l p s m _ c RL cL_amount 4 := ⟨B.exec, B.bytes, hml, findClass_of_methodNamed B.named, fun w hw => hts w (List.mem_cons_of_mem _ hw), hKn, fun q hq => Nat.le_trans hR.2.2.1 hq⟩
  have key : WG G p l e { frames := 8, cells := 1, slots := 6, locals := 241 } s m ([va_rf x, .int p1, va_rf out] : List Value).toArray below meth c 4 0 0 (vx_MQ below (QcW G kk hs') XCW ([va_rf x, .int p1, va_rf out] : List Value).toArray s 1 6 (gA G)) hs [(0, va_rf x), (1, .int p1), (2, va_rf out)] [] 0 := by
    unfold f_L_amount at h
    have hr := B.returns
    have hlk := B.notSynchronized
    refine q_aload_n C 2 dL_amount_0 rfl ?_
    refine q_iconst C (0 : Int32) dL_amount_1 (by decide) ?_
    refine q_aload_n C 0 dL_amount_2 rfl ?_
    refine q_iload_n C 1 dL_amount_3 rfl ?_
    refine q_callW C (CN := RX8) (T := TX8) (N := 10) (tv := tvI) [.int p1] [.int (0 : Int32), va_rf out] (fun a0 o2 hs1 hm => m_X8_amount hm) lk_L_92 im_X8_amount se_X8_X8_amount rfl ⟨(Nat.le_of_ble_eq_true rfl), (Nat.le_of_ble_eq_true rfl)⟩ ⟨(Nat.le_of_ble_eq_true rfl), (Nat.le_of_ble_eq_true rfl)⟩ rfl rfl (by simp only [List.map, cat_rf, cat_i, cat_a]; decide) dL_amount_4 h ?_ ?_
    · intro k sz hs1 hk H locs ls ce q hR hS e1 e2 e3 c1
      by_cases hk0 : k = 1
      · subst hk0
        rw [if_pos rfl] at hk
        cases hk
        exact vx_catch (own := RL) (name := "java/lang/IllegalArgumentException") (E := exN 1) C.2.2.2.1 [] ⟨0, 9, 12, 13⟩ [] (by rw [hT]; rfl) (fun z hz => nomatch hz) (by decide) (by decide) (C.2.2.2.2.1 _ wc_L_x13) (va_Nw.use rfl (C.kn.2.2.2.1 ("java/lang/IllegalArgumentException", "java/lang/IllegalArgumentException") (by decide +kernel))) e1 e2 e3 (q_hand C hr hlk (Nat.le_of_ble_eq_true rfl) (Nat.le_of_ble_eq_true rfl) (Or.inl ⟨_, rfl, rfl, dL_amount_12⟩) (by decide) dL_amount_13 (by decide) dL_amount_14 hR hS c1)
      · rw [if_neg hk0] at hk
        exact absurd hk failO_e
    · intro r hs h
      refine WG_st (st' := .int r :: [.int (0 : Int32), va_rf out]) rfl ?_
      refine q_i2l C dL_amount_7 ?_
      refine q_last C dL_amount_8 h (fun hs h => ?_)
      refine q_goto C 15 dL_amount_9 (by decide) ?_
      refine q_iconst C (0 : Int32) dL_amount_15 (by decide) ?_
      exact q_wret C hr hlk (Nat.le_of_ble_eq_true rfl) (Nat.le_of_ble_eq_true rfl) dL_amount_16 h
  rw [lg_entry_eq]
  cases x <;> cases out <;> exact key _ _ _ hR va_S.rf ⟨lv_entry _ (n := 4) (Nat.le_of_ble_eq_true rfl), (c1_r (c1_i (c1_r c1_n)))⟩
theorem ml_L_95 : Cond.methodLink RL 95 yX8_lacking ∈ Tg := Tg_of (i := 1315) (by decide +kernel) (by decide +kernel)
theorem lk_L_95 : Lk RL 95 yX8_lacking cX8_lacking 2 (some .int) 1 := ⟨ml_L_95, cd_X8_lacking, iw_X8, by decide +kernel⟩
theorem im_X8_lacking : Cond.instanceMethod yX8_lacking ∈ Tg := Tg_of (i := 1316) (by decide +kernel) (by decide +kernel)
theorem se_X8_X8_lacking : Cond.selects RX8 yX8_lacking yX8_lacking ∈ Tg := Tg_of (i := 1317) (by decide +kernel) (by decide +kernel)
def f_L_lacking (x : Option Nat) (p1 : Int32) (out : Option Nat) : OO Int32 := rcv x 11 fun a => call (f_X8_lacking a p1) (fun (r : Int32) => stL out (0 : Int32) r.toInt64 (rtn (0 : Int32))) (fun k => (if k = 1 then rtn (1 : Int32) else failO))
set_option maxRecDepth 100000 in
set_option maxHeartbeats 4000000 in
theorem m_L_lacking {G : GG} {l : Launch} {x : Option Nat} {p1 : Int32} {out : Option Nat} {hs hs' : Hs} {kk : Int32} (h : f_L_lacking x p1 out hs = some (.ok kk, hs')) : CTW G l yL_lacking cL_lacking 4 [(0, 9, 12, 13)] 8 241 1 6 [va_rf x, .int p1, va_rf out] hs kk hs' := by
  refine vx_ofWH (cc := cL_lacking) (maxL := 4) (ret := (some .int)) (hh := [(0, 9, 12, 13)]) (by decide +kernel) rfl ?_
  intro p e s m args below meth c s₁ B hml hv
  obtain ⟨hav, hR, hKn⟩ := hv
  subst hav
  have hts := atoms_spec (ws := .codeWith yL_lacking cL_lacking 4 (some .int) [(0, 9, 12, 13)] :: Tg) B.pre
  have hT := vx_table (x := yL_lacking) B (hts _ List.mem_cons_self)
  have C : Cx G l p s m _ c RL cL_lacking 4 := ⟨B.exec, B.bytes, hml, findClass_of_methodNamed B.named, fun w hw => hts w (List.mem_cons_of_mem _ hw), hKn, fun q hq => Nat.le_trans hR.2.2.1 hq⟩
  have key : WG G p l e { frames := 8, cells := 1, slots := 6, locals := 241 } s m ([va_rf x, .int p1, va_rf out] : List Value).toArray below meth c 4 0 0 (vx_MQ below (QcW G kk hs') XCW ([va_rf x, .int p1, va_rf out] : List Value).toArray s 1 6 (gA G)) hs [(0, va_rf x), (1, .int p1), (2, va_rf out)] [] 0 := by
    unfold f_L_lacking at h
    have hr := B.returns
    have hlk := B.notSynchronized
    refine q_aload_n C 2 dL_lacking_0 rfl ?_
    refine q_iconst C (0 : Int32) dL_lacking_1 (by decide) ?_
    refine q_aload_n C 0 dL_lacking_2 rfl ?_
    refine q_iload_n C 1 dL_lacking_3 rfl ?_
    refine q_callW C (CN := RX8) (T := TX8) (N := 10) (tv := tvI) [.int p1] [.int (0 : Int32), va_rf out] (fun a0 o2 hs1 hm => m_X8_lacking hm) lk_L_95 im_X8_lacking se_X8_X8_lacking rfl ⟨(Nat.le_of_ble_eq_true rfl), (Nat.le_of_ble_eq_true rfl)⟩ ⟨(Nat.le_of_ble_eq_true rfl), (Nat.le_of_ble_eq_true rfl)⟩ rfl rfl (by simp only [List.map, cat_rf, cat_i, cat_a]; decide) dL_lacking_4 h ?_ ?_
    · intro k sz hs1 hk H locs ls ce q hR hS e1 e2 e3 c1
      by_cases hk0 : k = 1
      · subst hk0
        rw [if_pos rfl] at hk
        cases hk
        exact vx_catch (own := RL) (name := "java/lang/IllegalArgumentException") (E := exN 1) C.2.2.2.1 [] ⟨0, 9, 12, 13⟩ [] (by rw [hT]; rfl) (fun z hz => nomatch hz) (by decide) (by decide) (C.2.2.2.2.1 _ wc_L_x13) (va_Nw.use rfl (C.kn.2.2.2.1 ("java/lang/IllegalArgumentException", "java/lang/IllegalArgumentException") (by decide +kernel))) e1 e2 e3 (q_hand C hr hlk (Nat.le_of_ble_eq_true rfl) (Nat.le_of_ble_eq_true rfl) (Or.inl ⟨_, rfl, rfl, dL_lacking_12⟩) (by decide) dL_lacking_13 (by decide) dL_lacking_14 hR hS c1)
      · rw [if_neg hk0] at hk
        exact absurd hk failO_e
    · intro r hs h
      refine WG_st (st' := .int r :: [.int (0 : Int32), va_rf out]) rfl ?_
      refine q_i2l C dL_lacking_7 ?_
      refine q_last C dL_lacking_8 h (fun hs h => ?_)
      refine q_goto C 15 dL_lacking_9 (by decide) ?_
      refine q_iconst C (0 : Int32) dL_lacking_15 (by decide) ?_
      exact q_wret C hr hlk (Nat.le_of_ble_eq_true rfl) (Nat.le_of_ble_eq_true rfl) dL_lacking_16 h
  rw [lg_entry_eq]
  cases x <;> cases out <;> exact key _ _ _ hR va_S.rf ⟨lv_entry _ (n := 4) (Nat.le_of_ble_eq_true rfl), (c1_r (c1_i (c1_r c1_n)))⟩
theorem ml_L_98 : Cond.methodLink RL 98 yX8_lackingBySeats ∈ Tg := Tg_of (i := 1326) (by decide +kernel) (by decide +kernel)
theorem lk_L_98 : Lk RL 98 yX8_lackingBySeats cX8_lackingBySeats 2 (some .int) 1 := ⟨ml_L_98, cd_X8_lackingBySeats, iw_X8, by decide +kernel⟩
theorem im_X8_lackingBySeats : Cond.instanceMethod yX8_lackingBySeats ∈ Tg := Tg_of (i := 1327) (by decide +kernel) (by decide +kernel)
theorem se_X8_X8_lackingBySeats : Cond.selects RX8 yX8_lackingBySeats yX8_lackingBySeats ∈ Tg := Tg_of (i := 1328) (by decide +kernel) (by decide +kernel)
def f_L_lackingBySeats (x : Option Nat) (p1 : Int32) (out : Option Nat) : OO Int32 := rcv x 11 fun a => call (f_X8_lackingBySeats a p1) (fun (r : Int32) => stL out (0 : Int32) r.toInt64 (rtn (0 : Int32))) (fun k => (if k = 1 then rtn (1 : Int32) else failO))
set_option maxRecDepth 100000 in
set_option maxHeartbeats 4000000 in
theorem m_L_lackingBySeats {G : GG} {l : Launch} {x : Option Nat} {p1 : Int32} {out : Option Nat} {hs hs' : Hs} {kk : Int32} (h : f_L_lackingBySeats x p1 out hs = some (.ok kk, hs')) : CTW G l yL_lackingBySeats cL_lackingBySeats 4 [(0, 9, 12, 13)] 8 241 1 6 [va_rf x, .int p1, va_rf out] hs kk hs' := by
  refine vx_ofWH (cc := cL_lackingBySeats) (maxL := 4) (ret := (some .int)) (hh := [(0, 9, 12, 13)]) (by decide +kernel) rfl ?_
  intro p e s m args below meth c s₁ B hml hv
  obtain ⟨hav, hR, hKn⟩ := hv
  subst hav
  have hts := atoms_spec (ws := .codeWith yL_lackingBySeats cL_lackingBySeats 4 (some .int) [(0, 9, 12, 13)] :: Tg) B.pre
  have hT := vx_table (x := yL_lackingBySeats) B (hts _ List.mem_cons_self)
  have C : Cx G l p s m _ c RL cL_lackingBySeats 4 := ⟨B.exec, B.bytes, hml, findClass_of_methodNamed B.named, fun w hw => hts w (List.mem_cons_of_mem _ hw), hKn, fun q hq => Nat.le_trans hR.2.2.1 hq⟩
  have key : WG G p l e { frames := 8, cells := 1, slots := 6, locals := 241 } s m ([va_rf x, .int p1, va_rf out] : List Value).toArray below meth c 4 0 0 (vx_MQ below (QcW G kk hs') XCW ([va_rf x, .int p1, va_rf out] : List Value).toArray s 1 6 (gA G)) hs [(0, va_rf x), (1, .int p1), (2, va_rf out)] [] 0 := by
    unfold f_L_lackingBySeats at h
    have hr := B.returns
    have hlk := B.notSynchronized
    refine q_aload_n C 2 dL_lackingBySeats_0 rfl ?_
    refine q_iconst C (0 : Int32) dL_lackingBySeats_1 (by decide) ?_
    refine q_aload_n C 0 dL_lackingBySeats_2 rfl ?_
    refine q_iload_n C 1 dL_lackingBySeats_3 rfl ?_
    refine q_callW C (CN := RX8) (T := TX8) (N := 10) (tv := tvI) [.int p1] [.int (0 : Int32), va_rf out] (fun a0 o2 hs1 hm => m_X8_lackingBySeats hm) lk_L_98 im_X8_lackingBySeats se_X8_X8_lackingBySeats rfl ⟨(Nat.le_of_ble_eq_true rfl), (Nat.le_of_ble_eq_true rfl)⟩ ⟨(Nat.le_of_ble_eq_true rfl), (Nat.le_of_ble_eq_true rfl)⟩ rfl rfl (by simp only [List.map, cat_rf, cat_i, cat_a]; decide) dL_lackingBySeats_4 h ?_ ?_
    · intro k sz hs1 hk H locs ls ce q hR hS e1 e2 e3 c1
      by_cases hk0 : k = 1
      · subst hk0
        rw [if_pos rfl] at hk
        cases hk
        exact vx_catch (own := RL) (name := "java/lang/IllegalArgumentException") (E := exN 1) C.2.2.2.1 [] ⟨0, 9, 12, 13⟩ [] (by rw [hT]; rfl) (fun z hz => nomatch hz) (by decide) (by decide) (C.2.2.2.2.1 _ wc_L_x13) (va_Nw.use rfl (C.kn.2.2.2.1 ("java/lang/IllegalArgumentException", "java/lang/IllegalArgumentException") (by decide +kernel))) e1 e2 e3 (q_hand C hr hlk (Nat.le_of_ble_eq_true rfl) (Nat.le_of_ble_eq_true rfl) (Or.inl ⟨_, rfl, rfl, dL_lackingBySeats_12⟩) (by decide) dL_lackingBySeats_13 (by decide) dL_lackingBySeats_14 hR hS c1)
      · rw [if_neg hk0] at hk
        exact absurd hk failO_e
    · intro r hs h
      refine WG_st (st' := .int r :: [.int (0 : Int32), va_rf out]) rfl ?_
      refine q_i2l C dL_lackingBySeats_7 ?_
      refine q_last C dL_lackingBySeats_8 h (fun hs h => ?_)
      refine q_goto C 15 dL_lackingBySeats_9 (by decide) ?_
      refine q_iconst C (0 : Int32) dL_lackingBySeats_15 (by decide) ?_
      exact q_wret C hr hlk (Nat.le_of_ble_eq_true rfl) (Nat.le_of_ble_eq_true rfl) dL_lackingBySeats_16 h
  rw [lg_entry_eq]
  cases x <;> cases out <;> exact key _ _ _ hR va_S.rf ⟨lv_entry _ (n := 4) (Nat.le_of_ble_eq_true rfl), (c1_r (c1_i (c1_r c1_n)))⟩
theorem ml_L_101 : Cond.methodLink RL 101 yX8_ill ∈ Tg := Tg_of (i := 1333) (by decide +kernel) (by decide +kernel)
theorem lk_L_101 : Lk RL 101 yX8_ill cX8_ill 7 (some .int) 2 := ⟨ml_L_101, cd_X8_ill, iw_X8, by decide +kernel⟩
theorem im_X8_ill : Cond.instanceMethod yX8_ill ∈ Tg := Tg_of (i := 1334) (by decide +kernel) (by decide +kernel)
theorem se_X8_X8_ill : Cond.selects RX8 yX8_ill yX8_ill ∈ Tg := Tg_of (i := 1335) (by decide +kernel) (by decide +kernel)
def f_L_ill (x : Option Nat) (p1 : Int32) (p2 : Int32) (out : Option Nat) : OO Int32 := rcv x 11 fun a => call (f_X8_ill a p1 p2) (fun (r : Int32) => stL out (0 : Int32) r.toInt64 (rtn (0 : Int32))) (fun k => (if k = 0 then rtn (1 : Int32) else (if k = 1 then rtn (2 : Int32) else (if k = 2 then rtn (3 : Int32) else (if k = 4 then rtn (4 : Int32) else failO)))))
set_option maxRecDepth 100000 in
set_option maxHeartbeats 4000000 in
theorem m_L_ill {G : GG} {l : Launch} {x : Option Nat} {p1 : Int32} {p2 : Int32} {out : Option Nat} {hs hs' : Hs} {kk : Int32} (h : f_L_ill x p1 p2 out hs = some (.ok kk, hs')) : CTW G l yL_ill cL_ill 5 [(0, 10, 13, 28), (0, 10, 17, 13), (0, 10, 21, 15), (0, 10, 25, 49)] 14 480 2 12 [va_rf x, .int p1, .int p2, va_rf out] hs kk hs' := by
  refine vx_ofWH (cc := cL_ill) (maxL := 5) (ret := (some .int)) (hh := [(0, 10, 13, 28), (0, 10, 17, 13), (0, 10, 21, 15), (0, 10, 25, 49)]) (by decide +kernel) rfl ?_
  intro p e s m args below meth c s₁ B hml hv
  obtain ⟨hav, hR, hKn⟩ := hv
  subst hav
  have hts := atoms_spec (ws := .codeWith yL_ill cL_ill 5 (some .int) [(0, 10, 13, 28), (0, 10, 17, 13), (0, 10, 21, 15), (0, 10, 25, 49)] :: Tg) B.pre
  have hT := vx_table (x := yL_ill) B (hts _ List.mem_cons_self)
  have C : Cx G l p s m _ c RL cL_ill 5 := ⟨B.exec, B.bytes, hml, findClass_of_methodNamed B.named, fun w hw => hts w (List.mem_cons_of_mem _ hw), hKn, fun q hq => Nat.le_trans hR.2.2.1 hq⟩
  have key : WG G p l e { frames := 14, cells := 2, slots := 12, locals := 480 } s m ([va_rf x, .int p1, .int p2, va_rf out] : List Value).toArray below meth c 5 0 0 (vx_MQ below (QcW G kk hs') XCW ([va_rf x, .int p1, .int p2, va_rf out] : List Value).toArray s 2 12 (gA G)) hs [(0, va_rf x), (1, .int p1), (2, .int p2), (3, va_rf out)] [] 0 := by
    unfold f_L_ill at h
    have hr := B.returns
    have hlk := B.notSynchronized
    refine q_aload_n C 3 dL_ill_0 rfl ?_
    refine q_iconst C (0 : Int32) dL_ill_1 (by decide) ?_
    refine q_aload_n C 0 dL_ill_2 rfl ?_
    refine q_iload_n C 1 dL_ill_3 rfl ?_
    refine q_iload_n C 2 dL_ill_4 rfl ?_
    refine q_callW C (CN := RX8) (T := TX8) (N := 10) (tv := tvI) [.int p1, .int p2] [.int (0 : Int32), va_rf out] (fun a0 o2 hs1 hm => m_X8_ill hm) lk_L_101 im_X8_ill se_X8_X8_ill rfl ⟨(Nat.le_of_ble_eq_true rfl), (Nat.le_of_ble_eq_true rfl)⟩ ⟨(Nat.le_of_ble_eq_true rfl), (Nat.le_of_ble_eq_true rfl)⟩ rfl rfl (by simp only [List.map, cat_rf, cat_i, cat_a]; decide) dL_ill_5 h ?_ ?_
    · intro k sz hs1 hk H locs ls ce q hR hS e1 e2 e3 c1
      by_cases hk0 : k = 0
      · subst hk0
        rw [if_pos rfl] at hk
        cases hk
        exact vx_catch (own := RL) (name := "java/lang/IndexOutOfBoundsException") (E := exN 0) C.2.2.2.1 [] ⟨0, 10, 13, 28⟩ [⟨0, 10, 17, 13⟩, ⟨0, 10, 21, 15⟩, ⟨0, 10, 25, 49⟩] (by rw [hT]; rfl) (fun z hz => nomatch hz) (by decide) (by decide) (C.2.2.2.2.1 _ wc_L_x28) (va_Nw.use rfl (C.kn.2.2.2.1 ("java/lang/IndexOutOfBoundsException", "java/lang/IndexOutOfBoundsException") (by decide +kernel))) e1 e2 e3 (q_hand C hr hlk (Nat.le_of_ble_eq_true rfl) (Nat.le_of_ble_eq_true rfl) (Or.inr ⟨rfl, dL_ill_13⟩) (by decide) dL_ill_15 (by decide) dL_ill_16 hR hS c1)
      · rw [if_neg hk0] at hk
        by_cases hk1 : k = 1
        · subst hk1
          rw [if_pos rfl] at hk
          cases hk
          exact vx_catch (own := RL) (name := "java/lang/IllegalArgumentException") (E := exN 1) C.2.2.2.1 [⟨0, 10, 13, 28⟩] ⟨0, 10, 17, 13⟩ [⟨0, 10, 21, 15⟩, ⟨0, 10, 25, 49⟩] (by rw [hT]; rfl) (fun z hz => by
        simp only [List.mem_cons, List.not_mem_nil, or_false] at hz
        rcases hz with rfl
        · exact Or.inr ⟨by decide, "java/lang/IndexOutOfBoundsException", C.2.2.2.2.1 _ wc_L_x28, kn_nc C.kn ("java/lang/IllegalArgumentException", "java/lang/IndexOutOfBoundsException") (by decide +kernel)⟩) (by decide) (by decide) (C.2.2.2.2.1 _ wc_L_x13) (va_Nw.use rfl (C.kn.2.2.2.1 ("java/lang/IllegalArgumentException", "java/lang/IllegalArgumentException") (by decide +kernel))) e1 e2 e3 (q_hand C hr hlk (Nat.le_of_ble_eq_true rfl) (Nat.le_of_ble_eq_true rfl) (Or.inr ⟨rfl, dL_ill_17⟩) (by decide) dL_ill_19 (by decide) dL_ill_20 hR hS c1)
        · rw [if_neg hk1] at hk
          by_cases hk2 : k = 2
          · subst hk2
            rw [if_pos rfl] at hk
            cases hk
            exact vx_catch (own := RL) (name := "java/lang/IllegalStateException") (E := exN 2) C.2.2.2.1 [⟨0, 10, 13, 28⟩, ⟨0, 10, 17, 13⟩] ⟨0, 10, 21, 15⟩ [⟨0, 10, 25, 49⟩] (by rw [hT]; rfl) (fun z hz => by
        simp only [List.mem_cons, List.not_mem_nil, or_false] at hz
        rcases hz with rfl | rfl
        · exact Or.inr ⟨by decide, "java/lang/IndexOutOfBoundsException", C.2.2.2.2.1 _ wc_L_x28, kn_nc C.kn ("java/lang/IllegalStateException", "java/lang/IndexOutOfBoundsException") (by decide +kernel)⟩
        · exact Or.inr ⟨by decide, "java/lang/IllegalArgumentException", C.2.2.2.2.1 _ wc_L_x13, kn_nc C.kn ("java/lang/IllegalStateException", "java/lang/IllegalArgumentException") (by decide +kernel)⟩) (by decide) (by decide) (C.2.2.2.2.1 _ wc_L_x15) (va_Nw.use rfl (C.kn.2.2.2.1 ("java/lang/IllegalStateException", "java/lang/IllegalStateException") (by decide +kernel))) e1 e2 e3 (q_hand C hr hlk (Nat.le_of_ble_eq_true rfl) (Nat.le_of_ble_eq_true rfl) (Or.inr ⟨rfl, dL_ill_21⟩) (by decide) dL_ill_23 (by decide) dL_ill_24 hR hS c1)
          · rw [if_neg hk2] at hk
            by_cases hk3 : k = 4
            · subst hk3
              rw [if_pos rfl] at hk
              cases hk
              exact vx_catch (own := RL) (name := "java/lang/UnsupportedOperationException") (E := exN 4) C.2.2.2.1 [⟨0, 10, 13, 28⟩, ⟨0, 10, 17, 13⟩, ⟨0, 10, 21, 15⟩] ⟨0, 10, 25, 49⟩ [] (by rw [hT]; rfl) (fun z hz => by
        simp only [List.mem_cons, List.not_mem_nil, or_false] at hz
        rcases hz with rfl | rfl | rfl
        · exact Or.inr ⟨by decide, "java/lang/IndexOutOfBoundsException", C.2.2.2.2.1 _ wc_L_x28, kn_nc C.kn ("java/lang/UnsupportedOperationException", "java/lang/IndexOutOfBoundsException") (by decide +kernel)⟩
        · exact Or.inr ⟨by decide, "java/lang/IllegalArgumentException", C.2.2.2.2.1 _ wc_L_x13, kn_nc C.kn ("java/lang/UnsupportedOperationException", "java/lang/IllegalArgumentException") (by decide +kernel)⟩
        · exact Or.inr ⟨by decide, "java/lang/IllegalStateException", C.2.2.2.2.1 _ wc_L_x15, kn_nc C.kn ("java/lang/UnsupportedOperationException", "java/lang/IllegalStateException") (by decide +kernel)⟩) (by decide) (by decide) (C.2.2.2.2.1 _ wc_L_x49) (va_Nw.use rfl (C.kn.2.2.2.1 ("java/lang/UnsupportedOperationException", "java/lang/UnsupportedOperationException") (by decide +kernel))) e1 e2 e3 (q_hand C hr hlk (Nat.le_of_ble_eq_true rfl) (Nat.le_of_ble_eq_true rfl) (Or.inr ⟨rfl, dL_ill_25⟩) (by decide) dL_ill_27 (by decide) dL_ill_28 hR hS c1)
            · rw [if_neg hk3] at hk
              exact absurd hk failO_e
    · intro r hs h
      refine WG_st (st' := .int r :: [.int (0 : Int32), va_rf out]) rfl ?_
      refine q_i2l C dL_ill_8 ?_
      refine q_last C dL_ill_9 h (fun hs h => ?_)
      refine q_goto C 29 dL_ill_10 (by decide) ?_
      refine q_iconst C (0 : Int32) dL_ill_29 (by decide) ?_
      exact q_wret C hr hlk (Nat.le_of_ble_eq_true rfl) (Nat.le_of_ble_eq_true rfl) dL_ill_30 h
  rw [lg_entry_eq]
  cases x <;> cases out <;> exact key _ _ _ hR va_S.rf ⟨lv_entry _ (n := 5) (Nat.le_of_ble_eq_true rfl), (c1_r (c1_i (c1_i (c1_r c1_n))))⟩
theorem ml_L_104 : Cond.methodLink RL 104 yX8_close ∈ Tg := Tg_of (i := 1353) (by decide +kernel) (by decide +kernel)
theorem lk_L_104 : Lk RL 104 yX8_close cX8_close 6 (some .int) 1 := ⟨ml_L_104, cd_X8_close, iw_X8, by decide +kernel⟩
theorem im_X8_close : Cond.instanceMethod yX8_close ∈ Tg := Tg_of (i := 1354) (by decide +kernel) (by decide +kernel)
theorem se_X8_X8_close : Cond.selects RX8 yX8_close yX8_close ∈ Tg := Tg_of (i := 1355) (by decide +kernel) (by decide +kernel)
def f_L_close (x : Option Nat) (p1 : Int32) (out : Option Nat) : OO Int32 := rcv x 11 fun a => call (f_X8_close a p1) (fun (r : Int32) => stL out (0 : Int32) r.toInt64 (rtn (0 : Int32))) (fun k => (if k = 0 then rtn (1 : Int32) else (if k = 2 then rtn (2 : Int32) else (if k = 4 then rtn (3 : Int32) else failO))))
set_option maxRecDepth 100000 in
set_option maxHeartbeats 4000000 in
theorem m_L_close {G : GG} {l : Launch} {x : Option Nat} {p1 : Int32} {out : Option Nat} {hs hs' : Hs} {kk : Int32} (h : f_L_close x p1 out hs = some (.ok kk, hs')) : CTW G l yL_close cL_close 4 [(0, 9, 12, 28), (0, 9, 15, 15), (0, 9, 18, 49)] 14 479 2 12 [va_rf x, .int p1, va_rf out] hs kk hs' := by
  refine vx_ofWH (cc := cL_close) (maxL := 4) (ret := (some .int)) (hh := [(0, 9, 12, 28), (0, 9, 15, 15), (0, 9, 18, 49)]) (by decide +kernel) rfl ?_
  intro p e s m args below meth c s₁ B hml hv
  obtain ⟨hav, hR, hKn⟩ := hv
  subst hav
  have hts := atoms_spec (ws := .codeWith yL_close cL_close 4 (some .int) [(0, 9, 12, 28), (0, 9, 15, 15), (0, 9, 18, 49)] :: Tg) B.pre
  have hT := vx_table (x := yL_close) B (hts _ List.mem_cons_self)
  have C : Cx G l p s m _ c RL cL_close 4 := ⟨B.exec, B.bytes, hml, findClass_of_methodNamed B.named, fun w hw => hts w (List.mem_cons_of_mem _ hw), hKn, fun q hq => Nat.le_trans hR.2.2.1 hq⟩
  have key : WG G p l e { frames := 14, cells := 2, slots := 12, locals := 479 } s m ([va_rf x, .int p1, va_rf out] : List Value).toArray below meth c 4 0 0 (vx_MQ below (QcW G kk hs') XCW ([va_rf x, .int p1, va_rf out] : List Value).toArray s 2 12 (gA G)) hs [(0, va_rf x), (1, .int p1), (2, va_rf out)] [] 0 := by
    unfold f_L_close at h
    have hr := B.returns
    have hlk := B.notSynchronized
    refine q_aload_n C 2 dL_close_0 rfl ?_
    refine q_iconst C (0 : Int32) dL_close_1 (by decide) ?_
    refine q_aload_n C 0 dL_close_2 rfl ?_
    refine q_iload_n C 1 dL_close_3 rfl ?_
    refine q_callW C (CN := RX8) (T := TX8) (N := 10) (tv := tvI) [.int p1] [.int (0 : Int32), va_rf out] (fun a0 o2 hs1 hm => m_X8_close hm) lk_L_104 im_X8_close se_X8_X8_close rfl ⟨(Nat.le_of_ble_eq_true rfl), (Nat.le_of_ble_eq_true rfl)⟩ ⟨(Nat.le_of_ble_eq_true rfl), (Nat.le_of_ble_eq_true rfl)⟩ rfl rfl (by simp only [List.map, cat_rf, cat_i, cat_a]; decide) dL_close_4 h ?_ ?_
    · intro k sz hs1 hk H locs ls ce q hR hS e1 e2 e3 c1
      by_cases hk0 : k = 0
      · subst hk0
        rw [if_pos rfl] at hk
        cases hk
        exact vx_catch (own := RL) (name := "java/lang/IndexOutOfBoundsException") (E := exN 0) C.2.2.2.1 [] ⟨0, 9, 12, 28⟩ [⟨0, 9, 15, 15⟩, ⟨0, 9, 18, 49⟩] (by rw [hT]; rfl) (fun z hz => nomatch hz) (by decide) (by decide) (C.2.2.2.2.1 _ wc_L_x28) (va_Nw.use rfl (C.kn.2.2.2.1 ("java/lang/IndexOutOfBoundsException", "java/lang/IndexOutOfBoundsException") (by decide +kernel))) e1 e2 e3 (q_hand C hr hlk (Nat.le_of_ble_eq_true rfl) (Nat.le_of_ble_eq_true rfl) (Or.inl ⟨_, rfl, rfl, dL_close_12⟩) (by decide) dL_close_13 (by decide) dL_close_14 hR hS c1)
      · rw [if_neg hk0] at hk
        by_cases hk1 : k = 2
        · subst hk1
          rw [if_pos rfl] at hk
          cases hk
          exact vx_catch (own := RL) (name := "java/lang/IllegalStateException") (E := exN 2) C.2.2.2.1 [⟨0, 9, 12, 28⟩] ⟨0, 9, 15, 15⟩ [⟨0, 9, 18, 49⟩] (by rw [hT]; rfl) (fun z hz => by
        simp only [List.mem_cons, List.not_mem_nil, or_false] at hz
        rcases hz with rfl
        · exact Or.inr ⟨by decide, "java/lang/IndexOutOfBoundsException", C.2.2.2.2.1 _ wc_L_x28, kn_nc C.kn ("java/lang/IllegalStateException", "java/lang/IndexOutOfBoundsException") (by decide +kernel)⟩) (by decide) (by decide) (C.2.2.2.2.1 _ wc_L_x15) (va_Nw.use rfl (C.kn.2.2.2.1 ("java/lang/IllegalStateException", "java/lang/IllegalStateException") (by decide +kernel))) e1 e2 e3 (q_hand C hr hlk (Nat.le_of_ble_eq_true rfl) (Nat.le_of_ble_eq_true rfl) (Or.inl ⟨_, rfl, rfl, dL_close_15⟩) (by decide) dL_close_16 (by decide) dL_close_17 hR hS c1)
        · rw [if_neg hk1] at hk
          by_cases hk2 : k = 4
          · subst hk2
            rw [if_pos rfl] at hk
            cases hk
            exact vx_catch (own := RL) (name := "java/lang/UnsupportedOperationException") (E := exN 4) C.2.2.2.1 [⟨0, 9, 12, 28⟩, ⟨0, 9, 15, 15⟩] ⟨0, 9, 18, 49⟩ [] (by rw [hT]; rfl) (fun z hz => by
        simp only [List.mem_cons, List.not_mem_nil, or_false] at hz
        rcases hz with rfl | rfl
        · exact Or.inr ⟨by decide, "java/lang/IndexOutOfBoundsException", C.2.2.2.2.1 _ wc_L_x28, kn_nc C.kn ("java/lang/UnsupportedOperationException", "java/lang/IndexOutOfBoundsException") (by decide +kernel)⟩
        · exact Or.inr ⟨by decide, "java/lang/IllegalStateException", C.2.2.2.2.1 _ wc_L_x15, kn_nc C.kn ("java/lang/UnsupportedOperationException", "java/lang/IllegalStateException") (by decide +kernel)⟩) (by decide) (by decide) (C.2.2.2.2.1 _ wc_L_x49) (va_Nw.use rfl (C.kn.2.2.2.1 ("java/lang/UnsupportedOperationException", "java/lang/UnsupportedOperationException") (by decide +kernel))) e1 e2 e3 (q_hand C hr hlk (Nat.le_of_ble_eq_true rfl) (Nat.le_of_ble_eq_true rfl) (Or.inl ⟨_, rfl, rfl, dL_close_18⟩) (by decide) dL_close_19 (by decide) dL_close_20 hR hS c1)
          · rw [if_neg hk2] at hk
            exact absurd hk failO_e
    · intro r hs h
      refine WG_st (st' := .int r :: [.int (0 : Int32), va_rf out]) rfl ?_
      refine q_i2l C dL_close_7 ?_
      refine q_last C dL_close_8 h (fun hs h => ?_)
      refine q_goto C 21 dL_close_9 (by decide) ?_
      refine q_iconst C (0 : Int32) dL_close_21 (by decide) ?_
      exact q_wret C hr hlk (Nat.le_of_ble_eq_true rfl) (Nat.le_of_ble_eq_true rfl) dL_close_22 h
  rw [lg_entry_eq]
  cases x <;> cases out <;> exact key _ _ _ hR va_S.rf ⟨lv_entry _ (n := 4) (Nat.le_of_ble_eq_true rfl), (c1_r (c1_i (c1_r c1_n)))⟩
theorem ml_L_107 : Cond.methodLink RL 107 yX8_open ∈ Tg := Tg_of (i := 1367) (by decide +kernel) (by decide +kernel)
theorem lk_L_107 : Lk RL 107 yX8_open cX8_open 5 (some .int) 1 := ⟨ml_L_107, cd_X8_open, iw_X8, by decide +kernel⟩
theorem im_X8_open : Cond.instanceMethod yX8_open ∈ Tg := Tg_of (i := 1368) (by decide +kernel) (by decide +kernel)
theorem se_X8_X8_open : Cond.selects RX8 yX8_open yX8_open ∈ Tg := Tg_of (i := 1369) (by decide +kernel) (by decide +kernel)
def f_L_open (x : Option Nat) (p1 : Int32) (out : Option Nat) : OO Int32 := rcv x 11 fun a => call (f_X8_open a p1) (fun (r : Int32) => stL out (0 : Int32) r.toInt64 (rtn (0 : Int32))) (fun k => (if k = 0 then rtn (1 : Int32) else (if k = 2 then rtn (2 : Int32) else failO)))
set_option maxRecDepth 100000 in
set_option maxHeartbeats 4000000 in
theorem m_L_open {G : GG} {l : Launch} {x : Option Nat} {p1 : Int32} {out : Option Nat} {hs hs' : Hs} {kk : Int32} (h : f_L_open x p1 out hs = some (.ok kk, hs')) : CTW G l yL_open cL_open 4 [(0, 9, 12, 28), (0, 9, 15, 15)] 8 245 2 12 [va_rf x, .int p1, va_rf out] hs kk hs' := by
  refine vx_ofWH (cc := cL_open) (maxL := 4) (ret := (some .int)) (hh := [(0, 9, 12, 28), (0, 9, 15, 15)]) (by decide +kernel) rfl ?_
  intro p e s m args below meth c s₁ B hml hv
  obtain ⟨hav, hR, hKn⟩ := hv
  subst hav
  have hts := atoms_spec (ws := .codeWith yL_open cL_open 4 (some .int) [(0, 9, 12, 28), (0, 9, 15, 15)] :: Tg) B.pre
  have hT := vx_table (x := yL_open) B (hts _ List.mem_cons_self)
  have C : Cx G l p s m _ c RL cL_open 4 := ⟨B.exec, B.bytes, hml, findClass_of_methodNamed B.named, fun w hw => hts w (List.mem_cons_of_mem _ hw), hKn, fun q hq => Nat.le_trans hR.2.2.1 hq⟩
  have key : WG G p l e { frames := 8, cells := 2, slots := 12, locals := 245 } s m ([va_rf x, .int p1, va_rf out] : List Value).toArray below meth c 4 0 0 (vx_MQ below (QcW G kk hs') XCW ([va_rf x, .int p1, va_rf out] : List Value).toArray s 2 12 (gA G)) hs [(0, va_rf x), (1, .int p1), (2, va_rf out)] [] 0 := by
    unfold f_L_open at h
    have hr := B.returns
    have hlk := B.notSynchronized
    refine q_aload_n C 2 dL_open_0 rfl ?_
    refine q_iconst C (0 : Int32) dL_open_1 (by decide) ?_
    refine q_aload_n C 0 dL_open_2 rfl ?_
    refine q_iload_n C 1 dL_open_3 rfl ?_
    refine q_callW C (CN := RX8) (T := TX8) (N := 10) (tv := tvI) [.int p1] [.int (0 : Int32), va_rf out] (fun a0 o2 hs1 hm => m_X8_open hm) lk_L_107 im_X8_open se_X8_X8_open rfl ⟨(Nat.le_of_ble_eq_true rfl), (Nat.le_of_ble_eq_true rfl)⟩ ⟨(Nat.le_of_ble_eq_true rfl), (Nat.le_of_ble_eq_true rfl)⟩ rfl rfl (by simp only [List.map, cat_rf, cat_i, cat_a]; decide) dL_open_4 h ?_ ?_
    · intro k sz hs1 hk H locs ls ce q hR hS e1 e2 e3 c1
      by_cases hk0 : k = 0
      · subst hk0
        rw [if_pos rfl] at hk
        cases hk
        exact vx_catch (own := RL) (name := "java/lang/IndexOutOfBoundsException") (E := exN 0) C.2.2.2.1 [] ⟨0, 9, 12, 28⟩ [⟨0, 9, 15, 15⟩] (by rw [hT]; rfl) (fun z hz => nomatch hz) (by decide) (by decide) (C.2.2.2.2.1 _ wc_L_x28) (va_Nw.use rfl (C.kn.2.2.2.1 ("java/lang/IndexOutOfBoundsException", "java/lang/IndexOutOfBoundsException") (by decide +kernel))) e1 e2 e3 (q_hand C hr hlk (Nat.le_of_ble_eq_true rfl) (Nat.le_of_ble_eq_true rfl) (Or.inl ⟨_, rfl, rfl, dL_open_12⟩) (by decide) dL_open_13 (by decide) dL_open_14 hR hS c1)
      · rw [if_neg hk0] at hk
        by_cases hk1 : k = 2
        · subst hk1
          rw [if_pos rfl] at hk
          cases hk
          exact vx_catch (own := RL) (name := "java/lang/IllegalStateException") (E := exN 2) C.2.2.2.1 [⟨0, 9, 12, 28⟩] ⟨0, 9, 15, 15⟩ [] (by rw [hT]; rfl) (fun z hz => by
        simp only [List.mem_cons, List.not_mem_nil, or_false] at hz
        rcases hz with rfl
        · exact Or.inr ⟨by decide, "java/lang/IndexOutOfBoundsException", C.2.2.2.2.1 _ wc_L_x28, kn_nc C.kn ("java/lang/IllegalStateException", "java/lang/IndexOutOfBoundsException") (by decide +kernel)⟩) (by decide) (by decide) (C.2.2.2.2.1 _ wc_L_x15) (va_Nw.use rfl (C.kn.2.2.2.1 ("java/lang/IllegalStateException", "java/lang/IllegalStateException") (by decide +kernel))) e1 e2 e3 (q_hand C hr hlk (Nat.le_of_ble_eq_true rfl) (Nat.le_of_ble_eq_true rfl) (Or.inl ⟨_, rfl, rfl, dL_open_15⟩) (by decide) dL_open_16 (by decide) dL_open_17 hR hS c1)
        · rw [if_neg hk1] at hk
          exact absurd hk failO_e
    · intro r hs h
      refine WG_st (st' := .int r :: [.int (0 : Int32), va_rf out]) rfl ?_
      refine q_i2l C dL_open_7 ?_
      refine q_last C dL_open_8 h (fun hs h => ?_)
      refine q_goto C 18 dL_open_9 (by decide) ?_
      refine q_iconst C (0 : Int32) dL_open_18 (by decide) ?_
      exact q_wret C hr hlk (Nat.le_of_ble_eq_true rfl) (Nat.le_of_ble_eq_true rfl) dL_open_19 h
  rw [lg_entry_eq]
  cases x <;> cases out <;> exact key _ _ _ hR va_S.rf ⟨lv_entry _ (n := 4) (Nat.le_of_ble_eq_true rfl), (c1_r (c1_i (c1_r c1_n)))⟩
theorem ml_L_110 : Cond.methodLink RL 110 yX8_passDay ∈ Tg := Tg_of (i := 1375) (by decide +kernel) (by decide +kernel)
theorem lk_L_110 : Lk RL 110 yX8_passDay cX8_passDay 1 (some .int) 0 := ⟨ml_L_110, cd_X8_passDay, iw_X8, by decide +kernel⟩
theorem im_X8_passDay : Cond.instanceMethod yX8_passDay ∈ Tg := Tg_of (i := 1376) (by decide +kernel) (by decide +kernel)
theorem se_X8_X8_passDay : Cond.selects RX8 yX8_passDay yX8_passDay ∈ Tg := Tg_of (i := 1377) (by decide +kernel) (by decide +kernel)
def f_L_passDay (x : Option Nat) (out : Option Nat) : OO Int32 := rcv x 11 fun a => call (f_X8_passDay a ) (fun (r : Int32) => stL out (0 : Int32) r.toInt64 (rtn (0 : Int32))) (fun k => (if k = 2 then rtn (1 : Int32) else failO))
set_option maxRecDepth 100000 in
set_option maxHeartbeats 4000000 in
theorem m_L_passDay {G : GG} {l : Launch} {x : Option Nat} {out : Option Nat} {hs hs' : Hs} {kk : Int32} (h : f_L_passDay x out hs = some (.ok kk, hs')) : CTW G l yL_passDay cL_passDay 3 [(0, 8, 11, 15)] 7 220 1 6 [va_rf x, va_rf out] hs kk hs' := by
  refine vx_ofWH (cc := cL_passDay) (maxL := 3) (ret := (some .int)) (hh := [(0, 8, 11, 15)]) (by decide +kernel) rfl ?_
  intro p e s m args below meth c s₁ B hml hv
  obtain ⟨hav, hR, hKn⟩ := hv
  subst hav
  have hts := atoms_spec (ws := .codeWith yL_passDay cL_passDay 3 (some .int) [(0, 8, 11, 15)] :: Tg) B.pre
  have hT := vx_table (x := yL_passDay) B (hts _ List.mem_cons_self)
  have C : Cx G l p s m _ c RL cL_passDay 3 := ⟨B.exec, B.bytes, hml, findClass_of_methodNamed B.named, fun w hw => hts w (List.mem_cons_of_mem _ hw), hKn, fun q hq => Nat.le_trans hR.2.2.1 hq⟩
  have key : WG G p l e { frames := 7, cells := 1, slots := 6, locals := 220 } s m ([va_rf x, va_rf out] : List Value).toArray below meth c 3 0 0 (vx_MQ below (QcW G kk hs') XCW ([va_rf x, va_rf out] : List Value).toArray s 1 6 (gA G)) hs [(0, va_rf x), (1, va_rf out)] [] 0 := by
    unfold f_L_passDay at h
    have hr := B.returns
    have hlk := B.notSynchronized
    refine q_aload_n C 1 dL_passDay_0 rfl ?_
    refine q_iconst C (0 : Int32) dL_passDay_1 (by decide) ?_
    refine q_aload_n C 0 dL_passDay_2 rfl ?_
    refine q_callW C (CN := RX8) (T := TX8) (N := 10) (tv := tvI) [] [.int (0 : Int32), va_rf out] (fun a0 o2 hs1 hm => m_X8_passDay hm) lk_L_110 im_X8_passDay se_X8_X8_passDay rfl ⟨(Nat.le_of_ble_eq_true rfl), (Nat.le_of_ble_eq_true rfl)⟩ ⟨(Nat.le_of_ble_eq_true rfl), (Nat.le_of_ble_eq_true rfl)⟩ rfl rfl (by simp only [List.map, cat_rf, cat_i, cat_a]; decide) dL_passDay_3 h ?_ ?_
    · intro k sz hs1 hk H locs ls ce q hR hS e1 e2 e3 c1
      by_cases hk0 : k = 2
      · subst hk0
        rw [if_pos rfl] at hk
        cases hk
        exact vx_catch (own := RL) (name := "java/lang/IllegalStateException") (E := exN 2) C.2.2.2.1 [] ⟨0, 8, 11, 15⟩ [] (by rw [hT]; rfl) (fun z hz => nomatch hz) (by decide) (by decide) (C.2.2.2.2.1 _ wc_L_x15) (va_Nw.use rfl (C.kn.2.2.2.1 ("java/lang/IllegalStateException", "java/lang/IllegalStateException") (by decide +kernel))) e1 e2 e3 (q_hand C hr hlk (Nat.le_of_ble_eq_true rfl) (Nat.le_of_ble_eq_true rfl) (Or.inl ⟨_, rfl, rfl, dL_passDay_11⟩) (by decide) dL_passDay_12 (by decide) dL_passDay_13 hR hS c1)
      · rw [if_neg hk0] at hk
        exact absurd hk failO_e
    · intro r hs h
      refine WG_st (st' := .int r :: [.int (0 : Int32), va_rf out]) rfl ?_
      refine q_i2l C dL_passDay_6 ?_
      refine q_last C dL_passDay_7 h (fun hs h => ?_)
      refine q_goto C 14 dL_passDay_8 (by decide) ?_
      refine q_iconst C (0 : Int32) dL_passDay_14 (by decide) ?_
      exact q_wret C hr hlk (Nat.le_of_ble_eq_true rfl) (Nat.le_of_ble_eq_true rfl) dL_passDay_15 h
  rw [lg_entry_eq]
  cases x <;> cases out <;> exact key _ _ _ hR va_S.rf ⟨lv_entry _ (n := 3) (Nat.le_of_ble_eq_true rfl), (c1_r (c1_r c1_n))⟩
theorem ml_L_113 : Cond.methodLink RL 113 yX8_nextWeek ∈ Tg := Tg_of (i := 1383) (by decide +kernel) (by decide +kernel)
theorem lk_L_113 : Lk RL 113 yX8_nextWeek cX8_nextWeek 1 (some .int) 0 := ⟨ml_L_113, cd_X8_nextWeek, iw_X8, by decide +kernel⟩
theorem im_X8_nextWeek : Cond.instanceMethod yX8_nextWeek ∈ Tg := Tg_of (i := 1384) (by decide +kernel) (by decide +kernel)
theorem se_X8_X8_nextWeek : Cond.selects RX8 yX8_nextWeek yX8_nextWeek ∈ Tg := Tg_of (i := 1385) (by decide +kernel) (by decide +kernel)
def f_L_nextWeek (x : Option Nat) (out : Option Nat) : OO Int32 := rcv x 11 fun a => call (f_X8_nextWeek a ) (fun (r : Int32) => stL out (0 : Int32) r.toInt64 (rtn (0 : Int32))) (fun k => (if k = 2 then rtn (1 : Int32) else failO))
set_option maxRecDepth 100000 in
set_option maxHeartbeats 4000000 in
theorem m_L_nextWeek {G : GG} {l : Launch} {x : Option Nat} {out : Option Nat} {hs hs' : Hs} {kk : Int32} (h : f_L_nextWeek x out hs = some (.ok kk, hs')) : CTW G l yL_nextWeek cL_nextWeek 3 [(0, 8, 11, 15)] 14 474 1 6 [va_rf x, va_rf out] hs kk hs' := by
  refine vx_ofWH (cc := cL_nextWeek) (maxL := 3) (ret := (some .int)) (hh := [(0, 8, 11, 15)]) (by decide +kernel) rfl ?_
  intro p e s m args below meth c s₁ B hml hv
  obtain ⟨hav, hR, hKn⟩ := hv
  subst hav
  have hts := atoms_spec (ws := .codeWith yL_nextWeek cL_nextWeek 3 (some .int) [(0, 8, 11, 15)] :: Tg) B.pre
  have hT := vx_table (x := yL_nextWeek) B (hts _ List.mem_cons_self)
  have C : Cx G l p s m _ c RL cL_nextWeek 3 := ⟨B.exec, B.bytes, hml, findClass_of_methodNamed B.named, fun w hw => hts w (List.mem_cons_of_mem _ hw), hKn, fun q hq => Nat.le_trans hR.2.2.1 hq⟩
  have key : WG G p l e { frames := 14, cells := 1, slots := 6, locals := 474 } s m ([va_rf x, va_rf out] : List Value).toArray below meth c 3 0 0 (vx_MQ below (QcW G kk hs') XCW ([va_rf x, va_rf out] : List Value).toArray s 1 6 (gA G)) hs [(0, va_rf x), (1, va_rf out)] [] 0 := by
    unfold f_L_nextWeek at h
    have hr := B.returns
    have hlk := B.notSynchronized
    refine q_aload_n C 1 dL_nextWeek_0 rfl ?_
    refine q_iconst C (0 : Int32) dL_nextWeek_1 (by decide) ?_
    refine q_aload_n C 0 dL_nextWeek_2 rfl ?_
    refine q_callW C (CN := RX8) (T := TX8) (N := 10) (tv := tvI) [] [.int (0 : Int32), va_rf out] (fun a0 o2 hs1 hm => m_X8_nextWeek hm) lk_L_113 im_X8_nextWeek se_X8_X8_nextWeek rfl ⟨(Nat.le_of_ble_eq_true rfl), (Nat.le_of_ble_eq_true rfl)⟩ ⟨(Nat.le_of_ble_eq_true rfl), (Nat.le_of_ble_eq_true rfl)⟩ rfl rfl (by simp only [List.map, cat_rf, cat_i, cat_a]; decide) dL_nextWeek_3 h ?_ ?_
    · intro k sz hs1 hk H locs ls ce q hR hS e1 e2 e3 c1
      by_cases hk0 : k = 2
      · subst hk0
        rw [if_pos rfl] at hk
        cases hk
        exact vx_catch (own := RL) (name := "java/lang/IllegalStateException") (E := exN 2) C.2.2.2.1 [] ⟨0, 8, 11, 15⟩ [] (by rw [hT]; rfl) (fun z hz => nomatch hz) (by decide) (by decide) (C.2.2.2.2.1 _ wc_L_x15) (va_Nw.use rfl (C.kn.2.2.2.1 ("java/lang/IllegalStateException", "java/lang/IllegalStateException") (by decide +kernel))) e1 e2 e3 (q_hand C hr hlk (Nat.le_of_ble_eq_true rfl) (Nat.le_of_ble_eq_true rfl) (Or.inl ⟨_, rfl, rfl, dL_nextWeek_11⟩) (by decide) dL_nextWeek_12 (by decide) dL_nextWeek_13 hR hS c1)
      · rw [if_neg hk0] at hk
        exact absurd hk failO_e
    · intro r hs h
      refine WG_st (st' := .int r :: [.int (0 : Int32), va_rf out]) rfl ?_
      refine q_i2l C dL_nextWeek_6 ?_
      refine q_last C dL_nextWeek_7 h (fun hs h => ?_)
      refine q_goto C 14 dL_nextWeek_8 (by decide) ?_
      refine q_iconst C (0 : Int32) dL_nextWeek_14 (by decide) ?_
      exact q_wret C hr hlk (Nat.le_of_ble_eq_true rfl) (Nat.le_of_ble_eq_true rfl) dL_nextWeek_15 h
  rw [lg_entry_eq]
  cases x <;> cases out <;> exact key _ _ _ hR va_S.rf ⟨lv_entry _ (n := 3) (Nat.le_of_ble_eq_true rfl), (c1_r (c1_r c1_n))⟩
theorem ml_L_116 : Cond.methodLink RL 116 yX8_account ∈ Tg := Tg_of (i := 1400) (by decide +kernel) (by decide +kernel)
theorem lk_L_116 : Lk RL 116 yX8_account cX8_account 2 (some .int) 1 := ⟨ml_L_116, cd_X8_account, iw_X8, by decide +kernel⟩
theorem im_X8_account : Cond.instanceMethod yX8_account ∈ Tg := Tg_of (i := 1401) (by decide +kernel) (by decide +kernel)
theorem se_X8_X8_account : Cond.selects RX8 yX8_account yX8_account ∈ Tg := Tg_of (i := 1402) (by decide +kernel) (by decide +kernel)
def f_L_account (x : Option Nat) (p1 : Int32) (out : Option Nat) : OO Int32 := rcv x 11 fun a => call (f_X8_account a p1) (fun (r : Int32) => stL out (0 : Int32) r.toInt64 (rtn (0 : Int32))) (fun k => (if k = 0 then rtn (1 : Int32) else failO))
set_option maxRecDepth 100000 in
set_option maxHeartbeats 4000000 in
theorem m_L_account {G : GG} {l : Launch} {x : Option Nat} {p1 : Int32} {out : Option Nat} {hs hs' : Hs} {kk : Int32} (h : f_L_account x p1 out hs = some (.ok kk, hs')) : CTW G l yL_account cL_account 4 [(0, 9, 12, 28)] 8 242 1 6 [va_rf x, .int p1, va_rf out] hs kk hs' := by
  refine vx_ofWH (cc := cL_account) (maxL := 4) (ret := (some .int)) (hh := [(0, 9, 12, 28)]) (by decide +kernel) rfl ?_
  intro p e s m args below meth c s₁ B hml hv
  obtain ⟨hav, hR, hKn⟩ := hv
  subst hav
  have hts := atoms_spec (ws := .codeWith yL_account cL_account 4 (some .int) [(0, 9, 12, 28)] :: Tg) B.pre
  have hT := vx_table (x := yL_account) B (hts _ List.mem_cons_self)
  have C : Cx G l p s m _ c RL cL_account 4 := ⟨B.exec, B.bytes, hml, findClass_of_methodNamed B.named, fun w hw => hts w (List.mem_cons_of_mem _ hw), hKn, fun q hq => Nat.le_trans hR.2.2.1 hq⟩
  have key : WG G p l e { frames := 8, cells := 1, slots := 6, locals := 242 } s m ([va_rf x, .int p1, va_rf out] : List Value).toArray below meth c 4 0 0 (vx_MQ below (QcW G kk hs') XCW ([va_rf x, .int p1, va_rf out] : List Value).toArray s 1 6 (gA G)) hs [(0, va_rf x), (1, .int p1), (2, va_rf out)] [] 0 := by
    unfold f_L_account at h
    have hr := B.returns
    have hlk := B.notSynchronized
    refine q_aload_n C 2 dL_account_0 rfl ?_
    refine q_iconst C (0 : Int32) dL_account_1 (by decide) ?_
    refine q_aload_n C 0 dL_account_2 rfl ?_
    refine q_iload_n C 1 dL_account_3 rfl ?_
    refine q_callW C (CN := RX8) (T := TX8) (N := 10) (tv := tvI) [.int p1] [.int (0 : Int32), va_rf out] (fun a0 o2 hs1 hm => m_X8_account hm) lk_L_116 im_X8_account se_X8_X8_account rfl ⟨(Nat.le_of_ble_eq_true rfl), (Nat.le_of_ble_eq_true rfl)⟩ ⟨(Nat.le_of_ble_eq_true rfl), (Nat.le_of_ble_eq_true rfl)⟩ rfl rfl (by simp only [List.map, cat_rf, cat_i, cat_a]; decide) dL_account_4 h ?_ ?_
    · intro k sz hs1 hk H locs ls ce q hR hS e1 e2 e3 c1
      by_cases hk0 : k = 0
      · subst hk0
        rw [if_pos rfl] at hk
        cases hk
        exact vx_catch (own := RL) (name := "java/lang/IndexOutOfBoundsException") (E := exN 0) C.2.2.2.1 [] ⟨0, 9, 12, 28⟩ [] (by rw [hT]; rfl) (fun z hz => nomatch hz) (by decide) (by decide) (C.2.2.2.2.1 _ wc_L_x28) (va_Nw.use rfl (C.kn.2.2.2.1 ("java/lang/IndexOutOfBoundsException", "java/lang/IndexOutOfBoundsException") (by decide +kernel))) e1 e2 e3 (q_hand C hr hlk (Nat.le_of_ble_eq_true rfl) (Nat.le_of_ble_eq_true rfl) (Or.inl ⟨_, rfl, rfl, dL_account_12⟩) (by decide) dL_account_13 (by decide) dL_account_14 hR hS c1)
      · rw [if_neg hk0] at hk
        exact absurd hk failO_e
    · intro r hs h
      refine WG_st (st' := .int r :: [.int (0 : Int32), va_rf out]) rfl ?_
      refine q_i2l C dL_account_7 ?_
      refine q_last C dL_account_8 h (fun hs h => ?_)
      refine q_goto C 15 dL_account_9 (by decide) ?_
      refine q_iconst C (0 : Int32) dL_account_15 (by decide) ?_
      exact q_wret C hr hlk (Nat.le_of_ble_eq_true rfl) (Nat.le_of_ble_eq_true rfl) dL_account_16 h
  rw [lg_entry_eq]
  cases x <;> cases out <;> exact key _ _ _ hR va_S.rf ⟨lv_entry _ (n := 4) (Nat.le_of_ble_eq_true rfl), (c1_r (c1_i (c1_r c1_n)))⟩
theorem ml_L_119 : Cond.methodLink RL 119 yX8_save ∈ Tg := Tg_of (i := 1407) (by decide +kernel) (by decide +kernel)
theorem lk_L_119 : Lk RL 119 yX8_save cX8_save 1 (some .int) 0 := ⟨ml_L_119, cd_X8_save, iw_X8, by decide +kernel⟩
theorem im_X8_save : Cond.instanceMethod yX8_save ∈ Tg := Tg_of (i := 1408) (by decide +kernel) (by decide +kernel)
theorem se_X8_X8_save : Cond.selects RX8 yX8_save yX8_save ∈ Tg := Tg_of (i := 1409) (by decide +kernel) (by decide +kernel)
def f_L_save (x : Option Nat) (out : Option Nat) : OO Int32 := rcv x 11 fun a => call (f_X8_save a ) (fun (r : Int32) => stL out (0 : Int32) r.toInt64 (rtn (0 : Int32))) (fun k => (if k = 2 then rtn (1 : Int32) else failO))
set_option maxRecDepth 100000 in
set_option maxHeartbeats 4000000 in
theorem m_L_save {G : GG} {l : Launch} {x : Option Nat} {out : Option Nat} {hs hs' : Hs} {kk : Int32} (h : f_L_save x out hs = some (.ok kk, hs')) : CTW G l yL_save cL_save 3 [(0, 8, 11, 15)] 7 220 1 6 [va_rf x, va_rf out] hs kk hs' := by
  refine vx_ofWH (cc := cL_save) (maxL := 3) (ret := (some .int)) (hh := [(0, 8, 11, 15)]) (by decide +kernel) rfl ?_
  intro p e s m args below meth c s₁ B hml hv
  obtain ⟨hav, hR, hKn⟩ := hv
  subst hav
  have hts := atoms_spec (ws := .codeWith yL_save cL_save 3 (some .int) [(0, 8, 11, 15)] :: Tg) B.pre
  have hT := vx_table (x := yL_save) B (hts _ List.mem_cons_self)
  have C : Cx G l p s m _ c RL cL_save 3 := ⟨B.exec, B.bytes, hml, findClass_of_methodNamed B.named, fun w hw => hts w (List.mem_cons_of_mem _ hw), hKn, fun q hq => Nat.le_trans hR.2.2.1 hq⟩
  have key : WG G p l e { frames := 7, cells := 1, slots := 6, locals := 220 } s m ([va_rf x, va_rf out] : List Value).toArray below meth c 3 0 0 (vx_MQ below (QcW G kk hs') XCW ([va_rf x, va_rf out] : List Value).toArray s 1 6 (gA G)) hs [(0, va_rf x), (1, va_rf out)] [] 0 := by
    unfold f_L_save at h
    have hr := B.returns
    have hlk := B.notSynchronized
    refine q_aload_n C 1 dL_save_0 rfl ?_
    refine q_iconst C (0 : Int32) dL_save_1 (by decide) ?_
    refine q_aload_n C 0 dL_save_2 rfl ?_
    refine q_callW C (CN := RX8) (T := TX8) (N := 10) (tv := tvI) [] [.int (0 : Int32), va_rf out] (fun a0 o2 hs1 hm => m_X8_save hm) lk_L_119 im_X8_save se_X8_X8_save rfl ⟨(Nat.le_of_ble_eq_true rfl), (Nat.le_of_ble_eq_true rfl)⟩ ⟨(Nat.le_of_ble_eq_true rfl), (Nat.le_of_ble_eq_true rfl)⟩ rfl rfl (by simp only [List.map, cat_rf, cat_i, cat_a]; decide) dL_save_3 h ?_ ?_
    · intro k sz hs1 hk H locs ls ce q hR hS e1 e2 e3 c1
      by_cases hk0 : k = 2
      · subst hk0
        rw [if_pos rfl] at hk
        cases hk
        exact vx_catch (own := RL) (name := "java/lang/IllegalStateException") (E := exN 2) C.2.2.2.1 [] ⟨0, 8, 11, 15⟩ [] (by rw [hT]; rfl) (fun z hz => nomatch hz) (by decide) (by decide) (C.2.2.2.2.1 _ wc_L_x15) (va_Nw.use rfl (C.kn.2.2.2.1 ("java/lang/IllegalStateException", "java/lang/IllegalStateException") (by decide +kernel))) e1 e2 e3 (q_hand C hr hlk (Nat.le_of_ble_eq_true rfl) (Nat.le_of_ble_eq_true rfl) (Or.inl ⟨_, rfl, rfl, dL_save_11⟩) (by decide) dL_save_12 (by decide) dL_save_13 hR hS c1)
      · rw [if_neg hk0] at hk
        exact absurd hk failO_e
    · intro r hs h
      refine WG_st (st' := .int r :: [.int (0 : Int32), va_rf out]) rfl ?_
      refine q_i2l C dL_save_6 ?_
      refine q_last C dL_save_7 h (fun hs h => ?_)
      refine q_goto C 14 dL_save_8 (by decide) ?_
      refine q_iconst C (0 : Int32) dL_save_14 (by decide) ?_
      exact q_wret C hr hlk (Nat.le_of_ble_eq_true rfl) (Nat.le_of_ble_eq_true rfl) dL_save_15 h
  rw [lg_entry_eq]
  cases x <;> cases out <;> exact key _ _ _ hR va_S.rf ⟨lv_entry _ (n := 3) (Nat.le_of_ble_eq_true rfl), (c1_r (c1_r c1_n))⟩
theorem ml_L_122 : Cond.methodLink RL 122 yX8_placeIn ∈ Tg := Tg_of (i := 1416) (by decide +kernel) (by decide +kernel)
theorem lk_L_122 : Lk RL 122 yX8_placeIn cX8_placeIn 5 (some .int) 2 := ⟨ml_L_122, cd_X8_placeIn, iw_X8, by decide +kernel⟩
theorem im_X8_placeIn : Cond.instanceMethod yX8_placeIn ∈ Tg := Tg_of (i := 1417) (by decide +kernel) (by decide +kernel)
theorem se_X8_X8_placeIn : Cond.selects RX8 yX8_placeIn yX8_placeIn ∈ Tg := Tg_of (i := 1418) (by decide +kernel) (by decide +kernel)
def f_L_placeIn (x : Option Nat) (p1 : Int32) (p2 : Int32) (out : Option Nat) : OO Int32 := rcv x 11 fun a => call (f_X8_placeIn a p1 p2) (fun (r : Int32) => stL out (0 : Int32) r.toInt64 (rtn (0 : Int32))) (fun k => (if k = 3 then rtn (1 : Int32) else (if k = 0 then rtn (2 : Int32) else failO)))
set_option maxRecDepth 100000 in
set_option maxHeartbeats 4000000 in
theorem m_L_placeIn {G : GG} {l : Launch} {x : Option Nat} {p1 : Int32} {p2 : Int32} {out : Option Nat} {hs hs' : Hs} {kk : Int32} (h : f_L_placeIn x p1 p2 out hs = some (.ok kk, hs')) : CTW G l yL_placeIn cL_placeIn 5 [(0, 10, 13, 44), (0, 10, 17, 28)] 8 245 3 18 [va_rf x, .int p1, .int p2, va_rf out] hs kk hs' := by
  refine vx_ofWH (cc := cL_placeIn) (maxL := 5) (ret := (some .int)) (hh := [(0, 10, 13, 44), (0, 10, 17, 28)]) (by decide +kernel) rfl ?_
  intro p e s m args below meth c s₁ B hml hv
  obtain ⟨hav, hR, hKn⟩ := hv
  subst hav
  have hts := atoms_spec (ws := .codeWith yL_placeIn cL_placeIn 5 (some .int) [(0, 10, 13, 44), (0, 10, 17, 28)] :: Tg) B.pre
  have hT := vx_table (x := yL_placeIn) B (hts _ List.mem_cons_self)
  have C : Cx G l p s m _ c RL cL_placeIn 5 := ⟨B.exec, B.bytes, hml, findClass_of_methodNamed B.named, fun w hw => hts w (List.mem_cons_of_mem _ hw), hKn, fun q hq => Nat.le_trans hR.2.2.1 hq⟩
  have key : WG G p l e { frames := 8, cells := 3, slots := 18, locals := 245 } s m ([va_rf x, .int p1, .int p2, va_rf out] : List Value).toArray below meth c 5 0 0 (vx_MQ below (QcW G kk hs') XCW ([va_rf x, .int p1, .int p2, va_rf out] : List Value).toArray s 3 18 (gA G)) hs [(0, va_rf x), (1, .int p1), (2, .int p2), (3, va_rf out)] [] 0 := by
    unfold f_L_placeIn at h
    have hr := B.returns
    have hlk := B.notSynchronized
    refine q_aload_n C 3 dL_placeIn_0 rfl ?_
    refine q_iconst C (0 : Int32) dL_placeIn_1 (by decide) ?_
    refine q_aload_n C 0 dL_placeIn_2 rfl ?_
    refine q_iload_n C 1 dL_placeIn_3 rfl ?_
    refine q_iload_n C 2 dL_placeIn_4 rfl ?_
    refine q_callW C (CN := RX8) (T := TX8) (N := 10) (tv := tvI) [.int p1, .int p2] [.int (0 : Int32), va_rf out] (fun a0 o2 hs1 hm => m_X8_placeIn hm) lk_L_122 im_X8_placeIn se_X8_X8_placeIn rfl ⟨(Nat.le_of_ble_eq_true rfl), (Nat.le_of_ble_eq_true rfl)⟩ ⟨(Nat.le_of_ble_eq_true rfl), (Nat.le_of_ble_eq_true rfl)⟩ rfl rfl (by simp only [List.map, cat_rf, cat_i, cat_a]; decide) dL_placeIn_5 h ?_ ?_
    · intro k sz hs1 hk H locs ls ce q hR hS e1 e2 e3 c1
      by_cases hk0 : k = 3
      · subst hk0
        rw [if_pos rfl] at hk
        cases hk
        exact vx_catch (own := RL) (name := "java/util/NoSuchElementException") (E := exN 3) C.2.2.2.1 [] ⟨0, 10, 13, 44⟩ [⟨0, 10, 17, 28⟩] (by rw [hT]; rfl) (fun z hz => nomatch hz) (by decide) (by decide) (C.2.2.2.2.1 _ wc_L_x44) (va_Nw.use rfl (C.kn.2.2.2.1 ("java/util/NoSuchElementException", "java/util/NoSuchElementException") (by decide +kernel))) e1 e2 e3 (q_hand C hr hlk (Nat.le_of_ble_eq_true rfl) (Nat.le_of_ble_eq_true rfl) (Or.inr ⟨rfl, dL_placeIn_13⟩) (by decide) dL_placeIn_15 (by decide) dL_placeIn_16 hR hS c1)
      · rw [if_neg hk0] at hk
        by_cases hk1 : k = 0
        · subst hk1
          rw [if_pos rfl] at hk
          cases hk
          exact vx_catch (own := RL) (name := "java/lang/IndexOutOfBoundsException") (E := exN 0) C.2.2.2.1 [⟨0, 10, 13, 44⟩] ⟨0, 10, 17, 28⟩ [] (by rw [hT]; rfl) (fun z hz => by
        simp only [List.mem_cons, List.not_mem_nil, or_false] at hz
        rcases hz with rfl
        · exact Or.inr ⟨by decide, "java/util/NoSuchElementException", C.2.2.2.2.1 _ wc_L_x44, kn_nc C.kn ("java/lang/IndexOutOfBoundsException", "java/util/NoSuchElementException") (by decide +kernel)⟩) (by decide) (by decide) (C.2.2.2.2.1 _ wc_L_x28) (va_Nw.use rfl (C.kn.2.2.2.1 ("java/lang/IndexOutOfBoundsException", "java/lang/IndexOutOfBoundsException") (by decide +kernel))) e1 e2 e3 (q_hand C hr hlk (Nat.le_of_ble_eq_true rfl) (Nat.le_of_ble_eq_true rfl) (Or.inr ⟨rfl, dL_placeIn_17⟩) (by decide) dL_placeIn_19 (by decide) dL_placeIn_20 hR hS c1)
        · rw [if_neg hk1] at hk
          exact absurd hk failO_e
    · intro r hs h
      refine WG_st (st' := .int r :: [.int (0 : Int32), va_rf out]) rfl ?_
      refine q_i2l C dL_placeIn_8 ?_
      refine q_last C dL_placeIn_9 h (fun hs h => ?_)
      refine q_goto C 21 dL_placeIn_10 (by decide) ?_
      refine q_iconst C (0 : Int32) dL_placeIn_21 (by decide) ?_
      exact q_wret C hr hlk (Nat.le_of_ble_eq_true rfl) (Nat.le_of_ble_eq_true rfl) dL_placeIn_22 h
  rw [lg_entry_eq]
  cases x <;> cases out <;> exact key _ _ _ hR va_S.rf ⟨lv_entry _ (n := 5) (Nat.le_of_ble_eq_true rfl), (c1_r (c1_i (c1_i (c1_r c1_n))))⟩
theorem ml_L_125 : Cond.methodLink RL 125 yX8_differences ∈ Tg := Tg_of (i := 1429) (by decide +kernel) (by decide +kernel)
theorem lk_L_125 : Lk RL 125 yX8_differences cX8_differences 7 (some .int) 2 := ⟨ml_L_125, cd_X8_differences, iw_X8, by decide +kernel⟩
theorem im_X8_differences : Cond.instanceMethod yX8_differences ∈ Tg := Tg_of (i := 1430) (by decide +kernel) (by decide +kernel)
theorem se_X8_X8_differences : Cond.selects RX8 yX8_differences yX8_differences ∈ Tg := Tg_of (i := 1431) (by decide +kernel) (by decide +kernel)
def f_L_differences (x : Option Nat) (p1 : Int32) (p2 : Int32) (out : Option Nat) : OO Int32 := rcv x 11 fun a => call (f_X8_differences a p1 p2) (fun (r : Int32) => stL out (0 : Int32) r.toInt64 (rtn (0 : Int32))) (fun k => (if k = 3 then rtn (1 : Int32) else failO))
set_option maxRecDepth 100000 in
set_option maxHeartbeats 4000000 in
theorem m_L_differences {G : GG} {l : Launch} {x : Option Nat} {p1 : Int32} {p2 : Int32} {out : Option Nat} {hs hs' : Hs} {kk : Int32} (h : f_L_differences x p1 p2 out hs = some (.ok kk, hs')) : CTW G l yL_differences cL_differences 5 [(0, 10, 13, 44)] 8 247 2 12 [va_rf x, .int p1, .int p2, va_rf out] hs kk hs' := by
  refine vx_ofWH (cc := cL_differences) (maxL := 5) (ret := (some .int)) (hh := [(0, 10, 13, 44)]) (by decide +kernel) rfl ?_
  intro p e s m args below meth c s₁ B hml hv
  obtain ⟨hav, hR, hKn⟩ := hv
  subst hav
  have hts := atoms_spec (ws := .codeWith yL_differences cL_differences 5 (some .int) [(0, 10, 13, 44)] :: Tg) B.pre
  have hT := vx_table (x := yL_differences) B (hts _ List.mem_cons_self)
  have C : Cx G l p s m _ c RL cL_differences 5 := ⟨B.exec, B.bytes, hml, findClass_of_methodNamed B.named, fun w hw => hts w (List.mem_cons_of_mem _ hw), hKn, fun q hq => Nat.le_trans hR.2.2.1 hq⟩
  have key : WG G p l e { frames := 8, cells := 2, slots := 12, locals := 247 } s m ([va_rf x, .int p1, .int p2, va_rf out] : List Value).toArray below meth c 5 0 0 (vx_MQ below (QcW G kk hs') XCW ([va_rf x, .int p1, .int p2, va_rf out] : List Value).toArray s 2 12 (gA G)) hs [(0, va_rf x), (1, .int p1), (2, .int p2), (3, va_rf out)] [] 0 := by
    unfold f_L_differences at h
    have hr := B.returns
    have hlk := B.notSynchronized
    refine q_aload_n C 3 dL_differences_0 rfl ?_
    refine q_iconst C (0 : Int32) dL_differences_1 (by decide) ?_
    refine q_aload_n C 0 dL_differences_2 rfl ?_
    refine q_iload_n C 1 dL_differences_3 rfl ?_
    refine q_iload_n C 2 dL_differences_4 rfl ?_
    refine q_callW C (CN := RX8) (T := TX8) (N := 10) (tv := tvI) [.int p1, .int p2] [.int (0 : Int32), va_rf out] (fun a0 o2 hs1 hm => m_X8_differences hm) lk_L_125 im_X8_differences se_X8_X8_differences rfl ⟨(Nat.le_of_ble_eq_true rfl), (Nat.le_of_ble_eq_true rfl)⟩ ⟨(Nat.le_of_ble_eq_true rfl), (Nat.le_of_ble_eq_true rfl)⟩ rfl rfl (by simp only [List.map, cat_rf, cat_i, cat_a]; decide) dL_differences_5 h ?_ ?_
    · intro k sz hs1 hk H locs ls ce q hR hS e1 e2 e3 c1
      by_cases hk0 : k = 3
      · subst hk0
        rw [if_pos rfl] at hk
        cases hk
        exact vx_catch (own := RL) (name := "java/util/NoSuchElementException") (E := exN 3) C.2.2.2.1 [] ⟨0, 10, 13, 44⟩ [] (by rw [hT]; rfl) (fun z hz => nomatch hz) (by decide) (by decide) (C.2.2.2.2.1 _ wc_L_x44) (va_Nw.use rfl (C.kn.2.2.2.1 ("java/util/NoSuchElementException", "java/util/NoSuchElementException") (by decide +kernel))) e1 e2 e3 (q_hand C hr hlk (Nat.le_of_ble_eq_true rfl) (Nat.le_of_ble_eq_true rfl) (Or.inr ⟨rfl, dL_differences_13⟩) (by decide) dL_differences_15 (by decide) dL_differences_16 hR hS c1)
      · rw [if_neg hk0] at hk
        exact absurd hk failO_e
    · intro r hs h
      refine WG_st (st' := .int r :: [.int (0 : Int32), va_rf out]) rfl ?_
      refine q_i2l C dL_differences_8 ?_
      refine q_last C dL_differences_9 h (fun hs h => ?_)
      refine q_goto C 17 dL_differences_10 (by decide) ?_
      refine q_iconst C (0 : Int32) dL_differences_17 (by decide) ?_
      exact q_wret C hr hlk (Nat.le_of_ble_eq_true rfl) (Nat.le_of_ble_eq_true rfl) dL_differences_18 h
  rw [lg_entry_eq]
  cases x <;> cases out <;> exact key _ _ _ hR va_S.rf ⟨lv_entry _ (n := 5) (Nat.le_of_ble_eq_true rfl), (c1_r (c1_i (c1_i (c1_r c1_n))))⟩
theorem ml_L_128 : Cond.methodLink RL 128 yX8_restore ∈ Tg := Tg_of (i := 1436) (by decide +kernel) (by decide +kernel)
theorem lk_L_128 : Lk RL 128 yX8_restore cX8_restore 5 (some .int) 1 := ⟨ml_L_128, cd_X8_restore, iw_X8, by decide +kernel⟩
theorem im_X8_restore : Cond.instanceMethod yX8_restore ∈ Tg := Tg_of (i := 1437) (by decide +kernel) (by decide +kernel)
theorem se_X8_X8_restore : Cond.selects RX8 yX8_restore yX8_restore ∈ Tg := Tg_of (i := 1438) (by decide +kernel) (by decide +kernel)
def f_L_restore (x : Option Nat) (p1 : Int32) (out : Option Nat) : OO Int32 := rcv x 11 fun a => call (f_X8_restore a p1) (fun (r : Int32) => stL out (0 : Int32) r.toInt64 (rtn (0 : Int32))) (fun k => (if k = 3 then rtn (1 : Int32) else failO))
set_option maxRecDepth 100000 in
set_option maxHeartbeats 4000000 in
theorem m_L_restore {G : GG} {l : Launch} {x : Option Nat} {p1 : Int32} {out : Option Nat} {hs hs' : Hs} {kk : Int32} (h : f_L_restore x p1 out hs = some (.ok kk, hs')) : CTW G l yL_restore cL_restore 4 [(0, 9, 12, 44)] 12 432 1 6 [va_rf x, .int p1, va_rf out] hs kk hs' := by
  refine vx_ofWH (cc := cL_restore) (maxL := 4) (ret := (some .int)) (hh := [(0, 9, 12, 44)]) (by decide +kernel) rfl ?_
  intro p e s m args below meth c s₁ B hml hv
  obtain ⟨hav, hR, hKn⟩ := hv
  subst hav
  have hts := atoms_spec (ws := .codeWith yL_restore cL_restore 4 (some .int) [(0, 9, 12, 44)] :: Tg) B.pre
  have hT := vx_table (x := yL_restore) B (hts _ List.mem_cons_self)
  have C : Cx G l p s m _ c RL cL_restore 4 := ⟨B.exec, B.bytes, hml, findClass_of_methodNamed B.named, fun w hw => hts w (List.mem_cons_of_mem _ hw), hKn, fun q hq => Nat.le_trans hR.2.2.1 hq⟩
  have key : WG G p l e { frames := 12, cells := 1, slots := 6, locals := 432 } s m ([va_rf x, .int p1, va_rf out] : List Value).toArray below meth c 4 0 0 (vx_MQ below (QcW G kk hs') XCW ([va_rf x, .int p1, va_rf out] : List Value).toArray s 1 6 (gA G)) hs [(0, va_rf x), (1, .int p1), (2, va_rf out)] [] 0 := by
    unfold f_L_restore at h
    have hr := B.returns
    have hlk := B.notSynchronized
    refine q_aload_n C 2 dL_restore_0 rfl ?_
    refine q_iconst C (0 : Int32) dL_restore_1 (by decide) ?_
    refine q_aload_n C 0 dL_restore_2 rfl ?_
    refine q_iload_n C 1 dL_restore_3 rfl ?_
    refine q_callW C (CN := RX8) (T := TX8) (N := 10) (tv := tvI) [.int p1] [.int (0 : Int32), va_rf out] (fun a0 o2 hs1 hm => m_X8_restore hm) lk_L_128 im_X8_restore se_X8_X8_restore rfl ⟨(Nat.le_of_ble_eq_true rfl), (Nat.le_of_ble_eq_true rfl)⟩ ⟨(Nat.le_of_ble_eq_true rfl), (Nat.le_of_ble_eq_true rfl)⟩ rfl rfl (by simp only [List.map, cat_rf, cat_i, cat_a]; decide) dL_restore_4 h ?_ ?_
    · intro k sz hs1 hk H locs ls ce q hR hS e1 e2 e3 c1
      by_cases hk0 : k = 3
      · subst hk0
        rw [if_pos rfl] at hk
        cases hk
        exact vx_catch (own := RL) (name := "java/util/NoSuchElementException") (E := exN 3) C.2.2.2.1 [] ⟨0, 9, 12, 44⟩ [] (by rw [hT]; rfl) (fun z hz => nomatch hz) (by decide) (by decide) (C.2.2.2.2.1 _ wc_L_x44) (va_Nw.use rfl (C.kn.2.2.2.1 ("java/util/NoSuchElementException", "java/util/NoSuchElementException") (by decide +kernel))) e1 e2 e3 (q_hand C hr hlk (Nat.le_of_ble_eq_true rfl) (Nat.le_of_ble_eq_true rfl) (Or.inl ⟨_, rfl, rfl, dL_restore_12⟩) (by decide) dL_restore_13 (by decide) dL_restore_14 hR hS c1)
      · rw [if_neg hk0] at hk
        exact absurd hk failO_e
    · intro r hs h
      refine WG_st (st' := .int r :: [.int (0 : Int32), va_rf out]) rfl ?_
      refine q_i2l C dL_restore_7 ?_
      refine q_last C dL_restore_8 h (fun hs h => ?_)
      refine q_goto C 15 dL_restore_9 (by decide) ?_
      refine q_iconst C (0 : Int32) dL_restore_15 (by decide) ?_
      exact q_wret C hr hlk (Nat.le_of_ble_eq_true rfl) (Nat.le_of_ble_eq_true rfl) dL_restore_16 h
  rw [lg_entry_eq]
  cases x <;> cases out <;> exact key _ _ _ hR va_S.rf ⟨lv_entry _ (n := 4) (Nat.le_of_ble_eq_true rfl), (c1_r (c1_i (c1_r c1_n)))⟩
theorem ml_L_131 : Cond.methodLink RL 131 yX8_merge ∈ Tg := Tg_of (i := 1448) (by decide +kernel) (by decide +kernel)
theorem lk_L_131 : Lk RL 131 yX8_merge cX8_merge 9 (some .int) 2 := ⟨ml_L_131, cd_X8_merge, iw_X8, by decide +kernel⟩
theorem im_X8_merge : Cond.instanceMethod yX8_merge ∈ Tg := Tg_of (i := 1449) (by decide +kernel) (by decide +kernel)
theorem se_X8_X8_merge : Cond.selects RX8 yX8_merge yX8_merge ∈ Tg := Tg_of (i := 1450) (by decide +kernel) (by decide +kernel)
def f_L_merge (x : Option Nat) (p1 : Int32) (p2 : Int32) (out : Option Nat) : OO Int32 := rcv x 11 fun a => call (f_X8_merge a p1 p2) (fun (r : Int32) => stL out (0 : Int32) r.toInt64 (rtn (0 : Int32))) (fun k => (if k = 3 then rtn (1 : Int32) else failO))
set_option maxRecDepth 100000 in
set_option maxHeartbeats 4000000 in
theorem m_L_merge {G : GG} {l : Launch} {x : Option Nat} {p1 : Int32} {p2 : Int32} {out : Option Nat} {hs hs' : Hs} {kk : Int32} (h : f_L_merge x p1 p2 out hs = some (.ok kk, hs')) : CTW G l yL_merge cL_merge 5 [(0, 10, 13, 44)] 12 436 2 12 [va_rf x, .int p1, .int p2, va_rf out] hs kk hs' := by
  refine vx_ofWH (cc := cL_merge) (maxL := 5) (ret := (some .int)) (hh := [(0, 10, 13, 44)]) (by decide +kernel) rfl ?_
  intro p e s m args below meth c s₁ B hml hv
  obtain ⟨hav, hR, hKn⟩ := hv
  subst hav
  have hts := atoms_spec (ws := .codeWith yL_merge cL_merge 5 (some .int) [(0, 10, 13, 44)] :: Tg) B.pre
  have hT := vx_table (x := yL_merge) B (hts _ List.mem_cons_self)
  have C : Cx G l p s m _ c RL cL_merge 5 := ⟨B.exec, B.bytes, hml, findClass_of_methodNamed B.named, fun w hw => hts w (List.mem_cons_of_mem _ hw), hKn, fun q hq => Nat.le_trans hR.2.2.1 hq⟩
  have key : WG G p l e { frames := 12, cells := 2, slots := 12, locals := 436 } s m ([va_rf x, .int p1, .int p2, va_rf out] : List Value).toArray below meth c 5 0 0 (vx_MQ below (QcW G kk hs') XCW ([va_rf x, .int p1, .int p2, va_rf out] : List Value).toArray s 2 12 (gA G)) hs [(0, va_rf x), (1, .int p1), (2, .int p2), (3, va_rf out)] [] 0 := by
    unfold f_L_merge at h
    have hr := B.returns
    have hlk := B.notSynchronized
    refine q_aload_n C 3 dL_merge_0 rfl ?_
    refine q_iconst C (0 : Int32) dL_merge_1 (by decide) ?_
    refine q_aload_n C 0 dL_merge_2 rfl ?_
    refine q_iload_n C 1 dL_merge_3 rfl ?_
    refine q_iload_n C 2 dL_merge_4 rfl ?_
    refine q_callW C (CN := RX8) (T := TX8) (N := 10) (tv := tvI) [.int p1, .int p2] [.int (0 : Int32), va_rf out] (fun a0 o2 hs1 hm => m_X8_merge hm) lk_L_131 im_X8_merge se_X8_X8_merge rfl ⟨(Nat.le_of_ble_eq_true rfl), (Nat.le_of_ble_eq_true rfl)⟩ ⟨(Nat.le_of_ble_eq_true rfl), (Nat.le_of_ble_eq_true rfl)⟩ rfl rfl (by simp only [List.map, cat_rf, cat_i, cat_a]; decide) dL_merge_5 h ?_ ?_
    · intro k sz hs1 hk H locs ls ce q hR hS e1 e2 e3 c1
      by_cases hk0 : k = 3
      · subst hk0
        rw [if_pos rfl] at hk
        cases hk
        exact vx_catch (own := RL) (name := "java/util/NoSuchElementException") (E := exN 3) C.2.2.2.1 [] ⟨0, 10, 13, 44⟩ [] (by rw [hT]; rfl) (fun z hz => nomatch hz) (by decide) (by decide) (C.2.2.2.2.1 _ wc_L_x44) (va_Nw.use rfl (C.kn.2.2.2.1 ("java/util/NoSuchElementException", "java/util/NoSuchElementException") (by decide +kernel))) e1 e2 e3 (q_hand C hr hlk (Nat.le_of_ble_eq_true rfl) (Nat.le_of_ble_eq_true rfl) (Or.inr ⟨rfl, dL_merge_13⟩) (by decide) dL_merge_15 (by decide) dL_merge_16 hR hS c1)
      · rw [if_neg hk0] at hk
        exact absurd hk failO_e
    · intro r hs h
      refine WG_st (st' := .int r :: [.int (0 : Int32), va_rf out]) rfl ?_
      refine q_i2l C dL_merge_8 ?_
      refine q_last C dL_merge_9 h (fun hs h => ?_)
      refine q_goto C 17 dL_merge_10 (by decide) ?_
      refine q_iconst C (0 : Int32) dL_merge_17 (by decide) ?_
      exact q_wret C hr hlk (Nat.le_of_ble_eq_true rfl) (Nat.le_of_ble_eq_true rfl) dL_merge_18 h
  rw [lg_entry_eq]
  cases x <;> cases out <;> exact key _ _ _ hR va_S.rf ⟨lv_entry _ (n := 5) (Nat.le_of_ble_eq_true rfl), (c1_r (c1_i (c1_i (c1_r c1_n))))⟩
theorem ml_L_134 : Cond.methodLink RL 134 yX8_placedShare ∈ Tg := Tg_of (i := 1469) (by decide +kernel) (by decide +kernel)
theorem lk_L_134 : Lk RL 134 yX8_placedShare cX8_placedShare 3 (some .float) 0 := ⟨ml_L_134, cd_X8_placedShare, iw_X8, by decide +kernel⟩
theorem im_X8_placedShare : Cond.instanceMethod yX8_placedShare ∈ Tg := Tg_of (i := 1470) (by decide +kernel) (by decide +kernel)
theorem se_X8_X8_placedShare : Cond.selects RX8 yX8_placedShare yX8_placedShare ∈ Tg := Tg_of (i := 1471) (by decide +kernel) (by decide +kernel)
theorem wc_L_x138 : Cond.classLink RL 138 "java/lang/ArithmeticException" ∈ Tg := Tg_of (i := 1455) (by decide +kernel) (by decide +kernel)
def f_L_placedShare (x : Option Nat) (out : Option Nat) : OO Int32 := rcv x 11 fun a => call (f_X8_placedShare a ) (fun (r : UInt32) => f2dv r fun z => stD out (0 : Int32) z (rtn (0 : Int32))) (fun k => (if k = 5 then rtn (1 : Int32) else failO))
set_option maxRecDepth 100000 in
set_option maxHeartbeats 4000000 in
theorem m_L_placedShare {G : GG} {l : Launch} {x : Option Nat} {out : Option Nat} {hs hs' : Hs} {kk : Int32} (h : f_L_placedShare x out hs = some (.ok kk, hs')) : CTW G l yL_placedShare cL_placedShare 3 [(0, 8, 11, 138)] 7 222 1 6 [va_rf x, va_rf out] hs kk hs' := by
  refine vx_ofWH (cc := cL_placedShare) (maxL := 3) (ret := (some .int)) (hh := [(0, 8, 11, 138)]) (by decide +kernel) rfl ?_
  intro p e s m args below meth c s₁ B hml hv
  obtain ⟨hav, hR, hKn⟩ := hv
  subst hav
  have hts := atoms_spec (ws := .codeWith yL_placedShare cL_placedShare 3 (some .int) [(0, 8, 11, 138)] :: Tg) B.pre
  have hT := vx_table (x := yL_placedShare) B (hts _ List.mem_cons_self)
  have C : Cx G l p s m _ c RL cL_placedShare 3 := ⟨B.exec, B.bytes, hml, findClass_of_methodNamed B.named, fun w hw => hts w (List.mem_cons_of_mem _ hw), hKn, fun q hq => Nat.le_trans hR.2.2.1 hq⟩
  have key : WG G p l e { frames := 7, cells := 1, slots := 6, locals := 222 } s m ([va_rf x, va_rf out] : List Value).toArray below meth c 3 0 0 (vx_MQ below (QcW G kk hs') XCW ([va_rf x, va_rf out] : List Value).toArray s 1 6 (gA G)) hs [(0, va_rf x), (1, va_rf out)] [] 0 := by
    unfold f_L_placedShare at h
    have hr := B.returns
    have hlk := B.notSynchronized
    refine q_aload_n C 1 dL_placedShare_0 rfl ?_
    refine q_iconst C (0 : Int32) dL_placedShare_1 (by decide) ?_
    refine q_aload_n C 0 dL_placedShare_2 rfl ?_
    refine q_callW C (CN := RX8) (T := TX8) (N := 10) (tv := tvF) [] [.int (0 : Int32), va_rf out] (fun a0 o2 hs1 hm => m_X8_placedShare hm) lk_L_134 im_X8_placedShare se_X8_X8_placedShare rfl ⟨(Nat.le_of_ble_eq_true rfl), (Nat.le_of_ble_eq_true rfl)⟩ ⟨(Nat.le_of_ble_eq_true rfl), (Nat.le_of_ble_eq_true rfl)⟩ rfl rfl (by simp only [List.map, cat_rf, cat_i, cat_a]; decide) dL_placedShare_3 h ?_ ?_
    · intro k sz hs1 hk H locs ls ce q hR hS e1 e2 e3 c1
      by_cases hk0 : k = 5
      · subst hk0
        rw [if_pos rfl] at hk
        cases hk
        exact vx_catch (own := RL) (name := "java/lang/ArithmeticException") (E := exN 5) C.2.2.2.1 [] ⟨0, 8, 11, 138⟩ [] (by rw [hT]; rfl) (fun z hz => nomatch hz) (by decide) (by decide) (C.2.2.2.2.1 _ wc_L_x138) (va_Nw.use rfl (C.kn.2.2.2.1 ("java/lang/ArithmeticException", "java/lang/ArithmeticException") (by decide +kernel))) e1 e2 e3 (q_hand C hr hlk (Nat.le_of_ble_eq_true rfl) (Nat.le_of_ble_eq_true rfl) (Or.inl ⟨_, rfl, rfl, dL_placedShare_11⟩) (by decide) dL_placedShare_12 (by decide) dL_placedShare_13 hR hS c1)
      · rw [if_neg hk0] at hk
        exact absurd hk failO_e
    · intro r hs h
      refine WG_st (st' := .float r :: [.int (0 : Int32), va_rf out]) rfl ?_
      refine q_f2d C dL_placedShare_6 h (fun z h => ?_)
      refine q_dast C dL_placedShare_7 h (fun hs h => ?_)
      refine q_goto C 14 dL_placedShare_8 (by decide) ?_
      refine q_iconst C (0 : Int32) dL_placedShare_14 (by decide) ?_
      exact q_wret C hr hlk (Nat.le_of_ble_eq_true rfl) (Nat.le_of_ble_eq_true rfl) dL_placedShare_15 h
  rw [lg_entry_eq]
  cases x <;> cases out <;> exact key _ _ _ hR va_S.rf ⟨lv_entry _ (n := 3) (Nat.le_of_ble_eq_true rfl), (c1_r (c1_r c1_n))⟩
theorem ml_L_140 : Cond.methodLink RL 140 yX8_meanPossible ∈ Tg := Tg_of (i := 1479) (by decide +kernel) (by decide +kernel)
theorem lk_L_140 : Lk RL 140 yX8_meanPossible cX8_meanPossible 4 (some .double) 0 := ⟨ml_L_140, cd_X8_meanPossible, iw_X8, by decide +kernel⟩
theorem im_X8_meanPossible : Cond.instanceMethod yX8_meanPossible ∈ Tg := Tg_of (i := 1480) (by decide +kernel) (by decide +kernel)
theorem se_X8_X8_meanPossible : Cond.selects RX8 yX8_meanPossible yX8_meanPossible ∈ Tg := Tg_of (i := 1481) (by decide +kernel) (by decide +kernel)
def f_L_meanPossible (x : Option Nat) (out : Option Nat) : OO Int32 := rcv x 11 fun a => call (f_X8_meanPossible a ) (fun (r : UInt64) => stD out (0 : Int32) r (rtn (0 : Int32))) (fun k => (if k = 5 then rtn (1 : Int32) else failO))
set_option maxRecDepth 100000 in
set_option maxHeartbeats 4000000 in
theorem m_L_meanPossible {G : GG} {l : Launch} {x : Option Nat} {out : Option Nat} {hs hs' : Hs} {kk : Int32} (h : f_L_meanPossible x out hs = some (.ok kk, hs')) : CTW G l yL_meanPossible cL_meanPossible 3 [(0, 7, 10, 138)] 12 428 1 6 [va_rf x, va_rf out] hs kk hs' := by
  refine vx_ofWH (cc := cL_meanPossible) (maxL := 3) (ret := (some .int)) (hh := [(0, 7, 10, 138)]) (by decide +kernel) rfl ?_
  intro p e s m args below meth c s₁ B hml hv
  obtain ⟨hav, hR, hKn⟩ := hv
  subst hav
  have hts := atoms_spec (ws := .codeWith yL_meanPossible cL_meanPossible 3 (some .int) [(0, 7, 10, 138)] :: Tg) B.pre
  have hT := vx_table (x := yL_meanPossible) B (hts _ List.mem_cons_self)
  have C : Cx G l p s m _ c RL cL_meanPossible 3 := ⟨B.exec, B.bytes, hml, findClass_of_methodNamed B.named, fun w hw => hts w (List.mem_cons_of_mem _ hw), hKn, fun q hq => Nat.le_trans hR.2.2.1 hq⟩
  have key : WG G p l e { frames := 12, cells := 1, slots := 6, locals := 428 } s m ([va_rf x, va_rf out] : List Value).toArray below meth c 3 0 0 (vx_MQ below (QcW G kk hs') XCW ([va_rf x, va_rf out] : List Value).toArray s 1 6 (gA G)) hs [(0, va_rf x), (1, va_rf out)] [] 0 := by
    unfold f_L_meanPossible at h
    have hr := B.returns
    have hlk := B.notSynchronized
    refine q_aload_n C 1 dL_meanPossible_0 rfl ?_
    refine q_iconst C (0 : Int32) dL_meanPossible_1 (by decide) ?_
    refine q_aload_n C 0 dL_meanPossible_2 rfl ?_
    refine q_callW C (CN := RX8) (T := TX8) (N := 10) (tv := tvD) [] [.int (0 : Int32), va_rf out] (fun a0 o2 hs1 hm => m_X8_meanPossible hm) lk_L_140 im_X8_meanPossible se_X8_X8_meanPossible rfl ⟨(Nat.le_of_ble_eq_true rfl), (Nat.le_of_ble_eq_true rfl)⟩ ⟨(Nat.le_of_ble_eq_true rfl), (Nat.le_of_ble_eq_true rfl)⟩ rfl rfl (by simp only [List.map, cat_rf, cat_i, cat_a]; decide) dL_meanPossible_3 h ?_ ?_
    · intro k sz hs1 hk H locs ls ce q hR hS e1 e2 e3 c1
      by_cases hk0 : k = 5
      · subst hk0
        rw [if_pos rfl] at hk
        cases hk
        exact vx_catch (own := RL) (name := "java/lang/ArithmeticException") (E := exN 5) C.2.2.2.1 [] ⟨0, 7, 10, 138⟩ [] (by rw [hT]; rfl) (fun z hz => nomatch hz) (by decide) (by decide) (C.2.2.2.2.1 _ wc_L_x138) (va_Nw.use rfl (C.kn.2.2.2.1 ("java/lang/ArithmeticException", "java/lang/ArithmeticException") (by decide +kernel))) e1 e2 e3 (q_hand C hr hlk (Nat.le_of_ble_eq_true rfl) (Nat.le_of_ble_eq_true rfl) (Or.inl ⟨_, rfl, rfl, dL_meanPossible_10⟩) (by decide) dL_meanPossible_11 (by decide) dL_meanPossible_12 hR hS c1)
      · rw [if_neg hk0] at hk
        exact absurd hk failO_e
    · intro r hs h
      refine WG_st (st' := .double r :: [.int (0 : Int32), va_rf out]) rfl ?_
      refine q_dast C dL_meanPossible_6 h (fun hs h => ?_)
      refine q_goto C 13 dL_meanPossible_7 (by decide) ?_
      refine q_iconst C (0 : Int32) dL_meanPossible_13 (by decide) ?_
      exact q_wret C hr hlk (Nat.le_of_ble_eq_true rfl) (Nat.le_of_ble_eq_true rfl) dL_meanPossible_14 h
  rw [lg_entry_eq]
  cases x <;> cases out <;> exact key _ _ _ hR va_S.rf ⟨lv_entry _ (n := 3) (Nat.le_of_ble_eq_true rfl), (c1_r (c1_r c1_n))⟩
