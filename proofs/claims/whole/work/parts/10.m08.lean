theorem cd_X8_setWish : Cond.code yX8_setWish cX8_setWish 5 (some .int) ∈ Tg := Tg_of (i := 968) (by decide +kernel) (by decide +kernel)
theorem ml_X8_131 : Cond.methodLink RX8 131 yX8_requireSlot ∈ Tg := Tg_of (i := 969) (by decide +kernel) (by decide +kernel)
theorem lk_X8_131 : Lk RX8 131 yX8_requireSlot cX8_requireSlot 1 none 1 := ⟨ml_X8_131, cd_X8_requireSlot, iw_X8, by decide +kernel⟩
theorem ml_X8_136 : Cond.methodLink RX8 136 yX6_changeWish ∈ Tg := Tg_of (i := 974) (by decide +kernel) (by decide +kernel)
theorem lk_X8_136 : Lk RX8 136 yX6_changeWish cX6_changeWish 7 (some .int) 3 := ⟨ml_X8_136, cd_X6_changeWish, iw_X6, by decide +kernel⟩
theorem im_X6_changeWish : Cond.instanceMethod yX6_changeWish ∈ Tg := Tg_of (i := 975) (by decide +kernel) (by decide +kernel)
theorem se_X6_X6_changeWish : Cond.selects RX6 yX6_changeWish yX6_changeWish ∈ Tg := Tg_of (i := 976) (by decide +kernel) (by decide +kernel)
theorem sm_X8_requireSlot : Cond.static yX8_requireSlot ∈ Tg := Tg_of (i := 970) (by decide +kernel) (by decide +kernel)
section M_X8_setWish
variable {p : Program} {l : Launch} {e : Env} {s : State} {m : MethodId} {args : Array Value} {below : List Frame} {meth : Method} {c : Code} {G : GG} {o : Except Nat Int32} {hs' : Hs}
end M_X8_setWish
def f_X8_setWish (a0 : Nat) (p1 : Int32) (p2 : Int32) (p3 : Int32) : OO Int32 :=
    rcv (some a0) 11 fun r8 => call (f_X8_teacherNumbered r8 p1) (fun (v1 : Option Nat) =>
    lets v1 fun (v2 : Option Nat) =>
    call (f_X8_requireSlot p2) (fun (v3 : Unit) =>
    call (f_X8_isOutside p3 (0 : Int32) (9 : Int32)) (fun (v4 : Int32) =>
    (if v4 = 0 then
    gR (some a0) 11 1 fun v5 =>
    rcv v5 9 fun r7 => call (f_X6_changeWish r7 v2 p2 p3) (fun (v6 : Int32) =>
    rtn v6) nox
    else
    nthrow 1)) nox) thr) thr
set_option maxRecDepth 100000 in
set_option maxHeartbeats 4000000 in
theorem m_X8_setWish {G : GG} {l : Launch} {a0 : Nat} {p1 : Int32} {p2 : Int32} {p3 : Int32} {hs hs' : Hs} {o : Except Nat Int32} (h : f_X8_setWish a0 p1 p2 p3 hs = some (o, hs')) : CT G l yX8_setWish cX8_setWish 5 (some .int) 7 221 3 18 [.ref a0, .int p1, .int p2, .int p3] hs o hs' tvI := by
  refine vx_ofW (cc := cX8_setWish) (maxL := 5) (ret := (some .int)) (by decide +kernel) rfl ?_
  intro p e s m args below meth c s₁ B hml hxt hv
  obtain ⟨hav, hR, hKn⟩ := hv
  subst hav
  have hts := atoms_spec (ws := .code yX8_setWish cX8_setWish 5 (some .int) :: Tg) B.pre
  have C : Cx G l p s m _ c RX8 cX8_setWish 5 := ⟨B.exec, B.bytes, hml, findClass_of_methodNamed B.named, fun w hw => hts w (List.mem_cons_of_mem _ hw), hKn, fun q hq => Nat.le_trans hR.2.2.1 hq⟩
  have C2 : Cy meth c (some .int) := ⟨B.returns, B.notSynchronized, hxt⟩
  have key : WG G p l e { frames := 7, cells := 3, slots := 18, locals := 221 } s m ([.ref a0, .int p1, .int p2, .int p3] : List Value).toArray below meth c 5 0 0 (vx_MQ below (QcT G o hs' tvI) (XCT G o hs') ([.ref a0, .int p1, .int p2, .int p3] : List Value).toArray s 3 18 (gA G)) hs [(0, va_rf (some a0)), (1, .int p1), (2, .int p2), (3, .int p3)] [] 0 := by
    unfold f_X8_setWish at h
    refine q_aload_n C 0 dX8_setWish_0 rfl ?_
    refine q_iload_n C 1 dX8_setWish_1 rfl ?_
    refine q_callVX C (CN := RX8) (T := TX8) (N := 10) [.int p1] [] C2 ⟨(Nat.le_of_ble_eq_true rfl), (Nat.le_of_ble_eq_true rfl)⟩ (fun a0 o2 hs1 hm => m_X8_teacherNumbered hm) lk_X8_115 im_X8_teacherNumbered se_X8_X8_teacherNumbered rfl ⟨(Nat.le_of_ble_eq_true rfl), (Nat.le_of_ble_eq_true rfl)⟩ ⟨(Nat.le_of_ble_eq_true rfl), (Nat.le_of_ble_eq_true rfl)⟩ rfl rfl (by decide) dX8_setWish_2 h (fun v1 hs h => WG_st (st' := [va_rf v1]) rfl ?_)
    refine q_astore C (fun v2 => [(4, va_rf v2), (0, va_rf (some a0)), (1, .int p1), (2, .int p2), (3, .int p3)]) dX8_setWish_5 (by decide) (fun _ => rfl) h (fun v2 h => ?_)
    refine q_iload_n C 3 dX8_setWish_7 rfl ?_
    refine q_callSX C [.int p2] [] C2 ⟨(Nat.le_of_ble_eq_true rfl), (Nat.le_of_ble_eq_true rfl)⟩ (fun o2 hs1 hm => m_X8_requireSlot hm) lk_X8_131 sm_X8_requireSlot ⟨(Nat.le_of_ble_eq_true rfl), (Nat.le_of_ble_eq_true rfl)⟩ ⟨(Nat.le_of_ble_eq_true rfl), (Nat.le_of_ble_eq_true rfl)⟩ rfl rfl (by decide) dX8_setWish_8 h (fun v3 hs h => WG_st (st' := []) rfl ?_)
    refine q_iload_n C 4 dX8_setWish_11 rfl ?_
    refine q_iconst C (0 : Int32) dX8_setWish_12 (by decide) ?_
    refine q_bipush C (9 : Int32) dX8_setWish_13 (by decide) ?_
    refine q_callS C [.int p3, .int (0 : Int32), .int (9 : Int32)] [] (fun o2 hs1 hm => m_X8_isOutside hm) lk_X8_56 sm_X8_isOutside ⟨(Nat.le_of_ble_eq_true rfl), (Nat.le_of_ble_eq_true rfl)⟩ ⟨(Nat.le_of_ble_eq_true rfl), (Nat.le_of_ble_eq_true rfl)⟩ rfl rfl (by decide) dX8_setWish_15 h (fun v4 hs h => WG_st (st' := [.int v4]) rfl ?_)
    refine q_if_eq C 31 dX8_setWish_18 (by decide) h (fun h => ?_) (fun h => ?_)
    · refine q_aload_n C 1 dX8_setWish_31 rfl ?_
      refine q_gR C fl_X8_19 dX8_setWish_32 h (fun v5 h => ?_)
      refine q_aload C 0 dX8_setWish_35 rfl ?_
      refine q_iload_n C 3 dX8_setWish_37 rfl ?_
      refine q_iload_n C 4 dX8_setWish_38 rfl ?_
      refine q_callV C (CN := RX6) (T := TX6) (N := 6) [va_rf v2, .int p2, .int p3] [] (fun a0 o2 hs1 hm => m_X6_changeWish hm) lk_X8_136 im_X6_changeWish se_X6_X6_changeWish rfl ⟨(Nat.le_of_ble_eq_true rfl), (Nat.le_of_ble_eq_true rfl)⟩ ⟨(Nat.le_of_ble_eq_true rfl), (Nat.le_of_ble_eq_true rfl)⟩ rfl rfl (by decide) dX8_setWish_39 h (fun v6 hs h => WG_st (st' := [.int v6]) rfl ?_)
      exact q_iret C C2 rfl (Nat.le_of_ble_eq_true rfl) (Nat.le_of_ble_eq_true rfl) dX8_setWish_42 h
    · exact q_throw C C2 (k := 1) (tx := "wish out of range") wc_X8_x60 iw_x1 at_X8_64 (by decide +kernel) (Nat.le_of_ble_eq_true rfl) (Nat.le_of_ble_eq_true rfl) (Nat.le_of_ble_eq_true rfl) (Nat.le_of_ble_eq_true rfl) (Nat.le_of_ble_eq_true rfl) (Nat.le_of_ble_eq_true rfl) (by decide) dX8_setWish_21 dX8_setWish_24 (Or.inl ⟨rfl, dX8_setWish_25⟩) dX8_setWish_27 dX8_setWish_30 h
  rw [lg_entry_eq]
  exact key _ _ _ hR va_S.rf ⟨lv_entry _ (n := 5) (Nat.le_of_ble_eq_true rfl), (c1_r (c1_i (c1_i (c1_i c1_n))))⟩

theorem cd_X8_requirePiece : Cond.code yX8_requirePiece cX8_requirePiece 1 none ∈ Tg := Tg_of (i := 987) (by decide +kernel) (by decide +kernel)
section M_X8_requirePiece
variable {p : Program} {l : Launch} {e : Env} {s : State} {m : MethodId} {args : Array Value} {below : List Frame} {meth : Method} {c : Code} {G : GG} {o : Except Nat Unit} {hs' : Hs}
end M_X8_requirePiece
def f_X8_requirePiece (p0 : Int32) : OO Unit :=
    call (f_X8_isOutside p0 (0 : Int32) (3 : Int32)) (fun (v1 : Int32) =>
    (if v1 = 0 then
    rtn ()
    else
    nthrow 1)) nox
set_option maxRecDepth 100000 in
set_option maxHeartbeats 4000000 in
theorem m_X8_requirePiece {G : GG} {l : Launch} {p0 : Int32} {hs hs' : Hs} {o : Except Nat Unit} (h : f_X8_requirePiece p0 hs = some (o, hs')) : CT G l yX8_requirePiece cX8_requirePiece 1 none 6 200 1 6 [.int p0] hs o hs' tvV := by
  refine vx_ofW (cc := cX8_requirePiece) (maxL := 1) (ret := none) (by decide +kernel) rfl ?_
  intro p e s m args below meth c s₁ B hml hxt hv
  obtain ⟨hav, hR, hKn⟩ := hv
  subst hav
  have hts := atoms_spec (ws := .code yX8_requirePiece cX8_requirePiece 1 none :: Tg) B.pre
  have C : Cx G l p s m _ c RX8 cX8_requirePiece 1 := ⟨B.exec, B.bytes, hml, findClass_of_methodNamed B.named, fun w hw => hts w (List.mem_cons_of_mem _ hw), hKn, fun q hq => Nat.le_trans hR.2.2.1 hq⟩
  have C2 : Cy meth c none := ⟨B.returns, B.notSynchronized, hxt⟩
  have key : WG G p l e { frames := 6, cells := 1, slots := 6, locals := 200 } s m ([.int p0] : List Value).toArray below meth c 1 0 0 (vx_MQ below (QcT G o hs' tvV) (XCT G o hs') ([.int p0] : List Value).toArray s 1 6 (gA G)) hs [(0, .int p0)] [] 0 := by
    unfold f_X8_requirePiece at h
    refine q_iload_n C 0 dX8_requirePiece_0 rfl ?_
    refine q_iconst C (0 : Int32) dX8_requirePiece_1 (by decide) ?_
    refine q_iconst C (3 : Int32) dX8_requirePiece_2 (by decide) ?_
    refine q_callS C [.int p0, .int (0 : Int32), .int (3 : Int32)] [] (fun o2 hs1 hm => m_X8_isOutside hm) lk_X8_56 sm_X8_isOutside ⟨(Nat.le_of_ble_eq_true rfl), (Nat.le_of_ble_eq_true rfl)⟩ ⟨(Nat.le_of_ble_eq_true rfl), (Nat.le_of_ble_eq_true rfl)⟩ rfl rfl (by decide) dX8_requirePiece_3 h (fun v1 hs h => WG_st (st' := [.int v1]) rfl ?_)
    refine q_if_eq C 20 dX8_requirePiece_6 (by decide) h (fun h => ?_) (fun h => ?_)
    · exact q_vret C C2 rfl (Nat.le_of_ble_eq_true rfl) (Nat.le_of_ble_eq_true rfl) dX8_requirePiece_20 h
    · exact q_throw C C2 (k := 1) (tx := "no such piece") wc_X8_x60 iw_x1 at_X8_64 (by decide +kernel) (Nat.le_of_ble_eq_true rfl) (Nat.le_of_ble_eq_true rfl) (Nat.le_of_ble_eq_true rfl) (Nat.le_of_ble_eq_true rfl) (Nat.le_of_ble_eq_true rfl) (Nat.le_of_ble_eq_true rfl) (by decide) dX8_requirePiece_9 dX8_requirePiece_12 (Or.inr ⟨rfl, dX8_requirePiece_13⟩) dX8_requirePiece_16 dX8_requirePiece_19 h
  rw [lg_entry_eq]
  exact key _ _ _ hR va_S.rf ⟨lv_entry _ (n := 1) (Nat.le_of_ble_eq_true rfl), (c1_i c1_n)⟩

theorem cd_X8_setWeight : Cond.code yX8_setWeight cX8_setWeight 3 (some .int) ∈ Tg := Tg_of (i := 984) (by decide +kernel) (by decide +kernel)
theorem ml_X8_140 : Cond.methodLink RX8 140 yX8_requirePiece ∈ Tg := Tg_of (i := 985) (by decide +kernel) (by decide +kernel)
theorem lk_X8_140 : Lk RX8 140 yX8_requirePiece cX8_requirePiece 1 none 1 := ⟨ml_X8_140, cd_X8_requirePiece, iw_X8, by decide +kernel⟩
theorem ml_X8_145 : Cond.methodLink RX8 145 yX6_changeWeight ∈ Tg := Tg_of (i := 990) (by decide +kernel) (by decide +kernel)
theorem lk_X8_145 : Lk RX8 145 yX6_changeWeight cX6_changeWeight 4 (some .int) 2 := ⟨ml_X8_145, cd_X6_changeWeight, iw_X6, by decide +kernel⟩
theorem im_X6_changeWeight : Cond.instanceMethod yX6_changeWeight ∈ Tg := Tg_of (i := 991) (by decide +kernel) (by decide +kernel)
theorem se_X6_X6_changeWeight : Cond.selects RX6 yX6_changeWeight yX6_changeWeight ∈ Tg := Tg_of (i := 992) (by decide +kernel) (by decide +kernel)
theorem sm_X8_requirePiece : Cond.static yX8_requirePiece ∈ Tg := Tg_of (i := 986) (by decide +kernel) (by decide +kernel)
section M_X8_setWeight
variable {p : Program} {l : Launch} {e : Env} {s : State} {m : MethodId} {args : Array Value} {below : List Frame} {meth : Method} {c : Code} {G : GG} {o : Except Nat Int32} {hs' : Hs}
end M_X8_setWeight
def f_X8_setWeight (a0 : Nat) (p1 : Int32) (p2 : Int32) : OO Int32 :=
    call (f_X8_requirePiece p1) (fun (v1 : Unit) =>
    call (f_X8_isOutside p2 (0 : Int32) (9 : Int32)) (fun (v2 : Int32) =>
    (if v2 = 0 then
    gR (some a0) 11 1 fun v3 =>
    rcv v3 9 fun r5 => call (f_X6_changeWeight r5 p1 p2) (fun (v4 : Int32) =>
    rtn v4) nox
    else
    nthrow 1)) nox) thr
set_option maxRecDepth 100000 in
set_option maxHeartbeats 4000000 in
theorem m_X8_setWeight {G : GG} {l : Launch} {a0 : Nat} {p1 : Int32} {p2 : Int32} {hs hs' : Hs} {o : Except Nat Int32} (h : f_X8_setWeight a0 p1 p2 hs = some (o, hs')) : CT G l yX8_setWeight cX8_setWeight 3 (some .int) 7 220 2 12 [.ref a0, .int p1, .int p2] hs o hs' tvI := by
  refine vx_ofW (cc := cX8_setWeight) (maxL := 3) (ret := (some .int)) (by decide +kernel) rfl ?_
  intro p e s m args below meth c s₁ B hml hxt hv
  obtain ⟨hav, hR, hKn⟩ := hv
  subst hav
  have hts := atoms_spec (ws := .code yX8_setWeight cX8_setWeight 3 (some .int) :: Tg) B.pre
  have C : Cx G l p s m _ c RX8 cX8_setWeight 3 := ⟨B.exec, B.bytes, hml, findClass_of_methodNamed B.named, fun w hw => hts w (List.mem_cons_of_mem _ hw), hKn, fun q hq => Nat.le_trans hR.2.2.1 hq⟩
  have C2 : Cy meth c (some .int) := ⟨B.returns, B.notSynchronized, hxt⟩
  have key : WG G p l e { frames := 7, cells := 2, slots := 12, locals := 220 } s m ([.ref a0, .int p1, .int p2] : List Value).toArray below meth c 3 0 0 (vx_MQ below (QcT G o hs' tvI) (XCT G o hs') ([.ref a0, .int p1, .int p2] : List Value).toArray s 2 12 (gA G)) hs [(0, va_rf (some a0)), (1, .int p1), (2, .int p2)] [] 0 := by
    unfold f_X8_setWeight at h
    refine q_iload_n C 1 dX8_setWeight_0 rfl ?_
    refine q_callSX C [.int p1] [] C2 ⟨(Nat.le_of_ble_eq_true rfl), (Nat.le_of_ble_eq_true rfl)⟩ (fun o2 hs1 hm => m_X8_requirePiece hm) lk_X8_140 sm_X8_requirePiece ⟨(Nat.le_of_ble_eq_true rfl), (Nat.le_of_ble_eq_true rfl)⟩ ⟨(Nat.le_of_ble_eq_true rfl), (Nat.le_of_ble_eq_true rfl)⟩ rfl rfl (by decide) dX8_setWeight_1 h (fun v1 hs h => WG_st (st' := []) rfl ?_)
    refine q_iload_n C 2 dX8_setWeight_4 rfl ?_
    refine q_iconst C (0 : Int32) dX8_setWeight_5 (by decide) ?_
    refine q_bipush C (9 : Int32) dX8_setWeight_6 (by decide) ?_
    refine q_callS C [.int p2, .int (0 : Int32), .int (9 : Int32)] [] (fun o2 hs1 hm => m_X8_isOutside hm) lk_X8_56 sm_X8_isOutside ⟨(Nat.le_of_ble_eq_true rfl), (Nat.le_of_ble_eq_true rfl)⟩ ⟨(Nat.le_of_ble_eq_true rfl), (Nat.le_of_ble_eq_true rfl)⟩ rfl rfl (by decide) dX8_setWeight_8 h (fun v2 hs h => WG_st (st' := [.int v2]) rfl ?_)
    refine q_if_eq C 24 dX8_setWeight_11 (by decide) h (fun h => ?_) (fun h => ?_)
    · refine q_aload_n C 0 dX8_setWeight_24 rfl ?_
      refine q_gR C fl_X8_19 dX8_setWeight_25 h (fun v3 h => ?_)
      refine q_iload_n C 1 dX8_setWeight_28 rfl ?_
      refine q_iload_n C 2 dX8_setWeight_29 rfl ?_
      refine q_callV C (CN := RX6) (T := TX6) (N := 6) [.int p1, .int p2] [] (fun a0 o2 hs1 hm => m_X6_changeWeight hm) lk_X8_145 im_X6_changeWeight se_X6_X6_changeWeight rfl ⟨(Nat.le_of_ble_eq_true rfl), (Nat.le_of_ble_eq_true rfl)⟩ ⟨(Nat.le_of_ble_eq_true rfl), (Nat.le_of_ble_eq_true rfl)⟩ rfl rfl (by decide) dX8_setWeight_30 h (fun v4 hs h => WG_st (st' := [.int v4]) rfl ?_)
      exact q_iret C C2 rfl (Nat.le_of_ble_eq_true rfl) (Nat.le_of_ble_eq_true rfl) dX8_setWeight_33 h
    · exact q_throw C C2 (k := 1) (tx := "weight out of range") wc_X8_x60 iw_x1 at_X8_64 (by decide +kernel) (Nat.le_of_ble_eq_true rfl) (Nat.le_of_ble_eq_true rfl) (Nat.le_of_ble_eq_true rfl) (Nat.le_of_ble_eq_true rfl) (Nat.le_of_ble_eq_true rfl) (Nat.le_of_ble_eq_true rfl) (by decide) dX8_setWeight_14 dX8_setWeight_17 (Or.inl ⟨rfl, dX8_setWeight_18⟩) dX8_setWeight_20 dX8_setWeight_23 h
  rw [lg_entry_eq]
  exact key _ _ _ hR va_S.rf ⟨lv_entry _ (n := 3) (Nat.le_of_ble_eq_true rfl), (c1_r (c1_i (c1_i c1_n)))⟩

theorem cd_X8_lessonNumbered : Cond.code yX8_lessonNumbered cX8_lessonNumbered 2 (some (.object "Termgrid$Lesson")) ∈ Tg := Tg_of (i := 1004) (by decide +kernel) (by decide +kernel)
section M_X8_lessonNumbered
variable {p : Program} {l : Launch} {e : Env} {s : State} {m : MethodId} {args : Array Value} {below : List Frame} {meth : Method} {c : Code} {G : GG} {o : Except Nat (Option Nat)} {hs' : Hs}
def j_X8_lessonNumbered_18    : OO (Option Nat) :=
  nthrow 0
set_option maxRecDepth 100000 in
set_option maxHeartbeats 4000000 in
theorem w_j_X8_lessonNumbered_18 (C : Cx G l p s m args c RX8 cX8_lessonNumbered 2) (C2 : Cy meth c (some (.object "Termgrid$Lesson"))) {hs : Hs}     (h : j_X8_lessonNumbered_18 hs = some (o, hs')) : WG G p l e { frames := 6, cells := 1, slots := 6, locals := 200 } s m args below meth c 2 0 0 (vx_MQ below (QcT G o hs' tvR) (XCT G o hs') args s 1 6 (gA G)) hs [] [] 18 := by
  unfold j_X8_lessonNumbered_18 at h
  exact q_throw C C2 (k := 0) (tx := "no such lesson") wc_X8_x418 iw_x0 at_X8_422 (by decide +kernel) (Nat.le_of_ble_eq_true rfl) (Nat.le_of_ble_eq_true rfl) (Nat.le_of_ble_eq_true rfl) (Nat.le_of_ble_eq_true rfl) (Nat.le_of_ble_eq_true rfl) (Nat.le_of_ble_eq_true rfl) (by decide) dX8_lessonNumbered_18 dX8_lessonNumbered_21 (Or.inr ⟨rfl, dX8_lessonNumbered_22⟩) dX8_lessonNumbered_25 dX8_lessonNumbered_28 h
end M_X8_lessonNumbered
def f_X8_lessonNumbered (a0 : Nat) (p1 : Int32) : OO (Option Nat) :=
    (if p1 < 0 then
    j_X8_lessonNumbered_18
    else
    gR (some a0) 11 1 fun v1 =>
    gR v1 9 2 fun v2 =>
    rcv v2 2 fun r8 => call (f_Jx4a65c_size_8abf5 r8 ) (fun (v3 : Int32) =>
    (if p1 < v3 then
    gR (some a0) 11 1 fun v4 =>
    gR v4 9 2 fun v5 =>
    rcv v5 2 fun r7 => call (f_Jx4a65c_get_915e3 r7 p1) (fun (v6 : Option Nat) =>
    cst v6 7 (
    rtn v6)) nox
    else
    j_X8_lessonNumbered_18)) nox)
set_option maxRecDepth 100000 in
set_option maxHeartbeats 4000000 in
theorem m_X8_lessonNumbered {G : GG} {l : Launch} {a0 : Nat} {p1 : Int32} {hs hs' : Hs} {o : Except Nat (Option Nat)} (h : f_X8_lessonNumbered a0 p1 hs = some (o, hs')) : CT G l yX8_lessonNumbered cX8_lessonNumbered 2 (some (.object "Termgrid$Lesson")) 6 200 1 6 [.ref a0, .int p1] hs o hs' tvR := by
  refine vx_ofW (cc := cX8_lessonNumbered) (maxL := 2) (ret := (some (.object "Termgrid$Lesson"))) (by decide +kernel) rfl ?_
  intro p e s m args below meth c s₁ B hml hxt hv
  obtain ⟨hav, hR, hKn⟩ := hv
  subst hav
  have hts := atoms_spec (ws := .code yX8_lessonNumbered cX8_lessonNumbered 2 (some (.object "Termgrid$Lesson")) :: Tg) B.pre
  have C : Cx G l p s m _ c RX8 cX8_lessonNumbered 2 := ⟨B.exec, B.bytes, hml, findClass_of_methodNamed B.named, fun w hw => hts w (List.mem_cons_of_mem _ hw), hKn, fun q hq => Nat.le_trans hR.2.2.1 hq⟩
  have C2 : Cy meth c (some (.object "Termgrid$Lesson")) := ⟨B.returns, B.notSynchronized, hxt⟩
  have key : WG G p l e { frames := 6, cells := 1, slots := 6, locals := 200 } s m ([.ref a0, .int p1] : List Value).toArray below meth c 2 0 0 (vx_MQ below (QcT G o hs' tvR) (XCT G o hs') ([.ref a0, .int p1] : List Value).toArray s 1 6 (gA G)) hs [(0, va_rf (some a0)), (1, .int p1)] [] 0 := by
    unfold f_X8_lessonNumbered at h
    refine q_iload_n C 1 dX8_lessonNumbered_0 rfl ?_
    refine q_if_lt C 18 dX8_lessonNumbered_1 (by decide) h (fun h => ?_) (fun h => ?_)
    · refine WG.sub [] rfl ?_
      exact w_j_X8_lessonNumbered_18 C C2    h
    · refine q_iload_n C 1 dX8_lessonNumbered_4 rfl ?_
      refine q_aload_n C 0 dX8_lessonNumbered_5 rfl ?_
      refine q_gR C fl_X8_19 dX8_lessonNumbered_6 h (fun v1 h => ?_)
      refine q_gR C fl_X8_121 dX8_lessonNumbered_9 h (fun v2 h => ?_)
      refine q_callV C (CN := RJx4a65c) (T := TJx4a65c) (N := 3) [] [.int p1] (fun a0 o2 hs1 hm => m_Jx4a65c_size_8abf5 hm) lk_X8_70 im_Jx4a65c_size_8abf5 se_Jx4a65c_Jx4a65c_size_8abf5 rfl ⟨(Nat.le_of_ble_eq_true rfl), (Nat.le_of_ble_eq_true rfl)⟩ ⟨(Nat.le_of_ble_eq_true rfl), (Nat.le_of_ble_eq_true rfl)⟩ rfl rfl (by simp only [List.map, cat_rf, cat_i, cat_a]; decide) dX8_lessonNumbered_12 h (fun v3 hs h => WG_st (st' := [.int v3, .int p1]) rfl ?_)
      refine q_icmp_lt C 29 dX8_lessonNumbered_15 (by decide) h (fun h => ?_) (fun h => ?_)
      · refine q_aload_n C 0 dX8_lessonNumbered_29 rfl ?_
        refine q_gR C fl_X8_19 dX8_lessonNumbered_30 h (fun v4 h => ?_)
        refine q_gR C fl_X8_121 dX8_lessonNumbered_33 h (fun v5 h => ?_)
        refine q_iload_n C 1 dX8_lessonNumbered_36 rfl ?_
        refine q_callV C (CN := RJx4a65c) (T := TJx4a65c) (N := 3) [.int p1] [] (fun a0 o2 hs1 hm => m_Jx4a65c_get_915e3 hm) lk_X8_186 im_Jx4a65c_get_915e3 se_Jx4a65c_Jx4a65c_get_915e3 rfl ⟨(Nat.le_of_ble_eq_true rfl), (Nat.le_of_ble_eq_true rfl)⟩ ⟨(Nat.le_of_ble_eq_true rfl), (Nat.le_of_ble_eq_true rfl)⟩ rfl rfl (by decide) dX8_lessonNumbered_37 h (fun v6 hs h => WG_st (st' := [va_rf v6]) rfl ?_)
        refine q_castS C (nm := RX4) (T := TX4) (N := 18) rfl wc_X8_126 dX8_lessonNumbered_40 h (fun h => ?_)
        exact q_aret C C2 rfl (Or.inl ⟨_, rfl⟩) (Nat.le_of_ble_eq_true rfl) (Nat.le_of_ble_eq_true rfl) dX8_lessonNumbered_43 h
      · refine WG.sub [] rfl ?_
        exact w_j_X8_lessonNumbered_18 C C2    h
  rw [lg_entry_eq]
  exact key _ _ _ hR va_S.rf ⟨lv_entry _ (n := 2) (Nat.le_of_ble_eq_true rfl), (c1_r (c1_i c1_n))⟩

theorem cd_X8_roomOfPlace : Cond.code yX8_roomOfPlace cX8_roomOfPlace 3 (some (.object "Termgrid$Room")) ∈ Tg := Tg_of (i := 1009) (by decide +kernel) (by decide +kernel)
section M_X8_roomOfPlace
variable {p : Program} {l : Launch} {e : Env} {s : State} {m : MethodId} {args : Array Value} {below : List Frame} {meth : Method} {c : Code} {G : GG} {o : Except Nat (Option Nat)} {hs' : Hs}
def j_X8_roomOfPlace_22    : OO (Option Nat) :=
  nthrow 1
set_option maxRecDepth 100000 in
set_option maxHeartbeats 4000000 in
theorem w_j_X8_roomOfPlace_22 (C : Cx G l p s m args c RX8 cX8_roomOfPlace 3) (C2 : Cy meth c (some (.object "Termgrid$Room"))) {hs : Hs}     (h : j_X8_roomOfPlace_22 hs = some (o, hs')) : WG G p l e { frames := 7, cells := 2, slots := 12, locals := 220 } s m args below meth c 3 1 6 (vx_MQ below (QcT G o hs' tvR) (XCT G o hs') args s 2 12 (gA G)) hs [] [] 22 := by
  unfold j_X8_roomOfPlace_22 at h
  exact q_throw C C2 (k := 1) (tx := "no such room") wc_X8_x60 iw_x1 at_X8_64 (by decide +kernel) (Nat.le_of_ble_eq_true rfl) (Nat.le_of_ble_eq_true rfl) (Nat.le_of_ble_eq_true rfl) (Nat.le_of_ble_eq_true rfl) (Nat.le_of_ble_eq_true rfl) (Nat.le_of_ble_eq_true rfl) (by decide) dX8_roomOfPlace_22 dX8_roomOfPlace_25 (Or.inr ⟨rfl, dX8_roomOfPlace_26⟩) dX8_roomOfPlace_29 dX8_roomOfPlace_32 h
end M_X8_roomOfPlace
def f_X8_roomOfPlace (a0 : Nat) (p1 : Int32) (p2 : Int32) : OO (Option Nat) :=
    call (f_X8_requireSlot p1) (fun (v1 : Unit) =>
    (if p2 < 0 then
    j_X8_roomOfPlace_22
    else
    gR (some a0) 11 1 fun v2 =>
    gR v2 9 0 fun v3 =>
    rcv v3 2 fun r9 => call (f_Jx4a65c_size_8abf5 r9 ) (fun (v4 : Int32) =>
    (if p2 < v4 then
    gR (some a0) 11 1 fun v5 =>
    gR v5 9 0 fun v6 =>
    rcv v6 2 fun r8 => call (f_Jx4a65c_get_915e3 r8 p2) (fun (v7 : Option Nat) =>
    cst v7 8 (
    rtn v7)) nox
    else
    j_X8_roomOfPlace_22)) nox)) thr
set_option maxRecDepth 100000 in
set_option maxHeartbeats 4000000 in
theorem m_X8_roomOfPlace {G : GG} {l : Launch} {a0 : Nat} {p1 : Int32} {p2 : Int32} {hs hs' : Hs} {o : Except Nat (Option Nat)} (h : f_X8_roomOfPlace a0 p1 p2 hs = some (o, hs')) : CT G l yX8_roomOfPlace cX8_roomOfPlace 3 (some (.object "Termgrid$Room")) 7 220 2 12 [.ref a0, .int p1, .int p2] hs o hs' tvR := by
  refine vx_ofW (cc := cX8_roomOfPlace) (maxL := 3) (ret := (some (.object "Termgrid$Room"))) (by decide +kernel) rfl ?_
  intro p e s m args below meth c s₁ B hml hxt hv
  obtain ⟨hav, hR, hKn⟩ := hv
  subst hav
  have hts := atoms_spec (ws := .code yX8_roomOfPlace cX8_roomOfPlace 3 (some (.object "Termgrid$Room")) :: Tg) B.pre
  have C : Cx G l p s m _ c RX8 cX8_roomOfPlace 3 := ⟨B.exec, B.bytes, hml, findClass_of_methodNamed B.named, fun w hw => hts w (List.mem_cons_of_mem _ hw), hKn, fun q hq => Nat.le_trans hR.2.2.1 hq⟩
  have C2 : Cy meth c (some (.object "Termgrid$Room")) := ⟨B.returns, B.notSynchronized, hxt⟩
  have key : WG G p l e { frames := 7, cells := 2, slots := 12, locals := 220 } s m ([.ref a0, .int p1, .int p2] : List Value).toArray below meth c 3 0 0 (vx_MQ below (QcT G o hs' tvR) (XCT G o hs') ([.ref a0, .int p1, .int p2] : List Value).toArray s 2 12 (gA G)) hs [(0, va_rf (some a0)), (1, .int p1), (2, .int p2)] [] 0 := by
    unfold f_X8_roomOfPlace at h
    refine q_iload_n C 1 dX8_roomOfPlace_0 rfl ?_
    refine q_callSX C [.int p1] [] C2 ⟨(Nat.le_of_ble_eq_true rfl), (Nat.le_of_ble_eq_true rfl)⟩ (fun o2 hs1 hm => m_X8_requireSlot hm) lk_X8_131 sm_X8_requireSlot ⟨(Nat.le_of_ble_eq_true rfl), (Nat.le_of_ble_eq_true rfl)⟩ ⟨(Nat.le_of_ble_eq_true rfl), (Nat.le_of_ble_eq_true rfl)⟩ rfl rfl (by decide) dX8_roomOfPlace_1 h (fun v1 hs h => WG_st (st' := []) rfl ?_)
    refine q_iload_n C 2 dX8_roomOfPlace_4 rfl ?_
    refine q_if_lt C 22 dX8_roomOfPlace_5 (by decide) h (fun h => ?_) (fun h => ?_)
    · refine WG.sub [] rfl ?_
      exact w_j_X8_roomOfPlace_22 C C2    h
    · refine q_iload_n C 2 dX8_roomOfPlace_8 rfl ?_
      refine q_aload_n C 0 dX8_roomOfPlace_9 rfl ?_
      refine q_gR C fl_X8_19 dX8_roomOfPlace_10 h (fun v2 h => ?_)
      refine q_gR C fl_X8_67 dX8_roomOfPlace_13 h (fun v3 h => ?_)
      refine q_callV C (CN := RJx4a65c) (T := TJx4a65c) (N := 3) [] [.int p2] (fun a0 o2 hs1 hm => m_Jx4a65c_size_8abf5 hm) lk_X8_70 im_Jx4a65c_size_8abf5 se_Jx4a65c_Jx4a65c_size_8abf5 rfl ⟨(Nat.le_of_ble_eq_true rfl), (Nat.le_of_ble_eq_true rfl)⟩ ⟨(Nat.le_of_ble_eq_true rfl), (Nat.le_of_ble_eq_true rfl)⟩ rfl rfl (by simp only [List.map, cat_rf, cat_i, cat_a]; decide) dX8_roomOfPlace_16 h (fun v4 hs h => WG_st (st' := [.int v4, .int p2]) rfl ?_)
      refine q_icmp_lt C 33 dX8_roomOfPlace_19 (by decide) h (fun h => ?_) (fun h => ?_)
      · refine q_aload_n C 0 dX8_roomOfPlace_33 rfl ?_
        refine q_gR C fl_X8_19 dX8_roomOfPlace_34 h (fun v5 h => ?_)
        refine q_gR C fl_X8_67 dX8_roomOfPlace_37 h (fun v6 h => ?_)
        refine q_iload_n C 2 dX8_roomOfPlace_40 rfl ?_
        refine q_callV C (CN := RJx4a65c) (T := TJx4a65c) (N := 3) [.int p2] [] (fun a0 o2 hs1 hm => m_Jx4a65c_get_915e3 hm) lk_X8_186 im_Jx4a65c_get_915e3 se_Jx4a65c_Jx4a65c_get_915e3 rfl ⟨(Nat.le_of_ble_eq_true rfl), (Nat.le_of_ble_eq_true rfl)⟩ ⟨(Nat.le_of_ble_eq_true rfl), (Nat.le_of_ble_eq_true rfl)⟩ rfl rfl (by decide) dX8_roomOfPlace_41 h (fun v7 hs h => WG_st (st' := [va_rf v7]) rfl ?_)
        refine q_castS C (nm := RX5) (T := TX5) (N := 5) rfl wc_X8_79 dX8_roomOfPlace_44 h (fun h => ?_)
        exact q_aret C C2 rfl (Or.inl ⟨_, rfl⟩) (Nat.le_of_ble_eq_true rfl) (Nat.le_of_ble_eq_true rfl) dX8_roomOfPlace_47 h
      · refine WG.sub [] rfl ?_
        exact w_j_X8_roomOfPlace_22 C C2    h
  rw [lg_entry_eq]
  exact key _ _ _ hR va_S.rf ⟨lv_entry _ (n := 3) (Nat.le_of_ble_eq_true rfl), (c1_r (c1_i (c1_i c1_n)))⟩

theorem cd_X8_reason : Cond.code yX8_reason cX8_reason 8 (some .char) ∈ Tg := Tg_of (i := 1000) (by decide +kernel) (by decide +kernel)
theorem ml_X8_149 : Cond.methodLink RX8 149 yX8_lessonNumbered ∈ Tg := Tg_of (i := 1001) (by decide +kernel) (by decide +kernel)
theorem lk_X8_149 : Lk RX8 149 yX8_lessonNumbered cX8_lessonNumbered 2 (some (.object "Termgrid$Lesson")) 1 := ⟨ml_X8_149, cd_X8_lessonNumbered, iw_X8, by decide +kernel⟩
theorem ml_X8_153 : Cond.methodLink RX8 153 yX8_roomOfPlace ∈ Tg := Tg_of (i := 1006) (by decide +kernel) (by decide +kernel)
theorem lk_X8_153 : Lk RX8 153 yX8_roomOfPlace cX8_roomOfPlace 3 (some (.object "Termgrid$Room")) 2 := ⟨ml_X8_153, cd_X8_roomOfPlace, iw_X8, by decide +kernel⟩
theorem ml_X8_157 : Cond.methodLink RX8 157 yX6_lookAround ∈ Tg := Tg_of (i := 1011) (by decide +kernel) (by decide +kernel)
theorem lk_X8_157 : Lk RX8 157 yX6_lookAround cX6_lookAround 3 none 1 := ⟨ml_X8_157, cd_X6_lookAround, iw_X6, by decide +kernel⟩
theorem ml_X8_161 : Cond.methodLink RX8 161 yX4_lettersAt ∈ Tg := Tg_of (i := 1012) (by decide +kernel) (by decide +kernel)
theorem lk_X8_161 : Lk RX8 161 yX4_lettersAt cX4_lettersAt 5 (some .int) 2 := ⟨ml_X8_161, cd_X4_lettersAt, iw_X4, by decide +kernel⟩
theorem ml_X8_167 : Cond.methodLink RX8 167 yJ0_length_8abf5 ∈ Tg := Tg_of (i := 1014) (by decide +kernel) (by decide +kernel)
theorem ml_X8_176 : Cond.methodLink RX8 176 yJ0_charAt_5068e ∈ Tg := Tg_of (i := 1015) (by decide +kernel) (by decide +kernel)
theorem im_X8_roomOfPlace : Cond.instanceMethod yX8_roomOfPlace ∈ Tg := Tg_of (i := 1008) (by decide +kernel) (by decide +kernel)
theorem se_X8_X8_roomOfPlace : Cond.selects RX8 yX8_roomOfPlace yX8_roomOfPlace ∈ Tg := Tg_of (i := 23) (by decide +kernel) (by decide +kernel)
theorem im_X8_lessonNumbered : Cond.instanceMethod yX8_lessonNumbered ∈ Tg := Tg_of (i := 1003) (by decide +kernel) (by decide +kernel)
theorem se_X8_X8_lessonNumbered : Cond.selects RX8 yX8_lessonNumbered yX8_lessonNumbered ∈ Tg := Tg_of (i := 22) (by decide +kernel) (by decide +kernel)
section M_X8_reason
variable {p : Program} {l : Launch} {e : Env} {s : State} {m : MethodId} {args : Array Value} {below : List Frame} {meth : Method} {c : Code} {G : GG} {o : Except Nat Int32} {hs' : Hs}
def L_X8_reason_37 (a6 : Int32) (k_37_57 : Int32 → OO Int32) (k_37_71 : OO Int32) : Nat → Int32 → OO Int32
  | 0, _ => failO
  | n + 1, x7 =>
    (if (10 : Int32) ≤ x7 then
    k_37_71
    else
    call (f_X8_has a6 x7) (fun (v10 : Int32) =>
    (if v10 = 0 then
    lets (x7 + (1 : Int32)) fun (v11 : Int32) =>
    (L_X8_reason_37 a6 k_37_57 k_37_71 n) v11
    else
    k_37_57 x7)) nox)
set_option maxRecDepth 100000 in
set_option maxHeartbeats 4000000 in
theorem w_L_X8_reason_37 (C : Cx G l p s m args c RX8 cX8_reason 8) (C2 : Cy meth c (some .char)) (a6 : Int32) (k_37_57 : Int32 → OO Int32) (k_37_71 : OO Int32) (hk_37_57 : ∀ (y7 : Int32) hs, k_37_57 y7 hs = some (o, hs') → WG G p l e { frames := 9, cells := 3, slots := 18, locals := 364 } s m args below meth c 8 3 18 (vx_MQ below (QcT G o hs' tvI) (XCT G o hs') args s 3 18 (gA G)) hs [(7, .int y7)] [] 57) (hk_37_71 : ∀ hs, k_37_71  hs = some (o, hs') → WG G p l e { frames := 9, cells := 3, slots := 18, locals := 364 } s m args below meth c 8 3 18 (vx_MQ below (QcT G o hs' tvI) (XCT G o hs') args s 3 18 (gA G)) hs [] [] 71) : ∀ (n : Nat) (x7 : Int32) (hs : Hs), L_X8_reason_37 a6 k_37_57 k_37_71 n x7 hs = some (o, hs') → WG G p l e { frames := 9, cells := 3, slots := 18, locals := 364 } s m args below meth c 8 3 18 (vx_MQ below (QcT G o hs' tvI) (XCT G o hs') args s 3 18 (gA G)) hs [(6, .int a6), (7, .int x7)] [] 37 := by
  intro n
  induction n with
  | zero =>
    intro x7 hs h
    rw [L_X8_reason_37] at h
    exact absurd h failO_e
  | succ n hrec_37 =>
    intro x7 hs h
    rw [L_X8_reason_37] at h
    refine q_iload C 1 dX8_reason_37 rfl ?_
    refine q_ldcS C (tx := "hpokscrtgv") (by decide) rfl dX8_reason_39 ?_
    refine q_strlen C ml_X8_167 ⟨(Nat.le_of_ble_eq_true rfl), (Nat.le_of_ble_eq_true rfl)⟩ ⟨(Nat.le_of_ble_eq_true rfl), (Nat.le_of_ble_eq_true rfl)⟩ (by simp only [List.map, cat_rf, cat_i, cat_a]; decide) dX8_reason_41 ?_
    refine q_icmp_ge C 71 dX8_reason_44 (by decide) h (fun h => ?_) (fun h => ?_)
    · refine WG.sub [] rfl ?_
      exact hk_37_71 _ h
    · refine q_iload C 0 dX8_reason_47 rfl ?_
      refine q_iload C 1 dX8_reason_49 rfl ?_
      refine q_callS C [.int a6, .int x7] [] (fun o2 hs1 hm => m_X8_has hm) lk_X8_172 sm_X8_has ⟨(Nat.le_of_ble_eq_true rfl), (Nat.le_of_ble_eq_true rfl)⟩ ⟨(Nat.le_of_ble_eq_true rfl), (Nat.le_of_ble_eq_true rfl)⟩ rfl rfl (by decide) dX8_reason_51 h (fun v10 hs h => WG_st (st' := [.int v10]) rfl ?_)
      refine q_if_eq C 65 dX8_reason_54 (by decide) h (fun h => ?_) (fun h => ?_)
      · refine q_iinc C 1 (1 : Int32) (fun v11 => [(7, .int v11), (6, .int a6)]) dX8_reason_65 rfl (by decide) (by decide) (fun _ => rfl) h (fun v11 h => ?_)
        refine q_goto C 37 dX8_reason_68 (by decide) ?_
        refine WG.sub [1, 0] rfl ?_
        exact hrec_37 _ _ h
      · refine WG.sub [1] rfl ?_
        exact hk_37_57 _ _ h
end M_X8_reason
def f_X8_reason (a0 : Nat) (p1 : Int32) (p2 : Int32) (p3 : Int32) : OO Int32 :=
    rcv (some a0) 11 fun r17 => call (f_X8_lessonNumbered r17 p1) (fun (v1 : Option Nat) =>
    lets v1 fun (v2 : Option Nat) =>
    rcv (some a0) 11 fun r16 => call (f_X8_roomOfPlace r16 p2 p3) (fun (v3 : Option Nat) =>
    lets v3 fun (v4 : Option Nat) =>
    gR (some a0) 11 1 fun v5 =>
    rcv v5 9 fun r15 => call (f_X6_lookAround r15 v2) (fun (v6 : Unit) =>
    rcv v2 7 fun r14 => call (f_X4_lettersAt r14 p2 v4) (fun (v7 : Int32) =>
    lets v7 fun (v8 : Int32) =>
    lets (0 : Int32) fun (v9 : Int32) =>
    L_X8_reason_37 v8 (fun (v12 : Int32) => letAt v12 fun v13 =>
    retC v13) (retC (45 : Int32)) 100000 v9) nox) nox) thr) thr
set_option maxRecDepth 100000 in
set_option maxHeartbeats 4000000 in
theorem m_X8_reason {G : GG} {l : Launch} {a0 : Nat} {p1 : Int32} {p2 : Int32} {p3 : Int32} {hs hs' : Hs} {o : Except Nat Int32} (h : f_X8_reason a0 p1 p2 p3 hs = some (o, hs')) : CT G l yX8_reason cX8_reason 8 (some .char) 9 364 3 18 [.ref a0, .int p1, .int p2, .int p3] hs o hs' tvI := by
  refine vx_ofW (cc := cX8_reason) (maxL := 8) (ret := (some .char)) (by decide +kernel) rfl ?_
  intro p e s m args below meth c s₁ B hml hxt hv
  obtain ⟨hav, hR, hKn⟩ := hv
  subst hav
  have hts := atoms_spec (ws := .code yX8_reason cX8_reason 8 (some .char) :: Tg) B.pre
  have C : Cx G l p s m _ c RX8 cX8_reason 8 := ⟨B.exec, B.bytes, hml, findClass_of_methodNamed B.named, fun w hw => hts w (List.mem_cons_of_mem _ hw), hKn, fun q hq => Nat.le_trans hR.2.2.1 hq⟩
  have C2 : Cy meth c (some .char) := ⟨B.returns, B.notSynchronized, hxt⟩
  have key : WG G p l e { frames := 9, cells := 3, slots := 18, locals := 364 } s m ([.ref a0, .int p1, .int p2, .int p3] : List Value).toArray below meth c 8 0 0 (vx_MQ below (QcT G o hs' tvI) (XCT G o hs') ([.ref a0, .int p1, .int p2, .int p3] : List Value).toArray s 3 18 (gA G)) hs [(0, va_rf (some a0)), (1, .int p1), (2, .int p2), (3, .int p3)] [] 0 := by
    unfold f_X8_reason at h
    refine q_aload_n C 0 dX8_reason_0 rfl ?_
    refine q_iload_n C 1 dX8_reason_1 rfl ?_
    refine q_callVX C (CN := RX8) (T := TX8) (N := 10) [.int p1] [] C2 ⟨(Nat.le_of_ble_eq_true rfl), (Nat.le_of_ble_eq_true rfl)⟩ (fun a0 o2 hs1 hm => m_X8_lessonNumbered hm) lk_X8_149 im_X8_lessonNumbered se_X8_X8_lessonNumbered rfl ⟨(Nat.le_of_ble_eq_true rfl), (Nat.le_of_ble_eq_true rfl)⟩ ⟨(Nat.le_of_ble_eq_true rfl), (Nat.le_of_ble_eq_true rfl)⟩ rfl rfl (by decide) dX8_reason_2 h (fun v1 hs h => WG_st (st' := [va_rf v1]) rfl ?_)
    refine q_astore C (fun v2 => [(4, va_rf v2), (0, va_rf (some a0)), (1, .int p1), (2, .int p2), (3, .int p3)]) dX8_reason_5 (by decide) (fun _ => rfl) h (fun v2 h => ?_)
    refine q_aload_n C 1 dX8_reason_7 rfl ?_
    refine q_iload_n C 3 dX8_reason_8 rfl ?_
    refine q_iload_n C 4 dX8_reason_9 rfl ?_
    refine q_callVX C (CN := RX8) (T := TX8) (N := 10) [.int p2, .int p3] [] C2 ⟨(Nat.le_of_ble_eq_true rfl), (Nat.le_of_ble_eq_true rfl)⟩ (fun a0 o2 hs1 hm => m_X8_roomOfPlace hm) lk_X8_153 im_X8_roomOfPlace se_X8_X8_roomOfPlace rfl ⟨(Nat.le_of_ble_eq_true rfl), (Nat.le_of_ble_eq_true rfl)⟩ ⟨(Nat.le_of_ble_eq_true rfl), (Nat.le_of_ble_eq_true rfl)⟩ rfl rfl (by decide) dX8_reason_10 h (fun v3 hs h => WG_st (st' := [va_rf v3]) rfl ?_)
    refine q_astore C (fun v4 => [(5, va_rf v4), (4, va_rf v2), (0, va_rf (some a0)), (1, .int p1), (2, .int p2), (3, .int p3)]) dX8_reason_13 (by decide) (fun _ => rfl) h (fun v4 h => ?_)
    refine q_aload_n C 2 dX8_reason_15 rfl ?_
    refine q_gR C fl_X8_19 dX8_reason_16 h (fun v5 h => ?_)
    refine q_aload C 1 dX8_reason_19 rfl ?_
    refine q_callV C (CN := RX6) (T := TX6) (N := 6) [va_rf v2] [] (fun a0 o2 hs1 hm => m_X6_lookAround hm) lk_X8_157 im_X6_lookAround se_X6_X6_lookAround rfl ⟨(Nat.le_of_ble_eq_true rfl), (Nat.le_of_ble_eq_true rfl)⟩ ⟨(Nat.le_of_ble_eq_true rfl), (Nat.le_of_ble_eq_true rfl)⟩ rfl rfl (by decide) dX8_reason_21 h (fun v6 hs h => WG_st (st' := []) rfl ?_)
    refine q_aload C 1 dX8_reason_24 rfl ?_
    refine q_iload_n C 4 dX8_reason_26 rfl ?_
    refine q_aload C 0 dX8_reason_27 rfl ?_
    refine q_callV C (CN := RX4) (T := TX4) (N := 18) [.int p2, va_rf v4] [] (fun a0 o2 hs1 hm => m_X4_lettersAt hm) lk_X8_161 im_X4_lettersAt se_X4_X4_lettersAt rfl ⟨(Nat.le_of_ble_eq_true rfl), (Nat.le_of_ble_eq_true rfl)⟩ ⟨(Nat.le_of_ble_eq_true rfl), (Nat.le_of_ble_eq_true rfl)⟩ rfl rfl (by decide) dX8_reason_29 h (fun v7 hs h => WG_st (st' := [.int v7]) rfl ?_)
    refine q_istore C (fun v8 => [(6, .int v8), (5, va_rf v4), (4, va_rf v2), (0, va_rf (some a0)), (1, .int p1), (2, .int p2), (3, .int p3)]) dX8_reason_32 (by decide) (fun _ => rfl) h (fun v8 h => ?_)
    refine q_iconst C (0 : Int32) dX8_reason_34 (by decide) ?_
    refine q_istore C (fun v9 => [(7, .int v9), (6, .int v8), (5, va_rf v4), (4, va_rf v2), (0, va_rf (some a0)), (1, .int p1), (2, .int p2), (3, .int p3)]) dX8_reason_35 (by decide) (fun _ => rfl) h (fun v9 h => ?_)
    refine WG.sub [1, 0] rfl ?_
    refine w_L_X8_reason_37 C C2 _ _ _ ?_ ?_ _ _ _ h
    · intro v12 hs h
      refine q_ldcS C (tx := "hpokscrtgv") (by decide) rfl dX8_reason_57 ?_
      refine q_iload C 0 dX8_reason_59 rfl ?_
      refine q_charAt C ml_X8_176 ⟨(Nat.le_of_ble_eq_true rfl), (Nat.le_of_ble_eq_true rfl)⟩ ⟨(Nat.le_of_ble_eq_true rfl), (Nat.le_of_ble_eq_true rfl)⟩ (by decide) dX8_reason_61 h (fun v13 h => ?_)
      exact q_cret C C2 rfl (Nat.le_of_ble_eq_true rfl) (Nat.le_of_ble_eq_true rfl) dX8_reason_64 h
    · intro  hs h
      refine q_bipush C (45 : Int32) dX8_reason_71 (by decide) ?_
      exact q_cret C C2 rfl (Nat.le_of_ble_eq_true rfl) (Nat.le_of_ble_eq_true rfl) dX8_reason_73 h
  rw [lg_entry_eq]
  exact key _ _ _ hR va_S.rf ⟨lv_entry _ (n := 8) (Nat.le_of_ble_eq_true rfl), (c1_r (c1_i (c1_i (c1_i c1_n))))⟩

theorem cd_Jx4a65c_isEmpty_aae02 : Cond.code yJx4a65c_isEmpty_aae02 cJx4a65c_isEmpty_aae02 1 (some .boolean) ∈ Tg := Tg_of (i := 1083) (by decide +kernel) (by decide +kernel)
section M_Jx4a65c_isEmpty_aae02
variable {p : Program} {l : Launch} {e : Env} {s : State} {m : MethodId} {args : Array Value} {below : List Frame} {meth : Method} {c : Code} {G : GG} {o : Except Nat Int32} {hs' : Hs}
end M_Jx4a65c_isEmpty_aae02
def f_Jx4a65c_isEmpty_aae02 (a0 : Nat) : OO Int32 :=
    gI (some a0) 2 2 fun v1 =>
    (if ¬ v1 = 0 then
    retZ (0 : Int32)
    else
    retZ (1 : Int32))
set_option maxRecDepth 100000 in
set_option maxHeartbeats 4000000 in
theorem m_Jx4a65c_isEmpty_aae02 {G : GG} {l : Launch} {a0 : Nat} {hs hs' : Hs} {o : Except Nat Int32} (h : f_Jx4a65c_isEmpty_aae02 a0 hs = some (o, hs')) : CT G l yJx4a65c_isEmpty_aae02 cJx4a65c_isEmpty_aae02 1 (some .boolean) 0 0 0 0 [.ref a0] hs o hs' tvI := by
  refine vx_ofW (cc := cJx4a65c_isEmpty_aae02) (maxL := 1) (ret := (some .boolean)) (by decide +kernel) rfl ?_
  intro p e s m args below meth c s₁ B hml hxt hv
  obtain ⟨hav, hR, hKn⟩ := hv
  subst hav
  have hts := atoms_spec (ws := .code yJx4a65c_isEmpty_aae02 cJx4a65c_isEmpty_aae02 1 (some .boolean) :: Tg) B.pre
  have C : Cx G l p s m _ c RJx4a65c cJx4a65c_isEmpty_aae02 1 := ⟨B.exec, B.bytes, hml, findClass_of_methodNamed B.named, fun w hw => hts w (List.mem_cons_of_mem _ hw), hKn, fun q hq => Nat.le_trans hR.2.2.1 hq⟩
  have C2 : Cy meth c (some .boolean) := ⟨B.returns, B.notSynchronized, hxt⟩
  have key : WG G p l e { frames := 0, cells := 0, slots := 0, locals := 0 } s m ([.ref a0] : List Value).toArray below meth c 1 0 0 (vx_MQ below (QcT G o hs' tvI) (XCT G o hs') ([.ref a0] : List Value).toArray s 0 0 (gA G)) hs [(0, va_rf (some a0))] [] 0 := by
    unfold f_Jx4a65c_isEmpty_aae02 at h
    refine q_aload_n C 0 dJx4a65c_isEmpty_aae02_0 rfl ?_
    refine q_gI C fl_Jx4a65c_48 dJx4a65c_isEmpty_aae02_1 h (fun v1 h => ?_)
    refine q_if_ne C 11 dJx4a65c_isEmpty_aae02_4 (by decide) h (fun h => ?_) (fun h => ?_)
    · refine q_iconst C (0 : Int32) dJx4a65c_isEmpty_aae02_11 (by decide) ?_
      exact q_zret C C2 rfl (Nat.le_of_ble_eq_true rfl) (Nat.le_of_ble_eq_true rfl) dJx4a65c_isEmpty_aae02_12 h
    · refine q_iconst C (1 : Int32) dJx4a65c_isEmpty_aae02_7 (by decide) ?_
      refine q_goto C 12 dJx4a65c_isEmpty_aae02_8 (by decide) ?_
      exact q_zret C C2 rfl (Nat.le_of_ble_eq_true rfl) (Nat.le_of_ble_eq_true rfl) dJx4a65c_isEmpty_aae02_12 h
  rw [lg_entry_eq]
  exact key _ _ _ hR va_S.rf ⟨lv_entry _ (n := 1) (Nat.le_of_ble_eq_true rfl), (c1_r c1_n)⟩

theorem cd_X8_barEachRoom : Cond.code yX8_barEachRoom cX8_barEachRoom 3 (some .boolean) ∈ Tg := Tg_of (i := 1087) (by decide +kernel) (by decide +kernel)
theorem fl_X8_53 : Fld RX8 53 11 7 (.array .int) := ⟨RX8, TX8, 10, RX8, rfl, by decide, wf_X8_53, (Or.inl rfl), gu_X8, tyX8_ok _ (by decide), ⟨tyX8, tyX8_ok⟩, nmX8⟩
section M_X8_barEachRoom
variable {p : Program} {l : Launch} {e : Env} {s : State} {m : MethodId} {args : Array Value} {below : List Frame} {meth : Method} {c : Code} {G : GG} {o : Except Nat Int32} {hs' : Hs}
def L_X8_barEachRoom_2 (a0 : Option Nat) (a1 : Int32) (k_2_36 : OO Int32) (k_2_44 : OO Int32) : Nat → Int32 → OO Int32
  | 0, _ => failO
  | n + 1, x2 =>
    gR a0 11 1 fun v2 =>
    gR v2 9 0 fun v3 =>
    rcv v3 2 fun r10 => call (f_Jx4a65c_size_8abf5 r10 ) (fun (v4 : Int32) =>
    (if v4 ≤ x2 then
    k_2_44
    else
    gR a0 11 7 fun v5 =>
    alen v5 fun v6 =>
    (if v6 ≤ x2 then
    k_2_44
    else
    gR a0 11 7 fun v7 =>
    ldI 0 v7 x2 fun v8 =>
    (if ¬ (v8 &&& a1) = 0 then
    lets (x2 + (1 : Int32)) fun (v9 : Int32) =>
    (L_X8_barEachRoom_2 a0 a1 k_2_36 k_2_44 n) v9
    else
    k_2_36)))) nox
set_option maxRecDepth 100000 in
set_option maxHeartbeats 4000000 in
theorem w_L_X8_barEachRoom_2 (C : Cx G l p s m args c RX8 cX8_barEachRoom 3) (C2 : Cy meth c (some .boolean)) (a0 : Option Nat) (a1 : Int32) (k_2_36 : OO Int32) (k_2_44 : OO Int32) (hk_2_36 : ∀ hs, k_2_36  hs = some (o, hs') → WG G p l e { frames := 1, cells := 0, slots := 0, locals := 20 } s m args below meth c 3 0 0 (vx_MQ below (QcT G o hs' tvI) (XCT G o hs') args s 0 0 (gA G)) hs [] [] 36) (hk_2_44 : ∀ hs, k_2_44  hs = some (o, hs') → WG G p l e { frames := 1, cells := 0, slots := 0, locals := 20 } s m args below meth c 3 0 0 (vx_MQ below (QcT G o hs' tvI) (XCT G o hs') args s 0 0 (gA G)) hs [] [] 44) : ∀ (n : Nat) (x2 : Int32) (hs : Hs), L_X8_barEachRoom_2 a0 a1 k_2_36 k_2_44 n x2 hs = some (o, hs') → WG G p l e { frames := 1, cells := 0, slots := 0, locals := 20 } s m args below meth c 3 0 0 (vx_MQ below (QcT G o hs' tvI) (XCT G o hs') args s 0 0 (gA G)) hs [(0, va_rf a0), (1, .int a1), (2, .int x2)] [] 2 := by
  intro n
  induction n with
  | zero =>
    intro x2 hs h
    rw [L_X8_barEachRoom_2] at h
    exact absurd h failO_e
  | succ n hrec_2 =>
    intro x2 hs h
    rw [L_X8_barEachRoom_2] at h
    refine q_iload_n C 2 dX8_barEachRoom_2 rfl ?_
    refine q_aload_n C 0 dX8_barEachRoom_3 rfl ?_
    refine q_gR C fl_X8_19 dX8_barEachRoom_4 h (fun v2 h => ?_)
    refine q_gR C fl_X8_67 dX8_barEachRoom_7 h (fun v3 h => ?_)
    refine q_callV C (CN := RJx4a65c) (T := TJx4a65c) (N := 3) [] [.int x2] (fun a0 o2 hs1 hm => m_Jx4a65c_size_8abf5 hm) lk_X8_70 im_Jx4a65c_size_8abf5 se_Jx4a65c_Jx4a65c_size_8abf5 rfl ⟨(Nat.le_of_ble_eq_true rfl), (Nat.le_of_ble_eq_true rfl)⟩ ⟨(Nat.le_of_ble_eq_true rfl), (Nat.le_of_ble_eq_true rfl)⟩ rfl rfl (by simp only [List.map, cat_rf, cat_i, cat_a]; decide) dX8_barEachRoom_10 h (fun v4 hs h => WG_st (st' := [.int v4, .int x2]) rfl ?_)
    refine q_icmp_ge C 44 dX8_barEachRoom_13 (by decide) h (fun h => ?_) (fun h => ?_)
    · refine WG.sub [] rfl ?_
      exact hk_2_44 _ h
    · refine q_iload_n C 2 dX8_barEachRoom_16 rfl ?_
      refine q_aload_n C 0 dX8_barEachRoom_17 rfl ?_
      refine q_gR C fl_X8_53 dX8_barEachRoom_18 h (fun v5 h => ?_)
      refine q_alen C dX8_barEachRoom_21 h (fun v6 h => ?_)
      refine q_icmp_ge C 44 dX8_barEachRoom_22 (by decide) h (fun h => ?_) (fun h => ?_)
      · refine WG.sub [] rfl ?_
        exact hk_2_44 _ h
      · refine q_aload_n C 0 dX8_barEachRoom_25 rfl ?_
        refine q_gR C fl_X8_53 dX8_barEachRoom_26 h (fun v7 h => ?_)
        refine q_iload_n C 2 dX8_barEachRoom_29 rfl ?_
        refine q_iald C dX8_barEachRoom_30 h (fun v8 h => ?_)
        refine q_iload_n C 1 dX8_barEachRoom_31 rfl ?_
        refine q_iand C dX8_barEachRoom_32 ?_
        refine q_if_ne C 38 dX8_barEachRoom_33 (by decide) h (fun h => ?_) (fun h => ?_)
        · refine q_iinc C 2 (1 : Int32) (fun v9 => [(2, .int v9), (0, va_rf a0), (1, .int a1)]) dX8_barEachRoom_38 rfl (by decide) (by decide) (fun _ => rfl) h (fun v9 h => ?_)
          refine q_goto C 2 dX8_barEachRoom_41 (by decide) ?_
          refine WG.sub [1, 2, 0] rfl ?_
          exact hrec_2 _ _ h
        · refine WG.sub [] rfl ?_
          exact hk_2_36 _ h
end M_X8_barEachRoom
def f_X8_barEachRoom (a0 : Nat) (p1 : Int32) : OO Int32 :=
    lets (0 : Int32) fun (v1 : Int32) =>
    L_X8_barEachRoom_2 (some a0) p1 (retZ (0 : Int32)) (retZ (1 : Int32)) 100000 v1
set_option maxRecDepth 100000 in
set_option maxHeartbeats 4000000 in
theorem m_X8_barEachRoom {G : GG} {l : Launch} {a0 : Nat} {p1 : Int32} {hs hs' : Hs} {o : Except Nat Int32} (h : f_X8_barEachRoom a0 p1 hs = some (o, hs')) : CT G l yX8_barEachRoom cX8_barEachRoom 3 (some .boolean) 1 20 0 0 [.ref a0, .int p1] hs o hs' tvI := by
  refine vx_ofW (cc := cX8_barEachRoom) (maxL := 3) (ret := (some .boolean)) (by decide +kernel) rfl ?_
  intro p e s m args below meth c s₁ B hml hxt hv
  obtain ⟨hav, hR, hKn⟩ := hv
  subst hav
  have hts := atoms_spec (ws := .code yX8_barEachRoom cX8_barEachRoom 3 (some .boolean) :: Tg) B.pre
  have C : Cx G l p s m _ c RX8 cX8_barEachRoom 3 := ⟨B.exec, B.bytes, hml, findClass_of_methodNamed B.named, fun w hw => hts w (List.mem_cons_of_mem _ hw), hKn, fun q hq => Nat.le_trans hR.2.2.1 hq⟩
  have C2 : Cy meth c (some .boolean) := ⟨B.returns, B.notSynchronized, hxt⟩
  have key : WG G p l e { frames := 1, cells := 0, slots := 0, locals := 20 } s m ([.ref a0, .int p1] : List Value).toArray below meth c 3 0 0 (vx_MQ below (QcT G o hs' tvI) (XCT G o hs') ([.ref a0, .int p1] : List Value).toArray s 0 0 (gA G)) hs [(0, va_rf (some a0)), (1, .int p1)] [] 0 := by
    unfold f_X8_barEachRoom at h
    refine q_iconst C (0 : Int32) dX8_barEachRoom_0 (by decide) ?_
    refine q_istore_n C (fun v1 => [(2, .int v1), (0, va_rf (some a0)), (1, .int p1)]) dX8_barEachRoom_1 (by decide) (fun _ => rfl) h (fun v1 h => ?_)
    refine WG.sub [1, 2, 0] rfl ?_
    refine w_L_X8_barEachRoom_2 C C2 _ _ _ _ ?_ ?_ _ _ _ h
    · intro  hs h
      refine q_iconst C (0 : Int32) dX8_barEachRoom_36 (by decide) ?_
      exact q_zret C C2 rfl (Nat.le_of_ble_eq_true rfl) (Nat.le_of_ble_eq_true rfl) dX8_barEachRoom_37 h
    · intro  hs h
      refine q_iconst C (1 : Int32) dX8_barEachRoom_44 (by decide) ?_
      exact q_zret C C2 rfl (Nat.le_of_ble_eq_true rfl) (Nat.le_of_ble_eq_true rfl) dX8_barEachRoom_45 h
  rw [lg_entry_eq]
  exact key _ _ _ hR va_S.rf ⟨lv_entry _ (n := 3) (Nat.le_of_ble_eq_true rfl), (c1_r (c1_i c1_n))⟩

theorem cd_X8_leastReasons : Cond.code yX8_leastReasons cX8_leastReasons 3 (some .int) ∈ Tg := Tg_of (i := 1079) (by decide +kernel) (by decide +kernel)
theorem ml_X8_198 : Cond.methodLink RX8 198 yJx4a65c_isEmpty_aae02 ∈ Tg := Tg_of (i := 1080) (by decide +kernel) (by decide +kernel)
theorem lk_X8_198 : Lk RX8 198 yJx4a65c_isEmpty_aae02 cJx4a65c_isEmpty_aae02 1 (some .boolean) 0 := ⟨ml_X8_198, cd_Jx4a65c_isEmpty_aae02, iw_Jx4a65c, by decide +kernel⟩
theorem ml_X8_202 : Cond.methodLink RX8 202 yJ6_bitCount_0f7a4 ∈ Tg := Tg_of (i := 458) (by decide +kernel) (by decide +kernel)
theorem lk_X8_202 : Lk RX8 202 yJ6_bitCount_0f7a4 cJ6_bitCount_0f7a4 1 (some .int) 1 := ⟨ml_X8_202, cd_J6_bitCount_0f7a4, iw_J6, by decide +kernel⟩
theorem ml_X8_207 : Cond.methodLink RX8 207 yX8_barEachRoom ∈ Tg := Tg_of (i := 1084) (by decide +kernel) (by decide +kernel)
theorem lk_X8_207 : Lk RX8 207 yX8_barEachRoom cX8_barEachRoom 3 (some .boolean) 1 := ⟨ml_X8_207, cd_X8_barEachRoom, iw_X8, by decide +kernel⟩
theorem im_X8_barEachRoom : Cond.instanceMethod yX8_barEachRoom ∈ Tg := Tg_of (i := 1086) (by decide +kernel) (by decide +kernel)
theorem se_X8_X8_barEachRoom : Cond.selects RX8 yX8_barEachRoom yX8_barEachRoom ∈ Tg := Tg_of (i := 25) (by decide +kernel) (by decide +kernel)
theorem im_Jx4a65c_isEmpty_aae02 : Cond.instanceMethod yJx4a65c_isEmpty_aae02 ∈ Tg := Tg_of (i := 1081) (by decide +kernel) (by decide +kernel)
theorem se_Jx4a65c_Jx4a65c_isEmpty_aae02 : Cond.selects RJx4a65c yJx4a65c_isEmpty_aae02 yJx4a65c_isEmpty_aae02 ∈ Tg := Tg_of (i := 1082) (by decide +kernel) (by decide +kernel)
section M_X8_leastReasons
variable {p : Program} {l : Launch} {e : Env} {s : State} {m : MethodId} {args : Array Value} {below : List Frame} {meth : Method} {c : Code} {G : GG} {o : Except Nat Int32} {hs' : Hs}
def j_X8_leastReasons_49 (a0 : Option Nat) (a1 : Int32) (a2 : Int32)  (rec_21 : Int32 → Int32 → OO Int32) : OO Int32 :=
  lets (a2 + (1 : Int32)) fun (v8 : Int32) =>
    rec_21 a1 v8
set_option maxRecDepth 100000 in
set_option maxHeartbeats 4000000 in
theorem w_j_X8_leastReasons_49 (C : Cx G l p s m args c RX8 cX8_leastReasons 3) (C2 : Cy meth c (some .int)) {hs : Hs} (a0 : Option Nat) (a1 : Int32) (a2 : Int32)  (rec_21 : Int32 → Int32 → OO Int32) (hrec_21 : ∀ (y1 : Int32) (y2 : Int32) hs, rec_21 y1 y2 hs = some (o, hs') → WG G p l e { frames := 2, cells := 0, slots := 0, locals := 42 } s m args below meth c 3 0 0 (vx_MQ below (QcT G o hs' tvI) (XCT G o hs') args s 0 0 (gA G)) hs [(0, va_rf a0), (1, .int y1), (2, .int y2)] [] 21) (h : j_X8_leastReasons_49 a0 a1 a2 rec_21 hs = some (o, hs')) : WG G p l e { frames := 2, cells := 0, slots := 0, locals := 42 } s m args below meth c 3 0 0 (vx_MQ below (QcT G o hs' tvI) (XCT G o hs') args s 0 0 (gA G)) hs [(0, va_rf a0), (1, .int a1), (2, .int a2)] [] 49 := by
  unfold j_X8_leastReasons_49 at h
  refine q_iinc C 2 (1 : Int32) (fun v8 => [(2, .int v8), (0, va_rf a0), (1, .int a1)]) dX8_leastReasons_49 rfl (by decide) (by decide) (fun _ => rfl) h (fun v8 h => ?_)
  refine q_goto C 21 dX8_leastReasons_52 (by decide) ?_
  refine WG.sub [1, 2, 0] rfl ?_
  exact hrec_21 _ _ _ h
def L_X8_leastReasons_21 (a0 : Option Nat) (k_21_55 : Int32 → OO Int32) : Nat → Int32 → Int32 → OO Int32
  | 0, _, _ => failO
  | n + 1, x1, x2 =>
    (if (1023 : Int32) ≤ x2 then
    k_21_55 x1
    else
    call (f_J6_bitCount_0f7a4 x2) (fun (v6 : Int32) =>
    call (f_J6_bitCount_0f7a4 x1) (fun (v7 : Int32) =>
    (if v7 ≤ v6 then
    j_X8_leastReasons_49 a0 x1 x2 (L_X8_leastReasons_21 a0 k_21_55 n)
    else
    rcv a0 11 fun r11 => call (f_X8_barEachRoom r11 x2) (fun (v9 : Int32) =>
    (if v9 = 0 then
    j_X8_leastReasons_49 a0 x1 x2 (L_X8_leastReasons_21 a0 k_21_55 n)
    else
    lets x2 fun (v10 : Int32) =>
    j_X8_leastReasons_49 a0 v10 x2 (L_X8_leastReasons_21 a0 k_21_55 n))) nox)) nox) nox)
set_option maxRecDepth 100000 in
set_option maxHeartbeats 4000000 in
theorem w_L_X8_leastReasons_21 (C : Cx G l p s m args c RX8 cX8_leastReasons 3) (C2 : Cy meth c (some .int)) (a0 : Option Nat) (k_21_55 : Int32 → OO Int32) (hk_21_55 : ∀ (y1 : Int32) hs, k_21_55 y1 hs = some (o, hs') → WG G p l e { frames := 2, cells := 0, slots := 0, locals := 42 } s m args below meth c 3 0 0 (vx_MQ below (QcT G o hs' tvI) (XCT G o hs') args s 0 0 (gA G)) hs [(1, .int y1)] [] 55) : ∀ (n : Nat) (x1 : Int32) (x2 : Int32) (hs : Hs), L_X8_leastReasons_21 a0 k_21_55 n x1 x2 hs = some (o, hs') → WG G p l e { frames := 2, cells := 0, slots := 0, locals := 42 } s m args below meth c 3 0 0 (vx_MQ below (QcT G o hs' tvI) (XCT G o hs') args s 0 0 (gA G)) hs [(0, va_rf a0), (1, .int x1), (2, .int x2)] [] 21 := by
  intro n
  induction n with
  | zero =>
    intro x1 x2 hs h
    rw [L_X8_leastReasons_21] at h
    exact absurd h failO_e
  | succ n hrec_21 =>
    intro x1 x2 hs h
    rw [L_X8_leastReasons_21] at h
    refine q_iload_n C 2 dX8_leastReasons_21 rfl ?_
    refine q_sipush C (1023 : Int32) dX8_leastReasons_22 (by decide) ?_
    refine q_icmp_ge C 55 dX8_leastReasons_25 (by decide) h (fun h => ?_) (fun h => ?_)
    · refine WG.sub [1] rfl ?_
      exact hk_21_55 _ _ h
    · refine q_iload_n C 2 dX8_leastReasons_28 rfl ?_
      refine q_callS C [.int x2] [] (fun o2 hs1 hm => m_J6_bitCount_0f7a4 hm) lk_X8_202 sm_J6_bitCount_0f7a4 ⟨(Nat.le_of_ble_eq_true rfl), (Nat.le_of_ble_eq_true rfl)⟩ ⟨(Nat.le_of_ble_eq_true rfl), (Nat.le_of_ble_eq_true rfl)⟩ rfl rfl (by decide) dX8_leastReasons_29 h (fun v6 hs h => WG_st (st' := [.int v6]) rfl ?_)
      refine q_iload_n C 1 dX8_leastReasons_32 rfl ?_
      refine q_callS C [.int x1] [.int v6] (fun o2 hs1 hm => m_J6_bitCount_0f7a4 hm) lk_X8_202 sm_J6_bitCount_0f7a4 ⟨(Nat.le_of_ble_eq_true rfl), (Nat.le_of_ble_eq_true rfl)⟩ ⟨(Nat.le_of_ble_eq_true rfl), (Nat.le_of_ble_eq_true rfl)⟩ rfl rfl (by simp only [List.map, cat_rf, cat_i, cat_a]; decide) dX8_leastReasons_33 h (fun v7 hs h => WG_st (st' := [.int v7, .int v6]) rfl ?_)
      refine q_icmp_ge C 49 dX8_leastReasons_36 (by decide) h (fun h => ?_) (fun h => ?_)
      · exact w_j_X8_leastReasons_49 C C2 _ _ _ _ hrec_21 h
      · refine q_aload_n C 0 dX8_leastReasons_39 rfl ?_
        refine q_iload_n C 2 dX8_leastReasons_40 rfl ?_
        refine q_callV C (CN := RX8) (T := TX8) (N := 10) [.int x2] [] (fun a0 o2 hs1 hm => m_X8_barEachRoom hm) lk_X8_207 im_X8_barEachRoom se_X8_X8_barEachRoom rfl ⟨(Nat.le_of_ble_eq_true rfl), (Nat.le_of_ble_eq_true rfl)⟩ ⟨(Nat.le_of_ble_eq_true rfl), (Nat.le_of_ble_eq_true rfl)⟩ rfl rfl (by decide) dX8_leastReasons_41 h (fun v9 hs h => WG_st (st' := [.int v9]) rfl ?_)
        refine q_if_eq C 49 dX8_leastReasons_44 (by decide) h (fun h => ?_) (fun h => ?_)
        · exact w_j_X8_leastReasons_49 C C2 _ _ _ _ hrec_21 h
        · refine q_iload_n C 2 dX8_leastReasons_47 rfl ?_
          refine q_istore_n C (fun v10 => [(1, .int v10), (0, va_rf a0), (2, .int x2)]) dX8_leastReasons_48 (by decide) (fun _ => rfl) h (fun v10 h => ?_)
          refine WG.sub [1, 0, 2] rfl ?_
          exact w_j_X8_leastReasons_49 C C2 _ _ _ _ hrec_21 h
end M_X8_leastReasons
def f_X8_leastReasons (a0 : Nat) : OO Int32 :=
    gR (some a0) 11 1 fun v1 =>
    gR v1 9 0 fun v2 =>
    rcv v2 2 fun r13 => call (f_Jx4a65c_isEmpty_aae02 r13 ) (fun (v3 : Int32) =>
    (if v3 = 0 then
    lets (1023 : Int32) fun (v4 : Int32) =>
    lets (1 : Int32) fun (v5 : Int32) =>
    L_X8_leastReasons_21 (some a0) (fun (v12 : Int32) => rtn v12) 100000 v4 v5
    else
    rtn (0 : Int32))) nox
set_option maxRecDepth 100000 in
set_option maxHeartbeats 4000000 in
theorem m_X8_leastReasons {G : GG} {l : Launch} {a0 : Nat} {hs hs' : Hs} {o : Except Nat Int32} (h : f_X8_leastReasons a0 hs = some (o, hs')) : CT G l yX8_leastReasons cX8_leastReasons 3 (some .int) 2 42 0 0 [.ref a0] hs o hs' tvI := by
  refine vx_ofW (cc := cX8_leastReasons) (maxL := 3) (ret := (some .int)) (by decide +kernel) rfl ?_
  intro p e s m args below meth c s₁ B hml hxt hv
  obtain ⟨hav, hR, hKn⟩ := hv
  subst hav
  have hts := atoms_spec (ws := .code yX8_leastReasons cX8_leastReasons 3 (some .int) :: Tg) B.pre
  have C : Cx G l p s m _ c RX8 cX8_leastReasons 3 := ⟨B.exec, B.bytes, hml, findClass_of_methodNamed B.named, fun w hw => hts w (List.mem_cons_of_mem _ hw), hKn, fun q hq => Nat.le_trans hR.2.2.1 hq⟩
  have C2 : Cy meth c (some .int) := ⟨B.returns, B.notSynchronized, hxt⟩
  have key : WG G p l e { frames := 2, cells := 0, slots := 0, locals := 42 } s m ([.ref a0] : List Value).toArray below meth c 3 0 0 (vx_MQ below (QcT G o hs' tvI) (XCT G o hs') ([.ref a0] : List Value).toArray s 0 0 (gA G)) hs [(0, va_rf (some a0))] [] 0 := by
    unfold f_X8_leastReasons at h
    refine q_aload_n C 0 dX8_leastReasons_0 rfl ?_
    refine q_gR C fl_X8_19 dX8_leastReasons_1 h (fun v1 h => ?_)
    refine q_gR C fl_X8_67 dX8_leastReasons_4 h (fun v2 h => ?_)
    refine q_callV C (CN := RJx4a65c) (T := TJx4a65c) (N := 3) [] [] (fun a0 o2 hs1 hm => m_Jx4a65c_isEmpty_aae02 hm) lk_X8_198 im_Jx4a65c_isEmpty_aae02 se_Jx4a65c_Jx4a65c_isEmpty_aae02 rfl ⟨(Nat.le_of_ble_eq_true rfl), (Nat.le_of_ble_eq_true rfl)⟩ ⟨(Nat.le_of_ble_eq_true rfl), (Nat.le_of_ble_eq_true rfl)⟩ rfl rfl (by decide) dX8_leastReasons_7 h (fun v3 hs h => WG_st (st' := [.int v3]) rfl ?_)
    refine q_if_eq C 15 dX8_leastReasons_10 (by decide) h (fun h => ?_) (fun h => ?_)
    · refine q_sipush C (1023 : Int32) dX8_leastReasons_15 (by decide) ?_
      refine q_istore_n C (fun v4 => [(1, .int v4), (0, va_rf (some a0))]) dX8_leastReasons_18 (by decide) (fun _ => rfl) h (fun v4 h => ?_)
      refine q_iconst C (1 : Int32) dX8_leastReasons_19 (by decide) ?_
      refine q_istore_n C (fun v5 => [(2, .int v5), (1, .int v4), (0, va_rf (some a0))]) dX8_leastReasons_20 (by decide) (fun _ => rfl) h (fun v5 h => ?_)
      refine WG.sub [2, 1, 0] rfl ?_
      refine w_L_X8_leastReasons_21 C C2 _ _ ?_ _ _ _ _ h
      · intro v12 hs h
        refine q_iload_n C 0 dX8_leastReasons_55 rfl ?_
        exact q_iret C C2 rfl (Nat.le_of_ble_eq_true rfl) (Nat.le_of_ble_eq_true rfl) dX8_leastReasons_56 h
    · refine q_iconst C (0 : Int32) dX8_leastReasons_13 (by decide) ?_
      exact q_iret C C2 rfl (Nat.le_of_ble_eq_true rfl) (Nat.le_of_ble_eq_true rfl) dX8_leastReasons_14 h
  rw [lg_entry_eq]
  exact key _ _ _ hR va_S.rf ⟨lv_entry _ (n := 3) (Nat.le_of_ble_eq_true rfl), (c1_r c1_n)⟩

theorem cd_X8_reasons : Cond.code yX8_reasons cX8_reasons 5 (some .int) ∈ Tg := Tg_of (i := 1058) (by decide +kernel) (by decide +kernel)
theorem ml_X8_180 : Cond.methodLink RX8 180 yJ7_fill_53178 ∈ Tg := Tg_of (i := 1059) (by decide +kernel) (by decide +kernel)
theorem lk_X8_180 : Lk RX8 180 yJ7_fill_53178 cJ7_fill_53178 4 none 2 := ⟨ml_X8_180, cd_J7_fill_53178, iw_J7, by decide +kernel⟩
theorem wc_X8_x190 : Cond.classLink RX8 190 "java/util/NoSuchElementException" ∈ Tg := Tg_of (i := 1060) (by decide +kernel) (by decide +kernel)
theorem iw_x3 : Cond.initialized "java/util/NoSuchElementException" ∈ Tg := Tg_of (i := 109) (by decide +kernel) (by decide +kernel)
set_option maxRecDepth 100000 in
theorem at_X8_194 : ThrN RX8 194 3 := ⟨by decide +kernel, by decide +kernel, by decide +kernel, by decide +kernel, by decide +kernel, by decide⟩
theorem ml_X8_195 : Cond.methodLink RX8 195 yX8_leastReasons ∈ Tg := Tg_of (i := 1076) (by decide +kernel) (by decide +kernel)
theorem lk_X8_195 : Lk RX8 195 yX8_leastReasons cX8_leastReasons 3 (some .int) 0 := ⟨ml_X8_195, cd_X8_leastReasons, iw_X8, by decide +kernel⟩
theorem im_X8_leastReasons : Cond.instanceMethod yX8_leastReasons ∈ Tg := Tg_of (i := 1078) (by decide +kernel) (by decide +kernel)
theorem se_X8_X8_leastReasons : Cond.selects RX8 yX8_leastReasons yX8_leastReasons ∈ Tg := Tg_of (i := 24) (by decide +kernel) (by decide +kernel)
section M_X8_reasons
variable {p : Program} {l : Launch} {e : Env} {s : State} {m : MethodId} {args : Array Value} {below : List Frame} {meth : Method} {c : Code} {G : GG} {o : Except Nat Int32} {hs' : Hs}
def L_X8_reasons_29 (a0 : Option Nat) (a2 : Int32) (a3 : Option Nat) (k_29_91 : OO Int32) (k_29_107 : OO Int32) : Nat → Int32 → OO Int32
  | 0, _ => failO
  | n + 1, x4 =>
    gR a0 11 1 fun v9 =>
    gR v9 9 0 fun v10 =>
    rcv v10 2 fun r24 => call (f_Jx4a65c_size_8abf5 r24 ) (fun (v11 : Int32) =>
    (if v11 ≤ x4 then
    k_29_107
    else
    gR a0 11 7 fun v12 =>
    alen v12 fun v13 =>
    (if v13 ≤ x4 then
    k_29_107
    else
    gR a0 11 7 fun v14 =>
    gR a0 11 1 fun v15 =>
    gR v15 9 0 fun v16 =>
    rcv v16 2 fun r23 => call (f_Jx4a65c_get_915e3 r23 x4) (fun (v17 : Option Nat) =>
    cst v17 8 (
    rcv a3 7 fun r22 => call (f_X4_lettersAt r22 a2 v17) (fun (v18 : Int32) =>
    stI v14 x4 v18 (
    gR a0 11 7 fun v19 =>
    ldI 0 v19 x4 fun v20 =>
    (if ¬ v20 = 0 then
    lets (x4 + (1 : Int32)) fun (v21 : Int32) =>
    (L_X8_reasons_29 a0 a2 a3 k_29_91 k_29_107 n) v21
    else
    k_29_91))) nox)) nox))) nox
set_option maxRecDepth 100000 in
set_option maxHeartbeats 4000000 in
theorem w_L_X8_reasons_29 (C : Cx G l p s m args c RX8 cX8_reasons 5) (C2 : Cy meth c (some .int)) (a0 : Option Nat) (a2 : Int32) (a3 : Option Nat) (k_29_91 : OO Int32) (k_29_107 : OO Int32) (hk_29_91 : ∀ hs, k_29_91  hs = some (o, hs') → WG G p l e { frames := 9, cells := 3, slots := 18, locals := 364 } s m args below meth c 5 2 12 (vx_MQ below (QcT G o hs' tvI) (XCT G o hs') args s 3 18 (gA G)) hs [] [] 91) (hk_29_107 : ∀ hs, k_29_107  hs = some (o, hs') → WG G p l e { frames := 9, cells := 3, slots := 18, locals := 364 } s m args below meth c 5 2 12 (vx_MQ below (QcT G o hs' tvI) (XCT G o hs') args s 3 18 (gA G)) hs [(0, va_rf a0)] [] 107) : ∀ (n : Nat) (x4 : Int32) (hs : Hs), L_X8_reasons_29 a0 a2 a3 k_29_91 k_29_107 n x4 hs = some (o, hs') → WG G p l e { frames := 9, cells := 3, slots := 18, locals := 364 } s m args below meth c 5 2 12 (vx_MQ below (QcT G o hs' tvI) (XCT G o hs') args s 3 18 (gA G)) hs [(0, va_rf a0), (2, .int a2), (3, va_rf a3), (4, .int x4)] [] 29 := by
  intro n
  induction n with
  | zero =>
    intro x4 hs h
    rw [L_X8_reasons_29] at h
    exact absurd h failO_e
  | succ n hrec_29 =>
    intro x4 hs h
    rw [L_X8_reasons_29] at h
    refine q_iload C 3 dX8_reasons_29 rfl ?_
    refine q_aload_n C 0 dX8_reasons_31 rfl ?_
    refine q_gR C fl_X8_19 dX8_reasons_32 h (fun v9 h => ?_)
    refine q_gR C fl_X8_67 dX8_reasons_35 h (fun v10 h => ?_)
    refine q_callV C (CN := RJx4a65c) (T := TJx4a65c) (N := 3) [] [.int x4] (fun a0 o2 hs1 hm => m_Jx4a65c_size_8abf5 hm) lk_X8_70 im_Jx4a65c_size_8abf5 se_Jx4a65c_Jx4a65c_size_8abf5 rfl ⟨(Nat.le_of_ble_eq_true rfl), (Nat.le_of_ble_eq_true rfl)⟩ ⟨(Nat.le_of_ble_eq_true rfl), (Nat.le_of_ble_eq_true rfl)⟩ rfl rfl (by simp only [List.map, cat_rf, cat_i, cat_a]; decide) dX8_reasons_38 h (fun v11 hs h => WG_st (st' := [.int v11, .int x4]) rfl ?_)
    refine q_icmp_ge C 107 dX8_reasons_41 (by decide) h (fun h => ?_) (fun h => ?_)
    · refine WG.sub [0] rfl ?_
      exact hk_29_107 _ h
    · refine q_iload C 3 dX8_reasons_44 rfl ?_
      refine q_aload_n C 0 dX8_reasons_46 rfl ?_
      refine q_gR C fl_X8_53 dX8_reasons_47 h (fun v12 h => ?_)
      refine q_alen C dX8_reasons_50 h (fun v13 h => ?_)
      refine q_icmp_ge C 107 dX8_reasons_51 (by decide) h (fun h => ?_) (fun h => ?_)
      · refine WG.sub [0] rfl ?_
        exact hk_29_107 _ h
      · refine q_aload_n C 0 dX8_reasons_54 rfl ?_
        refine q_gR C fl_X8_53 dX8_reasons_55 h (fun v14 h => ?_)
        refine q_iload C 3 dX8_reasons_58 rfl ?_
        refine q_aload_n C 2 dX8_reasons_60 rfl ?_
        refine q_iload_n C 1 dX8_reasons_61 rfl ?_
        refine q_aload_n C 0 dX8_reasons_62 rfl ?_
        refine q_gR C fl_X8_19 dX8_reasons_63 h (fun v15 h => ?_)
        refine q_gR C fl_X8_67 dX8_reasons_66 h (fun v16 h => ?_)
        refine q_iload C 3 dX8_reasons_69 rfl ?_
        refine q_callV C (CN := RJx4a65c) (T := TJx4a65c) (N := 3) [.int x4] [.int a2, va_rf a3, .int x4, va_rf v14] (fun a0 o2 hs1 hm => m_Jx4a65c_get_915e3 hm) lk_X8_186 im_Jx4a65c_get_915e3 se_Jx4a65c_Jx4a65c_get_915e3 rfl ⟨(Nat.le_of_ble_eq_true rfl), (Nat.le_of_ble_eq_true rfl)⟩ ⟨(Nat.le_of_ble_eq_true rfl), (Nat.le_of_ble_eq_true rfl)⟩ rfl rfl (by simp only [List.map, cat_rf, cat_i, cat_a]; decide) dX8_reasons_71 h (fun v17 hs h => WG_st (st' := [va_rf v17, .int a2, va_rf a3, .int x4, va_rf v14]) rfl ?_)
        refine q_castS C (nm := RX5) (T := TX5) (N := 5) rfl wc_X8_79 dX8_reasons_74 h (fun h => ?_)
        refine q_callV C (CN := RX4) (T := TX4) (N := 18) [.int a2, va_rf v17] [.int x4, va_rf v14] (fun a0 o2 hs1 hm => m_X4_lettersAt hm) lk_X8_161 im_X4_lettersAt se_X4_X4_lettersAt rfl ⟨(Nat.le_of_ble_eq_true rfl), (Nat.le_of_ble_eq_true rfl)⟩ ⟨(Nat.le_of_ble_eq_true rfl), (Nat.le_of_ble_eq_true rfl)⟩ rfl rfl (by simp only [List.map, cat_rf, cat_i, cat_a]; decide) dX8_reasons_77 h (fun v18 hs h => WG_st (st' := [.int v18, .int x4, va_rf v14]) rfl ?_)
        refine q_iast C dX8_reasons_80 h (fun hs h => ?_)
        refine q_aload_n C 0 dX8_reasons_81 rfl ?_
        refine q_gR C fl_X8_53 dX8_reasons_82 h (fun v19 h => ?_)
        refine q_iload C 3 dX8_reasons_85 rfl ?_
        refine q_iald C dX8_reasons_87 h (fun v20 h => ?_)
        refine q_if_ne C 101 dX8_reasons_88 (by decide) h (fun h => ?_) (fun h => ?_)
        · refine q_iinc C 3 (1 : Int32) (fun v21 => [(4, .int v21), (0, va_rf a0), (2, .int a2), (3, va_rf a3)]) dX8_reasons_101 rfl (by decide) (by decide) (fun _ => rfl) h (fun v21 h => ?_)
          refine q_goto C 29 dX8_reasons_104 (by decide) ?_
          refine WG.sub [1, 2, 3, 0] rfl ?_
          exact hrec_29 _ _ h
        · refine WG.sub [] rfl ?_
          exact hk_29_91 _ h
def j_X8_reasons_107 (a0 : Option Nat)   : OO Int32 :=
  rcv a0 11 fun r26 => call (f_X8_leastReasons r26 ) (fun (v25 : Int32) =>
    rtn v25) nox
set_option maxRecDepth 100000 in
set_option maxHeartbeats 4000000 in
theorem w_j_X8_reasons_107 (C : Cx G l p s m args c RX8 cX8_reasons 5) (C2 : Cy meth c (some .int)) {hs : Hs} (a0 : Option Nat)    (h : j_X8_reasons_107 a0 hs = some (o, hs')) : WG G p l e { frames := 9, cells := 3, slots := 18, locals := 364 } s m args below meth c 5 2 12 (vx_MQ below (QcT G o hs' tvI) (XCT G o hs') args s 3 18 (gA G)) hs [(0, va_rf a0)] [] 107 := by
  unfold j_X8_reasons_107 at h
  refine q_aload_n C 0 dX8_reasons_107 rfl ?_
  refine q_callV C (CN := RX8) (T := TX8) (N := 10) [] [] (fun a0 o2 hs1 hm => m_X8_leastReasons hm) lk_X8_195 im_X8_leastReasons se_X8_X8_leastReasons rfl ⟨(Nat.le_of_ble_eq_true rfl), (Nat.le_of_ble_eq_true rfl)⟩ ⟨(Nat.le_of_ble_eq_true rfl), (Nat.le_of_ble_eq_true rfl)⟩ rfl rfl (by decide) dX8_reasons_108 h (fun v25 hs h => WG_st (st' := [.int v25]) rfl ?_)
  exact q_iret C C2 rfl (Nat.le_of_ble_eq_true rfl) (Nat.le_of_ble_eq_true rfl) dX8_reasons_111 h
end M_X8_reasons
def f_X8_reasons (a0 : Nat) (p1 : Int32) (p2 : Int32) : OO Int32 :=
    rcv (some a0) 11 fun r28 => call (f_X8_lessonNumbered r28 p1) (fun (v1 : Option Nat) =>
    lets v1 fun (v2 : Option Nat) =>
    call (f_X8_requireSlot p2) (fun (v3 : Unit) =>
    gR (some a0) 11 1 fun v4 =>
    rcv v4 9 fun r27 => call (f_X6_lookAround r27 v2) (fun (v5 : Unit) =>
    gR (some a0) 11 7 fun v6 =>
    call (f_J7_fill_53178 v6 (0 : Int32)) (fun (v7 : Unit) =>
    lets (0 : Int32) fun (v8 : Int32) =>
    L_X8_reasons_29 (some a0) p2 v2 (nthrow 3) (j_X8_reasons_107 (some a0)) 100000 v8) nox) nox) thr) thr
set_option maxRecDepth 100000 in
set_option maxHeartbeats 4000000 in
theorem m_X8_reasons {G : GG} {l : Launch} {a0 : Nat} {p1 : Int32} {p2 : Int32} {hs hs' : Hs} {o : Except Nat Int32} (h : f_X8_reasons a0 p1 p2 hs = some (o, hs')) : CT G l yX8_reasons cX8_reasons 5 (some .int) 9 364 3 18 [.ref a0, .int p1, .int p2] hs o hs' tvI := by
  refine vx_ofW (cc := cX8_reasons) (maxL := 5) (ret := (some .int)) (by decide +kernel) rfl ?_
  intro p e s m args below meth c s₁ B hml hxt hv
  obtain ⟨hav, hR, hKn⟩ := hv
  subst hav
  have hts := atoms_spec (ws := .code yX8_reasons cX8_reasons 5 (some .int) :: Tg) B.pre
  have C : Cx G l p s m _ c RX8 cX8_reasons 5 := ⟨B.exec, B.bytes, hml, findClass_of_methodNamed B.named, fun w hw => hts w (List.mem_cons_of_mem _ hw), hKn, fun q hq => Nat.le_trans hR.2.2.1 hq⟩
  have C2 : Cy meth c (some .int) := ⟨B.returns, B.notSynchronized, hxt⟩
  have key : WG G p l e { frames := 9, cells := 3, slots := 18, locals := 364 } s m ([.ref a0, .int p1, .int p2] : List Value).toArray below meth c 5 0 0 (vx_MQ below (QcT G o hs' tvI) (XCT G o hs') ([.ref a0, .int p1, .int p2] : List Value).toArray s 3 18 (gA G)) hs [(0, va_rf (some a0)), (1, .int p1), (2, .int p2)] [] 0 := by
    unfold f_X8_reasons at h
    refine q_aload_n C 0 dX8_reasons_0 rfl ?_
    refine q_iload_n C 1 dX8_reasons_1 rfl ?_
    refine q_callVX C (CN := RX8) (T := TX8) (N := 10) [.int p1] [] C2 ⟨(Nat.le_of_ble_eq_true rfl), (Nat.le_of_ble_eq_true rfl)⟩ (fun a0 o2 hs1 hm => m_X8_lessonNumbered hm) lk_X8_149 im_X8_lessonNumbered se_X8_X8_lessonNumbered rfl ⟨(Nat.le_of_ble_eq_true rfl), (Nat.le_of_ble_eq_true rfl)⟩ ⟨(Nat.le_of_ble_eq_true rfl), (Nat.le_of_ble_eq_true rfl)⟩ rfl rfl (by decide) dX8_reasons_2 h (fun v1 hs h => WG_st (st' := [va_rf v1]) rfl ?_)
    refine q_astore_n C (fun v2 => [(3, va_rf v2), (0, va_rf (some a0)), (1, .int p1), (2, .int p2)]) dX8_reasons_5 (by decide) (fun _ => rfl) h (fun v2 h => ?_)
    refine q_iload_n C 3 dX8_reasons_6 rfl ?_
    refine q_callSX C [.int p2] [] C2 ⟨(Nat.le_of_ble_eq_true rfl), (Nat.le_of_ble_eq_true rfl)⟩ (fun o2 hs1 hm => m_X8_requireSlot hm) lk_X8_131 sm_X8_requireSlot ⟨(Nat.le_of_ble_eq_true rfl), (Nat.le_of_ble_eq_true rfl)⟩ ⟨(Nat.le_of_ble_eq_true rfl), (Nat.le_of_ble_eq_true rfl)⟩ rfl rfl (by decide) dX8_reasons_7 h (fun v3 hs h => WG_st (st' := []) rfl ?_)
    refine q_aload_n C 1 dX8_reasons_10 rfl ?_
    refine q_gR C fl_X8_19 dX8_reasons_11 h (fun v4 h => ?_)
    refine q_aload_n C 0 dX8_reasons_14 rfl ?_
    refine q_callV C (CN := RX6) (T := TX6) (N := 6) [va_rf v2] [] (fun a0 o2 hs1 hm => m_X6_lookAround hm) lk_X8_157 im_X6_lookAround se_X6_X6_lookAround rfl ⟨(Nat.le_of_ble_eq_true rfl), (Nat.le_of_ble_eq_true rfl)⟩ ⟨(Nat.le_of_ble_eq_true rfl), (Nat.le_of_ble_eq_true rfl)⟩ rfl rfl (by decide) dX8_reasons_15 h (fun v5 hs h => WG_st (st' := []) rfl ?_)
    refine q_aload_n C 1 dX8_reasons_18 rfl ?_
    refine q_gR C fl_X8_53 dX8_reasons_19 h (fun v6 h => ?_)
    refine q_iconst C (0 : Int32) dX8_reasons_22 (by decide) ?_
    refine q_callS C [va_rf v6, .int (0 : Int32)] [] (fun o2 hs1 hm => m_J7_fill_53178 hm) lk_X8_180 sm_J7_fill_53178 ⟨(Nat.le_of_ble_eq_true rfl), (Nat.le_of_ble_eq_true rfl)⟩ ⟨(Nat.le_of_ble_eq_true rfl), (Nat.le_of_ble_eq_true rfl)⟩ rfl rfl (by decide) dX8_reasons_23 h (fun v7 hs h => WG_st (st' := []) rfl ?_)
    refine q_iconst C (0 : Int32) dX8_reasons_26 (by decide) ?_
    refine q_istore C (fun v8 => [(4, .int v8), (3, va_rf v2), (0, va_rf (some a0)), (1, .int p1), (2, .int p2)]) dX8_reasons_27 (by decide) (fun _ => rfl) h (fun v8 h => ?_)
    refine WG.sub [2, 4, 1, 0] rfl ?_
    refine w_L_X8_reasons_29 C C2 _ _ _ _ _ ?_ ?_ _ _ _ h
    · intro  hs h
      exact q_throwN C C2 (k := 3) (tx := "a place at this slot is possible") wc_X8_x190 iw_x3 at_X8_194 (by decide +kernel) (Nat.le_of_ble_eq_true rfl) (Nat.le_of_ble_eq_true rfl) (Nat.le_of_ble_eq_true rfl) (Nat.le_of_ble_eq_true rfl) (Nat.le_of_ble_eq_true rfl) (Nat.le_of_ble_eq_true rfl) (by decide) dX8_reasons_91 dX8_reasons_94 (Or.inl ⟨rfl, dX8_reasons_95⟩) dX8_reasons_97 dX8_reasons_100 h
    · intro  hs h
      exact w_j_X8_reasons_107 C C2 _   h
  rw [lg_entry_eq]
  exact key _ _ _ hR va_S.rf ⟨lv_entry _ (n := 5) (Nat.le_of_ble_eq_true rfl), (c1_r (c1_i (c1_i c1_n)))⟩

theorem cd_X8_requireFree : Cond.code yX8_requireFree cX8_requireFree 2 none ∈ Tg := Tg_of (i := 1099) (by decide +kernel) (by decide +kernel)
theorem ml_X8_437 : Cond.methodLink RX8 437 yX6_isFree ∈ Tg := Tg_of (i := 1100) (by decide +kernel) (by decide +kernel)
theorem lk_X8_437 : Lk RX8 437 yX6_isFree cX6_isFree 2 (some .boolean) 1 := ⟨ml_X8_437, cd_X6_isFree, iw_X6, by decide +kernel⟩
section M_X8_requireFree
variable {p : Program} {l : Launch} {e : Env} {s : State} {m : MethodId} {args : Array Value} {below : List Frame} {meth : Method} {c : Code} {G : GG} {o : Except Nat Unit} {hs' : Hs}
end M_X8_requireFree
def f_X8_requireFree (a0 : Nat) (p1 : Option Nat) : OO Unit :=
    gR (some a0) 11 1 fun v1 =>
    rcv v1 9 fun r3 => call (f_X6_isFree r3 p1) (fun (v2 : Int32) =>
    (if ¬ v2 = 0 then
    rtn ()
    else
    nthrow 2)) nox
set_option maxRecDepth 100000 in
set_option maxHeartbeats 4000000 in
theorem m_X8_requireFree {G : GG} {l : Launch} {a0 : Nat} {p1 : Option Nat} {hs hs' : Hs} {o : Except Nat Unit} (h : f_X8_requireFree a0 p1 hs = some (o, hs')) : CT G l yX8_requireFree cX8_requireFree 2 none 6 200 1 6 [.ref a0, va_rf p1] hs o hs' tvV := by
  refine vx_ofW (cc := cX8_requireFree) (maxL := 2) (ret := none) (by decide +kernel) rfl ?_
  intro p e s m args below meth c s₁ B hml hxt hv
  obtain ⟨hav, hR, hKn⟩ := hv
  subst hav
  have hts := atoms_spec (ws := .code yX8_requireFree cX8_requireFree 2 none :: Tg) B.pre
  have C : Cx G l p s m _ c RX8 cX8_requireFree 2 := ⟨B.exec, B.bytes, hml, findClass_of_methodNamed B.named, fun w hw => hts w (List.mem_cons_of_mem _ hw), hKn, fun q hq => Nat.le_trans hR.2.2.1 hq⟩
  have C2 : Cy meth c none := ⟨B.returns, B.notSynchronized, hxt⟩
  have key : WG G p l e { frames := 6, cells := 1, slots := 6, locals := 200 } s m ([.ref a0, va_rf p1] : List Value).toArray below meth c 2 0 0 (vx_MQ below (QcT G o hs' tvV) (XCT G o hs') ([.ref a0, va_rf p1] : List Value).toArray s 1 6 (gA G)) hs [(0, va_rf (some a0)), (1, va_rf p1)] [] 0 := by
    unfold f_X8_requireFree at h
    refine q_aload_n C 0 dX8_requireFree_0 rfl ?_
    refine q_gR C fl_X8_19 dX8_requireFree_1 h (fun v1 h => ?_)
    refine q_aload_n C 1 dX8_requireFree_4 rfl ?_
    refine q_callV C (CN := RX6) (T := TX6) (N := 6) [va_rf p1] [] (fun a0 o2 hs1 hm => m_X6_isFree hm) lk_X8_437 im_X6_isFree se_X6_X6_isFree rfl ⟨(Nat.le_of_ble_eq_true rfl), (Nat.le_of_ble_eq_true rfl)⟩ ⟨(Nat.le_of_ble_eq_true rfl), (Nat.le_of_ble_eq_true rfl)⟩ rfl rfl (by decide) dX8_requireFree_5 h (fun v2 hs h => WG_st (st' := [.int v2]) rfl ?_)
    refine q_if_ne C 22 dX8_requireFree_8 (by decide) h (fun h => ?_) (fun h => ?_)
    · exact q_vret C C2 rfl (Nat.le_of_ble_eq_true rfl) (Nat.le_of_ble_eq_true rfl) dX8_requireFree_22 h
    · exact q_throw C C2 (k := 2) (tx := "the lesson is locked or past") wc_X8_x74 iw_x2 at_X8_78 (by decide +kernel) (Nat.le_of_ble_eq_true rfl) (Nat.le_of_ble_eq_true rfl) (Nat.le_of_ble_eq_true rfl) (Nat.le_of_ble_eq_true rfl) (Nat.le_of_ble_eq_true rfl) (Nat.le_of_ble_eq_true rfl) (by decide) dX8_requireFree_11 dX8_requireFree_14 (Or.inr ⟨rfl, dX8_requireFree_15⟩) dX8_requireFree_18 dX8_requireFree_21 h
  rw [lg_entry_eq]
  cases p1 <;> exact key _ _ _ hR va_S.rf ⟨lv_entry _ (n := 2) (Nat.le_of_ble_eq_true rfl), (c1_r (c1_r c1_n))⟩

theorem cd_X8_requirePossible : Cond.code yX8_requirePossible cX8_requirePossible 4 none ∈ Tg := Tg_of (i := 1108) (by decide +kernel) (by decide +kernel)
theorem wc_X8_x341 : Cond.classLink RX8 341 "java/lang/UnsupportedOperationException" ∈ Tg := Tg_of (i := 1109) (by decide +kernel) (by decide +kernel)
theorem iw_x4 : Cond.initialized "java/lang/UnsupportedOperationException" ∈ Tg := Tg_of (i := 111) (by decide +kernel) (by decide +kernel)
set_option maxRecDepth 100000 in
theorem at_X8_345 : ThrA RX8 345 4 := ⟨by decide +kernel, by decide +kernel, by decide +kernel, by decide +kernel, by decide +kernel, by decide⟩
section M_X8_requirePossible
variable {p : Program} {l : Launch} {e : Env} {s : State} {m : MethodId} {args : Array Value} {below : List Frame} {meth : Method} {c : Code} {G : GG} {o : Except Nat Unit} {hs' : Hs}
end M_X8_requirePossible
def f_X8_requirePossible (a0 : Nat) (p1 : Option Nat) (p2 : Int32) (p3 : Option Nat) : OO Unit :=
    gR (some a0) 11 1 fun v1 =>
    rcv v1 9 fun r5 => call (f_X6_lookAround r5 p1) (fun (v2 : Unit) =>
    rcv p1 7 fun r4 => call (f_X4_lettersAt r4 p2 p3) (fun (v3 : Int32) =>
    (if v3 = 0 then
    rtn ()
    else
    nthrow 4)) nox) nox
set_option maxRecDepth 100000 in
set_option maxHeartbeats 4000000 in
theorem m_X8_requirePossible {G : GG} {l : Launch} {a0 : Nat} {p1 : Option Nat} {p2 : Int32} {p3 : Option Nat} {hs hs' : Hs} {o : Except Nat Unit} (h : f_X8_requirePossible a0 p1 p2 p3 hs = some (o, hs')) : CT G l yX8_requirePossible cX8_requirePossible 4 none 9 364 1 6 [.ref a0, va_rf p1, .int p2, va_rf p3] hs o hs' tvV := by
  refine vx_ofW (cc := cX8_requirePossible) (maxL := 4) (ret := none) (by decide +kernel) rfl ?_
  intro p e s m args below meth c s₁ B hml hxt hv
  obtain ⟨hav, hR, hKn⟩ := hv
  subst hav
  have hts := atoms_spec (ws := .code yX8_requirePossible cX8_requirePossible 4 none :: Tg) B.pre
  have C : Cx G l p s m _ c RX8 cX8_requirePossible 4 := ⟨B.exec, B.bytes, hml, findClass_of_methodNamed B.named, fun w hw => hts w (List.mem_cons_of_mem _ hw), hKn, fun q hq => Nat.le_trans hR.2.2.1 hq⟩
  have C2 : Cy meth c none := ⟨B.returns, B.notSynchronized, hxt⟩
  have key : WG G p l e { frames := 9, cells := 1, slots := 6, locals := 364 } s m ([.ref a0, va_rf p1, .int p2, va_rf p3] : List Value).toArray below meth c 4 0 0 (vx_MQ below (QcT G o hs' tvV) (XCT G o hs') ([.ref a0, va_rf p1, .int p2, va_rf p3] : List Value).toArray s 1 6 (gA G)) hs [(0, va_rf (some a0)), (1, va_rf p1), (2, .int p2), (3, va_rf p3)] [] 0 := by
    unfold f_X8_requirePossible at h
    refine q_aload_n C 0 dX8_requirePossible_0 rfl ?_
    refine q_gR C fl_X8_19 dX8_requirePossible_1 h (fun v1 h => ?_)
    refine q_aload_n C 1 dX8_requirePossible_4 rfl ?_
    refine q_callV C (CN := RX6) (T := TX6) (N := 6) [va_rf p1] [] (fun a0 o2 hs1 hm => m_X6_lookAround hm) lk_X8_157 im_X6_lookAround se_X6_X6_lookAround rfl ⟨(Nat.le_of_ble_eq_true rfl), (Nat.le_of_ble_eq_true rfl)⟩ ⟨(Nat.le_of_ble_eq_true rfl), (Nat.le_of_ble_eq_true rfl)⟩ rfl rfl (by decide) dX8_requirePossible_5 h (fun v2 hs h => WG_st (st' := []) rfl ?_)
    refine q_aload_n C 1 dX8_requirePossible_8 rfl ?_
    refine q_iload_n C 2 dX8_requirePossible_9 rfl ?_
    refine q_aload_n C 3 dX8_requirePossible_10 rfl ?_
    refine q_callV C (CN := RX4) (T := TX4) (N := 18) [.int p2, va_rf p3] [] (fun a0 o2 hs1 hm => m_X4_lettersAt hm) lk_X8_161 im_X4_lettersAt se_X4_X4_lettersAt rfl ⟨(Nat.le_of_ble_eq_true rfl), (Nat.le_of_ble_eq_true rfl)⟩ ⟨(Nat.le_of_ble_eq_true rfl), (Nat.le_of_ble_eq_true rfl)⟩ rfl rfl (by decide) dX8_requirePossible_11 h (fun v3 hs h => WG_st (st' := [.int v3]) rfl ?_)
    refine q_if_eq C 28 dX8_requirePossible_14 (by decide) h (fun h => ?_) (fun h => ?_)
    · exact q_vret C C2 rfl (Nat.le_of_ble_eq_true rfl) (Nat.le_of_ble_eq_true rfl) dX8_requirePossible_28 h
    · exact q_throw C C2 (k := 4) (tx := "the place is barred") wc_X8_x341 iw_x4 at_X8_345 (by decide +kernel) (Nat.le_of_ble_eq_true rfl) (Nat.le_of_ble_eq_true rfl) (Nat.le_of_ble_eq_true rfl) (Nat.le_of_ble_eq_true rfl) (Nat.le_of_ble_eq_true rfl) (Nat.le_of_ble_eq_true rfl) (by decide) dX8_requirePossible_17 dX8_requirePossible_20 (Or.inr ⟨rfl, dX8_requirePossible_21⟩) dX8_requirePossible_24 dX8_requirePossible_27 h
  rw [lg_entry_eq]
  cases p1 <;> cases p3 <;> exact key _ _ _ hR va_S.rf ⟨lv_entry _ (n := 4) (Nat.le_of_ble_eq_true rfl), (c1_r (c1_r (c1_i (c1_r c1_n))))⟩

theorem cd_X8_place : Cond.code yX8_place cX8_place 6 (some .int) ∈ Tg := Tg_of (i := 1095) (by decide +kernel) (by decide +kernel)
theorem ml_X8_211 : Cond.methodLink RX8 211 yX8_requireFree ∈ Tg := Tg_of (i := 1096) (by decide +kernel) (by decide +kernel)
theorem lk_X8_211 : Lk RX8 211 yX8_requireFree cX8_requireFree 2 none 1 := ⟨ml_X8_211, cd_X8_requireFree, iw_X8, by decide +kernel⟩
theorem ml_X8_214 : Cond.methodLink RX8 214 yX8_requirePossible ∈ Tg := Tg_of (i := 1105) (by decide +kernel) (by decide +kernel)
theorem lk_X8_214 : Lk RX8 214 yX8_requirePossible cX8_requirePossible 4 none 3 := ⟨ml_X8_214, cd_X8_requirePossible, iw_X8, by decide +kernel⟩
theorem ml_X8_218 : Cond.methodLink RX8 218 yX6_put ∈ Tg := Tg_of (i := 1125) (by decide +kernel) (by decide +kernel)
theorem lk_X8_218 : Lk RX8 218 yX6_put cX6_put 4 none 3 := ⟨ml_X8_218, cd_X6_put, iw_X6, by decide +kernel⟩
theorem ml_X8_221 : Cond.methodLink RX8 221 yX6_costKept ∈ Tg := Tg_of (i := 464) (by decide +kernel) (by decide +kernel)
theorem lk_X8_221 : Lk RX8 221 yX6_costKept cX6_costKept 3 (some .int) 0 := ⟨ml_X8_221, cd_X6_costKept, iw_X6, by decide +kernel⟩
theorem im_X8_requirePossible : Cond.instanceMethod yX8_requirePossible ∈ Tg := Tg_of (i := 1107) (by decide +kernel) (by decide +kernel)
theorem se_X8_X8_requirePossible : Cond.selects RX8 yX8_requirePossible yX8_requirePossible ∈ Tg := Tg_of (i := 27) (by decide +kernel) (by decide +kernel)
theorem im_X8_requireFree : Cond.instanceMethod yX8_requireFree ∈ Tg := Tg_of (i := 1098) (by decide +kernel) (by decide +kernel)
theorem se_X8_X8_requireFree : Cond.selects RX8 yX8_requireFree yX8_requireFree ∈ Tg := Tg_of (i := 26) (by decide +kernel) (by decide +kernel)
section M_X8_place
variable {p : Program} {l : Launch} {e : Env} {s : State} {m : MethodId} {args : Array Value} {below : List Frame} {meth : Method} {c : Code} {G : GG} {o : Except Nat Int32} {hs' : Hs}
end M_X8_place
def f_X8_place (a0 : Nat) (p1 : Int32) (p2 : Int32) (p3 : Int32) : OO Int32 :=
    rcv (some a0) 11 fun r16 => call (f_X8_lessonNumbered r16 p1) (fun (v1 : Option Nat) =>
    lets v1 fun (v2 : Option Nat) =>
    rcv (some a0) 11 fun r15 => call (f_X8_roomOfPlace r15 p2 p3) (fun (v3 : Option Nat) =>
    lets v3 fun (v4 : Option Nat) =>
    rcv (some a0) 11 fun r14 => call (f_X8_requireFree r14 v2) (fun (v5 : Unit) =>
    rcv (some a0) 11 fun r13 => call (f_X8_requirePossible r13 v2 p2 v4) (fun (v6 : Unit) =>
    gR (some a0) 11 1 fun v7 =>
    rcv v7 9 fun r12 => call (f_X6_put r12 v2 p2 v4) (fun (v8 : Unit) =>
    gR (some a0) 11 1 fun v9 =>
    rcv v9 9 fun r11 => call (f_X6_costKept r11 ) (fun (v10 : Int32) =>
    rtn v10) nox) nox) thr) thr) thr) thr
set_option maxRecDepth 100000 in
set_option maxHeartbeats 4000000 in
theorem m_X8_place {G : GG} {l : Launch} {a0 : Nat} {p1 : Int32} {p2 : Int32} {p3 : Int32} {hs hs' : Hs} {o : Except Nat Int32} (h : f_X8_place a0 p1 p2 p3 hs = some (o, hs')) : CT G l yX8_place cX8_place 6 (some .int) 10 387 5 30 [.ref a0, .int p1, .int p2, .int p3] hs o hs' tvI := by
  refine vx_ofW (cc := cX8_place) (maxL := 6) (ret := (some .int)) (by decide +kernel) rfl ?_
  intro p e s m args below meth c s₁ B hml hxt hv
  obtain ⟨hav, hR, hKn⟩ := hv
  subst hav
  have hts := atoms_spec (ws := .code yX8_place cX8_place 6 (some .int) :: Tg) B.pre
  have C : Cx G l p s m _ c RX8 cX8_place 6 := ⟨B.exec, B.bytes, hml, findClass_of_methodNamed B.named, fun w hw => hts w (List.mem_cons_of_mem _ hw), hKn, fun q hq => Nat.le_trans hR.2.2.1 hq⟩
  have C2 : Cy meth c (some .int) := ⟨B.returns, B.notSynchronized, hxt⟩
  have key : WG G p l e { frames := 10, cells := 5, slots := 30, locals := 387 } s m ([.ref a0, .int p1, .int p2, .int p3] : List Value).toArray below meth c 6 0 0 (vx_MQ below (QcT G o hs' tvI) (XCT G o hs') ([.ref a0, .int p1, .int p2, .int p3] : List Value).toArray s 5 30 (gA G)) hs [(0, va_rf (some a0)), (1, .int p1), (2, .int p2), (3, .int p3)] [] 0 := by
    unfold f_X8_place at h
    refine q_aload_n C 0 dX8_place_0 rfl ?_
    refine q_iload_n C 1 dX8_place_1 rfl ?_
    refine q_callVX C (CN := RX8) (T := TX8) (N := 10) [.int p1] [] C2 ⟨(Nat.le_of_ble_eq_true rfl), (Nat.le_of_ble_eq_true rfl)⟩ (fun a0 o2 hs1 hm => m_X8_lessonNumbered hm) lk_X8_149 im_X8_lessonNumbered se_X8_X8_lessonNumbered rfl ⟨(Nat.le_of_ble_eq_true rfl), (Nat.le_of_ble_eq_true rfl)⟩ ⟨(Nat.le_of_ble_eq_true rfl), (Nat.le_of_ble_eq_true rfl)⟩ rfl rfl (by decide) dX8_place_2 h (fun v1 hs h => WG_st (st' := [va_rf v1]) rfl ?_)
    refine q_astore C (fun v2 => [(4, va_rf v2), (0, va_rf (some a0)), (1, .int p1), (2, .int p2), (3, .int p3)]) dX8_place_5 (by decide) (fun _ => rfl) h (fun v2 h => ?_)
    refine q_aload_n C 1 dX8_place_7 rfl ?_
    refine q_iload_n C 3 dX8_place_8 rfl ?_
    refine q_iload_n C 4 dX8_place_9 rfl ?_
    refine q_callVX C (CN := RX8) (T := TX8) (N := 10) [.int p2, .int p3] [] C2 ⟨(Nat.le_of_ble_eq_true rfl), (Nat.le_of_ble_eq_true rfl)⟩ (fun a0 o2 hs1 hm => m_X8_roomOfPlace hm) lk_X8_153 im_X8_roomOfPlace se_X8_X8_roomOfPlace rfl ⟨(Nat.le_of_ble_eq_true rfl), (Nat.le_of_ble_eq_true rfl)⟩ ⟨(Nat.le_of_ble_eq_true rfl), (Nat.le_of_ble_eq_true rfl)⟩ rfl rfl (by decide) dX8_place_10 h (fun v3 hs h => WG_st (st' := [va_rf v3]) rfl ?_)
    refine q_astore C (fun v4 => [(5, va_rf v4), (4, va_rf v2), (0, va_rf (some a0)), (1, .int p1), (2, .int p2), (3, .int p3)]) dX8_place_13 (by decide) (fun _ => rfl) h (fun v4 h => ?_)
    refine q_aload_n C 2 dX8_place_15 rfl ?_
    refine q_aload C 1 dX8_place_16 rfl ?_
    refine q_callVX C (CN := RX8) (T := TX8) (N := 10) [va_rf v2] [] C2 ⟨(Nat.le_of_ble_eq_true rfl), (Nat.le_of_ble_eq_true rfl)⟩ (fun a0 o2 hs1 hm => m_X8_requireFree hm) lk_X8_211 im_X8_requireFree se_X8_X8_requireFree rfl ⟨(Nat.le_of_ble_eq_true rfl), (Nat.le_of_ble_eq_true rfl)⟩ ⟨(Nat.le_of_ble_eq_true rfl), (Nat.le_of_ble_eq_true rfl)⟩ rfl rfl (by decide) dX8_place_18 h (fun v5 hs h => WG_st (st' := []) rfl ?_)
    refine q_aload_n C 2 dX8_place_21 rfl ?_
    refine q_aload C 1 dX8_place_22 rfl ?_
    refine q_iload_n C 4 dX8_place_24 rfl ?_
    refine q_aload C 0 dX8_place_25 rfl ?_
    refine q_callVX C (CN := RX8) (T := TX8) (N := 10) [va_rf v2, .int p2, va_rf v4] [] C2 ⟨(Nat.le_of_ble_eq_true rfl), (Nat.le_of_ble_eq_true rfl)⟩ (fun a0 o2 hs1 hm => m_X8_requirePossible hm) lk_X8_214 im_X8_requirePossible se_X8_X8_requirePossible rfl ⟨(Nat.le_of_ble_eq_true rfl), (Nat.le_of_ble_eq_true rfl)⟩ ⟨(Nat.le_of_ble_eq_true rfl), (Nat.le_of_ble_eq_true rfl)⟩ rfl rfl (by decide) dX8_place_27 h (fun v6 hs h => WG_st (st' := []) rfl ?_)
    refine q_aload_n C 2 dX8_place_30 rfl ?_
    refine q_gR C fl_X8_19 dX8_place_31 h (fun v7 h => ?_)
    refine q_aload C 1 dX8_place_34 rfl ?_
    refine q_iload_n C 4 dX8_place_36 rfl ?_
    refine q_aload C 0 dX8_place_37 rfl ?_
    refine q_callV C (CN := RX6) (T := TX6) (N := 6) [va_rf v2, .int p2, va_rf v4] [] (fun a0 o2 hs1 hm => m_X6_put hm) lk_X8_218 im_X6_put se_X6_X6_put rfl ⟨(Nat.le_of_ble_eq_true rfl), (Nat.le_of_ble_eq_true rfl)⟩ ⟨(Nat.le_of_ble_eq_true rfl), (Nat.le_of_ble_eq_true rfl)⟩ rfl rfl (by decide) dX8_place_39 h (fun v8 hs h => WG_st (st' := []) rfl ?_)
    refine q_aload_n C 2 dX8_place_42 rfl ?_
    refine q_gR C fl_X8_19 dX8_place_43 h (fun v9 h => ?_)
    refine q_callV C (CN := RX6) (T := TX6) (N := 6) [] [] (fun a0 o2 hs1 hm => m_X6_costKept hm) lk_X8_221 im_X6_costKept se_X6_X6_costKept rfl ⟨(Nat.le_of_ble_eq_true rfl), (Nat.le_of_ble_eq_true rfl)⟩ ⟨(Nat.le_of_ble_eq_true rfl), (Nat.le_of_ble_eq_true rfl)⟩ rfl rfl (by decide) dX8_place_46 h (fun v10 hs h => WG_st (st' := [.int v10]) rfl ?_)
    exact q_iret C C2 rfl (Nat.le_of_ble_eq_true rfl) (Nat.le_of_ble_eq_true rfl) dX8_place_49 h
  rw [lg_entry_eq]
  exact key _ _ _ hR va_S.rf ⟨lv_entry _ (n := 6) (Nat.le_of_ble_eq_true rfl), (c1_r (c1_i (c1_i (c1_i c1_n))))⟩

theorem cd_X8_requirePlaced : Cond.code yX8_requirePlaced cX8_requirePlaced 1 none ∈ Tg := Tg_of (i := 1135) (by decide +kernel) (by decide +kernel)
theorem wf_X8_358 : Cond.fieldLink RX8 358 RX4 (TX4 6).2.1 (TX4 6).2.2.1 ∈ Tg := Tg_of (i := 910) (by decide +kernel) (by decide +kernel)
theorem fl_X8_358 : Fld RX8 358 7 6 (.object "Termgrid$Room") := ⟨RX4, TX4, 18, RX4, rfl, by decide, wf_X8_358, (Or.inl rfl), gu_X4, tyX4_ok _ (by decide), ⟨tyX4, tyX4_ok⟩, nmX4⟩
section M_X8_requirePlaced
variable {p : Program} {l : Launch} {e : Env} {s : State} {m : MethodId} {args : Array Value} {below : List Frame} {meth : Method} {c : Code} {G : GG} {o : Except Nat Unit} {hs' : Hs}
end M_X8_requirePlaced
def f_X8_requirePlaced (p0 : Option Nat) : OO Unit :=
    gR p0 7 6 fun v1 =>
    (if ¬ v1 = none then
    rtn ()
    else
    nthrow 2)
set_option maxRecDepth 100000 in
set_option maxHeartbeats 4000000 in
theorem m_X8_requirePlaced {G : GG} {l : Launch} {p0 : Option Nat} {hs hs' : Hs} {o : Except Nat Unit} (h : f_X8_requirePlaced p0 hs = some (o, hs')) : CT G l yX8_requirePlaced cX8_requirePlaced 1 none 6 200 1 6 [va_rf p0] hs o hs' tvV := by
  refine vx_ofW (cc := cX8_requirePlaced) (maxL := 1) (ret := none) (by decide +kernel) rfl ?_
  intro p e s m args below meth c s₁ B hml hxt hv
  obtain ⟨hav, hR, hKn⟩ := hv
  subst hav
  have hts := atoms_spec (ws := .code yX8_requirePlaced cX8_requirePlaced 1 none :: Tg) B.pre
  have C : Cx G l p s m _ c RX8 cX8_requirePlaced 1 := ⟨B.exec, B.bytes, hml, findClass_of_methodNamed B.named, fun w hw => hts w (List.mem_cons_of_mem _ hw), hKn, fun q hq => Nat.le_trans hR.2.2.1 hq⟩
  have C2 : Cy meth c none := ⟨B.returns, B.notSynchronized, hxt⟩
  have key : WG G p l e { frames := 6, cells := 1, slots := 6, locals := 200 } s m ([va_rf p0] : List Value).toArray below meth c 1 0 0 (vx_MQ below (QcT G o hs' tvV) (XCT G o hs') ([va_rf p0] : List Value).toArray s 1 6 (gA G)) hs [(0, va_rf p0)] [] 0 := by
    unfold f_X8_requirePlaced at h
    refine q_aload_n C 0 dX8_requirePlaced_0 rfl ?_
    refine q_gR C fl_X8_358 dX8_requirePlaced_1 h (fun v1 h => ?_)
    refine q_ifnonnull C 17 dX8_requirePlaced_4 (by decide) h (fun h => ?_) (fun h => ?_)
    · exact q_vret C C2 rfl (Nat.le_of_ble_eq_true rfl) (Nat.le_of_ble_eq_true rfl) dX8_requirePlaced_17 h
    · exact q_throw C C2 (k := 2) (tx := "the lesson is not placed") wc_X8_x74 iw_x2 at_X8_78 (by decide +kernel) (Nat.le_of_ble_eq_true rfl) (Nat.le_of_ble_eq_true rfl) (Nat.le_of_ble_eq_true rfl) (Nat.le_of_ble_eq_true rfl) (Nat.le_of_ble_eq_true rfl) (Nat.le_of_ble_eq_true rfl) (by decide) dX8_requirePlaced_7 dX8_requirePlaced_10 (Or.inl ⟨rfl, dX8_requirePlaced_11⟩) dX8_requirePlaced_13 dX8_requirePlaced_16 h
  rw [lg_entry_eq]
  cases p0 <;> exact key _ _ _ hR va_S.rf ⟨lv_entry _ (n := 1) (Nat.le_of_ble_eq_true rfl), (c1_r c1_n)⟩

theorem cd_X8_remove : Cond.code yX8_remove cX8_remove 3 (some .int) ∈ Tg := Tg_of (i := 1132) (by decide +kernel) (by decide +kernel)
theorem ml_X8_224 : Cond.methodLink RX8 224 yX8_requirePlaced ∈ Tg := Tg_of (i := 1133) (by decide +kernel) (by decide +kernel)
theorem lk_X8_224 : Lk RX8 224 yX8_requirePlaced cX8_requirePlaced 1 none 1 := ⟨ml_X8_224, cd_X8_requirePlaced, iw_X8, by decide +kernel⟩
theorem ml_X8_227 : Cond.methodLink RX8 227 yX6_take ∈ Tg := Tg_of (i := 1137) (by decide +kernel) (by decide +kernel)
theorem lk_X8_227 : Lk RX8 227 yX6_take cX6_take 2 none 1 := ⟨ml_X8_227, cd_X6_take, iw_X6, by decide +kernel⟩
theorem sm_X8_requirePlaced : Cond.static yX8_requirePlaced ∈ Tg := Tg_of (i := 1134) (by decide +kernel) (by decide +kernel)
section M_X8_remove
variable {p : Program} {l : Launch} {e : Env} {s : State} {m : MethodId} {args : Array Value} {below : List Frame} {meth : Method} {c : Code} {G : GG} {o : Except Nat Int32} {hs' : Hs}
end M_X8_remove
def f_X8_remove (a0 : Nat) (p1 : Int32) : OO Int32 :=
    rcv (some a0) 11 fun r12 => call (f_X8_lessonNumbered r12 p1) (fun (v1 : Option Nat) =>
    lets v1 fun (v2 : Option Nat) =>
    call (f_X8_requirePlaced v2) (fun (v3 : Unit) =>
    rcv (some a0) 11 fun r11 => call (f_X8_requireFree r11 v2) (fun (v4 : Unit) =>
    gR (some a0) 11 1 fun v5 =>
    rcv v5 9 fun r10 => call (f_X6_take r10 v2) (fun (v6 : Unit) =>
    gR (some a0) 11 1 fun v7 =>
    rcv v7 9 fun r9 => call (f_X6_costKept r9 ) (fun (v8 : Int32) =>
    rtn v8) nox) nox) thr) thr) thr
set_option maxRecDepth 100000 in
set_option maxHeartbeats 4000000 in
theorem m_X8_remove {G : GG} {l : Launch} {a0 : Nat} {p1 : Int32} {hs hs' : Hs} {o : Except Nat Int32} (h : f_X8_remove a0 p1 hs = some (o, hs')) : CT G l yX8_remove cX8_remove 3 (some .int) 7 221 3 18 [.ref a0, .int p1] hs o hs' tvI := by
  refine vx_ofW (cc := cX8_remove) (maxL := 3) (ret := (some .int)) (by decide +kernel) rfl ?_
  intro p e s m args below meth c s₁ B hml hxt hv
  obtain ⟨hav, hR, hKn⟩ := hv
  subst hav
  have hts := atoms_spec (ws := .code yX8_remove cX8_remove 3 (some .int) :: Tg) B.pre
  have C : Cx G l p s m _ c RX8 cX8_remove 3 := ⟨B.exec, B.bytes, hml, findClass_of_methodNamed B.named, fun w hw => hts w (List.mem_cons_of_mem _ hw), hKn, fun q hq => Nat.le_trans hR.2.2.1 hq⟩
  have C2 : Cy meth c (some .int) := ⟨B.returns, B.notSynchronized, hxt⟩
  have key : WG G p l e { frames := 7, cells := 3, slots := 18, locals := 221 } s m ([.ref a0, .int p1] : List Value).toArray below meth c 3 0 0 (vx_MQ below (QcT G o hs' tvI) (XCT G o hs') ([.ref a0, .int p1] : List Value).toArray s 3 18 (gA G)) hs [(0, va_rf (some a0)), (1, .int p1)] [] 0 := by
    unfold f_X8_remove at h
    refine q_aload_n C 0 dX8_remove_0 rfl ?_
    refine q_iload_n C 1 dX8_remove_1 rfl ?_
    refine q_callVX C (CN := RX8) (T := TX8) (N := 10) [.int p1] [] C2 ⟨(Nat.le_of_ble_eq_true rfl), (Nat.le_of_ble_eq_true rfl)⟩ (fun a0 o2 hs1 hm => m_X8_lessonNumbered hm) lk_X8_149 im_X8_lessonNumbered se_X8_X8_lessonNumbered rfl ⟨(Nat.le_of_ble_eq_true rfl), (Nat.le_of_ble_eq_true rfl)⟩ ⟨(Nat.le_of_ble_eq_true rfl), (Nat.le_of_ble_eq_true rfl)⟩ rfl rfl (by decide) dX8_remove_2 h (fun v1 hs h => WG_st (st' := [va_rf v1]) rfl ?_)
    refine q_astore_n C (fun v2 => [(2, va_rf v2), (0, va_rf (some a0)), (1, .int p1)]) dX8_remove_5 (by decide) (fun _ => rfl) h (fun v2 h => ?_)
    refine q_aload_n C 0 dX8_remove_6 rfl ?_
    refine q_callSX C [va_rf v2] [] C2 ⟨(Nat.le_of_ble_eq_true rfl), (Nat.le_of_ble_eq_true rfl)⟩ (fun o2 hs1 hm => m_X8_requirePlaced hm) lk_X8_224 sm_X8_requirePlaced ⟨(Nat.le_of_ble_eq_true rfl), (Nat.le_of_ble_eq_true rfl)⟩ ⟨(Nat.le_of_ble_eq_true rfl), (Nat.le_of_ble_eq_true rfl)⟩ rfl rfl (by decide) dX8_remove_7 h (fun v3 hs h => WG_st (st' := []) rfl ?_)
    refine q_aload_n C 1 dX8_remove_10 rfl ?_
    refine q_aload_n C 0 dX8_remove_11 rfl ?_
    refine q_callVX C (CN := RX8) (T := TX8) (N := 10) [va_rf v2] [] C2 ⟨(Nat.le_of_ble_eq_true rfl), (Nat.le_of_ble_eq_true rfl)⟩ (fun a0 o2 hs1 hm => m_X8_requireFree hm) lk_X8_211 im_X8_requireFree se_X8_X8_requireFree rfl ⟨(Nat.le_of_ble_eq_true rfl), (Nat.le_of_ble_eq_true rfl)⟩ ⟨(Nat.le_of_ble_eq_true rfl), (Nat.le_of_ble_eq_true rfl)⟩ rfl rfl (by decide) dX8_remove_12 h (fun v4 hs h => WG_st (st' := []) rfl ?_)
    refine q_aload_n C 1 dX8_remove_15 rfl ?_
    refine q_gR C fl_X8_19 dX8_remove_16 h (fun v5 h => ?_)
    refine q_aload_n C 0 dX8_remove_19 rfl ?_
    refine q_callV C (CN := RX6) (T := TX6) (N := 6) [va_rf v2] [] (fun a0 o2 hs1 hm => m_X6_take hm) lk_X8_227 im_X6_take se_X6_X6_take rfl ⟨(Nat.le_of_ble_eq_true rfl), (Nat.le_of_ble_eq_true rfl)⟩ ⟨(Nat.le_of_ble_eq_true rfl), (Nat.le_of_ble_eq_true rfl)⟩ rfl rfl (by decide) dX8_remove_20 h (fun v6 hs h => WG_st (st' := []) rfl ?_)
    refine q_aload_n C 1 dX8_remove_23 rfl ?_
    refine q_gR C fl_X8_19 dX8_remove_24 h (fun v7 h => ?_)
    refine q_callV C (CN := RX6) (T := TX6) (N := 6) [] [] (fun a0 o2 hs1 hm => m_X6_costKept hm) lk_X8_221 im_X6_costKept se_X6_X6_costKept rfl ⟨(Nat.le_of_ble_eq_true rfl), (Nat.le_of_ble_eq_true rfl)⟩ ⟨(Nat.le_of_ble_eq_true rfl), (Nat.le_of_ble_eq_true rfl)⟩ rfl rfl (by decide) dX8_remove_27 h (fun v8 hs h => WG_st (st' := [.int v8]) rfl ?_)
    exact q_iret C C2 rfl (Nat.le_of_ble_eq_true rfl) (Nat.le_of_ble_eq_true rfl) dX8_remove_30 h
  rw [lg_entry_eq]
  exact key _ _ _ hR va_S.rf ⟨lv_entry _ (n := 3) (Nat.le_of_ble_eq_true rfl), (c1_r (c1_i c1_n))⟩

theorem cd_X8_lockedLessons : Cond.code yX8_lockedLessons cX8_lockedLessons 3 (some .int) ∈ Tg := Tg_of (i := 1148) (by decide +kernel) (by decide +kernel)
theorem wf_X8_230 : Cond.fieldLink RX8 230 RX4 (TX4 8).2.1 (TX4 8).2.2.1 ∈ Tg := Tg_of (i := 915) (by decide +kernel) (by decide +kernel)
theorem fl_X8_230 : Fld RX8 230 7 8 .boolean := ⟨RX4, TX4, 18, RX4, rfl, by decide, wf_X8_230, (Or.inl rfl), gu_X4, tyX4_ok _ (by decide), ⟨tyX4, tyX4_ok⟩, nmX4⟩
section M_X8_lockedLessons
variable {p : Program} {l : Launch} {e : Env} {s : State} {m : MethodId} {args : Array Value} {below : List Frame} {meth : Method} {c : Code} {G : GG} {o : Except Nat Int32} {hs' : Hs}
def j_X8_lockedLessons_41 (a0 : Option Nat) (a1 : Int32) (a2 : Int32)  (rec_4 : Int32 → Int32 → OO Int32) : OO Int32 :=
  lets (a2 + (1 : Int32)) fun (v10 : Int32) =>
    rec_4 a1 v10
set_option maxRecDepth 100000 in
set_option maxHeartbeats 4000000 in
theorem w_j_X8_lockedLessons_41 (C : Cx G l p s m args c RX8 cX8_lockedLessons 3) (C2 : Cy meth c (some .int)) {hs : Hs} (a0 : Option Nat) (a1 : Int32) (a2 : Int32)  (rec_4 : Int32 → Int32 → OO Int32) (hrec_4 : ∀ (y1 : Int32) (y2 : Int32) hs, rec_4 y1 y2 hs = some (o, hs') → WG G p l e { frames := 3, cells := 0, slots := 0, locals := 64 } s m args below meth c 3 0 0 (vx_MQ below (QcT G o hs' tvI) (XCT G o hs') args s 0 0 (gA G)) hs [(0, va_rf a0), (1, .int y1), (2, .int y2)] [] 4) (h : j_X8_lockedLessons_41 a0 a1 a2 rec_4 hs = some (o, hs')) : WG G p l e { frames := 3, cells := 0, slots := 0, locals := 64 } s m args below meth c 3 0 0 (vx_MQ below (QcT G o hs' tvI) (XCT G o hs') args s 0 0 (gA G)) hs [(0, va_rf a0), (1, .int a1), (2, .int a2)] [] 41 := by
  unfold j_X8_lockedLessons_41 at h
  refine q_iinc C 2 (1 : Int32) (fun v10 => [(2, .int v10), (0, va_rf a0), (1, .int a1)]) dX8_lockedLessons_41 rfl (by decide) (by decide) (fun _ => rfl) h (fun v10 h => ?_)
  refine q_goto C 4 dX8_lockedLessons_44 (by decide) ?_
  refine WG.sub [1, 2, 0] rfl ?_
  exact hrec_4 _ _ _ h
def L_X8_lockedLessons_4 (a0 : Option Nat) (k_4_47 : Int32 → OO Int32) : Nat → Int32 → Int32 → OO Int32
  | 0, _, _ => failO
  | n + 1, x1, x2 =>
    gR a0 11 1 fun v3 =>
    gR v3 9 2 fun v4 =>
    rcv v4 2 fun r13 => call (f_Jx4a65c_size_8abf5 r13 ) (fun (v5 : Int32) =>
    (if v5 ≤ x2 then
    k_4_47 x1
    else
    gR a0 11 1 fun v6 =>
    gR v6 9 2 fun v7 =>
    rcv v7 2 fun r12 => call (f_Jx4a65c_get_915e3 r12 x2) (fun (v8 : Option Nat) =>
    cst v8 7 (
    gI v8 7 8 fun v9 =>
    (if v9 = 0 then
    j_X8_lockedLessons_41 a0 x1 x2 (L_X8_lockedLessons_4 a0 k_4_47 n)
    else
    lets (x1 + (1 : Int32)) fun (v11 : Int32) =>
    j_X8_lockedLessons_41 a0 v11 x2 (L_X8_lockedLessons_4 a0 k_4_47 n)))) nox)) nox
set_option maxRecDepth 100000 in
set_option maxHeartbeats 4000000 in
theorem w_L_X8_lockedLessons_4 (C : Cx G l p s m args c RX8 cX8_lockedLessons 3) (C2 : Cy meth c (some .int)) (a0 : Option Nat) (k_4_47 : Int32 → OO Int32) (hk_4_47 : ∀ (y1 : Int32) hs, k_4_47 y1 hs = some (o, hs') → WG G p l e { frames := 3, cells := 0, slots := 0, locals := 64 } s m args below meth c 3 0 0 (vx_MQ below (QcT G o hs' tvI) (XCT G o hs') args s 0 0 (gA G)) hs [(1, .int y1)] [] 47) : ∀ (n : Nat) (x1 : Int32) (x2 : Int32) (hs : Hs), L_X8_lockedLessons_4 a0 k_4_47 n x1 x2 hs = some (o, hs') → WG G p l e { frames := 3, cells := 0, slots := 0, locals := 64 } s m args below meth c 3 0 0 (vx_MQ below (QcT G o hs' tvI) (XCT G o hs') args s 0 0 (gA G)) hs [(0, va_rf a0), (1, .int x1), (2, .int x2)] [] 4 := by
  intro n
  induction n with
  | zero =>
    intro x1 x2 hs h
    rw [L_X8_lockedLessons_4] at h
    exact absurd h failO_e
  | succ n hrec_4 =>
    intro x1 x2 hs h
    rw [L_X8_lockedLessons_4] at h
    refine q_iload_n C 2 dX8_lockedLessons_4 rfl ?_
    refine q_aload_n C 0 dX8_lockedLessons_5 rfl ?_
    refine q_gR C fl_X8_19 dX8_lockedLessons_6 h (fun v3 h => ?_)
    refine q_gR C fl_X8_121 dX8_lockedLessons_9 h (fun v4 h => ?_)
    refine q_callV C (CN := RJx4a65c) (T := TJx4a65c) (N := 3) [] [.int x2] (fun a0 o2 hs1 hm => m_Jx4a65c_size_8abf5 hm) lk_X8_70 im_Jx4a65c_size_8abf5 se_Jx4a65c_Jx4a65c_size_8abf5 rfl ⟨(Nat.le_of_ble_eq_true rfl), (Nat.le_of_ble_eq_true rfl)⟩ ⟨(Nat.le_of_ble_eq_true rfl), (Nat.le_of_ble_eq_true rfl)⟩ rfl rfl (by simp only [List.map, cat_rf, cat_i, cat_a]; decide) dX8_lockedLessons_12 h (fun v5 hs h => WG_st (st' := [.int v5, .int x2]) rfl ?_)
    refine q_icmp_ge C 47 dX8_lockedLessons_15 (by decide) h (fun h => ?_) (fun h => ?_)
    · refine WG.sub [1] rfl ?_
      exact hk_4_47 _ _ h
    · refine q_aload_n C 0 dX8_lockedLessons_18 rfl ?_
      refine q_gR C fl_X8_19 dX8_lockedLessons_19 h (fun v6 h => ?_)
      refine q_gR C fl_X8_121 dX8_lockedLessons_22 h (fun v7 h => ?_)
      refine q_iload_n C 2 dX8_lockedLessons_25 rfl ?_
      refine q_callV C (CN := RJx4a65c) (T := TJx4a65c) (N := 3) [.int x2] [] (fun a0 o2 hs1 hm => m_Jx4a65c_get_915e3 hm) lk_X8_186 im_Jx4a65c_get_915e3 se_Jx4a65c_Jx4a65c_get_915e3 rfl ⟨(Nat.le_of_ble_eq_true rfl), (Nat.le_of_ble_eq_true rfl)⟩ ⟨(Nat.le_of_ble_eq_true rfl), (Nat.le_of_ble_eq_true rfl)⟩ rfl rfl (by decide) dX8_lockedLessons_26 h (fun v8 hs h => WG_st (st' := [va_rf v8]) rfl ?_)
      refine q_castS C (nm := RX4) (T := TX4) (N := 18) rfl wc_X8_126 dX8_lockedLessons_29 h (fun h => ?_)
      refine q_gI C fl_X8_230 dX8_lockedLessons_32 h (fun v9 h => ?_)
      refine q_if_eq C 41 dX8_lockedLessons_35 (by decide) h (fun h => ?_) (fun h => ?_)
      · exact w_j_X8_lockedLessons_41 C C2 _ _ _ _ hrec_4 h
      · refine q_iinc C 1 (1 : Int32) (fun v11 => [(1, .int v11), (0, va_rf a0), (2, .int x2)]) dX8_lockedLessons_38 rfl (by decide) (by decide) (fun _ => rfl) h (fun v11 h => ?_)
        refine WG.sub [1, 0, 2] rfl ?_
        exact w_j_X8_lockedLessons_41 C C2 _ _ _ _ hrec_4 h
end M_X8_lockedLessons
def f_X8_lockedLessons (a0 : Nat) : OO Int32 :=
    lets (0 : Int32) fun (v1 : Int32) =>
    lets (0 : Int32) fun (v2 : Int32) =>
    L_X8_lockedLessons_4 (some a0) (fun (v14 : Int32) => rtn v14) 100000 v1 v2
set_option maxRecDepth 100000 in
set_option maxHeartbeats 4000000 in
theorem m_X8_lockedLessons {G : GG} {l : Launch} {a0 : Nat} {hs hs' : Hs} {o : Except Nat Int32} (h : f_X8_lockedLessons a0 hs = some (o, hs')) : CT G l yX8_lockedLessons cX8_lockedLessons 3 (some .int) 3 64 0 0 [.ref a0] hs o hs' tvI := by
  refine vx_ofW (cc := cX8_lockedLessons) (maxL := 3) (ret := (some .int)) (by decide +kernel) rfl ?_
  intro p e s m args below meth c s₁ B hml hxt hv
  obtain ⟨hav, hR, hKn⟩ := hv
  subst hav
  have hts := atoms_spec (ws := .code yX8_lockedLessons cX8_lockedLessons 3 (some .int) :: Tg) B.pre
  have C : Cx G l p s m _ c RX8 cX8_lockedLessons 3 := ⟨B.exec, B.bytes, hml, findClass_of_methodNamed B.named, fun w hw => hts w (List.mem_cons_of_mem _ hw), hKn, fun q hq => Nat.le_trans hR.2.2.1 hq⟩
  have C2 : Cy meth c (some .int) := ⟨B.returns, B.notSynchronized, hxt⟩
  have key : WG G p l e { frames := 3, cells := 0, slots := 0, locals := 64 } s m ([.ref a0] : List Value).toArray below meth c 3 0 0 (vx_MQ below (QcT G o hs' tvI) (XCT G o hs') ([.ref a0] : List Value).toArray s 0 0 (gA G)) hs [(0, va_rf (some a0))] [] 0 := by
    unfold f_X8_lockedLessons at h
    refine q_iconst C (0 : Int32) dX8_lockedLessons_0 (by decide) ?_
    refine q_istore_n C (fun v1 => [(1, .int v1), (0, va_rf (some a0))]) dX8_lockedLessons_1 (by decide) (fun _ => rfl) h (fun v1 h => ?_)
    refine q_iconst C (0 : Int32) dX8_lockedLessons_2 (by decide) ?_
    refine q_istore_n C (fun v2 => [(2, .int v2), (1, .int v1), (0, va_rf (some a0))]) dX8_lockedLessons_3 (by decide) (fun _ => rfl) h (fun v2 h => ?_)
    refine WG.sub [2, 1, 0] rfl ?_
    refine w_L_X8_lockedLessons_4 C C2 _ _ ?_ _ _ _ _ h
    · intro v14 hs h
      refine q_iload_n C 0 dX8_lockedLessons_47 rfl ?_
      exact q_iret C C2 rfl (Nat.le_of_ble_eq_true rfl) (Nat.le_of_ble_eq_true rfl) dX8_lockedLessons_48 h
  rw [lg_entry_eq]
  exact key _ _ _ hR va_S.rf ⟨lv_entry _ (n := 3) (Nat.le_of_ble_eq_true rfl), (c1_r c1_n)⟩

theorem cd_X8_lock : Cond.code yX8_lock cX8_lock 3 (some .int) ∈ Tg := Tg_of (i := 1144) (by decide +kernel) (by decide +kernel)
theorem fw_X8_230 : FldW RX8 230 7 8 .boolean false := ⟨RX4, TX4, 18, RX4, rfl, by decide, wf_X8_230, (Or.inl rfl), gu_X4, tyX4_ok _ (by decide), ⟨tyX4, tyX4_ok⟩, nmX4, rfl, fun z => nomatch z⟩
theorem ml_X8_234 : Cond.methodLink RX8 234 yX8_lockedLessons ∈ Tg := Tg_of (i := 1145) (by decide +kernel) (by decide +kernel)
theorem lk_X8_234 : Lk RX8 234 yX8_lockedLessons cX8_lockedLessons 3 (some .int) 0 := ⟨ml_X8_234, cd_X8_lockedLessons, iw_X8, by decide +kernel⟩
theorem im_X8_lockedLessons : Cond.instanceMethod yX8_lockedLessons ∈ Tg := Tg_of (i := 1147) (by decide +kernel) (by decide +kernel)
theorem se_X8_X8_lockedLessons : Cond.selects RX8 yX8_lockedLessons yX8_lockedLessons ∈ Tg := Tg_of (i := 28) (by decide +kernel) (by decide +kernel)
section M_X8_lock
variable {p : Program} {l : Launch} {e : Env} {s : State} {m : MethodId} {args : Array Value} {below : List Frame} {meth : Method} {c : Code} {G : GG} {o : Except Nat Int32} {hs' : Hs}
end M_X8_lock
def f_X8_lock (a0 : Nat) (p1 : Int32) : OO Int32 :=
    rcv (some a0) 11 fun r8 => call (f_X8_lessonNumbered r8 p1) (fun (v1 : Option Nat) =>
    lets v1 fun (v2 : Option Nat) =>
    call (f_X8_requirePlaced v2) (fun (v3 : Unit) =>
    rcv (some a0) 11 fun r7 => call (f_X8_requireFree r7 v2) (fun (v4 : Unit) =>
    pZ v2 7 8 (1 : Int32) (
    rcv (some a0) 11 fun r6 => call (f_X8_lockedLessons r6 ) (fun (v5 : Int32) =>
    rtn v5) nox)) thr) thr) thr
set_option maxRecDepth 100000 in
set_option maxHeartbeats 4000000 in
theorem m_X8_lock {G : GG} {l : Launch} {a0 : Nat} {p1 : Int32} {hs hs' : Hs} {o : Except Nat Int32} (h : f_X8_lock a0 p1 hs = some (o, hs')) : CT G l yX8_lock cX8_lock 3 (some .int) 7 221 3 18 [.ref a0, .int p1] hs o hs' tvI := by
  refine vx_ofW (cc := cX8_lock) (maxL := 3) (ret := (some .int)) (by decide +kernel) rfl ?_
  intro p e s m args below meth c s₁ B hml hxt hv
  obtain ⟨hav, hR, hKn⟩ := hv
  subst hav
  have hts := atoms_spec (ws := .code yX8_lock cX8_lock 3 (some .int) :: Tg) B.pre
  have C : Cx G l p s m _ c RX8 cX8_lock 3 := ⟨B.exec, B.bytes, hml, findClass_of_methodNamed B.named, fun w hw => hts w (List.mem_cons_of_mem _ hw), hKn, fun q hq => Nat.le_trans hR.2.2.1 hq⟩
  have C2 : Cy meth c (some .int) := ⟨B.returns, B.notSynchronized, hxt⟩
  have key : WG G p l e { frames := 7, cells := 3, slots := 18, locals := 221 } s m ([.ref a0, .int p1] : List Value).toArray below meth c 3 0 0 (vx_MQ below (QcT G o hs' tvI) (XCT G o hs') ([.ref a0, .int p1] : List Value).toArray s 3 18 (gA G)) hs [(0, va_rf (some a0)), (1, .int p1)] [] 0 := by
    unfold f_X8_lock at h
    refine q_aload_n C 0 dX8_lock_0 rfl ?_
    refine q_iload_n C 1 dX8_lock_1 rfl ?_
    refine q_callVX C (CN := RX8) (T := TX8) (N := 10) [.int p1] [] C2 ⟨(Nat.le_of_ble_eq_true rfl), (Nat.le_of_ble_eq_true rfl)⟩ (fun a0 o2 hs1 hm => m_X8_lessonNumbered hm) lk_X8_149 im_X8_lessonNumbered se_X8_X8_lessonNumbered rfl ⟨(Nat.le_of_ble_eq_true rfl), (Nat.le_of_ble_eq_true rfl)⟩ ⟨(Nat.le_of_ble_eq_true rfl), (Nat.le_of_ble_eq_true rfl)⟩ rfl rfl (by decide) dX8_lock_2 h (fun v1 hs h => WG_st (st' := [va_rf v1]) rfl ?_)
    refine q_astore_n C (fun v2 => [(2, va_rf v2), (0, va_rf (some a0)), (1, .int p1)]) dX8_lock_5 (by decide) (fun _ => rfl) h (fun v2 h => ?_)
    refine q_aload_n C 0 dX8_lock_6 rfl ?_
    refine q_callSX C [va_rf v2] [] C2 ⟨(Nat.le_of_ble_eq_true rfl), (Nat.le_of_ble_eq_true rfl)⟩ (fun o2 hs1 hm => m_X8_requirePlaced hm) lk_X8_224 sm_X8_requirePlaced ⟨(Nat.le_of_ble_eq_true rfl), (Nat.le_of_ble_eq_true rfl)⟩ ⟨(Nat.le_of_ble_eq_true rfl), (Nat.le_of_ble_eq_true rfl)⟩ rfl rfl (by decide) dX8_lock_7 h (fun v3 hs h => WG_st (st' := []) rfl ?_)
    refine q_aload_n C 1 dX8_lock_10 rfl ?_
    refine q_aload_n C 0 dX8_lock_11 rfl ?_
    refine q_callVX C (CN := RX8) (T := TX8) (N := 10) [va_rf v2] [] C2 ⟨(Nat.le_of_ble_eq_true rfl), (Nat.le_of_ble_eq_true rfl)⟩ (fun a0 o2 hs1 hm => m_X8_requireFree hm) lk_X8_211 im_X8_requireFree se_X8_X8_requireFree rfl ⟨(Nat.le_of_ble_eq_true rfl), (Nat.le_of_ble_eq_true rfl)⟩ ⟨(Nat.le_of_ble_eq_true rfl), (Nat.le_of_ble_eq_true rfl)⟩ rfl rfl (by decide) dX8_lock_12 h (fun v4 hs h => WG_st (st' := []) rfl ?_)
    refine q_aload_n C 0 dX8_lock_15 rfl ?_
    refine q_iconst C (1 : Int32) dX8_lock_16 (by decide) ?_
    refine q_pZ C fw_X8_230 (fun z => nomatch z) dX8_lock_17 h (fun hs h => ?_)
    refine q_aload_n C 1 dX8_lock_20 rfl ?_
    refine q_callV C (CN := RX8) (T := TX8) (N := 10) [] [] (fun a0 o2 hs1 hm => m_X8_lockedLessons hm) lk_X8_234 im_X8_lockedLessons se_X8_X8_lockedLessons rfl ⟨(Nat.le_of_ble_eq_true rfl), (Nat.le_of_ble_eq_true rfl)⟩ ⟨(Nat.le_of_ble_eq_true rfl), (Nat.le_of_ble_eq_true rfl)⟩ rfl rfl (by decide) dX8_lock_21 h (fun v5 hs h => WG_st (st' := [.int v5]) rfl ?_)
    exact q_iret C C2 rfl (Nat.le_of_ble_eq_true rfl) (Nat.le_of_ble_eq_true rfl) dX8_lock_24 h
  rw [lg_entry_eq]
  exact key _ _ _ hR va_S.rf ⟨lv_entry _ (n := 3) (Nat.le_of_ble_eq_true rfl), (c1_r (c1_i c1_n))⟩

theorem cd_X8_unlock : Cond.code yX8_unlock cX8_unlock 3 (some .int) ∈ Tg := Tg_of (i := 1155) (by decide +kernel) (by decide +kernel)
section M_X8_unlock
variable {p : Program} {l : Launch} {e : Env} {s : State} {m : MethodId} {args : Array Value} {below : List Frame} {meth : Method} {c : Code} {G : GG} {o : Except Nat Int32} {hs' : Hs}
end M_X8_unlock
def f_X8_unlock (a0 : Nat) (p1 : Int32) : OO Int32 :=
    rcv (some a0) 11 fun r6 => call (f_X8_lessonNumbered r6 p1) (fun (v1 : Option Nat) =>
    lets v1 fun (v2 : Option Nat) =>
    gI v2 7 8 fun v3 =>
    (if ¬ v3 = 0 then
    pZ v2 7 8 (0 : Int32) (
    rcv (some a0) 11 fun r5 => call (f_X8_lockedLessons r5 ) (fun (v4 : Int32) =>
    rtn v4) nox)
    else
    nthrow 2)) thr
set_option maxRecDepth 100000 in
set_option maxHeartbeats 4000000 in
theorem m_X8_unlock {G : GG} {l : Launch} {a0 : Nat} {p1 : Int32} {hs hs' : Hs} {o : Except Nat Int32} (h : f_X8_unlock a0 p1 hs = some (o, hs')) : CT G l yX8_unlock cX8_unlock 3 (some .int) 7 221 2 12 [.ref a0, .int p1] hs o hs' tvI := by
  refine vx_ofW (cc := cX8_unlock) (maxL := 3) (ret := (some .int)) (by decide +kernel) rfl ?_
  intro p e s m args below meth c s₁ B hml hxt hv
  obtain ⟨hav, hR, hKn⟩ := hv
  subst hav
  have hts := atoms_spec (ws := .code yX8_unlock cX8_unlock 3 (some .int) :: Tg) B.pre
  have C : Cx G l p s m _ c RX8 cX8_unlock 3 := ⟨B.exec, B.bytes, hml, findClass_of_methodNamed B.named, fun w hw => hts w (List.mem_cons_of_mem _ hw), hKn, fun q hq => Nat.le_trans hR.2.2.1 hq⟩
  have C2 : Cy meth c (some .int) := ⟨B.returns, B.notSynchronized, hxt⟩
  have key : WG G p l e { frames := 7, cells := 2, slots := 12, locals := 221 } s m ([.ref a0, .int p1] : List Value).toArray below meth c 3 0 0 (vx_MQ below (QcT G o hs' tvI) (XCT G o hs') ([.ref a0, .int p1] : List Value).toArray s 2 12 (gA G)) hs [(0, va_rf (some a0)), (1, .int p1)] [] 0 := by
    unfold f_X8_unlock at h
    refine q_aload_n C 0 dX8_unlock_0 rfl ?_
    refine q_iload_n C 1 dX8_unlock_1 rfl ?_
    refine q_callVX C (CN := RX8) (T := TX8) (N := 10) [.int p1] [] C2 ⟨(Nat.le_of_ble_eq_true rfl), (Nat.le_of_ble_eq_true rfl)⟩ (fun a0 o2 hs1 hm => m_X8_lessonNumbered hm) lk_X8_149 im_X8_lessonNumbered se_X8_X8_lessonNumbered rfl ⟨(Nat.le_of_ble_eq_true rfl), (Nat.le_of_ble_eq_true rfl)⟩ ⟨(Nat.le_of_ble_eq_true rfl), (Nat.le_of_ble_eq_true rfl)⟩ rfl rfl (by decide) dX8_unlock_2 h (fun v1 hs h => WG_st (st' := [va_rf v1]) rfl ?_)
    refine q_astore_n C (fun v2 => [(2, va_rf v2), (0, va_rf (some a0)), (1, .int p1)]) dX8_unlock_5 (by decide) (fun _ => rfl) h (fun v2 h => ?_)
    refine q_aload_n C 0 dX8_unlock_6 rfl ?_
    refine q_gI C fl_X8_230 dX8_unlock_7 h (fun v3 h => ?_)
    refine q_if_ne C 23 dX8_unlock_10 (by decide) h (fun h => ?_) (fun h => ?_)
    · refine q_aload_n C 0 dX8_unlock_23 rfl ?_
      refine q_iconst C (0 : Int32) dX8_unlock_24 (by decide) ?_
      refine q_pZ C fw_X8_230 (fun z => nomatch z) dX8_unlock_25 h (fun hs h => ?_)
      refine q_aload_n C 1 dX8_unlock_28 rfl ?_
      refine q_callV C (CN := RX8) (T := TX8) (N := 10) [] [] (fun a0 o2 hs1 hm => m_X8_lockedLessons hm) lk_X8_234 im_X8_lockedLessons se_X8_X8_lockedLessons rfl ⟨(Nat.le_of_ble_eq_true rfl), (Nat.le_of_ble_eq_true rfl)⟩ ⟨(Nat.le_of_ble_eq_true rfl), (Nat.le_of_ble_eq_true rfl)⟩ rfl rfl (by decide) dX8_unlock_29 h (fun v4 hs h => WG_st (st' := [.int v4]) rfl ?_)
      exact q_iret C C2 rfl (Nat.le_of_ble_eq_true rfl) (Nat.le_of_ble_eq_true rfl) dX8_unlock_32 h
    · exact q_throw C C2 (k := 2) (tx := "the lesson is not locked") wc_X8_x74 iw_x2 at_X8_78 (by decide +kernel) (Nat.le_of_ble_eq_true rfl) (Nat.le_of_ble_eq_true rfl) (Nat.le_of_ble_eq_true rfl) (Nat.le_of_ble_eq_true rfl) (Nat.le_of_ble_eq_true rfl) (Nat.le_of_ble_eq_true rfl) (by decide) dX8_unlock_13 dX8_unlock_16 (Or.inl ⟨rfl, dX8_unlock_17⟩) dX8_unlock_19 dX8_unlock_22 h
  rw [lg_entry_eq]
  exact key _ _ _ hR va_S.rf ⟨lv_entry _ (n := 3) (Nat.le_of_ble_eq_true rfl), (c1_r (c1_i c1_n))⟩

