theorem cd_X9_setWeight : Cond.code yX9_setWeight cX9_setWeight 4 (some .int) ∈ Tg := Tg_of (i := 1616) (by decide +kernel) (by decide +kernel)
theorem ml_X9_110 : Cond.methodLink RX9 110 yX9_checked ∈ Tg := Tg_of (i := 1617) (by decide +kernel) (by decide +kernel)
theorem lk_X9_110 : Lk RX9 110 yX9_checked cX9_checked 2 (some .int) 1 := ⟨ml_X9_110, cd_X9_checked, iw_X9, by decide +kernel⟩
theorem im_X9_checked : Cond.instanceMethod yX9_checked ∈ Tg := Tg_of (i := 1619) (by decide +kernel) (by decide +kernel)
theorem se_X9_X9_checked : Cond.selects RX9 yX9_checked yX9_checked ∈ Tg := Tg_of (i := 38) (by decide +kernel) (by decide +kernel)
section M_X9_setWeight
variable {p : Program} {l : Launch} {e : Env} {s : State} {m : MethodId} {args : Array Value} {below : List Frame} {meth : Method} {c : Code} {G : GG} {o : Except Nat Int32} {hs' : Hs}
def j_X9_setWeight_25 (a0 : Option Nat) (a1 : Int32) (a2 : Int32) (s0 : Int32) (s1 : Option Nat)  : OO Int32 :=
  rcv s1 12 fun r7 => call (f_X9_checked r7 s0) (fun (v2 : Int32) =>
    (if v2 ≤ 0 then
    gR a0 12 15 fun v3 =>
    ldI 0 v3 a1 fun v4 =>
    lets v4 fun (v5 : Int32) =>
    gR a0 12 15 fun v6 =>
    stI v6 a1 a2 (
    rtn v5)
    else
    rtn (0 : Int32))) nox
set_option maxRecDepth 100000 in
set_option maxHeartbeats 4000000 in
theorem w_j_X9_setWeight_25 (C : Cx G l p s m args c RX9 cX9_setWeight 4) (C2 : Cy meth c (some .int)) {hs : Hs} (a0 : Option Nat) (a1 : Int32) (a2 : Int32) (s0 : Int32) (s1 : Option Nat)   (h : j_X9_setWeight_25 a0 a1 a2 s0 s1 hs = some (o, hs')) : WG G p l e { frames := 1, cells := 0, slots := 0, locals := 22 } s m args below meth c 4 0 0 (vx_MQ below (QcT G o hs' tvI) (XCT G o hs') args s 0 0 (gA G)) hs [(0, va_rf a0), (1, .int a1), (2, .int a2)] [.int s0, va_rf s1] 25 := by
  unfold j_X9_setWeight_25 at h
  refine q_callV C (CN := RX9) (T := TX9) (N := 28) [.int s0] [] (fun a0 o2 hs1 hm => m_X9_checked hm) lk_X9_110 im_X9_checked se_X9_X9_checked rfl ⟨(Nat.le_of_ble_eq_true rfl), (Nat.le_of_ble_eq_true rfl)⟩ ⟨(Nat.le_of_ble_eq_true rfl), (Nat.le_of_ble_eq_true rfl)⟩ rfl rfl (by decide) dX9_setWeight_25 h (fun v2 hs h => WG_st (st' := [.int v2]) rfl ?_)
  refine q_if_le C 33 dX9_setWeight_28 (by decide) h (fun h => ?_) (fun h => ?_)
  · refine q_aload_n C 0 dX9_setWeight_33 rfl ?_
    refine q_gR C fl_X9_56 dX9_setWeight_34 h (fun v3 h => ?_)
    refine q_iload_n C 1 dX9_setWeight_37 rfl ?_
    refine q_iald C dX9_setWeight_38 h (fun v4 h => ?_)
    refine q_istore_n C (fun v5 => [(3, .int v5), (0, va_rf a0), (1, .int a1), (2, .int a2)]) dX9_setWeight_39 (by decide) (fun _ => rfl) h (fun v5 h => ?_)
    refine q_aload_n C 1 dX9_setWeight_40 rfl ?_
    refine q_gR C fl_X9_56 dX9_setWeight_41 h (fun v6 h => ?_)
    refine q_iload_n C 2 dX9_setWeight_44 rfl ?_
    refine q_iload_n C 3 dX9_setWeight_45 rfl ?_
    refine q_iast C dX9_setWeight_46 h (fun hs h => ?_)
    refine q_iload_n C 0 dX9_setWeight_47 rfl ?_
    exact q_iret C C2 rfl (Nat.le_of_ble_eq_true rfl) (Nat.le_of_ble_eq_true rfl) dX9_setWeight_48 h
  · refine q_iconst C (0 : Int32) dX9_setWeight_31 (by decide) ?_
    exact q_iret C C2 rfl (Nat.le_of_ble_eq_true rfl) (Nat.le_of_ble_eq_true rfl) dX9_setWeight_32 h
def j_X9_setWeight_24 (a0 : Option Nat) (a1 : Int32) (a2 : Int32) (s0 : Option Nat)  : OO Int32 :=
  j_X9_setWeight_25 a0 a1 a2 (0 : Int32) s0
set_option maxRecDepth 100000 in
set_option maxHeartbeats 4000000 in
theorem w_j_X9_setWeight_24 (C : Cx G l p s m args c RX9 cX9_setWeight 4) (C2 : Cy meth c (some .int)) {hs : Hs} (a0 : Option Nat) (a1 : Int32) (a2 : Int32) (s0 : Option Nat)   (h : j_X9_setWeight_24 a0 a1 a2 s0 hs = some (o, hs')) : WG G p l e { frames := 1, cells := 0, slots := 0, locals := 22 } s m args below meth c 4 0 0 (vx_MQ below (QcT G o hs' tvI) (XCT G o hs') args s 0 0 (gA G)) hs [(0, va_rf a0), (1, .int a1), (2, .int a2)] [va_rf s0] 24 := by
  unfold j_X9_setWeight_24 at h
  refine q_iconst C (0 : Int32) dX9_setWeight_24 (by decide) ?_
  exact w_j_X9_setWeight_25 C C2 _ _ _ _ _   h
end M_X9_setWeight
def f_X9_setWeight (a0 : Nat) (p1 : Int32) (p2 : Int32) : OO Int32 :=
    call (f_X9_in p1 (0 : Int32) (3 : Int32)) (fun (v1 : Int32) =>
    (if v1 = 0 then
    j_X9_setWeight_24 (some a0) p1 p2 (some a0)
    else
    call (f_X9_in p2 (0 : Int32) (9 : Int32)) (fun (v8 : Int32) =>
    (if v8 = 0 then
    j_X9_setWeight_24 (some a0) p1 p2 (some a0)
    else
    j_X9_setWeight_25 (some a0) p1 p2 (1 : Int32) (some a0))) nox)) nox
set_option maxRecDepth 100000 in
set_option maxHeartbeats 4000000 in
theorem m_X9_setWeight {G : GG} {l : Launch} {a0 : Nat} {p1 : Int32} {p2 : Int32} {hs hs' : Hs} {o : Except Nat Int32} (h : f_X9_setWeight a0 p1 p2 hs = some (o, hs')) : CT G l yX9_setWeight cX9_setWeight 4 (some .int) 1 22 0 0 [.ref a0, .int p1, .int p2] hs o hs' tvI := by
  refine vx_ofW (cc := cX9_setWeight) (maxL := 4) (ret := (some .int)) (by decide +kernel) rfl ?_
  intro p e s m args below meth c s₁ B hml hxt hv
  obtain ⟨hav, hR, hKn⟩ := hv
  subst hav
  have hts := atoms_spec (ws := .code yX9_setWeight cX9_setWeight 4 (some .int) :: Tg) B.pre
  have C : Cx G l p s m _ c RX9 cX9_setWeight 4 := ⟨B.exec, B.bytes, hml, findClass_of_methodNamed B.named, fun w hw => hts w (List.mem_cons_of_mem _ hw), hKn, fun q hq => Nat.le_trans hR.2.2.1 hq⟩
  have C2 : Cy meth c (some .int) := ⟨B.returns, B.notSynchronized, hxt⟩
  have key : WG G p l e { frames := 1, cells := 0, slots := 0, locals := 22 } s m ([.ref a0, .int p1, .int p2] : List Value).toArray below meth c 4 0 0 (vx_MQ below (QcT G o hs' tvI) (XCT G o hs') ([.ref a0, .int p1, .int p2] : List Value).toArray s 0 0 (gA G)) hs [(0, va_rf (some a0)), (1, .int p1), (2, .int p2)] [] 0 := by
    unfold f_X9_setWeight at h
    refine q_aload_n C 0 dX9_setWeight_0 rfl ?_
    refine q_iload_n C 1 dX9_setWeight_1 rfl ?_
    refine q_iconst C (0 : Int32) dX9_setWeight_2 (by decide) ?_
    refine q_iconst C (3 : Int32) dX9_setWeight_3 (by decide) ?_
    refine q_callS C [.int p1, .int (0 : Int32), .int (3 : Int32)] [va_rf (some a0)] (fun o2 hs1 hm => m_X9_in hm) lk_X9_96 sm_X9_in ⟨(Nat.le_of_ble_eq_true rfl), (Nat.le_of_ble_eq_true rfl)⟩ ⟨(Nat.le_of_ble_eq_true rfl), (Nat.le_of_ble_eq_true rfl)⟩ rfl rfl (by simp only [List.map, cat_rf, cat_i, cat_a]; decide) dX9_setWeight_4 h (fun v1 hs h => WG_st (st' := [.int v1, va_rf (some a0)]) rfl ?_)
    refine q_if_eq C 24 dX9_setWeight_7 (by decide) h (fun h => ?_) (fun h => ?_)
    · exact w_j_X9_setWeight_24 C C2 _ _ _ _   h
    · refine q_iload_n C 2 dX9_setWeight_10 rfl ?_
      refine q_iconst C (0 : Int32) dX9_setWeight_11 (by decide) ?_
      refine q_bipush C (9 : Int32) dX9_setWeight_12 (by decide) ?_
      refine q_callS C [.int p2, .int (0 : Int32), .int (9 : Int32)] [va_rf (some a0)] (fun o2 hs1 hm => m_X9_in hm) lk_X9_96 sm_X9_in ⟨(Nat.le_of_ble_eq_true rfl), (Nat.le_of_ble_eq_true rfl)⟩ ⟨(Nat.le_of_ble_eq_true rfl), (Nat.le_of_ble_eq_true rfl)⟩ rfl rfl (by simp only [List.map, cat_rf, cat_i, cat_a]; decide) dX9_setWeight_14 h (fun v8 hs h => WG_st (st' := [.int v8, va_rf (some a0)]) rfl ?_)
      refine q_if_eq C 24 dX9_setWeight_17 (by decide) h (fun h => ?_) (fun h => ?_)
      · exact w_j_X9_setWeight_24 C C2 _ _ _ _   h
      · refine q_iconst C (1 : Int32) dX9_setWeight_20 (by decide) ?_
        refine q_goto C 25 dX9_setWeight_21 (by decide) ?_
        exact w_j_X9_setWeight_25 C C2 _ _ _ _ _   h
  rw [lg_entry_eq]
  exact key _ _ _ hR va_S.rf ⟨lv_entry _ (n := 4) (Nat.le_of_ble_eq_true rfl), (c1_r (c1_i (c1_i c1_n)))⟩

theorem cd_X9_slotOf : Cond.code yX9_slotOf cX9_slotOf 2 (some .int) ∈ Tg := Tg_of (i := 1664) (by decide +kernel) (by decide +kernel)
section M_X9_slotOf
variable {p : Program} {l : Launch} {e : Env} {s : State} {m : MethodId} {args : Array Value} {below : List Frame} {meth : Method} {c : Code} {G : GG} {o : Except Nat Int32} {hs' : Hs}
end M_X9_slotOf
def f_X9_slotOf (a0 : Nat) (p1 : Int32) : OO Int32 :=
    gR (some a0) 12 14 fun v1 =>
    ldI 0 v1 p1 fun v2 =>
    dvz (8 : Int32) (
    rtn (v2 / (8 : Int32)))
set_option maxRecDepth 100000 in
set_option maxHeartbeats 4000000 in
theorem m_X9_slotOf {G : GG} {l : Launch} {a0 : Nat} {p1 : Int32} {hs hs' : Hs} {o : Except Nat Int32} (h : f_X9_slotOf a0 p1 hs = some (o, hs')) : CT G l yX9_slotOf cX9_slotOf 2 (some .int) 0 0 0 0 [.ref a0, .int p1] hs o hs' tvI := by
  refine vx_ofW (cc := cX9_slotOf) (maxL := 2) (ret := (some .int)) (by decide +kernel) rfl ?_
  intro p e s m args below meth c s₁ B hml hxt hv
  obtain ⟨hav, hR, hKn⟩ := hv
  subst hav
  have hts := atoms_spec (ws := .code yX9_slotOf cX9_slotOf 2 (some .int) :: Tg) B.pre
  have C : Cx G l p s m _ c RX9 cX9_slotOf 2 := ⟨B.exec, B.bytes, hml, findClass_of_methodNamed B.named, fun w hw => hts w (List.mem_cons_of_mem _ hw), hKn, fun q hq => Nat.le_trans hR.2.2.1 hq⟩
  have C2 : Cy meth c (some .int) := ⟨B.returns, B.notSynchronized, hxt⟩
  have key : WG G p l e { frames := 0, cells := 0, slots := 0, locals := 0 } s m ([.ref a0, .int p1] : List Value).toArray below meth c 2 0 0 (vx_MQ below (QcT G o hs' tvI) (XCT G o hs') ([.ref a0, .int p1] : List Value).toArray s 0 0 (gA G)) hs [(0, va_rf (some a0)), (1, .int p1)] [] 0 := by
    unfold f_X9_slotOf at h
    refine q_aload_n C 0 dX9_slotOf_0 rfl ?_
    refine q_gR C fl_X9_53 dX9_slotOf_1 h (fun v1 h => ?_)
    refine q_iload_n C 1 dX9_slotOf_4 rfl ?_
    refine q_iald C dX9_slotOf_5 h (fun v2 h => ?_)
    refine q_bipush C (8 : Int32) dX9_slotOf_6 (by decide) ?_
    refine q_idiv C dX9_slotOf_8 h (fun h => ?_)
    exact q_iret C C2 rfl (Nat.le_of_ble_eq_true rfl) (Nat.le_of_ble_eq_true rfl) dX9_slotOf_9 h
  rw [lg_entry_eq]
  exact key _ _ _ hR va_S.rf ⟨lv_entry _ (n := 2) (Nat.le_of_ble_eq_true rfl), (c1_r (c1_i c1_n))⟩

theorem cd_X9_endOf : Cond.code yX9_endOf cX9_endOf 2 (some .int) ∈ Tg := Tg_of (i := 1668) (by decide +kernel) (by decide +kernel)
theorem ml_X9_114 : Cond.methodLink RX9 114 yX9_slotOf ∈ Tg := Tg_of (i := 1661) (by decide +kernel) (by decide +kernel)
theorem lk_X9_114 : Lk RX9 114 yX9_slotOf cX9_slotOf 2 (some .int) 1 := ⟨ml_X9_114, cd_X9_slotOf, iw_X9, by decide +kernel⟩
theorem im_X9_slotOf : Cond.instanceMethod yX9_slotOf ∈ Tg := Tg_of (i := 1663) (by decide +kernel) (by decide +kernel)
theorem se_X9_X9_slotOf : Cond.selects RX9 yX9_slotOf yX9_slotOf ∈ Tg := Tg_of (i := 48) (by decide +kernel) (by decide +kernel)
section M_X9_endOf
variable {p : Program} {l : Launch} {e : Env} {s : State} {m : MethodId} {args : Array Value} {below : List Frame} {meth : Method} {c : Code} {G : GG} {o : Except Nat Int32} {hs' : Hs}
end M_X9_endOf
def f_X9_endOf (a0 : Nat) (p1 : Int32) : OO Int32 :=
    rcv (some a0) 12 fun r4 => call (f_X9_slotOf r4 p1) (fun (v1 : Int32) =>
    gR (some a0) 12 12 fun v2 =>
    ldI 0 v2 p1 fun v3 =>
    rtn (v1 + v3)) nox
set_option maxRecDepth 100000 in
set_option maxHeartbeats 4000000 in
theorem m_X9_endOf {G : GG} {l : Launch} {a0 : Nat} {p1 : Int32} {hs hs' : Hs} {o : Except Nat Int32} (h : f_X9_endOf a0 p1 hs = some (o, hs')) : CT G l yX9_endOf cX9_endOf 2 (some .int) 1 21 0 0 [.ref a0, .int p1] hs o hs' tvI := by
  refine vx_ofW (cc := cX9_endOf) (maxL := 2) (ret := (some .int)) (by decide +kernel) rfl ?_
  intro p e s m args below meth c s₁ B hml hxt hv
  obtain ⟨hav, hR, hKn⟩ := hv
  subst hav
  have hts := atoms_spec (ws := .code yX9_endOf cX9_endOf 2 (some .int) :: Tg) B.pre
  have C : Cx G l p s m _ c RX9 cX9_endOf 2 := ⟨B.exec, B.bytes, hml, findClass_of_methodNamed B.named, fun w hw => hts w (List.mem_cons_of_mem _ hw), hKn, fun q hq => Nat.le_trans hR.2.2.1 hq⟩
  have C2 : Cy meth c (some .int) := ⟨B.returns, B.notSynchronized, hxt⟩
  have key : WG G p l e { frames := 1, cells := 0, slots := 0, locals := 21 } s m ([.ref a0, .int p1] : List Value).toArray below meth c 2 0 0 (vx_MQ below (QcT G o hs' tvI) (XCT G o hs') ([.ref a0, .int p1] : List Value).toArray s 0 0 (gA G)) hs [(0, va_rf (some a0)), (1, .int p1)] [] 0 := by
    unfold f_X9_endOf at h
    refine q_aload_n C 0 dX9_endOf_0 rfl ?_
    refine q_iload_n C 1 dX9_endOf_1 rfl ?_
    refine q_callV C (CN := RX9) (T := TX9) (N := 28) [.int p1] [] (fun a0 o2 hs1 hm => m_X9_slotOf hm) lk_X9_114 im_X9_slotOf se_X9_X9_slotOf rfl ⟨(Nat.le_of_ble_eq_true rfl), (Nat.le_of_ble_eq_true rfl)⟩ ⟨(Nat.le_of_ble_eq_true rfl), (Nat.le_of_ble_eq_true rfl)⟩ rfl rfl (by decide) dX9_endOf_2 h (fun v1 hs h => WG_st (st' := [.int v1]) rfl ?_)
    refine q_aload_n C 0 dX9_endOf_5 rfl ?_
    refine q_gR C fl_X9_47 dX9_endOf_6 h (fun v2 h => ?_)
    refine q_iload_n C 1 dX9_endOf_9 rfl ?_
    refine q_iald C dX9_endOf_10 h (fun v3 h => ?_)
    refine q_iadd C dX9_endOf_11 ?_
    exact q_iret C C2 rfl (Nat.le_of_ble_eq_true rfl) (Nat.le_of_ble_eq_true rfl) dX9_endOf_12 h
  rw [lg_entry_eq]
  exact key _ _ _ hR va_S.rf ⟨lv_entry _ (n := 2) (Nat.le_of_ble_eq_true rfl), (c1_r (c1_i c1_n))⟩

theorem cd_X9_isPlaced : Cond.code yX9_isPlaced cX9_isPlaced 2 (some .boolean) ∈ Tg := Tg_of (i := 1652) (by decide +kernel) (by decide +kernel)
section M_X9_isPlaced
variable {p : Program} {l : Launch} {e : Env} {s : State} {m : MethodId} {args : Array Value} {below : List Frame} {meth : Method} {c : Code} {G : GG} {o : Except Nat Int32} {hs' : Hs}
end M_X9_isPlaced
def f_X9_isPlaced (a0 : Nat) (p1 : Int32) : OO Int32 :=
    gR (some a0) 12 14 fun v1 =>
    ldI 0 v1 p1 fun v2 =>
    (if v2 < 0 then
    retZ (0 : Int32)
    else
    retZ (1 : Int32))
set_option maxRecDepth 100000 in
set_option maxHeartbeats 4000000 in
theorem m_X9_isPlaced {G : GG} {l : Launch} {a0 : Nat} {p1 : Int32} {hs hs' : Hs} {o : Except Nat Int32} (h : f_X9_isPlaced a0 p1 hs = some (o, hs')) : CT G l yX9_isPlaced cX9_isPlaced 2 (some .boolean) 0 0 0 0 [.ref a0, .int p1] hs o hs' tvI := by
  refine vx_ofW (cc := cX9_isPlaced) (maxL := 2) (ret := (some .boolean)) (by decide +kernel) rfl ?_
  intro p e s m args below meth c s₁ B hml hxt hv
  obtain ⟨hav, hR, hKn⟩ := hv
  subst hav
  have hts := atoms_spec (ws := .code yX9_isPlaced cX9_isPlaced 2 (some .boolean) :: Tg) B.pre
  have C : Cx G l p s m _ c RX9 cX9_isPlaced 2 := ⟨B.exec, B.bytes, hml, findClass_of_methodNamed B.named, fun w hw => hts w (List.mem_cons_of_mem _ hw), hKn, fun q hq => Nat.le_trans hR.2.2.1 hq⟩
  have C2 : Cy meth c (some .boolean) := ⟨B.returns, B.notSynchronized, hxt⟩
  have key : WG G p l e { frames := 0, cells := 0, slots := 0, locals := 0 } s m ([.ref a0, .int p1] : List Value).toArray below meth c 2 0 0 (vx_MQ below (QcT G o hs' tvI) (XCT G o hs') ([.ref a0, .int p1] : List Value).toArray s 0 0 (gA G)) hs [(0, va_rf (some a0)), (1, .int p1)] [] 0 := by
    unfold f_X9_isPlaced at h
    refine q_aload_n C 0 dX9_isPlaced_0 rfl ?_
    refine q_gR C fl_X9_53 dX9_isPlaced_1 h (fun v1 h => ?_)
    refine q_iload_n C 1 dX9_isPlaced_4 rfl ?_
    refine q_iald C dX9_isPlaced_5 h (fun v2 h => ?_)
    refine q_if_lt C 13 dX9_isPlaced_6 (by decide) h (fun h => ?_) (fun h => ?_)
    · refine q_iconst C (0 : Int32) dX9_isPlaced_13 (by decide) ?_
      exact q_zret C C2 rfl (Nat.le_of_ble_eq_true rfl) (Nat.le_of_ble_eq_true rfl) dX9_isPlaced_14 h
    · refine q_iconst C (1 : Int32) dX9_isPlaced_9 (by decide) ?_
      refine q_goto C 14 dX9_isPlaced_10 (by decide) ?_
      exact q_zret C C2 rfl (Nat.le_of_ble_eq_true rfl) (Nat.le_of_ble_eq_true rfl) dX9_isPlaced_14 h
  rw [lg_entry_eq]
  exact key _ _ _ hR va_S.rf ⟨lv_entry _ (n := 2) (Nat.le_of_ble_eq_true rfl), (c1_r (c1_i c1_n))⟩

theorem cd_X9_isPast : Cond.code yX9_isPast cX9_isPast 2 (some .boolean) ∈ Tg := Tg_of (i := 1701) (by decide +kernel) (by decide +kernel)
theorem ml_X9_118 : Cond.methodLink RX9 118 yX9_isPlaced ∈ Tg := Tg_of (i := 1649) (by decide +kernel) (by decide +kernel)
theorem lk_X9_118 : Lk RX9 118 yX9_isPlaced cX9_isPlaced 2 (some .boolean) 1 := ⟨ml_X9_118, cd_X9_isPlaced, iw_X9, by decide +kernel⟩
theorem fl_X9_90 : Fld RX9 90 12 26 .int := ⟨RX9, TX9, 28, RX9, rfl, by decide, wf_X9_90, (Or.inl rfl), gu_X9, tyX9_ok _ (by decide), ⟨tyX9, tyX9_ok⟩, nmX9⟩
theorem im_X9_isPlaced : Cond.instanceMethod yX9_isPlaced ∈ Tg := Tg_of (i := 1651) (by decide +kernel) (by decide +kernel)
theorem se_X9_X9_isPlaced : Cond.selects RX9 yX9_isPlaced yX9_isPlaced ∈ Tg := Tg_of (i := 45) (by decide +kernel) (by decide +kernel)
section M_X9_isPast
variable {p : Program} {l : Launch} {e : Env} {s : State} {m : MethodId} {args : Array Value} {below : List Frame} {meth : Method} {c : Code} {G : GG} {o : Except Nat Int32} {hs' : Hs}
end M_X9_isPast
def f_X9_isPast (a0 : Nat) (p1 : Int32) : OO Int32 :=
    rcv (some a0) 12 fun r5 => call (f_X9_isPlaced r5 p1) (fun (v1 : Int32) =>
    (if v1 = 0 then
    retZ (0 : Int32)
    else
    rcv (some a0) 12 fun r4 => call (f_X9_slotOf r4 p1) (fun (v2 : Int32) =>
    dvz (6 : Int32) (
    gI (some a0) 12 26 fun v3 =>
    (if v3 ≤ (v2 / (6 : Int32)) then
    retZ (0 : Int32)
    else
    retZ (1 : Int32)))) nox)) nox
set_option maxRecDepth 100000 in
set_option maxHeartbeats 4000000 in
theorem m_X9_isPast {G : GG} {l : Launch} {a0 : Nat} {p1 : Int32} {hs hs' : Hs} {o : Except Nat Int32} (h : f_X9_isPast a0 p1 hs = some (o, hs')) : CT G l yX9_isPast cX9_isPast 2 (some .boolean) 1 21 0 0 [.ref a0, .int p1] hs o hs' tvI := by
  refine vx_ofW (cc := cX9_isPast) (maxL := 2) (ret := (some .boolean)) (by decide +kernel) rfl ?_
  intro p e s m args below meth c s₁ B hml hxt hv
  obtain ⟨hav, hR, hKn⟩ := hv
  subst hav
  have hts := atoms_spec (ws := .code yX9_isPast cX9_isPast 2 (some .boolean) :: Tg) B.pre
  have C : Cx G l p s m _ c RX9 cX9_isPast 2 := ⟨B.exec, B.bytes, hml, findClass_of_methodNamed B.named, fun w hw => hts w (List.mem_cons_of_mem _ hw), hKn, fun q hq => Nat.le_trans hR.2.2.1 hq⟩
  have C2 : Cy meth c (some .boolean) := ⟨B.returns, B.notSynchronized, hxt⟩
  have key : WG G p l e { frames := 1, cells := 0, slots := 0, locals := 21 } s m ([.ref a0, .int p1] : List Value).toArray below meth c 2 0 0 (vx_MQ below (QcT G o hs' tvI) (XCT G o hs') ([.ref a0, .int p1] : List Value).toArray s 0 0 (gA G)) hs [(0, va_rf (some a0)), (1, .int p1)] [] 0 := by
    unfold f_X9_isPast at h
    refine q_aload_n C 0 dX9_isPast_0 rfl ?_
    refine q_iload_n C 1 dX9_isPast_1 rfl ?_
    refine q_callV C (CN := RX9) (T := TX9) (N := 28) [.int p1] [] (fun a0 o2 hs1 hm => m_X9_isPlaced hm) lk_X9_118 im_X9_isPlaced se_X9_X9_isPlaced rfl ⟨(Nat.le_of_ble_eq_true rfl), (Nat.le_of_ble_eq_true rfl)⟩ ⟨(Nat.le_of_ble_eq_true rfl), (Nat.le_of_ble_eq_true rfl)⟩ rfl rfl (by decide) dX9_isPast_2 h (fun v1 hs h => WG_st (st' := [.int v1]) rfl ?_)
    refine q_if_eq C 27 dX9_isPast_5 (by decide) h (fun h => ?_) (fun h => ?_)
    · refine q_iconst C (0 : Int32) dX9_isPast_27 (by decide) ?_
      exact q_zret C C2 rfl (Nat.le_of_ble_eq_true rfl) (Nat.le_of_ble_eq_true rfl) dX9_isPast_28 h
    · refine q_aload_n C 0 dX9_isPast_8 rfl ?_
      refine q_iload_n C 1 dX9_isPast_9 rfl ?_
      refine q_callV C (CN := RX9) (T := TX9) (N := 28) [.int p1] [] (fun a0 o2 hs1 hm => m_X9_slotOf hm) lk_X9_114 im_X9_slotOf se_X9_X9_slotOf rfl ⟨(Nat.le_of_ble_eq_true rfl), (Nat.le_of_ble_eq_true rfl)⟩ ⟨(Nat.le_of_ble_eq_true rfl), (Nat.le_of_ble_eq_true rfl)⟩ rfl rfl (by decide) dX9_isPast_10 h (fun v2 hs h => WG_st (st' := [.int v2]) rfl ?_)
      refine q_bipush C (6 : Int32) dX9_isPast_13 (by decide) ?_
      refine q_idiv C dX9_isPast_15 h (fun h => ?_)
      refine q_aload_n C 0 dX9_isPast_16 rfl ?_
      refine q_gI C fl_X9_90 dX9_isPast_17 h (fun v3 h => ?_)
      refine q_icmp_ge C 27 dX9_isPast_20 (by decide) h (fun h => ?_) (fun h => ?_)
      · refine q_iconst C (0 : Int32) dX9_isPast_27 (by decide) ?_
        exact q_zret C C2 rfl (Nat.le_of_ble_eq_true rfl) (Nat.le_of_ble_eq_true rfl) dX9_isPast_28 h
      · refine q_iconst C (1 : Int32) dX9_isPast_23 (by decide) ?_
        refine q_goto C 28 dX9_isPast_24 (by decide) ?_
        exact q_zret C C2 rfl (Nat.le_of_ble_eq_true rfl) (Nat.le_of_ble_eq_true rfl) dX9_isPast_28 h
  rw [lg_entry_eq]
  exact key _ _ _ hR va_S.rf ⟨lv_entry _ (n := 2) (Nat.le_of_ble_eq_true rfl), (c1_r (c1_i c1_n))⟩

theorem cd_X9_endFrom : Cond.code yX9_endFrom cX9_endFrom 5 (some .int) ∈ Tg := Tg_of (i := 1656) (by decide +kernel) (by decide +kernel)
section M_X9_endFrom
variable {p : Program} {l : Launch} {e : Env} {s : State} {m : MethodId} {args : Array Value} {below : List Frame} {meth : Method} {c : Code} {G : GG} {o : Except Nat Int32} {hs' : Hs}
end M_X9_endFrom
def f_X9_endFrom (a0 : Nat) (p1 : Int32) (p2 : Int32) : OO Int32 :=
    gR (some a0) 12 12 fun v1 =>
    ldI 0 v1 p1 fun v2 =>
    lets (p2 + v2) fun (v3 : Int32) =>
    dvz (6 : Int32) (
    lets (((((6 : Int32) * (p2 / (6 : Int32)))) + (6 : Int32))) fun (v4 : Int32) =>
    (if v4 ≤ v3 then
    rtn v4
    else
    rtn v3))
set_option maxRecDepth 100000 in
set_option maxHeartbeats 4000000 in
theorem m_X9_endFrom {G : GG} {l : Launch} {a0 : Nat} {p1 : Int32} {p2 : Int32} {hs hs' : Hs} {o : Except Nat Int32} (h : f_X9_endFrom a0 p1 p2 hs = some (o, hs')) : CT G l yX9_endFrom cX9_endFrom 5 (some .int) 0 0 0 0 [.ref a0, .int p1, .int p2] hs o hs' tvI := by
  refine vx_ofW (cc := cX9_endFrom) (maxL := 5) (ret := (some .int)) (by decide +kernel) rfl ?_
  intro p e s m args below meth c s₁ B hml hxt hv
  obtain ⟨hav, hR, hKn⟩ := hv
  subst hav
  have hts := atoms_spec (ws := .code yX9_endFrom cX9_endFrom 5 (some .int) :: Tg) B.pre
  have C : Cx G l p s m _ c RX9 cX9_endFrom 5 := ⟨B.exec, B.bytes, hml, findClass_of_methodNamed B.named, fun w hw => hts w (List.mem_cons_of_mem _ hw), hKn, fun q hq => Nat.le_trans hR.2.2.1 hq⟩
  have C2 : Cy meth c (some .int) := ⟨B.returns, B.notSynchronized, hxt⟩
  have key : WG G p l e { frames := 0, cells := 0, slots := 0, locals := 0 } s m ([.ref a0, .int p1, .int p2] : List Value).toArray below meth c 5 0 0 (vx_MQ below (QcT G o hs' tvI) (XCT G o hs') ([.ref a0, .int p1, .int p2] : List Value).toArray s 0 0 (gA G)) hs [(0, va_rf (some a0)), (1, .int p1), (2, .int p2)] [] 0 := by
    unfold f_X9_endFrom at h
    refine q_iload_n C 2 dX9_endFrom_0 rfl ?_
    refine q_aload_n C 0 dX9_endFrom_1 rfl ?_
    refine q_gR C fl_X9_47 dX9_endFrom_2 h (fun v1 h => ?_)
    refine q_iload_n C 1 dX9_endFrom_5 rfl ?_
    refine q_iald C dX9_endFrom_6 h (fun v2 h => ?_)
    refine q_iadd C dX9_endFrom_7 ?_
    refine q_istore_n C (fun v3 => [(3, .int v3), (0, va_rf (some a0)), (1, .int p1), (2, .int p2)]) dX9_endFrom_8 (by decide) (fun _ => rfl) h (fun v3 h => ?_)
    refine q_bipush C (6 : Int32) dX9_endFrom_9 (by decide) ?_
    refine q_iload_n C 3 dX9_endFrom_11 rfl ?_
    refine q_bipush C (6 : Int32) dX9_endFrom_12 (by decide) ?_
    refine q_idiv C dX9_endFrom_14 h (fun h => ?_)
    refine q_imul C dX9_endFrom_15 ?_
    refine q_bipush C (6 : Int32) dX9_endFrom_16 (by decide) ?_
    refine q_iadd C dX9_endFrom_18 ?_
    refine q_istore C (fun v4 => [(4, .int v4), (3, .int v3), (0, va_rf (some a0)), (1, .int p1), (2, .int p2)]) dX9_endFrom_19 (by decide) (fun _ => rfl) h (fun v4 h => ?_)
    refine q_iload_n C 1 dX9_endFrom_21 rfl ?_
    refine q_iload C 0 dX9_endFrom_22 rfl ?_
    refine q_icmp_ge C 31 dX9_endFrom_24 (by decide) h (fun h => ?_) (fun h => ?_)
    · refine q_iload C 0 dX9_endFrom_31 rfl ?_
      exact q_iret C C2 rfl (Nat.le_of_ble_eq_true rfl) (Nat.le_of_ble_eq_true rfl) dX9_endFrom_33 h
    · refine q_iload_n C 1 dX9_endFrom_27 rfl ?_
      refine q_goto C 33 dX9_endFrom_28 (by decide) ?_
      exact q_iret C C2 rfl (Nat.le_of_ble_eq_true rfl) (Nat.le_of_ble_eq_true rfl) dX9_endFrom_33 h
  rw [lg_entry_eq]
  exact key _ _ _ hR va_S.rf ⟨lv_entry _ (n := 5) (Nat.le_of_ble_eq_true rfl), (c1_r (c1_i (c1_i c1_n)))⟩

theorem cd_X9_meets : Cond.code yX9_meets cX9_meets 4 (some .boolean) ∈ Tg := Tg_of (i := 1660) (by decide +kernel) (by decide +kernel)
theorem ml_X9_121 : Cond.methodLink RX9 121 yX9_endOf ∈ Tg := Tg_of (i := 1665) (by decide +kernel) (by decide +kernel)
theorem lk_X9_121 : Lk RX9 121 yX9_endOf cX9_endOf 2 (some .int) 1 := ⟨ml_X9_121, cd_X9_endOf, iw_X9, by decide +kernel⟩
theorem im_X9_endOf : Cond.instanceMethod yX9_endOf ∈ Tg := Tg_of (i := 1667) (by decide +kernel) (by decide +kernel)
theorem se_X9_X9_endOf : Cond.selects RX9 yX9_endOf yX9_endOf ∈ Tg := Tg_of (i := 49) (by decide +kernel) (by decide +kernel)
section M_X9_meets
variable {p : Program} {l : Launch} {e : Env} {s : State} {m : MethodId} {args : Array Value} {below : List Frame} {meth : Method} {c : Code} {G : GG} {o : Except Nat Int32} {hs' : Hs}
end M_X9_meets
def f_X9_meets (a0 : Nat) (p1 : Int32) (p2 : Int32) (p3 : Int32) : OO Int32 :=
    rcv (some a0) 12 fun r4 => call (f_X9_slotOf r4 p1) (fun (v1 : Int32) =>
    (if p3 ≤ v1 then
    retZ (0 : Int32)
    else
    rcv (some a0) 12 fun r3 => call (f_X9_endOf r3 p1) (fun (v2 : Int32) =>
    (if v2 ≤ p2 then
    retZ (0 : Int32)
    else
    retZ (1 : Int32))) nox)) nox
set_option maxRecDepth 100000 in
set_option maxHeartbeats 4000000 in
theorem m_X9_meets {G : GG} {l : Launch} {a0 : Nat} {p1 : Int32} {p2 : Int32} {p3 : Int32} {hs hs' : Hs} {o : Except Nat Int32} (h : f_X9_meets a0 p1 p2 p3 hs = some (o, hs')) : CT G l yX9_meets cX9_meets 4 (some .boolean) 2 42 0 0 [.ref a0, .int p1, .int p2, .int p3] hs o hs' tvI := by
  refine vx_ofW (cc := cX9_meets) (maxL := 4) (ret := (some .boolean)) (by decide +kernel) rfl ?_
  intro p e s m args below meth c s₁ B hml hxt hv
  obtain ⟨hav, hR, hKn⟩ := hv
  subst hav
  have hts := atoms_spec (ws := .code yX9_meets cX9_meets 4 (some .boolean) :: Tg) B.pre
  have C : Cx G l p s m _ c RX9 cX9_meets 4 := ⟨B.exec, B.bytes, hml, findClass_of_methodNamed B.named, fun w hw => hts w (List.mem_cons_of_mem _ hw), hKn, fun q hq => Nat.le_trans hR.2.2.1 hq⟩
  have C2 : Cy meth c (some .boolean) := ⟨B.returns, B.notSynchronized, hxt⟩
  have key : WG G p l e { frames := 2, cells := 0, slots := 0, locals := 42 } s m ([.ref a0, .int p1, .int p2, .int p3] : List Value).toArray below meth c 4 0 0 (vx_MQ below (QcT G o hs' tvI) (XCT G o hs') ([.ref a0, .int p1, .int p2, .int p3] : List Value).toArray s 0 0 (gA G)) hs [(0, va_rf (some a0)), (1, .int p1), (2, .int p2), (3, .int p3)] [] 0 := by
    unfold f_X9_meets at h
    refine q_aload_n C 0 dX9_meets_0 rfl ?_
    refine q_iload_n C 1 dX9_meets_1 rfl ?_
    refine q_callV C (CN := RX9) (T := TX9) (N := 28) [.int p1] [] (fun a0 o2 hs1 hm => m_X9_slotOf hm) lk_X9_114 im_X9_slotOf se_X9_X9_slotOf rfl ⟨(Nat.le_of_ble_eq_true rfl), (Nat.le_of_ble_eq_true rfl)⟩ ⟨(Nat.le_of_ble_eq_true rfl), (Nat.le_of_ble_eq_true rfl)⟩ rfl rfl (by decide) dX9_meets_2 h (fun v1 hs h => WG_st (st' := [.int v1]) rfl ?_)
    refine q_iload_n C 3 dX9_meets_5 rfl ?_
    refine q_icmp_ge C 22 dX9_meets_6 (by decide) h (fun h => ?_) (fun h => ?_)
    · refine q_iconst C (0 : Int32) dX9_meets_22 (by decide) ?_
      exact q_zret C C2 rfl (Nat.le_of_ble_eq_true rfl) (Nat.le_of_ble_eq_true rfl) dX9_meets_23 h
    · refine q_iload_n C 2 dX9_meets_9 rfl ?_
      refine q_aload_n C 0 dX9_meets_10 rfl ?_
      refine q_iload_n C 1 dX9_meets_11 rfl ?_
      refine q_callV C (CN := RX9) (T := TX9) (N := 28) [.int p1] [.int p2] (fun a0 o2 hs1 hm => m_X9_endOf hm) lk_X9_121 im_X9_endOf se_X9_X9_endOf rfl ⟨(Nat.le_of_ble_eq_true rfl), (Nat.le_of_ble_eq_true rfl)⟩ ⟨(Nat.le_of_ble_eq_true rfl), (Nat.le_of_ble_eq_true rfl)⟩ rfl rfl (by simp only [List.map, cat_rf, cat_i, cat_a]; decide) dX9_meets_12 h (fun v2 hs h => WG_st (st' := [.int v2, .int p2]) rfl ?_)
      refine q_icmp_ge C 22 dX9_meets_15 (by decide) h (fun h => ?_) (fun h => ?_)
      · refine q_iconst C (0 : Int32) dX9_meets_22 (by decide) ?_
        exact q_zret C C2 rfl (Nat.le_of_ble_eq_true rfl) (Nat.le_of_ble_eq_true rfl) dX9_meets_23 h
      · refine q_iconst C (1 : Int32) dX9_meets_18 (by decide) ?_
        refine q_goto C 23 dX9_meets_19 (by decide) ?_
        exact q_zret C C2 rfl (Nat.le_of_ble_eq_true rfl) (Nat.le_of_ble_eq_true rfl) dX9_meets_23 h
  rw [lg_entry_eq]
  exact key _ _ _ hR va_S.rf ⟨lv_entry _ (n := 4) (Nat.le_of_ble_eq_true rfl), (c1_r (c1_i (c1_i (c1_i c1_n))))⟩

theorem cd_X9_touches : Cond.code yX9_touches cX9_touches 4 (some .boolean) ∈ Tg := Tg_of (i := 1672) (by decide +kernel) (by decide +kernel)
section M_X9_touches
variable {p : Program} {l : Launch} {e : Env} {s : State} {m : MethodId} {args : Array Value} {below : List Frame} {meth : Method} {c : Code} {G : GG} {o : Except Nat Int32} {hs' : Hs}
def j_X9_touches_35    : OO Int32 :=
  retZ (1 : Int32)
set_option maxRecDepth 100000 in
set_option maxHeartbeats 4000000 in
theorem w_j_X9_touches_35 (C : Cx G l p s m args c RX9 cX9_touches 4) (C2 : Cy meth c (some .boolean)) {hs : Hs}     (h : j_X9_touches_35 hs = some (o, hs')) : WG G p l e { frames := 2, cells := 0, slots := 0, locals := 42 } s m args below meth c 4 0 0 (vx_MQ below (QcT G o hs' tvI) (XCT G o hs') args s 0 0 (gA G)) hs [] [] 35 := by
  unfold j_X9_touches_35 at h
  refine q_iconst C (1 : Int32) dX9_touches_35 (by decide) ?_
  refine q_goto C 40 dX9_touches_36 (by decide) ?_
  exact q_zret C C2 rfl (Nat.le_of_ble_eq_true rfl) (Nat.le_of_ble_eq_true rfl) dX9_touches_40 h
end M_X9_touches
def f_X9_touches (a0 : Nat) (p1 : Int32) (p2 : Int32) (p3 : Int32) : OO Int32 :=
    rcv (some a0) 12 fun r6 => call (f_X9_slotOf r6 p1) (fun (v1 : Int32) =>
    dvz (6 : Int32) (
    dvz (6 : Int32) (
    (if (v1 / (6 : Int32)) = (p2 / (6 : Int32)) then
    rcv (some a0) 12 fun r5 => call (f_X9_endOf r5 p1) (fun (v2 : Int32) =>
    (if v2 = p2 then
    j_X9_touches_35
    else
    rcv (some a0) 12 fun r4 => call (f_X9_slotOf r4 p1) (fun (v3 : Int32) =>
    (if ¬ v3 = p3 then
    retZ (0 : Int32)
    else
    j_X9_touches_35)) nox)) nox
    else
    retZ (0 : Int32))))) nox
set_option maxRecDepth 100000 in
set_option maxHeartbeats 4000000 in
theorem m_X9_touches {G : GG} {l : Launch} {a0 : Nat} {p1 : Int32} {p2 : Int32} {p3 : Int32} {hs hs' : Hs} {o : Except Nat Int32} (h : f_X9_touches a0 p1 p2 p3 hs = some (o, hs')) : CT G l yX9_touches cX9_touches 4 (some .boolean) 2 42 0 0 [.ref a0, .int p1, .int p2, .int p3] hs o hs' tvI := by
  refine vx_ofW (cc := cX9_touches) (maxL := 4) (ret := (some .boolean)) (by decide +kernel) rfl ?_
  intro p e s m args below meth c s₁ B hml hxt hv
  obtain ⟨hav, hR, hKn⟩ := hv
  subst hav
  have hts := atoms_spec (ws := .code yX9_touches cX9_touches 4 (some .boolean) :: Tg) B.pre
  have C : Cx G l p s m _ c RX9 cX9_touches 4 := ⟨B.exec, B.bytes, hml, findClass_of_methodNamed B.named, fun w hw => hts w (List.mem_cons_of_mem _ hw), hKn, fun q hq => Nat.le_trans hR.2.2.1 hq⟩
  have C2 : Cy meth c (some .boolean) := ⟨B.returns, B.notSynchronized, hxt⟩
  have key : WG G p l e { frames := 2, cells := 0, slots := 0, locals := 42 } s m ([.ref a0, .int p1, .int p2, .int p3] : List Value).toArray below meth c 4 0 0 (vx_MQ below (QcT G o hs' tvI) (XCT G o hs') ([.ref a0, .int p1, .int p2, .int p3] : List Value).toArray s 0 0 (gA G)) hs [(0, va_rf (some a0)), (1, .int p1), (2, .int p2), (3, .int p3)] [] 0 := by
    unfold f_X9_touches at h
    refine q_aload_n C 0 dX9_touches_0 rfl ?_
    refine q_iload_n C 1 dX9_touches_1 rfl ?_
    refine q_callV C (CN := RX9) (T := TX9) (N := 28) [.int p1] [] (fun a0 o2 hs1 hm => m_X9_slotOf hm) lk_X9_114 im_X9_slotOf se_X9_X9_slotOf rfl ⟨(Nat.le_of_ble_eq_true rfl), (Nat.le_of_ble_eq_true rfl)⟩ ⟨(Nat.le_of_ble_eq_true rfl), (Nat.le_of_ble_eq_true rfl)⟩ rfl rfl (by decide) dX9_touches_2 h (fun v1 hs h => WG_st (st' := [.int v1]) rfl ?_)
    refine q_bipush C (6 : Int32) dX9_touches_5 (by decide) ?_
    refine q_idiv C dX9_touches_7 h (fun h => ?_)
    refine q_iload_n C 2 dX9_touches_8 rfl ?_
    refine q_bipush C (6 : Int32) dX9_touches_9 (by decide) ?_
    refine q_idiv C dX9_touches_11 h (fun h => ?_)
    refine q_icmp_eq C 17 dX9_touches_12 (by decide) h (fun h => ?_) (fun h => ?_)
    · refine q_aload_n C 0 dX9_touches_17 rfl ?_
      refine q_iload_n C 1 dX9_touches_18 rfl ?_
      refine q_callV C (CN := RX9) (T := TX9) (N := 28) [.int p1] [] (fun a0 o2 hs1 hm => m_X9_endOf hm) lk_X9_121 im_X9_endOf se_X9_X9_endOf rfl ⟨(Nat.le_of_ble_eq_true rfl), (Nat.le_of_ble_eq_true rfl)⟩ ⟨(Nat.le_of_ble_eq_true rfl), (Nat.le_of_ble_eq_true rfl)⟩ rfl rfl (by decide) dX9_touches_19 h (fun v2 hs h => WG_st (st' := [.int v2]) rfl ?_)
      refine q_iload_n C 2 dX9_touches_22 rfl ?_
      refine q_icmp_eq C 35 dX9_touches_23 (by decide) h (fun h => ?_) (fun h => ?_)
      · refine WG.sub [] rfl ?_
        exact w_j_X9_touches_35 C C2    h
      · refine q_aload_n C 0 dX9_touches_26 rfl ?_
        refine q_iload_n C 1 dX9_touches_27 rfl ?_
        refine q_callV C (CN := RX9) (T := TX9) (N := 28) [.int p1] [] (fun a0 o2 hs1 hm => m_X9_slotOf hm) lk_X9_114 im_X9_slotOf se_X9_X9_slotOf rfl ⟨(Nat.le_of_ble_eq_true rfl), (Nat.le_of_ble_eq_true rfl)⟩ ⟨(Nat.le_of_ble_eq_true rfl), (Nat.le_of_ble_eq_true rfl)⟩ rfl rfl (by decide) dX9_touches_28 h (fun v3 hs h => WG_st (st' := [.int v3]) rfl ?_)
        refine q_iload_n C 3 dX9_touches_31 rfl ?_
        refine q_icmp_ne C 39 dX9_touches_32 (by decide) h (fun h => ?_) (fun h => ?_)
        · refine q_iconst C (0 : Int32) dX9_touches_39 (by decide) ?_
          exact q_zret C C2 rfl (Nat.le_of_ble_eq_true rfl) (Nat.le_of_ble_eq_true rfl) dX9_touches_40 h
        · refine WG.sub [] rfl ?_
          exact w_j_X9_touches_35 C C2    h
    · refine q_iconst C (0 : Int32) dX9_touches_15 (by decide) ?_
      exact q_zret C C2 rfl (Nat.le_of_ble_eq_true rfl) (Nat.le_of_ble_eq_true rfl) dX9_touches_16 h
  rw [lg_entry_eq]
  exact key _ _ _ hR va_S.rf ⟨lv_entry _ (n := 4) (Nat.le_of_ble_eq_true rfl), (c1_r (c1_i (c1_i (c1_i c1_n))))⟩

theorem cd_X9_lettersBy : Cond.code yX9_lettersBy cX9_lettersBy 9 (some .int) ∈ Tg := Tg_of (i := 1648) (by decide +kernel) (by decide +kernel)
theorem ml_X9_124 : Cond.methodLink RX9 124 yX9_endFrom ∈ Tg := Tg_of (i := 1653) (by decide +kernel) (by decide +kernel)
theorem lk_X9_124 : Lk RX9 124 yX9_endFrom cX9_endFrom 5 (some .int) 2 := ⟨ml_X9_124, cd_X9_endFrom, iw_X9, by decide +kernel⟩
theorem ml_X9_128 : Cond.methodLink RX9 128 yX9_meets ∈ Tg := Tg_of (i := 1657) (by decide +kernel) (by decide +kernel)
theorem lk_X9_128 : Lk RX9 128 yX9_meets cX9_meets 4 (some .boolean) 3 := ⟨ml_X9_128, cd_X9_meets, iw_X9, by decide +kernel⟩
theorem ml_X9_131 : Cond.methodLink RX9 131 yX9_touches ∈ Tg := Tg_of (i := 1669) (by decide +kernel) (by decide +kernel)
theorem lk_X9_131 : Lk RX9 131 yX9_touches cX9_touches 4 (some .boolean) 3 := ⟨ml_X9_131, cd_X9_touches, iw_X9, by decide +kernel⟩
theorem im_X9_touches : Cond.instanceMethod yX9_touches ∈ Tg := Tg_of (i := 1671) (by decide +kernel) (by decide +kernel)
theorem se_X9_X9_touches : Cond.selects RX9 yX9_touches yX9_touches ∈ Tg := Tg_of (i := 50) (by decide +kernel) (by decide +kernel)
theorem im_X9_meets : Cond.instanceMethod yX9_meets ∈ Tg := Tg_of (i := 1659) (by decide +kernel) (by decide +kernel)
theorem se_X9_X9_meets : Cond.selects RX9 yX9_meets yX9_meets ∈ Tg := Tg_of (i := 47) (by decide +kernel) (by decide +kernel)
theorem im_X9_endFrom : Cond.instanceMethod yX9_endFrom ∈ Tg := Tg_of (i := 1655) (by decide +kernel) (by decide +kernel)
theorem se_X9_X9_endFrom : Cond.selects RX9 yX9_endFrom yX9_endFrom ∈ Tg := Tg_of (i := 46) (by decide +kernel) (by decide +kernel)
section M_X9_lettersBy
variable {p : Program} {l : Launch} {e : Env} {s : State} {m : MethodId} {args : Array Value} {below : List Frame} {meth : Method} {c : Code} {G : GG} {o : Except Nat Int32} {hs' : Hs}
def j_X9_lettersBy_158 (a0 : Option Nat) (a1 : Int32) (a3 : Int32) (a4 : Int32) (a5 : Int32) (a7 : Int32) (s0 : Int32) (s1 : Int32)  : OO Int32 :=
  lets (s1 + s0) fun (v13 : Int32) =>
    (if a7 = 0 then
    rtn (v13 + (0 : Int32))
    else
    gR a0 12 0 fun v14 =>
    gR a0 12 14 fun v15 =>
    ldI 0 v15 a1 fun v16 =>
    dvz (8 : Int32) (
    ldI 0 v14 (irem v16 (8 : Int32)) fun v17 =>
    gR a0 12 0 fun v18 =>
    ldI 0 v18 a4 fun v19 =>
    (if v17 = v19 then
    rtn (v13 + (0 : Int32))
    else
    rcv a0 12 fun r21 => call (f_X9_touches r21 a1 a3 a5) (fun (v20 : Int32) =>
    (if v20 = 0 then
    rtn (v13 + (0 : Int32))
    else
    rtn (v13 + (512 : Int32)))) nox)))
set_option maxRecDepth 100000 in
set_option maxHeartbeats 4000000 in
theorem w_j_X9_lettersBy_158 (C : Cx G l p s m args c RX9 cX9_lettersBy 9) (C2 : Cy meth c (some .int)) {hs : Hs} (a0 : Option Nat) (a1 : Int32) (a3 : Int32) (a4 : Int32) (a5 : Int32) (a7 : Int32) (s0 : Int32) (s1 : Int32)   (h : j_X9_lettersBy_158 a0 a1 a3 a4 a5 a7 s0 s1 hs = some (o, hs')) : WG G p l e { frames := 3, cells := 0, slots := 0, locals := 65 } s m args below meth c 9 0 0 (vx_MQ below (QcT G o hs' tvI) (XCT G o hs') args s 0 0 (gA G)) hs [(0, va_rf a0), (1, .int a1), (3, .int a3), (4, .int a4), (5, .int a5), (7, .int a7)] [.int s0, .int s1] 158 := by
  unfold j_X9_lettersBy_158 at h
  refine q_iadd C dX9_lettersBy_158 ?_
  refine q_istore C (fun v13 => [(8, .int v13), (0, va_rf a0), (1, .int a1), (3, .int a3), (4, .int a4), (5, .int a5), (7, .int a7)]) dX9_lettersBy_159 (by decide) (fun _ => rfl) h (fun v13 h => ?_)
  refine q_iload C 0 dX9_lettersBy_161 rfl ?_
  refine q_iload C 6 dX9_lettersBy_163 rfl ?_
  refine q_if_eq C 209 dX9_lettersBy_165 (by decide) h (fun h => ?_) (fun h => ?_)
  · refine q_iconst C (0 : Int32) dX9_lettersBy_209 (by decide) ?_
    refine q_iadd C dX9_lettersBy_210 ?_
    exact q_iret C C2 rfl (Nat.le_of_ble_eq_true rfl) (Nat.le_of_ble_eq_true rfl) dX9_lettersBy_211 h
  · refine q_aload_n C 1 dX9_lettersBy_168 rfl ?_
    refine q_gR C fl_X9_7 dX9_lettersBy_169 h (fun v14 h => ?_)
    refine q_aload_n C 1 dX9_lettersBy_172 rfl ?_
    refine q_gR C fl_X9_53 dX9_lettersBy_173 h (fun v15 h => ?_)
    refine q_iload_n C 2 dX9_lettersBy_176 rfl ?_
    refine q_iald C dX9_lettersBy_177 h (fun v16 h => ?_)
    refine q_bipush C (8 : Int32) dX9_lettersBy_178 (by decide) ?_
    refine q_irem C dX9_lettersBy_180 h (fun h => ?_)
    refine q_iald C dX9_lettersBy_181 h (fun v17 h => ?_)
    refine q_aload_n C 1 dX9_lettersBy_182 rfl ?_
    refine q_gR C fl_X9_7 dX9_lettersBy_183 h (fun v18 h => ?_)
    refine q_iload C 4 dX9_lettersBy_186 rfl ?_
    refine q_iald C dX9_lettersBy_188 h (fun v19 h => ?_)
    refine q_icmp_eq C 209 dX9_lettersBy_189 (by decide) h (fun h => ?_) (fun h => ?_)
    · refine q_iconst C (0 : Int32) dX9_lettersBy_209 (by decide) ?_
      refine q_iadd C dX9_lettersBy_210 ?_
      exact q_iret C C2 rfl (Nat.le_of_ble_eq_true rfl) (Nat.le_of_ble_eq_true rfl) dX9_lettersBy_211 h
    · refine q_aload_n C 1 dX9_lettersBy_192 rfl ?_
      refine q_iload_n C 2 dX9_lettersBy_193 rfl ?_
      refine q_iload_n C 3 dX9_lettersBy_194 rfl ?_
      refine q_iload C 5 dX9_lettersBy_195 rfl ?_
      refine q_callV C (CN := RX9) (T := TX9) (N := 28) [.int a1, .int a3, .int a5] [.int v13] (fun a0 o2 hs1 hm => m_X9_touches hm) lk_X9_131 im_X9_touches se_X9_X9_touches rfl ⟨(Nat.le_of_ble_eq_true rfl), (Nat.le_of_ble_eq_true rfl)⟩ ⟨(Nat.le_of_ble_eq_true rfl), (Nat.le_of_ble_eq_true rfl)⟩ rfl rfl (by simp only [List.map, cat_rf, cat_i, cat_a]; decide) dX9_lettersBy_197 h (fun v20 hs h => WG_st (st' := [.int v20, .int v13]) rfl ?_)
      refine q_if_eq C 209 dX9_lettersBy_200 (by decide) h (fun h => ?_) (fun h => ?_)
      · refine q_iconst C (0 : Int32) dX9_lettersBy_209 (by decide) ?_
        refine q_iadd C dX9_lettersBy_210 ?_
        exact q_iret C C2 rfl (Nat.le_of_ble_eq_true rfl) (Nat.le_of_ble_eq_true rfl) dX9_lettersBy_211 h
      · refine q_sipush C (512 : Int32) dX9_lettersBy_203 (by decide) ?_
        refine q_goto C 210 dX9_lettersBy_206 (by decide) ?_
        refine q_iadd C dX9_lettersBy_210 ?_
        exact q_iret C C2 rfl (Nat.le_of_ble_eq_true rfl) (Nat.le_of_ble_eq_true rfl) dX9_lettersBy_211 h
def j_X9_lettersBy_157 (a0 : Option Nat) (a1 : Int32) (a3 : Int32) (a4 : Int32) (a5 : Int32) (a7 : Int32) (s0 : Int32)  : OO Int32 :=
  j_X9_lettersBy_158 a0 a1 a3 a4 a5 a7 (0 : Int32) s0
set_option maxRecDepth 100000 in
set_option maxHeartbeats 4000000 in
theorem w_j_X9_lettersBy_157 (C : Cx G l p s m args c RX9 cX9_lettersBy 9) (C2 : Cy meth c (some .int)) {hs : Hs} (a0 : Option Nat) (a1 : Int32) (a3 : Int32) (a4 : Int32) (a5 : Int32) (a7 : Int32) (s0 : Int32)   (h : j_X9_lettersBy_157 a0 a1 a3 a4 a5 a7 s0 hs = some (o, hs')) : WG G p l e { frames := 3, cells := 0, slots := 0, locals := 65 } s m args below meth c 9 0 0 (vx_MQ below (QcT G o hs' tvI) (XCT G o hs') args s 0 0 (gA G)) hs [(0, va_rf a0), (1, .int a1), (3, .int a3), (4, .int a4), (5, .int a5), (7, .int a7)] [.int s0] 157 := by
  unfold j_X9_lettersBy_157 at h
  refine q_iconst C (0 : Int32) dX9_lettersBy_157 (by decide) ?_
  exact w_j_X9_lettersBy_158 C C2 _ _ _ _ _ _ _ _   h
def j_X9_lettersBy_126 (a0 : Option Nat) (a1 : Int32) (a2 : Int32) (a3 : Int32) (a4 : Int32) (a5 : Int32) (a6 : Int32) (a7 : Int32) (s0 : Int32) (s1 : Int32)  : OO Int32 :=
  lets (s1 + s0) fun (v12 : Int32) =>
    (if a6 = 0 then
    j_X9_lettersBy_157 a0 a1 a3 a4 a5 a7 v12
    else
    gR a0 12 9 fun v22 =>
    ldI 0 v22 a1 fun v23 =>
    gR a0 12 9 fun v24 =>
    ldI 0 v24 a2 fun v25 =>
    (if ¬ v23 = v25 then
    j_X9_lettersBy_157 a0 a1 a3 a4 a5 a7 v12
    else
    j_X9_lettersBy_158 a0 a1 a3 a4 a5 a7 (256 : Int32) v12))
set_option maxRecDepth 100000 in
set_option maxHeartbeats 4000000 in
theorem w_j_X9_lettersBy_126 (C : Cx G l p s m args c RX9 cX9_lettersBy 9) (C2 : Cy meth c (some .int)) {hs : Hs} (a0 : Option Nat) (a1 : Int32) (a2 : Int32) (a3 : Int32) (a4 : Int32) (a5 : Int32) (a6 : Int32) (a7 : Int32) (s0 : Int32) (s1 : Int32)   (h : j_X9_lettersBy_126 a0 a1 a2 a3 a4 a5 a6 a7 s0 s1 hs = some (o, hs')) : WG G p l e { frames := 3, cells := 0, slots := 0, locals := 65 } s m args below meth c 9 0 0 (vx_MQ below (QcT G o hs' tvI) (XCT G o hs') args s 0 0 (gA G)) hs [(0, va_rf a0), (1, .int a1), (2, .int a2), (3, .int a3), (4, .int a4), (5, .int a5), (6, .int a6), (7, .int a7)] [.int s0, .int s1] 126 := by
  unfold j_X9_lettersBy_126 at h
  refine q_iadd C dX9_lettersBy_126 ?_
  refine q_istore C (fun v12 => [(8, .int v12), (0, va_rf a0), (1, .int a1), (2, .int a2), (3, .int a3), (4, .int a4), (5, .int a5), (6, .int a6), (7, .int a7)]) dX9_lettersBy_127 (by decide) (fun _ => rfl) h (fun v12 h => ?_)
  refine q_iload C 0 dX9_lettersBy_129 rfl ?_
  refine q_iload C 7 dX9_lettersBy_131 rfl ?_
  refine q_if_eq C 157 dX9_lettersBy_133 (by decide) h (fun h => ?_) (fun h => ?_)
  · refine WG.sub [1, 2, 4, 5, 6, 8] rfl ?_
    exact w_j_X9_lettersBy_157 C C2 _ _ _ _ _ _ _   h
  · refine q_aload_n C 1 dX9_lettersBy_136 rfl ?_
    refine q_gR C fl_X9_38 dX9_lettersBy_137 h (fun v22 h => ?_)
    refine q_iload_n C 2 dX9_lettersBy_140 rfl ?_
    refine q_iald C dX9_lettersBy_141 h (fun v23 h => ?_)
    refine q_aload_n C 1 dX9_lettersBy_142 rfl ?_
    refine q_gR C fl_X9_38 dX9_lettersBy_143 h (fun v24 h => ?_)
    refine q_iload_n C 3 dX9_lettersBy_146 rfl ?_
    refine q_iald C dX9_lettersBy_147 h (fun v25 h => ?_)
    refine q_icmp_ne C 157 dX9_lettersBy_148 (by decide) h (fun h => ?_) (fun h => ?_)
    · refine WG.sub [1, 2, 4, 5, 6, 8] rfl ?_
      exact w_j_X9_lettersBy_157 C C2 _ _ _ _ _ _ _   h
    · refine q_sipush C (256 : Int32) dX9_lettersBy_151 (by decide) ?_
      refine q_goto C 158 dX9_lettersBy_154 (by decide) ?_
      refine WG.sub [1, 2, 4, 5, 6, 8] rfl ?_
      exact w_j_X9_lettersBy_158 C C2 _ _ _ _ _ _ _ _   h
def j_X9_lettersBy_125 (a0 : Option Nat) (a1 : Int32) (a2 : Int32) (a3 : Int32) (a4 : Int32) (a5 : Int32) (a6 : Int32) (a7 : Int32) (s0 : Int32)  : OO Int32 :=
  j_X9_lettersBy_126 a0 a1 a2 a3 a4 a5 a6 a7 (0 : Int32) s0
set_option maxRecDepth 100000 in
set_option maxHeartbeats 4000000 in
theorem w_j_X9_lettersBy_125 (C : Cx G l p s m args c RX9 cX9_lettersBy 9) (C2 : Cy meth c (some .int)) {hs : Hs} (a0 : Option Nat) (a1 : Int32) (a2 : Int32) (a3 : Int32) (a4 : Int32) (a5 : Int32) (a6 : Int32) (a7 : Int32) (s0 : Int32)   (h : j_X9_lettersBy_125 a0 a1 a2 a3 a4 a5 a6 a7 s0 hs = some (o, hs')) : WG G p l e { frames := 3, cells := 0, slots := 0, locals := 65 } s m args below meth c 9 0 0 (vx_MQ below (QcT G o hs' tvI) (XCT G o hs') args s 0 0 (gA G)) hs [(0, va_rf a0), (1, .int a1), (2, .int a2), (3, .int a3), (4, .int a4), (5, .int a5), (6, .int a6), (7, .int a7)] [.int s0] 125 := by
  unfold j_X9_lettersBy_125 at h
  refine q_iconst C (0 : Int32) dX9_lettersBy_125 (by decide) ?_
  exact w_j_X9_lettersBy_126 C C2 _ _ _ _ _ _ _ _ _ _   h
def j_X9_lettersBy_95 (a0 : Option Nat) (a1 : Int32) (a2 : Int32) (a3 : Int32) (a4 : Int32) (a5 : Int32) (a6 : Int32) (a7 : Int32) (s0 : Int32)  : OO Int32 :=
  lets s0 fun (v11 : Int32) =>
    (if a6 = 0 then
    j_X9_lettersBy_125 a0 a1 a2 a3 a4 a5 a6 a7 v11
    else
    gR a0 12 10 fun v26 =>
    ldI 0 v26 a1 fun v27 =>
    gR a0 12 10 fun v28 =>
    ldI 0 v28 a2 fun v29 =>
    (if ¬ v27 = v29 then
    j_X9_lettersBy_125 a0 a1 a2 a3 a4 a5 a6 a7 v11
    else
    j_X9_lettersBy_126 a0 a1 a2 a3 a4 a5 a6 a7 (128 : Int32) v11))
set_option maxRecDepth 100000 in
set_option maxHeartbeats 4000000 in
theorem w_j_X9_lettersBy_95 (C : Cx G l p s m args c RX9 cX9_lettersBy 9) (C2 : Cy meth c (some .int)) {hs : Hs} (a0 : Option Nat) (a1 : Int32) (a2 : Int32) (a3 : Int32) (a4 : Int32) (a5 : Int32) (a6 : Int32) (a7 : Int32) (s0 : Int32)   (h : j_X9_lettersBy_95 a0 a1 a2 a3 a4 a5 a6 a7 s0 hs = some (o, hs')) : WG G p l e { frames := 3, cells := 0, slots := 0, locals := 65 } s m args below meth c 9 0 0 (vx_MQ below (QcT G o hs' tvI) (XCT G o hs') args s 0 0 (gA G)) hs [(0, va_rf a0), (1, .int a1), (2, .int a2), (3, .int a3), (4, .int a4), (5, .int a5), (6, .int a6), (7, .int a7)] [.int s0] 95 := by
  unfold j_X9_lettersBy_95 at h
  refine q_istore C (fun v11 => [(8, .int v11), (0, va_rf a0), (1, .int a1), (2, .int a2), (3, .int a3), (4, .int a4), (5, .int a5), (6, .int a6), (7, .int a7)]) dX9_lettersBy_95 (by decide) (fun _ => rfl) h (fun v11 h => ?_)
  refine q_iload C 0 dX9_lettersBy_97 rfl ?_
  refine q_iload C 7 dX9_lettersBy_99 rfl ?_
  refine q_if_eq C 125 dX9_lettersBy_101 (by decide) h (fun h => ?_) (fun h => ?_)
  · refine WG.sub [1, 2, 3, 4, 5, 6, 7, 8] rfl ?_
    exact w_j_X9_lettersBy_125 C C2 _ _ _ _ _ _ _ _ _   h
  · refine q_aload_n C 1 dX9_lettersBy_104 rfl ?_
    refine q_gR C fl_X9_41 dX9_lettersBy_105 h (fun v26 h => ?_)
    refine q_iload_n C 2 dX9_lettersBy_108 rfl ?_
    refine q_iald C dX9_lettersBy_109 h (fun v27 h => ?_)
    refine q_aload_n C 1 dX9_lettersBy_110 rfl ?_
    refine q_gR C fl_X9_41 dX9_lettersBy_111 h (fun v28 h => ?_)
    refine q_iload_n C 3 dX9_lettersBy_114 rfl ?_
    refine q_iald C dX9_lettersBy_115 h (fun v29 h => ?_)
    refine q_icmp_ne C 125 dX9_lettersBy_116 (by decide) h (fun h => ?_) (fun h => ?_)
    · refine WG.sub [1, 2, 3, 4, 5, 6, 7, 8] rfl ?_
      exact w_j_X9_lettersBy_125 C C2 _ _ _ _ _ _ _ _ _   h
    · refine q_sipush C (128 : Int32) dX9_lettersBy_119 (by decide) ?_
      refine q_goto C 126 dX9_lettersBy_122 (by decide) ?_
      refine WG.sub [1, 2, 3, 4, 5, 6, 7, 8] rfl ?_
      exact w_j_X9_lettersBy_126 C C2 _ _ _ _ _ _ _ _ _ _   h
def j_X9_lettersBy_94 (a0 : Option Nat) (a1 : Int32) (a2 : Int32) (a3 : Int32) (a4 : Int32) (a5 : Int32) (a6 : Int32) (a7 : Int32)   : OO Int32 :=
  j_X9_lettersBy_95 a0 a1 a2 a3 a4 a5 a6 a7 (0 : Int32)
set_option maxRecDepth 100000 in
set_option maxHeartbeats 4000000 in
theorem w_j_X9_lettersBy_94 (C : Cx G l p s m args c RX9 cX9_lettersBy 9) (C2 : Cy meth c (some .int)) {hs : Hs} (a0 : Option Nat) (a1 : Int32) (a2 : Int32) (a3 : Int32) (a4 : Int32) (a5 : Int32) (a6 : Int32) (a7 : Int32)    (h : j_X9_lettersBy_94 a0 a1 a2 a3 a4 a5 a6 a7 hs = some (o, hs')) : WG G p l e { frames := 3, cells := 0, slots := 0, locals := 65 } s m args below meth c 9 0 0 (vx_MQ below (QcT G o hs' tvI) (XCT G o hs') args s 0 0 (gA G)) hs [(0, va_rf a0), (1, .int a1), (2, .int a2), (3, .int a3), (4, .int a4), (5, .int a5), (6, .int a6), (7, .int a7)] [] 94 := by
  unfold j_X9_lettersBy_94 at h
  refine q_iconst C (0 : Int32) dX9_lettersBy_94 (by decide) ?_
  exact w_j_X9_lettersBy_95 C C2 _ _ _ _ _ _ _ _ _   h
def j_X9_lettersBy_68 (a0 : Option Nat) (a1 : Int32) (a2 : Int32) (a3 : Int32) (a4 : Int32) (a5 : Int32) (a6 : Int32) (s0 : Int32)  : OO Int32 :=
  lets s0 fun (v10 : Int32) =>
    (if a6 = 0 then
    j_X9_lettersBy_94 a0 a1 a2 a3 a4 a5 a6 v10
    else
    gR a0 12 14 fun v30 =>
    ldI 0 v30 a1 fun v31 =>
    dvz (8 : Int32) (
    (if ¬ (irem v31 (8 : Int32)) = a4 then
    j_X9_lettersBy_94 a0 a1 a2 a3 a4 a5 a6 v10
    else
    j_X9_lettersBy_95 a0 a1 a2 a3 a4 a5 a6 v10 (64 : Int32))))
set_option maxRecDepth 100000 in
set_option maxHeartbeats 4000000 in
theorem w_j_X9_lettersBy_68 (C : Cx G l p s m args c RX9 cX9_lettersBy 9) (C2 : Cy meth c (some .int)) {hs : Hs} (a0 : Option Nat) (a1 : Int32) (a2 : Int32) (a3 : Int32) (a4 : Int32) (a5 : Int32) (a6 : Int32) (s0 : Int32)   (h : j_X9_lettersBy_68 a0 a1 a2 a3 a4 a5 a6 s0 hs = some (o, hs')) : WG G p l e { frames := 3, cells := 0, slots := 0, locals := 65 } s m args below meth c 9 0 0 (vx_MQ below (QcT G o hs' tvI) (XCT G o hs') args s 0 0 (gA G)) hs [(0, va_rf a0), (1, .int a1), (2, .int a2), (3, .int a3), (4, .int a4), (5, .int a5), (6, .int a6)] [.int s0] 68 := by
  unfold j_X9_lettersBy_68 at h
  refine q_istore C (fun v10 => [(7, .int v10), (0, va_rf a0), (1, .int a1), (2, .int a2), (3, .int a3), (4, .int a4), (5, .int a5), (6, .int a6)]) dX9_lettersBy_68 (by decide) (fun _ => rfl) h (fun v10 h => ?_)
  refine q_iload C 7 dX9_lettersBy_70 rfl ?_
  refine q_if_eq C 94 dX9_lettersBy_72 (by decide) h (fun h => ?_) (fun h => ?_)
  · refine WG.sub [1, 2, 3, 4, 5, 6, 7, 0] rfl ?_
    exact w_j_X9_lettersBy_94 C C2 _ _ _ _ _ _ _ _   h
  · refine q_aload_n C 1 dX9_lettersBy_75 rfl ?_
    refine q_gR C fl_X9_53 dX9_lettersBy_76 h (fun v30 h => ?_)
    refine q_iload_n C 2 dX9_lettersBy_79 rfl ?_
    refine q_iald C dX9_lettersBy_80 h (fun v31 h => ?_)
    refine q_bipush C (8 : Int32) dX9_lettersBy_81 (by decide) ?_
    refine q_irem C dX9_lettersBy_83 h (fun h => ?_)
    refine q_iload C 5 dX9_lettersBy_84 rfl ?_
    refine q_icmp_ne C 94 dX9_lettersBy_86 (by decide) h (fun h => ?_) (fun h => ?_)
    · refine WG.sub [1, 2, 3, 4, 5, 6, 7, 0] rfl ?_
      exact w_j_X9_lettersBy_94 C C2 _ _ _ _ _ _ _ _   h
    · refine q_bipush C (64 : Int32) dX9_lettersBy_89 (by decide) ?_
      refine q_goto C 95 dX9_lettersBy_91 (by decide) ?_
      refine WG.sub [1, 2, 3, 4, 5, 6, 7, 0] rfl ?_
      exact w_j_X9_lettersBy_95 C C2 _ _ _ _ _ _ _ _ _   h
def j_X9_lettersBy_63 (a0 : Option Nat) (a1 : Int32) (a2 : Int32) (a3 : Int32) (a4 : Int32) (a5 : Int32) (a6 : Int32)   : OO Int32 :=
  j_X9_lettersBy_68 a0 a1 a2 a3 a4 a5 a6 (1 : Int32)
set_option maxRecDepth 100000 in
set_option maxHeartbeats 4000000 in
theorem w_j_X9_lettersBy_63 (C : Cx G l p s m args c RX9 cX9_lettersBy 9) (C2 : Cy meth c (some .int)) {hs : Hs} (a0 : Option Nat) (a1 : Int32) (a2 : Int32) (a3 : Int32) (a4 : Int32) (a5 : Int32) (a6 : Int32)    (h : j_X9_lettersBy_63 a0 a1 a2 a3 a4 a5 a6 hs = some (o, hs')) : WG G p l e { frames := 3, cells := 0, slots := 0, locals := 65 } s m args below meth c 9 0 0 (vx_MQ below (QcT G o hs' tvI) (XCT G o hs') args s 0 0 (gA G)) hs [(0, va_rf a0), (1, .int a1), (2, .int a2), (3, .int a3), (4, .int a4), (5, .int a5), (6, .int a6)] [] 63 := by
  unfold j_X9_lettersBy_63 at h
  refine q_iconst C (1 : Int32) dX9_lettersBy_63 (by decide) ?_
  refine q_goto C 68 dX9_lettersBy_64 (by decide) ?_
  exact w_j_X9_lettersBy_68 C C2 _ _ _ _ _ _ _ _   h
end M_X9_lettersBy
def f_X9_lettersBy (a0 : Nat) (p1 : Int32) (p2 : Int32) (p3 : Int32) (p4 : Int32) : OO Int32 :=
    (if p1 = p2 then
    rtn (0 : Int32)
    else
    rcv (some a0) 12 fun r38 => call (f_X9_isPlaced r38 p1) (fun (v1 : Int32) =>
    (if ¬ v1 = 0 then
    rcv (some a0) 12 fun r37 => call (f_X9_endFrom r37 p2 p3) (fun (v2 : Int32) =>
    lets v2 fun (v3 : Int32) =>
    rcv (some a0) 12 fun r36 => call (f_X9_meets r36 p1 p3 v3) (fun (v4 : Int32) =>
    lets v4 fun (v5 : Int32) =>
    gR (some a0) 12 10 fun v6 =>
    ldI 0 v6 p1 fun v7 =>
    gR (some a0) 12 10 fun v8 =>
    ldI 0 v8 p2 fun v9 =>
    (if v7 = v9 then
    j_X9_lettersBy_63 (some a0) p1 p2 p3 p4 v3 v5
    else
    gR (some a0) 12 9 fun v32 =>
    ldI 0 v32 p1 fun v33 =>
    gR (some a0) 12 9 fun v34 =>
    ldI 0 v34 p2 fun v35 =>
    (if ¬ v33 = v35 then
    j_X9_lettersBy_68 (some a0) p1 p2 p3 p4 v3 v5 (0 : Int32)
    else
    j_X9_lettersBy_63 (some a0) p1 p2 p3 p4 v3 v5))) nox) nox
    else
    rtn (0 : Int32))) nox)
set_option maxRecDepth 100000 in
set_option maxHeartbeats 4000000 in
theorem m_X9_lettersBy {G : GG} {l : Launch} {a0 : Nat} {p1 : Int32} {p2 : Int32} {p3 : Int32} {p4 : Int32} {hs hs' : Hs} {o : Except Nat Int32} (h : f_X9_lettersBy a0 p1 p2 p3 p4 hs = some (o, hs')) : CT G l yX9_lettersBy cX9_lettersBy 9 (some .int) 3 65 0 0 [.ref a0, .int p1, .int p2, .int p3, .int p4] hs o hs' tvI := by
  refine vx_ofW (cc := cX9_lettersBy) (maxL := 9) (ret := (some .int)) (by decide +kernel) rfl ?_
  intro p e s m args below meth c s₁ B hml hxt hv
  obtain ⟨hav, hR, hKn⟩ := hv
  subst hav
  have hts := atoms_spec (ws := .code yX9_lettersBy cX9_lettersBy 9 (some .int) :: Tg) B.pre
  have C : Cx G l p s m _ c RX9 cX9_lettersBy 9 := ⟨B.exec, B.bytes, hml, findClass_of_methodNamed B.named, fun w hw => hts w (List.mem_cons_of_mem _ hw), hKn, fun q hq => Nat.le_trans hR.2.2.1 hq⟩
  have C2 : Cy meth c (some .int) := ⟨B.returns, B.notSynchronized, hxt⟩
  have key : WG G p l e { frames := 3, cells := 0, slots := 0, locals := 65 } s m ([.ref a0, .int p1, .int p2, .int p3, .int p4] : List Value).toArray below meth c 9 0 0 (vx_MQ below (QcT G o hs' tvI) (XCT G o hs') ([.ref a0, .int p1, .int p2, .int p3, .int p4] : List Value).toArray s 0 0 (gA G)) hs [(0, va_rf (some a0)), (1, .int p1), (2, .int p2), (3, .int p3), (4, .int p4)] [] 0 := by
    unfold f_X9_lettersBy at h
    refine q_iload_n C 1 dX9_lettersBy_0 rfl ?_
    refine q_iload_n C 2 dX9_lettersBy_1 rfl ?_
    refine q_icmp_eq C 13 dX9_lettersBy_2 (by decide) h (fun h => ?_) (fun h => ?_)
    · refine q_iconst C (0 : Int32) dX9_lettersBy_13 (by decide) ?_
      exact q_iret C C2 rfl (Nat.le_of_ble_eq_true rfl) (Nat.le_of_ble_eq_true rfl) dX9_lettersBy_14 h
    · refine q_aload_n C 0 dX9_lettersBy_5 rfl ?_
      refine q_iload_n C 1 dX9_lettersBy_6 rfl ?_
      refine q_callV C (CN := RX9) (T := TX9) (N := 28) [.int p1] [] (fun a0 o2 hs1 hm => m_X9_isPlaced hm) lk_X9_118 im_X9_isPlaced se_X9_X9_isPlaced rfl ⟨(Nat.le_of_ble_eq_true rfl), (Nat.le_of_ble_eq_true rfl)⟩ ⟨(Nat.le_of_ble_eq_true rfl), (Nat.le_of_ble_eq_true rfl)⟩ rfl rfl (by decide) dX9_lettersBy_7 h (fun v1 hs h => WG_st (st' := [.int v1]) rfl ?_)
      refine q_if_ne C 15 dX9_lettersBy_10 (by decide) h (fun h => ?_) (fun h => ?_)
      · refine q_aload_n C 0 dX9_lettersBy_15 rfl ?_
        refine q_iload_n C 2 dX9_lettersBy_16 rfl ?_
        refine q_iload_n C 3 dX9_lettersBy_17 rfl ?_
        refine q_callV C (CN := RX9) (T := TX9) (N := 28) [.int p2, .int p3] [] (fun a0 o2 hs1 hm => m_X9_endFrom hm) lk_X9_124 im_X9_endFrom se_X9_X9_endFrom rfl ⟨(Nat.le_of_ble_eq_true rfl), (Nat.le_of_ble_eq_true rfl)⟩ ⟨(Nat.le_of_ble_eq_true rfl), (Nat.le_of_ble_eq_true rfl)⟩ rfl rfl (by decide) dX9_lettersBy_18 h (fun v2 hs h => WG_st (st' := [.int v2]) rfl ?_)
        refine q_istore C (fun v3 => [(5, .int v3), (0, va_rf (some a0)), (1, .int p1), (2, .int p2), (3, .int p3), (4, .int p4)]) dX9_lettersBy_21 (by decide) (fun _ => rfl) h (fun v3 h => ?_)
        refine q_aload_n C 1 dX9_lettersBy_23 rfl ?_
        refine q_iload_n C 2 dX9_lettersBy_24 rfl ?_
        refine q_iload_n C 4 dX9_lettersBy_25 rfl ?_
        refine q_iload C 0 dX9_lettersBy_26 rfl ?_
        refine q_callV C (CN := RX9) (T := TX9) (N := 28) [.int p1, .int p3, .int v3] [] (fun a0 o2 hs1 hm => m_X9_meets hm) lk_X9_128 im_X9_meets se_X9_X9_meets rfl ⟨(Nat.le_of_ble_eq_true rfl), (Nat.le_of_ble_eq_true rfl)⟩ ⟨(Nat.le_of_ble_eq_true rfl), (Nat.le_of_ble_eq_true rfl)⟩ rfl rfl (by decide) dX9_lettersBy_28 h (fun v4 hs h => WG_st (st' := [.int v4]) rfl ?_)
        refine q_istore C (fun v5 => [(6, .int v5), (5, .int v3), (0, va_rf (some a0)), (1, .int p1), (2, .int p2), (3, .int p3), (4, .int p4)]) dX9_lettersBy_31 (by decide) (fun _ => rfl) h (fun v5 h => ?_)
        refine q_aload_n C 2 dX9_lettersBy_33 rfl ?_
        refine q_gR C fl_X9_41 dX9_lettersBy_34 h (fun v6 h => ?_)
        refine q_iload_n C 3 dX9_lettersBy_37 rfl ?_
        refine q_iald C dX9_lettersBy_38 h (fun v7 h => ?_)
        refine q_aload_n C 2 dX9_lettersBy_39 rfl ?_
        refine q_gR C fl_X9_41 dX9_lettersBy_40 h (fun v8 h => ?_)
        refine q_iload_n C 4 dX9_lettersBy_43 rfl ?_
        refine q_iald C dX9_lettersBy_44 h (fun v9 h => ?_)
        refine q_icmp_eq C 63 dX9_lettersBy_45 (by decide) h (fun h => ?_) (fun h => ?_)
        · refine WG.sub [2, 3, 4, 5, 6, 1, 0] rfl ?_
          exact w_j_X9_lettersBy_63 C C2 _ _ _ _ _ _ _   h
        · refine q_aload_n C 2 dX9_lettersBy_48 rfl ?_
          refine q_gR C fl_X9_38 dX9_lettersBy_49 h (fun v32 h => ?_)
          refine q_iload_n C 3 dX9_lettersBy_52 rfl ?_
          refine q_iald C dX9_lettersBy_53 h (fun v33 h => ?_)
          refine q_aload_n C 2 dX9_lettersBy_54 rfl ?_
          refine q_gR C fl_X9_38 dX9_lettersBy_55 h (fun v34 h => ?_)
          refine q_iload_n C 4 dX9_lettersBy_58 rfl ?_
          refine q_iald C dX9_lettersBy_59 h (fun v35 h => ?_)
          refine q_icmp_ne C 67 dX9_lettersBy_60 (by decide) h (fun h => ?_) (fun h => ?_)
          · refine q_iconst C (0 : Int32) dX9_lettersBy_67 (by decide) ?_
            refine WG.sub [2, 3, 4, 5, 6, 1, 0] rfl ?_
            exact w_j_X9_lettersBy_68 C C2 _ _ _ _ _ _ _ _   h
          · refine WG.sub [2, 3, 4, 5, 6, 1, 0] rfl ?_
            exact w_j_X9_lettersBy_63 C C2 _ _ _ _ _ _ _   h
      · refine q_iconst C (0 : Int32) dX9_lettersBy_13 (by decide) ?_
        exact q_iret C C2 rfl (Nat.le_of_ble_eq_true rfl) (Nat.le_of_ble_eq_true rfl) dX9_lettersBy_14 h
  rw [lg_entry_eq]
  exact key _ _ _ hR va_S.rf ⟨lv_entry _ (n := 9) (Nat.le_of_ble_eq_true rfl), (c1_r (c1_i (c1_i (c1_i (c1_i c1_n)))))⟩

theorem cd_X9_plainLetters : Cond.code yX9_plainLetters cX9_plainLetters 6 (some .int) ∈ Tg := Tg_of (i := 1644) (by decide +kernel) (by decide +kernel)
theorem fl_X9_31 : Fld RX9 31 12 7 (.array .boolean) := ⟨RX9, TX9, 28, RX9, rfl, by decide, wf_X9_31, (Or.inl rfl), gu_X9, tyX9_ok _ (by decide), ⟨tyX9, tyX9_ok⟩, nmX9⟩
section M_X9_plainLetters
variable {p : Program} {l : Launch} {e : Env} {s : State} {m : MethodId} {args : Array Value} {below : List Frame} {meth : Method} {c : Code} {G : GG} {o : Except Nat Int32} {hs' : Hs}
def j_X9_plainLetters_132 (a0 : Option Nat) (a3 : Int32) (s0 : Int32) (s1 : Int32)  : OO Int32 :=
  lets (s1 + s0) fun (v23 : Int32) =>
    gR a0 12 7 fun v24 =>
    ldI 1 v24 a3 fun v25 =>
    (if v25 = 0 then
    rtn (v23 + (0 : Int32))
    else
    rtn (v23 + (32 : Int32)))
set_option maxRecDepth 100000 in
set_option maxHeartbeats 4000000 in
theorem w_j_X9_plainLetters_132 (C : Cx G l p s m args c RX9 cX9_plainLetters 6) (C2 : Cy meth c (some .int)) {hs : Hs} (a0 : Option Nat) (a3 : Int32) (s0 : Int32) (s1 : Int32)   (h : j_X9_plainLetters_132 a0 a3 s0 s1 hs = some (o, hs')) : WG G p l e { frames := 0, cells := 0, slots := 0, locals := 0 } s m args below meth c 6 0 0 (vx_MQ below (QcT G o hs' tvI) (XCT G o hs') args s 0 0 (gA G)) hs [(0, va_rf a0), (3, .int a3)] [.int s0, .int s1] 132 := by
  unfold j_X9_plainLetters_132 at h
  refine q_iadd C dX9_plainLetters_132 ?_
  refine q_istore C (fun v23 => [(5, .int v23), (0, va_rf a0), (3, .int a3)]) dX9_plainLetters_133 (by decide) (fun _ => rfl) h (fun v23 h => ?_)
  refine q_iload C 0 dX9_plainLetters_135 rfl ?_
  refine q_aload_n C 1 dX9_plainLetters_137 rfl ?_
  refine q_gR C fl_X9_31 dX9_plainLetters_138 h (fun v24 h => ?_)
  refine q_iload_n C 2 dX9_plainLetters_141 rfl ?_
  refine q_zald C dX9_plainLetters_142 h (fun v25 h => ?_)
  refine q_if_eq C 151 dX9_plainLetters_143 (by decide) h (fun h => ?_) (fun h => ?_)
  · refine q_iconst C (0 : Int32) dX9_plainLetters_151 (by decide) ?_
    refine q_iadd C dX9_plainLetters_152 ?_
    exact q_iret C C2 rfl (Nat.le_of_ble_eq_true rfl) (Nat.le_of_ble_eq_true rfl) dX9_plainLetters_153 h
  · refine q_bipush C (32 : Int32) dX9_plainLetters_146 (by decide) ?_
    refine q_goto C 152 dX9_plainLetters_148 (by decide) ?_
    refine q_iadd C dX9_plainLetters_152 ?_
    exact q_iret C C2 rfl (Nat.le_of_ble_eq_true rfl) (Nat.le_of_ble_eq_true rfl) dX9_plainLetters_153 h
def j_X9_plainLetters_101 (a0 : Option Nat) (a1 : Int32) (a3 : Int32) (s0 : Int32) (s1 : Int32)  : OO Int32 :=
  lets (s1 + s0) fun (v16 : Int32) =>
    gR a0 12 2 fun v17 =>
    ldI 0 v17 a3 fun v18 =>
    gR a0 12 5 fun v19 =>
    gR a0 12 9 fun v20 =>
    ldI 0 v20 a1 fun v21 =>
    ldI 0 v19 v21 fun v22 =>
    (if v22 ≤ v18 then
    j_X9_plainLetters_132 a0 a3 (0 : Int32) v16
    else
    j_X9_plainLetters_132 a0 a3 (16 : Int32) v16)
set_option maxRecDepth 100000 in
set_option maxHeartbeats 4000000 in
theorem w_j_X9_plainLetters_101 (C : Cx G l p s m args c RX9 cX9_plainLetters 6) (C2 : Cy meth c (some .int)) {hs : Hs} (a0 : Option Nat) (a1 : Int32) (a3 : Int32) (s0 : Int32) (s1 : Int32)   (h : j_X9_plainLetters_101 a0 a1 a3 s0 s1 hs = some (o, hs')) : WG G p l e { frames := 0, cells := 0, slots := 0, locals := 0 } s m args below meth c 6 0 0 (vx_MQ below (QcT G o hs' tvI) (XCT G o hs') args s 0 0 (gA G)) hs [(0, va_rf a0), (1, .int a1), (3, .int a3)] [.int s0, .int s1] 101 := by
  unfold j_X9_plainLetters_101 at h
  refine q_iadd C dX9_plainLetters_101 ?_
  refine q_istore C (fun v16 => [(5, .int v16), (0, va_rf a0), (1, .int a1), (3, .int a3)]) dX9_plainLetters_102 (by decide) (fun _ => rfl) h (fun v16 h => ?_)
  refine q_iload C 0 dX9_plainLetters_104 rfl ?_
  refine q_aload_n C 1 dX9_plainLetters_106 rfl ?_
  refine q_gR C fl_X9_16 dX9_plainLetters_107 h (fun v17 h => ?_)
  refine q_iload_n C 3 dX9_plainLetters_110 rfl ?_
  refine q_iald C dX9_plainLetters_111 h (fun v18 h => ?_)
  refine q_aload_n C 1 dX9_plainLetters_112 rfl ?_
  refine q_gR C fl_X9_25 dX9_plainLetters_113 h (fun v19 h => ?_)
  refine q_aload_n C 1 dX9_plainLetters_116 rfl ?_
  refine q_gR C fl_X9_38 dX9_plainLetters_117 h (fun v20 h => ?_)
  refine q_iload_n C 2 dX9_plainLetters_120 rfl ?_
  refine q_iald C dX9_plainLetters_121 h (fun v21 h => ?_)
  refine q_iald C dX9_plainLetters_122 h (fun v22 h => ?_)
  refine q_icmp_ge C 131 dX9_plainLetters_123 (by decide) h (fun h => ?_) (fun h => ?_)
  · refine q_iconst C (0 : Int32) dX9_plainLetters_131 (by decide) ?_
    refine WG.sub [1, 3] rfl ?_
    exact w_j_X9_plainLetters_132 C C2 _ _ _ _   h
  · refine q_bipush C (16 : Int32) dX9_plainLetters_126 (by decide) ?_
    refine q_goto C 132 dX9_plainLetters_128 (by decide) ?_
    refine WG.sub [1, 3] rfl ?_
    exact w_j_X9_plainLetters_132 C C2 _ _ _ _   h
def j_X9_plainLetters_75 (a0 : Option Nat) (a1 : Int32) (a3 : Int32) (s0 : Int32) (s1 : Int32)  : OO Int32 :=
  lets (s1 + s0) fun (v11 : Int32) =>
    gR a0 12 1 fun v12 =>
    ldI 0 v12 a3 fun v13 =>
    gR a0 12 11 fun v14 =>
    ldI 0 v14 a1 fun v15 =>
    (if v13 = v15 then
    j_X9_plainLetters_101 a0 a1 a3 (0 : Int32) v11
    else
    j_X9_plainLetters_101 a0 a1 a3 (8 : Int32) v11)
set_option maxRecDepth 100000 in
set_option maxHeartbeats 4000000 in
theorem w_j_X9_plainLetters_75 (C : Cx G l p s m args c RX9 cX9_plainLetters 6) (C2 : Cy meth c (some .int)) {hs : Hs} (a0 : Option Nat) (a1 : Int32) (a3 : Int32) (s0 : Int32) (s1 : Int32)   (h : j_X9_plainLetters_75 a0 a1 a3 s0 s1 hs = some (o, hs')) : WG G p l e { frames := 0, cells := 0, slots := 0, locals := 0 } s m args below meth c 6 0 0 (vx_MQ below (QcT G o hs' tvI) (XCT G o hs') args s 0 0 (gA G)) hs [(0, va_rf a0), (1, .int a1), (3, .int a3)] [.int s0, .int s1] 75 := by
  unfold j_X9_plainLetters_75 at h
  refine q_iadd C dX9_plainLetters_75 ?_
  refine q_istore C (fun v11 => [(5, .int v11), (0, va_rf a0), (1, .int a1), (3, .int a3)]) dX9_plainLetters_76 (by decide) (fun _ => rfl) h (fun v11 h => ?_)
  refine q_iload C 0 dX9_plainLetters_78 rfl ?_
  refine q_aload_n C 1 dX9_plainLetters_80 rfl ?_
  refine q_gR C fl_X9_13 dX9_plainLetters_81 h (fun v12 h => ?_)
  refine q_iload_n C 3 dX9_plainLetters_84 rfl ?_
  refine q_iald C dX9_plainLetters_85 h (fun v13 h => ?_)
  refine q_aload_n C 1 dX9_plainLetters_86 rfl ?_
  refine q_gR C fl_X9_44 dX9_plainLetters_87 h (fun v14 h => ?_)
  refine q_iload_n C 2 dX9_plainLetters_90 rfl ?_
  refine q_iald C dX9_plainLetters_91 h (fun v15 h => ?_)
  refine q_icmp_eq C 100 dX9_plainLetters_92 (by decide) h (fun h => ?_) (fun h => ?_)
  · refine q_iconst C (0 : Int32) dX9_plainLetters_100 (by decide) ?_
    refine WG.sub [1, 2, 3] rfl ?_
    exact w_j_X9_plainLetters_101 C C2 _ _ _ _ _   h
  · refine q_bipush C (8 : Int32) dX9_plainLetters_95 (by decide) ?_
    refine q_goto C 101 dX9_plainLetters_97 (by decide) ?_
    refine WG.sub [1, 2, 3] rfl ?_
    exact w_j_X9_plainLetters_101 C C2 _ _ _ _ _   h
def j_X9_plainLetters_45 (a0 : Option Nat) (a1 : Int32) (a3 : Int32) (a4 : Int32) (s0 : Int32) (s1 : Int32)  : OO Int32 :=
  lets (s1 + s0) fun (v6 : Int32) =>
    gR a0 12 3 fun v7 =>
    gR a0 12 10 fun v8 =>
    ldI 0 v8 a1 fun v9 =>
    ldI 0 v7 v9 fun v10 =>
    dvz (2 : Int32) (
    (if ¬ ((irem (v10 >>> (a4 &&& 31)) (2 : Int32))) = (1 : Int32) then
    j_X9_plainLetters_75 a0 a1 a3 (0 : Int32) v6
    else
    j_X9_plainLetters_75 a0 a1 a3 (4 : Int32) v6))
set_option maxRecDepth 100000 in
set_option maxHeartbeats 4000000 in
theorem w_j_X9_plainLetters_45 (C : Cx G l p s m args c RX9 cX9_plainLetters 6) (C2 : Cy meth c (some .int)) {hs : Hs} (a0 : Option Nat) (a1 : Int32) (a3 : Int32) (a4 : Int32) (s0 : Int32) (s1 : Int32)   (h : j_X9_plainLetters_45 a0 a1 a3 a4 s0 s1 hs = some (o, hs')) : WG G p l e { frames := 0, cells := 0, slots := 0, locals := 0 } s m args below meth c 6 0 0 (vx_MQ below (QcT G o hs' tvI) (XCT G o hs') args s 0 0 (gA G)) hs [(0, va_rf a0), (1, .int a1), (3, .int a3), (4, .int a4)] [.int s0, .int s1] 45 := by
  unfold j_X9_plainLetters_45 at h
  refine q_iadd C dX9_plainLetters_45 ?_
  refine q_istore C (fun v6 => [(5, .int v6), (0, va_rf a0), (1, .int a1), (3, .int a3), (4, .int a4)]) dX9_plainLetters_46 (by decide) (fun _ => rfl) h (fun v6 h => ?_)
  refine q_iload C 0 dX9_plainLetters_48 rfl ?_
  refine q_aload_n C 1 dX9_plainLetters_50 rfl ?_
  refine q_gR C fl_X9_19 dX9_plainLetters_51 h (fun v7 h => ?_)
  refine q_aload_n C 1 dX9_plainLetters_54 rfl ?_
  refine q_gR C fl_X9_41 dX9_plainLetters_55 h (fun v8 h => ?_)
  refine q_iload_n C 2 dX9_plainLetters_58 rfl ?_
  refine q_iald C dX9_plainLetters_59 h (fun v9 h => ?_)
  refine q_iald C dX9_plainLetters_60 h (fun v10 h => ?_)
  refine q_iload C 4 dX9_plainLetters_61 rfl ?_
  refine q_ishr C dX9_plainLetters_63 ?_
  refine q_iconst C (2 : Int32) dX9_plainLetters_64 (by decide) ?_
  refine q_irem C dX9_plainLetters_65 h (fun h => ?_)
  refine q_iconst C (1 : Int32) dX9_plainLetters_66 (by decide) ?_
  refine q_icmp_ne C 74 dX9_plainLetters_67 (by decide) h (fun h => ?_) (fun h => ?_)
  · refine q_iconst C (0 : Int32) dX9_plainLetters_74 (by decide) ?_
    refine WG.sub [1, 2, 3] rfl ?_
    exact w_j_X9_plainLetters_75 C C2 _ _ _ _ _   h
  · refine q_iconst C (4 : Int32) dX9_plainLetters_70 (by decide) ?_
    refine q_goto C 75 dX9_plainLetters_71 (by decide) ?_
    refine WG.sub [1, 2, 3] rfl ?_
    exact w_j_X9_plainLetters_75 C C2 _ _ _ _ _   h
def j_X9_plainLetters_27 (a0 : Option Nat) (a1 : Int32) (a3 : Int32) (a4 : Int32) (s0 : Int32)  : OO Int32 :=
  lets s0 fun (v4 : Int32) =>
    gI a0 12 26 fun v5 =>
    (if v5 ≤ a4 then
    j_X9_plainLetters_45 a0 a1 a3 a4 (0 : Int32) v4
    else
    j_X9_plainLetters_45 a0 a1 a3 a4 (2 : Int32) v4)
set_option maxRecDepth 100000 in
set_option maxHeartbeats 4000000 in
theorem w_j_X9_plainLetters_27 (C : Cx G l p s m args c RX9 cX9_plainLetters 6) (C2 : Cy meth c (some .int)) {hs : Hs} (a0 : Option Nat) (a1 : Int32) (a3 : Int32) (a4 : Int32) (s0 : Int32)   (h : j_X9_plainLetters_27 a0 a1 a3 a4 s0 hs = some (o, hs')) : WG G p l e { frames := 0, cells := 0, slots := 0, locals := 0 } s m args below meth c 6 0 0 (vx_MQ below (QcT G o hs' tvI) (XCT G o hs') args s 0 0 (gA G)) hs [(0, va_rf a0), (1, .int a1), (3, .int a3), (4, .int a4)] [.int s0] 27 := by
  unfold j_X9_plainLetters_27 at h
  refine q_istore C (fun v4 => [(5, .int v4), (0, va_rf a0), (1, .int a1), (3, .int a3), (4, .int a4)]) dX9_plainLetters_27 (by decide) (fun _ => rfl) h (fun v4 h => ?_)
  refine q_iload C 0 dX9_plainLetters_29 rfl ?_
  refine q_iload C 4 dX9_plainLetters_31 rfl ?_
  refine q_aload_n C 1 dX9_plainLetters_33 rfl ?_
  refine q_gI C fl_X9_90 dX9_plainLetters_34 h (fun v5 h => ?_)
  refine q_icmp_ge C 44 dX9_plainLetters_37 (by decide) h (fun h => ?_) (fun h => ?_)
  · refine q_iconst C (0 : Int32) dX9_plainLetters_44 (by decide) ?_
    refine WG.sub [1, 2, 3, 4] rfl ?_
    exact w_j_X9_plainLetters_45 C C2 _ _ _ _ _ _   h
  · refine q_iconst C (2 : Int32) dX9_plainLetters_40 (by decide) ?_
    refine q_goto C 45 dX9_plainLetters_41 (by decide) ?_
    refine WG.sub [1, 2, 3, 4] rfl ?_
    exact w_j_X9_plainLetters_45 C C2 _ _ _ _ _ _   h
end M_X9_plainLetters
def f_X9_plainLetters (a0 : Nat) (p1 : Int32) (p2 : Int32) (p3 : Int32) : OO Int32 :=
    dvz (6 : Int32) (
    lets (p2 / (6 : Int32)) fun (v1 : Int32) =>
    dvz (6 : Int32) (
    gR (some a0) 12 12 fun v2 =>
    ldI 0 v2 p1 fun v3 =>
    (if ((irem p2 (6 : Int32)) + v3) ≤ (6 : Int32) then
    j_X9_plainLetters_27 (some a0) p1 p3 v1 (0 : Int32)
    else
    j_X9_plainLetters_27 (some a0) p1 p3 v1 (1 : Int32))))
set_option maxRecDepth 100000 in
set_option maxHeartbeats 4000000 in
theorem m_X9_plainLetters {G : GG} {l : Launch} {a0 : Nat} {p1 : Int32} {p2 : Int32} {p3 : Int32} {hs hs' : Hs} {o : Except Nat Int32} (h : f_X9_plainLetters a0 p1 p2 p3 hs = some (o, hs')) : CT G l yX9_plainLetters cX9_plainLetters 6 (some .int) 0 0 0 0 [.ref a0, .int p1, .int p2, .int p3] hs o hs' tvI := by
  refine vx_ofW (cc := cX9_plainLetters) (maxL := 6) (ret := (some .int)) (by decide +kernel) rfl ?_
  intro p e s m args below meth c s₁ B hml hxt hv
  obtain ⟨hav, hR, hKn⟩ := hv
  subst hav
  have hts := atoms_spec (ws := .code yX9_plainLetters cX9_plainLetters 6 (some .int) :: Tg) B.pre
  have C : Cx G l p s m _ c RX9 cX9_plainLetters 6 := ⟨B.exec, B.bytes, hml, findClass_of_methodNamed B.named, fun w hw => hts w (List.mem_cons_of_mem _ hw), hKn, fun q hq => Nat.le_trans hR.2.2.1 hq⟩
  have C2 : Cy meth c (some .int) := ⟨B.returns, B.notSynchronized, hxt⟩
  have key : WG G p l e { frames := 0, cells := 0, slots := 0, locals := 0 } s m ([.ref a0, .int p1, .int p2, .int p3] : List Value).toArray below meth c 6 0 0 (vx_MQ below (QcT G o hs' tvI) (XCT G o hs') ([.ref a0, .int p1, .int p2, .int p3] : List Value).toArray s 0 0 (gA G)) hs [(0, va_rf (some a0)), (1, .int p1), (2, .int p2), (3, .int p3)] [] 0 := by
    unfold f_X9_plainLetters at h
    refine q_iload_n C 2 dX9_plainLetters_0 rfl ?_
    refine q_bipush C (6 : Int32) dX9_plainLetters_1 (by decide) ?_
    refine q_idiv C dX9_plainLetters_3 h (fun h => ?_)
    refine q_istore C (fun v1 => [(4, .int v1), (0, va_rf (some a0)), (1, .int p1), (2, .int p2), (3, .int p3)]) dX9_plainLetters_4 (by decide) (fun _ => rfl) h (fun v1 h => ?_)
    refine q_iload_n C 3 dX9_plainLetters_6 rfl ?_
    refine q_bipush C (6 : Int32) dX9_plainLetters_7 (by decide) ?_
    refine q_irem C dX9_plainLetters_9 h (fun h => ?_)
    refine q_aload_n C 1 dX9_plainLetters_10 rfl ?_
    refine q_gR C fl_X9_47 dX9_plainLetters_11 h (fun v2 h => ?_)
    refine q_iload_n C 2 dX9_plainLetters_14 rfl ?_
    refine q_iald C dX9_plainLetters_15 h (fun v3 h => ?_)
    refine q_iadd C dX9_plainLetters_16 ?_
    refine q_bipush C (6 : Int32) dX9_plainLetters_17 (by decide) ?_
    refine q_icmp_le C 26 dX9_plainLetters_19 (by decide) h (fun h => ?_) (fun h => ?_)
    · refine q_iconst C (0 : Int32) dX9_plainLetters_26 (by decide) ?_
      refine WG.sub [1, 2, 4, 0] rfl ?_
      exact w_j_X9_plainLetters_27 C C2 _ _ _ _ _   h
    · refine q_iconst C (1 : Int32) dX9_plainLetters_22 (by decide) ?_
      refine q_goto C 27 dX9_plainLetters_23 (by decide) ?_
      refine WG.sub [1, 2, 4, 0] rfl ?_
      exact w_j_X9_plainLetters_27 C C2 _ _ _ _ _   h
  rw [lg_entry_eq]
  exact key _ _ _ hR va_S.rf ⟨lv_entry _ (n := 6) (Nat.le_of_ble_eq_true rfl), (c1_r (c1_i (c1_i (c1_i c1_n))))⟩

theorem cd_X9_both : Cond.code yX9_both cX9_both 2 (some .int) ∈ Tg := Tg_of (i := 1675) (by decide +kernel) (by decide +kernel)
section M_X9_both
variable {p : Program} {l : Launch} {e : Env} {s : State} {m : MethodId} {args : Array Value} {below : List Frame} {meth : Method} {c : Code} {G : GG} {o : Except Nat Int32} {hs' : Hs}
end M_X9_both
def f_X9_both (p0 : Int32) (p1 : Int32) : OO Int32 :=
    rtn (p0 ||| p1)
set_option maxRecDepth 100000 in
set_option maxHeartbeats 4000000 in
theorem m_X9_both {G : GG} {l : Launch} {p0 : Int32} {p1 : Int32} {hs hs' : Hs} {o : Except Nat Int32} (h : f_X9_both p0 p1 hs = some (o, hs')) : CT G l yX9_both cX9_both 2 (some .int) 0 0 0 0 [.int p0, .int p1] hs o hs' tvI := by
  refine vx_ofW (cc := cX9_both) (maxL := 2) (ret := (some .int)) (by decide +kernel) rfl ?_
  intro p e s m args below meth c s₁ B hml hxt hv
  obtain ⟨hav, hR, hKn⟩ := hv
  subst hav
  have hts := atoms_spec (ws := .code yX9_both cX9_both 2 (some .int) :: Tg) B.pre
  have C : Cx G l p s m _ c RX9 cX9_both 2 := ⟨B.exec, B.bytes, hml, findClass_of_methodNamed B.named, fun w hw => hts w (List.mem_cons_of_mem _ hw), hKn, fun q hq => Nat.le_trans hR.2.2.1 hq⟩
  have C2 : Cy meth c (some .int) := ⟨B.returns, B.notSynchronized, hxt⟩
  have key : WG G p l e { frames := 0, cells := 0, slots := 0, locals := 0 } s m ([.int p0, .int p1] : List Value).toArray below meth c 2 0 0 (vx_MQ below (QcT G o hs' tvI) (XCT G o hs') ([.int p0, .int p1] : List Value).toArray s 0 0 (gA G)) hs [(0, .int p0), (1, .int p1)] [] 0 := by
    unfold f_X9_both at h
    refine q_iload_n C 0 dX9_both_0 rfl ?_
    refine q_iload_n C 1 dX9_both_1 rfl ?_
    refine q_ior C dX9_both_2 ?_
    exact q_iret C C2 rfl (Nat.le_of_ble_eq_true rfl) (Nat.le_of_ble_eq_true rfl) dX9_both_3 h
  rw [lg_entry_eq]
  exact key _ _ _ hR va_S.rf ⟨lv_entry _ (n := 2) (Nat.le_of_ble_eq_true rfl), (c1_i (c1_i c1_n))⟩

theorem cd_X9_letters : Cond.code yX9_letters cX9_letters 6 (some .int) ∈ Tg := Tg_of (i := 1640) (by decide +kernel) (by decide +kernel)
theorem ml_X9_134 : Cond.methodLink RX9 134 yX9_plainLetters ∈ Tg := Tg_of (i := 1641) (by decide +kernel) (by decide +kernel)
theorem lk_X9_134 : Lk RX9 134 yX9_plainLetters cX9_plainLetters 6 (some .int) 3 := ⟨ml_X9_134, cd_X9_plainLetters, iw_X9, by decide +kernel⟩
theorem ml_X9_138 : Cond.methodLink RX9 138 yX9_lettersBy ∈ Tg := Tg_of (i := 1645) (by decide +kernel) (by decide +kernel)
theorem lk_X9_138 : Lk RX9 138 yX9_lettersBy cX9_lettersBy 9 (some .int) 4 := ⟨ml_X9_138, cd_X9_lettersBy, iw_X9, by decide +kernel⟩
theorem ml_X9_142 : Cond.methodLink RX9 142 yX9_both ∈ Tg := Tg_of (i := 1673) (by decide +kernel) (by decide +kernel)
theorem lk_X9_142 : Lk RX9 142 yX9_both cX9_both 2 (some .int) 2 := ⟨ml_X9_142, cd_X9_both, iw_X9, by decide +kernel⟩
theorem sm_X9_both : Cond.static yX9_both ∈ Tg := Tg_of (i := 1674) (by decide +kernel) (by decide +kernel)
theorem im_X9_lettersBy : Cond.instanceMethod yX9_lettersBy ∈ Tg := Tg_of (i := 1647) (by decide +kernel) (by decide +kernel)
theorem se_X9_X9_lettersBy : Cond.selects RX9 yX9_lettersBy yX9_lettersBy ∈ Tg := Tg_of (i := 44) (by decide +kernel) (by decide +kernel)
theorem im_X9_plainLetters : Cond.instanceMethod yX9_plainLetters ∈ Tg := Tg_of (i := 1643) (by decide +kernel) (by decide +kernel)
theorem se_X9_X9_plainLetters : Cond.selects RX9 yX9_plainLetters yX9_plainLetters ∈ Tg := Tg_of (i := 43) (by decide +kernel) (by decide +kernel)
section M_X9_letters
variable {p : Program} {l : Launch} {e : Env} {s : State} {m : MethodId} {args : Array Value} {below : List Frame} {meth : Method} {c : Code} {G : GG} {o : Except Nat Int32} {hs' : Hs}
def L_X9_letters_12 (a0 : Option Nat) (a1 : Int32) (a2 : Int32) (a3 : Int32) (k_12_43 : Int32 → OO Int32) : Nat → Int32 → Int32 → OO Int32
  | 0, _, _ => failO
  | n + 1, x4, x5 =>
    gI a0 12 24 fun v4 =>
    (if v4 ≤ x5 then
    k_12_43 x4
    else
    rcv a0 12 fun r9 => call (f_X9_lettersBy r9 x5 a1 a2 a3) (fun (v5 : Int32) =>
    call (f_X9_both x4 v5) (fun (v6 : Int32) =>
    lets v6 fun (v7 : Int32) =>
    lets (x5 + (1 : Int32)) fun (v8 : Int32) =>
    (L_X9_letters_12 a0 a1 a2 a3 k_12_43 n) v7 v8) nox) nox)
set_option maxRecDepth 100000 in
set_option maxHeartbeats 4000000 in
theorem w_L_X9_letters_12 (C : Cx G l p s m args c RX9 cX9_letters 6) (C2 : Cy meth c (some .int)) (a0 : Option Nat) (a1 : Int32) (a2 : Int32) (a3 : Int32) (k_12_43 : Int32 → OO Int32) (hk_12_43 : ∀ (y4 : Int32) hs, k_12_43 y4 hs = some (o, hs') → WG G p l e { frames := 4, cells := 0, slots := 0, locals := 93 } s m args below meth c 6 0 0 (vx_MQ below (QcT G o hs' tvI) (XCT G o hs') args s 0 0 (gA G)) hs [(4, .int y4)] [] 43) : ∀ (n : Nat) (x4 : Int32) (x5 : Int32) (hs : Hs), L_X9_letters_12 a0 a1 a2 a3 k_12_43 n x4 x5 hs = some (o, hs') → WG G p l e { frames := 4, cells := 0, slots := 0, locals := 93 } s m args below meth c 6 0 0 (vx_MQ below (QcT G o hs' tvI) (XCT G o hs') args s 0 0 (gA G)) hs [(0, va_rf a0), (1, .int a1), (2, .int a2), (3, .int a3), (4, .int x4), (5, .int x5)] [] 12 := by
  intro n
  induction n with
  | zero =>
    intro x4 x5 hs h
    rw [L_X9_letters_12] at h
    exact absurd h failO_e
  | succ n hrec_12 =>
    intro x4 x5 hs h
    rw [L_X9_letters_12] at h
    refine q_iload C 5 dX9_letters_12 rfl ?_
    refine q_aload_n C 0 dX9_letters_14 rfl ?_
    refine q_gI C fl_X9_84 dX9_letters_15 h (fun v4 h => ?_)
    refine q_icmp_ge C 43 dX9_letters_18 (by decide) h (fun h => ?_) (fun h => ?_)
    · refine WG.sub [4] rfl ?_
      exact hk_12_43 _ _ h
    · refine q_iload C 4 dX9_letters_21 rfl ?_
      refine q_aload_n C 0 dX9_letters_23 rfl ?_
      refine q_iload C 5 dX9_letters_24 rfl ?_
      refine q_iload_n C 1 dX9_letters_26 rfl ?_
      refine q_iload_n C 2 dX9_letters_27 rfl ?_
      refine q_iload_n C 3 dX9_letters_28 rfl ?_
      refine q_callV C (CN := RX9) (T := TX9) (N := 28) [.int x5, .int a1, .int a2, .int a3] [.int x4] (fun a0 o2 hs1 hm => m_X9_lettersBy hm) lk_X9_138 im_X9_lettersBy se_X9_X9_lettersBy rfl ⟨(Nat.le_of_ble_eq_true rfl), (Nat.le_of_ble_eq_true rfl)⟩ ⟨(Nat.le_of_ble_eq_true rfl), (Nat.le_of_ble_eq_true rfl)⟩ rfl rfl (by simp only [List.map, cat_rf, cat_i, cat_a]; decide) dX9_letters_29 h (fun v5 hs h => WG_st (st' := [.int v5, .int x4]) rfl ?_)
      refine q_callS C [.int x4, .int v5] [] (fun o2 hs1 hm => m_X9_both hm) lk_X9_142 sm_X9_both ⟨(Nat.le_of_ble_eq_true rfl), (Nat.le_of_ble_eq_true rfl)⟩ ⟨(Nat.le_of_ble_eq_true rfl), (Nat.le_of_ble_eq_true rfl)⟩ rfl rfl (by decide) dX9_letters_32 h (fun v6 hs h => WG_st (st' := [.int v6]) rfl ?_)
      refine q_istore C (fun v7 => [(4, .int v7), (0, va_rf a0), (1, .int a1), (2, .int a2), (3, .int a3), (5, .int x5)]) dX9_letters_35 (by decide) (fun _ => rfl) h (fun v7 h => ?_)
      refine q_iinc C 5 (1 : Int32) (fun v8 => [(5, .int v8), (4, .int v7), (0, va_rf a0), (1, .int a1), (2, .int a2), (3, .int a3)]) dX9_letters_37 rfl (by decide) (by decide) (fun _ => rfl) h (fun v8 h => ?_)
      refine q_goto C 12 dX9_letters_40 (by decide) ?_
      refine WG.sub [2, 3, 4, 5, 1, 0] rfl ?_
      exact hrec_12 _ _ _ h
end M_X9_letters
def f_X9_letters (a0 : Nat) (p1 : Int32) (p2 : Int32) (p3 : Int32) : OO Int32 :=
    rcv (some a0) 12 fun r11 => call (f_X9_plainLetters r11 p1 p2 p3) (fun (v1 : Int32) =>
    lets v1 fun (v2 : Int32) =>
    lets (0 : Int32) fun (v3 : Int32) =>
    L_X9_letters_12 (some a0) p1 p2 p3 (fun (v10 : Int32) => rtn v10) 100000 v2 v3) nox
set_option maxRecDepth 100000 in
set_option maxHeartbeats 4000000 in
theorem m_X9_letters {G : GG} {l : Launch} {a0 : Nat} {p1 : Int32} {p2 : Int32} {p3 : Int32} {hs hs' : Hs} {o : Except Nat Int32} (h : f_X9_letters a0 p1 p2 p3 hs = some (o, hs')) : CT G l yX9_letters cX9_letters 6 (some .int) 4 93 0 0 [.ref a0, .int p1, .int p2, .int p3] hs o hs' tvI := by
  refine vx_ofW (cc := cX9_letters) (maxL := 6) (ret := (some .int)) (by decide +kernel) rfl ?_
  intro p e s m args below meth c s₁ B hml hxt hv
  obtain ⟨hav, hR, hKn⟩ := hv
  subst hav
  have hts := atoms_spec (ws := .code yX9_letters cX9_letters 6 (some .int) :: Tg) B.pre
  have C : Cx G l p s m _ c RX9 cX9_letters 6 := ⟨B.exec, B.bytes, hml, findClass_of_methodNamed B.named, fun w hw => hts w (List.mem_cons_of_mem _ hw), hKn, fun q hq => Nat.le_trans hR.2.2.1 hq⟩
  have C2 : Cy meth c (some .int) := ⟨B.returns, B.notSynchronized, hxt⟩
  have key : WG G p l e { frames := 4, cells := 0, slots := 0, locals := 93 } s m ([.ref a0, .int p1, .int p2, .int p3] : List Value).toArray below meth c 6 0 0 (vx_MQ below (QcT G o hs' tvI) (XCT G o hs') ([.ref a0, .int p1, .int p2, .int p3] : List Value).toArray s 0 0 (gA G)) hs [(0, va_rf (some a0)), (1, .int p1), (2, .int p2), (3, .int p3)] [] 0 := by
    unfold f_X9_letters at h
    refine q_aload_n C 0 dX9_letters_0 rfl ?_
    refine q_iload_n C 1 dX9_letters_1 rfl ?_
    refine q_iload_n C 2 dX9_letters_2 rfl ?_
    refine q_iload_n C 3 dX9_letters_3 rfl ?_
    refine q_callV C (CN := RX9) (T := TX9) (N := 28) [.int p1, .int p2, .int p3] [] (fun a0 o2 hs1 hm => m_X9_plainLetters hm) lk_X9_134 im_X9_plainLetters se_X9_X9_plainLetters rfl ⟨(Nat.le_of_ble_eq_true rfl), (Nat.le_of_ble_eq_true rfl)⟩ ⟨(Nat.le_of_ble_eq_true rfl), (Nat.le_of_ble_eq_true rfl)⟩ rfl rfl (by decide) dX9_letters_4 h (fun v1 hs h => WG_st (st' := [.int v1]) rfl ?_)
    refine q_istore C (fun v2 => [(4, .int v2), (0, va_rf (some a0)), (1, .int p1), (2, .int p2), (3, .int p3)]) dX9_letters_7 (by decide) (fun _ => rfl) h (fun v2 h => ?_)
    refine q_iconst C (0 : Int32) dX9_letters_9 (by decide) ?_
    refine q_istore C (fun v3 => [(5, .int v3), (4, .int v2), (0, va_rf (some a0)), (1, .int p1), (2, .int p2), (3, .int p3)]) dX9_letters_10 (by decide) (fun _ => rfl) h (fun v3 h => ?_)
    refine WG.sub [2, 3, 4, 5, 1, 0] rfl ?_
    refine w_L_X9_letters_12 C C2 _ _ _ _ _ ?_ _ _ _ _ h
    · intro v10 hs h
      refine q_iload C 0 dX9_letters_43 rfl ?_
      exact q_iret C C2 rfl (Nat.le_of_ble_eq_true rfl) (Nat.le_of_ble_eq_true rfl) dX9_letters_45 h
  rw [lg_entry_eq]
  exact key _ _ _ hR va_S.rf ⟨lv_entry _ (n := 6) (Nat.le_of_ble_eq_true rfl), (c1_r (c1_i (c1_i (c1_i c1_n))))⟩

theorem cd_X9_isPossible : Cond.code yX9_isPossible cX9_isPossible 3 (some .boolean) ∈ Tg := Tg_of (i := 1781) (by decide +kernel) (by decide +kernel)
theorem ml_X9_145 : Cond.methodLink RX9 145 yX9_letters ∈ Tg := Tg_of (i := 1637) (by decide +kernel) (by decide +kernel)
theorem lk_X9_145 : Lk RX9 145 yX9_letters cX9_letters 6 (some .int) 3 := ⟨ml_X9_145, cd_X9_letters, iw_X9, by decide +kernel⟩
theorem im_X9_letters : Cond.instanceMethod yX9_letters ∈ Tg := Tg_of (i := 1639) (by decide +kernel) (by decide +kernel)
theorem se_X9_X9_letters : Cond.selects RX9 yX9_letters yX9_letters ∈ Tg := Tg_of (i := 42) (by decide +kernel) (by decide +kernel)
section M_X9_isPossible
variable {p : Program} {l : Launch} {e : Env} {s : State} {m : MethodId} {args : Array Value} {below : List Frame} {meth : Method} {c : Code} {G : GG} {o : Except Nat Int32} {hs' : Hs}
end M_X9_isPossible
def f_X9_isPossible (a0 : Nat) (p1 : Int32) (p2 : Int32) : OO Int32 :=
    dvz (8 : Int32) (
    gI (some a0) 12 21 fun v1 =>
    (if v1 ≤ (irem p2 (8 : Int32)) then
    retZ (0 : Int32)
    else
    dvz (8 : Int32) (
    dvz (8 : Int32) (
    rcv (some a0) 12 fun r3 => call (f_X9_letters r3 p1 (p2 / (8 : Int32)) (irem p2 (8 : Int32))) (fun (v2 : Int32) =>
    (if ¬ v2 = 0 then
    retZ (0 : Int32)
    else
    retZ (1 : Int32))) nox))))
set_option maxRecDepth 100000 in
set_option maxHeartbeats 4000000 in
theorem m_X9_isPossible {G : GG} {l : Launch} {a0 : Nat} {p1 : Int32} {p2 : Int32} {hs hs' : Hs} {o : Except Nat Int32} (h : f_X9_isPossible a0 p1 p2 hs = some (o, hs')) : CT G l yX9_isPossible cX9_isPossible 3 (some .boolean) 5 118 0 0 [.ref a0, .int p1, .int p2] hs o hs' tvI := by
  refine vx_ofW (cc := cX9_isPossible) (maxL := 3) (ret := (some .boolean)) (by decide +kernel) rfl ?_
  intro p e s m args below meth c s₁ B hml hxt hv
  obtain ⟨hav, hR, hKn⟩ := hv
  subst hav
  have hts := atoms_spec (ws := .code yX9_isPossible cX9_isPossible 3 (some .boolean) :: Tg) B.pre
  have C : Cx G l p s m _ c RX9 cX9_isPossible 3 := ⟨B.exec, B.bytes, hml, findClass_of_methodNamed B.named, fun w hw => hts w (List.mem_cons_of_mem _ hw), hKn, fun q hq => Nat.le_trans hR.2.2.1 hq⟩
  have C2 : Cy meth c (some .boolean) := ⟨B.returns, B.notSynchronized, hxt⟩
  have key : WG G p l e { frames := 5, cells := 0, slots := 0, locals := 118 } s m ([.ref a0, .int p1, .int p2] : List Value).toArray below meth c 3 0 0 (vx_MQ below (QcT G o hs' tvI) (XCT G o hs') ([.ref a0, .int p1, .int p2] : List Value).toArray s 0 0 (gA G)) hs [(0, va_rf (some a0)), (1, .int p1), (2, .int p2)] [] 0 := by
    unfold f_X9_isPossible at h
    refine q_iload_n C 2 dX9_isPossible_0 rfl ?_
    refine q_bipush C (8 : Int32) dX9_isPossible_1 (by decide) ?_
    refine q_irem C dX9_isPossible_3 h (fun h => ?_)
    refine q_aload_n C 0 dX9_isPossible_4 rfl ?_
    refine q_gI C fl_X9_75 dX9_isPossible_5 h (fun v1 h => ?_)
    refine q_icmp_ge C 31 dX9_isPossible_8 (by decide) h (fun h => ?_) (fun h => ?_)
    · refine q_iconst C (0 : Int32) dX9_isPossible_31 (by decide) ?_
      exact q_zret C C2 rfl (Nat.le_of_ble_eq_true rfl) (Nat.le_of_ble_eq_true rfl) dX9_isPossible_32 h
    · refine q_aload_n C 0 dX9_isPossible_11 rfl ?_
      refine q_iload_n C 1 dX9_isPossible_12 rfl ?_
      refine q_iload_n C 2 dX9_isPossible_13 rfl ?_
      refine q_bipush C (8 : Int32) dX9_isPossible_14 (by decide) ?_
      refine q_idiv C dX9_isPossible_16 h (fun h => ?_)
      refine q_iload_n C 2 dX9_isPossible_17 rfl ?_
      refine q_bipush C (8 : Int32) dX9_isPossible_18 (by decide) ?_
      refine q_irem C dX9_isPossible_20 h (fun h => ?_)
      refine q_callV C (CN := RX9) (T := TX9) (N := 28) [.int p1, .int (p2 / (8 : Int32)), .int (irem p2 (8 : Int32))] [] (fun a0 o2 hs1 hm => m_X9_letters hm) lk_X9_145 im_X9_letters se_X9_X9_letters rfl ⟨(Nat.le_of_ble_eq_true rfl), (Nat.le_of_ble_eq_true rfl)⟩ ⟨(Nat.le_of_ble_eq_true rfl), (Nat.le_of_ble_eq_true rfl)⟩ rfl rfl (by decide) dX9_isPossible_21 h (fun v2 hs h => WG_st (st' := [.int v2]) rfl ?_)
      refine q_if_ne C 31 dX9_isPossible_24 (by decide) h (fun h => ?_) (fun h => ?_)
      · refine q_iconst C (0 : Int32) dX9_isPossible_31 (by decide) ?_
        exact q_zret C C2 rfl (Nat.le_of_ble_eq_true rfl) (Nat.le_of_ble_eq_true rfl) dX9_isPossible_32 h
      · refine q_iconst C (1 : Int32) dX9_isPossible_27 (by decide) ?_
        refine q_goto C 32 dX9_isPossible_28 (by decide) ?_
        exact q_zret C C2 rfl (Nat.le_of_ble_eq_true rfl) (Nat.le_of_ble_eq_true rfl) dX9_isPossible_32 h
  rw [lg_entry_eq]
  exact key _ _ _ hR va_S.rf ⟨lv_entry _ (n := 3) (Nat.le_of_ble_eq_true rfl), (c1_r (c1_i (c1_i c1_n)))⟩

theorem cd_X9_wrongPlace : Cond.code yX9_wrongPlace cX9_wrongPlace 4 (some .int) ∈ Tg := Tg_of (i := 1628) (by decide +kernel) (by decide +kernel)
theorem ml_X9_148 : Cond.methodLink RX9 148 yX9_isLesson ∈ Tg := Tg_of (i := 1629) (by decide +kernel) (by decide +kernel)
theorem lk_X9_148 : Lk RX9 148 yX9_isLesson cX9_isLesson 2 (some .boolean) 1 := ⟨ml_X9_148, cd_X9_isLesson, iw_X9, by decide +kernel⟩
theorem ml_X9_151 : Cond.methodLink RX9 151 yX9_isRoom ∈ Tg := Tg_of (i := 1633) (by decide +kernel) (by decide +kernel)
theorem lk_X9_151 : Lk RX9 151 yX9_isRoom cX9_isRoom 2 (some .boolean) 1 := ⟨ml_X9_151, cd_X9_isRoom, iw_X9, by decide +kernel⟩
theorem im_X9_isRoom : Cond.instanceMethod yX9_isRoom ∈ Tg := Tg_of (i := 1635) (by decide +kernel) (by decide +kernel)
theorem se_X9_X9_isRoom : Cond.selects RX9 yX9_isRoom yX9_isRoom ∈ Tg := Tg_of (i := 41) (by decide +kernel) (by decide +kernel)
theorem im_X9_isLesson : Cond.instanceMethod yX9_isLesson ∈ Tg := Tg_of (i := 1631) (by decide +kernel) (by decide +kernel)
theorem se_X9_X9_isLesson : Cond.selects RX9 yX9_isLesson yX9_isLesson ∈ Tg := Tg_of (i := 40) (by decide +kernel) (by decide +kernel)
section M_X9_wrongPlace
variable {p : Program} {l : Launch} {e : Env} {s : State} {m : MethodId} {args : Array Value} {below : List Frame} {meth : Method} {c : Code} {G : GG} {o : Except Nat Int32} {hs' : Hs}
def j_X9_wrongPlace_27    : OO Int32 :=
  rtn (2 : Int32)
set_option maxRecDepth 100000 in
set_option maxHeartbeats 4000000 in
theorem w_j_X9_wrongPlace_27 (C : Cx G l p s m args c RX9 cX9_wrongPlace 4) (C2 : Cy meth c (some .int)) {hs : Hs}     (h : j_X9_wrongPlace_27 hs = some (o, hs')) : WG G p l e { frames := 2, cells := 0, slots := 0, locals := 43 } s m args below meth c 4 0 0 (vx_MQ below (QcT G o hs' tvI) (XCT G o hs') args s 0 0 (gA G)) hs [] [] 27 := by
  unfold j_X9_wrongPlace_27 at h
  refine q_iconst C (2 : Int32) dX9_wrongPlace_27 (by decide) ?_
  refine q_goto C 32 dX9_wrongPlace_28 (by decide) ?_
  exact q_iret C C2 rfl (Nat.le_of_ble_eq_true rfl) (Nat.le_of_ble_eq_true rfl) dX9_wrongPlace_32 h
end M_X9_wrongPlace
def f_X9_wrongPlace (a0 : Nat) (p1 : Int32) (p2 : Int32) (p3 : Int32) : OO Int32 :=
    rcv (some a0) 12 fun r5 => call (f_X9_isLesson r5 p1) (fun (v1 : Int32) =>
    (if ¬ v1 = 0 then
    call (f_X9_isSlot p2) (fun (v2 : Int32) =>
    (if v2 = 0 then
    j_X9_wrongPlace_27
    else
    rcv (some a0) 12 fun r4 => call (f_X9_isRoom r4 p3) (fun (v3 : Int32) =>
    (if ¬ v3 = 0 then
    rtn (0 : Int32)
    else
    j_X9_wrongPlace_27)) nox)) nox
    else
    rtn (1 : Int32))) nox
set_option maxRecDepth 100000 in
set_option maxHeartbeats 4000000 in
theorem m_X9_wrongPlace {G : GG} {l : Launch} {a0 : Nat} {p1 : Int32} {p2 : Int32} {p3 : Int32} {hs hs' : Hs} {o : Except Nat Int32} (h : f_X9_wrongPlace a0 p1 p2 p3 hs = some (o, hs')) : CT G l yX9_wrongPlace cX9_wrongPlace 4 (some .int) 2 43 0 0 [.ref a0, .int p1, .int p2, .int p3] hs o hs' tvI := by
  refine vx_ofW (cc := cX9_wrongPlace) (maxL := 4) (ret := (some .int)) (by decide +kernel) rfl ?_
  intro p e s m args below meth c s₁ B hml hxt hv
  obtain ⟨hav, hR, hKn⟩ := hv
  subst hav
  have hts := atoms_spec (ws := .code yX9_wrongPlace cX9_wrongPlace 4 (some .int) :: Tg) B.pre
  have C : Cx G l p s m _ c RX9 cX9_wrongPlace 4 := ⟨B.exec, B.bytes, hml, findClass_of_methodNamed B.named, fun w hw => hts w (List.mem_cons_of_mem _ hw), hKn, fun q hq => Nat.le_trans hR.2.2.1 hq⟩
  have C2 : Cy meth c (some .int) := ⟨B.returns, B.notSynchronized, hxt⟩
  have key : WG G p l e { frames := 2, cells := 0, slots := 0, locals := 43 } s m ([.ref a0, .int p1, .int p2, .int p3] : List Value).toArray below meth c 4 0 0 (vx_MQ below (QcT G o hs' tvI) (XCT G o hs') ([.ref a0, .int p1, .int p2, .int p3] : List Value).toArray s 0 0 (gA G)) hs [(0, va_rf (some a0)), (1, .int p1), (2, .int p2), (3, .int p3)] [] 0 := by
    unfold f_X9_wrongPlace at h
    refine q_aload_n C 0 dX9_wrongPlace_0 rfl ?_
    refine q_iload_n C 1 dX9_wrongPlace_1 rfl ?_
    refine q_callV C (CN := RX9) (T := TX9) (N := 28) [.int p1] [] (fun a0 o2 hs1 hm => m_X9_isLesson hm) lk_X9_148 im_X9_isLesson se_X9_X9_isLesson rfl ⟨(Nat.le_of_ble_eq_true rfl), (Nat.le_of_ble_eq_true rfl)⟩ ⟨(Nat.le_of_ble_eq_true rfl), (Nat.le_of_ble_eq_true rfl)⟩ rfl rfl (by decide) dX9_wrongPlace_2 h (fun v1 hs h => WG_st (st' := [.int v1]) rfl ?_)
    refine q_if_ne C 12 dX9_wrongPlace_5 (by decide) h (fun h => ?_) (fun h => ?_)
    · refine q_iload_n C 2 dX9_wrongPlace_12 rfl ?_
      refine q_callS C [.int p2] [] (fun o2 hs1 hm => m_X9_isSlot hm) lk_X9_107 sm_X9_isSlot ⟨(Nat.le_of_ble_eq_true rfl), (Nat.le_of_ble_eq_true rfl)⟩ ⟨(Nat.le_of_ble_eq_true rfl), (Nat.le_of_ble_eq_true rfl)⟩ rfl rfl (by decide) dX9_wrongPlace_13 h (fun v2 hs h => WG_st (st' := [.int v2]) rfl ?_)
      refine q_if_eq C 27 dX9_wrongPlace_16 (by decide) h (fun h => ?_) (fun h => ?_)
      · refine WG.sub [] rfl ?_
        exact w_j_X9_wrongPlace_27 C C2    h
      · refine q_aload_n C 0 dX9_wrongPlace_19 rfl ?_
        refine q_iload_n C 3 dX9_wrongPlace_20 rfl ?_
        refine q_callV C (CN := RX9) (T := TX9) (N := 28) [.int p3] [] (fun a0 o2 hs1 hm => m_X9_isRoom hm) lk_X9_151 im_X9_isRoom se_X9_X9_isRoom rfl ⟨(Nat.le_of_ble_eq_true rfl), (Nat.le_of_ble_eq_true rfl)⟩ ⟨(Nat.le_of_ble_eq_true rfl), (Nat.le_of_ble_eq_true rfl)⟩ rfl rfl (by decide) dX9_wrongPlace_21 h (fun v3 hs h => WG_st (st' := [.int v3]) rfl ?_)
        refine q_if_ne C 31 dX9_wrongPlace_24 (by decide) h (fun h => ?_) (fun h => ?_)
        · refine q_iconst C (0 : Int32) dX9_wrongPlace_31 (by decide) ?_
          exact q_iret C C2 rfl (Nat.le_of_ble_eq_true rfl) (Nat.le_of_ble_eq_true rfl) dX9_wrongPlace_32 h
        · refine WG.sub [] rfl ?_
          exact w_j_X9_wrongPlace_27 C C2    h
    · refine q_iconst C (1 : Int32) dX9_wrongPlace_8 (by decide) ?_
      refine q_goto C 32 dX9_wrongPlace_9 (by decide) ?_
      exact q_iret C C2 rfl (Nat.le_of_ble_eq_true rfl) (Nat.le_of_ble_eq_true rfl) dX9_wrongPlace_32 h
  rw [lg_entry_eq]
  exact key _ _ _ hR va_S.rf ⟨lv_entry _ (n := 4) (Nat.le_of_ble_eq_true rfl), (c1_r (c1_i (c1_i (c1_i c1_n))))⟩

theorem cd_X9_letter : Cond.code yX9_letter cX9_letter 1 (some .char) ∈ Tg := Tg_of (i := 1678) (by decide +kernel) (by decide +kernel)
section M_X9_letter
variable {p : Program} {l : Launch} {e : Env} {s : State} {m : MethodId} {args : Array Value} {below : List Frame} {meth : Method} {c : Code} {G : GG} {o : Except Nat Int32} {hs' : Hs}
end M_X9_letter
def f_X9_letter (p0 : Int32) : OO Int32 :=
    (if (5 : Int32) ≤ p0 then
    (if ¬ p0 = (5 : Int32) then
    (if ¬ p0 = (6 : Int32) then
    (if ¬ p0 = (7 : Int32) then
    (if ¬ p0 = (8 : Int32) then
    retC (118 : Int32)
    else
    retC (103 : Int32))
    else
    retC (116 : Int32))
    else
    retC (114 : Int32))
    else
    retC (99 : Int32))
    else
    (if ¬ p0 = 0 then
    (if ¬ p0 = (1 : Int32) then
    (if ¬ p0 = (2 : Int32) then
    (if ¬ p0 = (3 : Int32) then
    retC (115 : Int32)
    else
    retC (107 : Int32))
    else
    retC (111 : Int32))
    else
    retC (112 : Int32))
    else
    retC (104 : Int32)))
set_option maxRecDepth 100000 in
set_option maxHeartbeats 4000000 in
theorem m_X9_letter {G : GG} {l : Launch} {p0 : Int32} {hs hs' : Hs} {o : Except Nat Int32} (h : f_X9_letter p0 hs = some (o, hs')) : CT G l yX9_letter cX9_letter 1 (some .char) 0 0 0 0 [.int p0] hs o hs' tvI := by
  refine vx_ofW (cc := cX9_letter) (maxL := 1) (ret := (some .char)) (by decide +kernel) rfl ?_
  intro p e s m args below meth c s₁ B hml hxt hv
  obtain ⟨hav, hR, hKn⟩ := hv
  subst hav
  have hts := atoms_spec (ws := .code yX9_letter cX9_letter 1 (some .char) :: Tg) B.pre
  have C : Cx G l p s m _ c RX9 cX9_letter 1 := ⟨B.exec, B.bytes, hml, findClass_of_methodNamed B.named, fun w hw => hts w (List.mem_cons_of_mem _ hw), hKn, fun q hq => Nat.le_trans hR.2.2.1 hq⟩
  have C2 : Cy meth c (some .char) := ⟨B.returns, B.notSynchronized, hxt⟩
  have key : WG G p l e { frames := 0, cells := 0, slots := 0, locals := 0 } s m ([.int p0] : List Value).toArray below meth c 1 0 0 (vx_MQ below (QcT G o hs' tvI) (XCT G o hs') ([.int p0] : List Value).toArray s 0 0 (gA G)) hs [(0, .int p0)] [] 0 := by
    unfold f_X9_letter at h
    refine q_iload_n C 0 dX9_letter_0 rfl ?_
    refine q_iconst C (5 : Int32) dX9_letter_1 (by decide) ?_
    refine q_icmp_ge C 47 dX9_letter_2 (by decide) h (fun h => ?_) (fun h => ?_)
    · refine q_iload_n C 0 dX9_letter_47 rfl ?_
      refine q_iconst C (5 : Int32) dX9_letter_48 (by decide) ?_
      refine q_icmp_ne C 57 dX9_letter_49 (by decide) h (fun h => ?_) (fun h => ?_)
      · refine q_iload_n C 0 dX9_letter_57 rfl ?_
        refine q_bipush C (6 : Int32) dX9_letter_58 (by decide) ?_
        refine q_icmp_ne C 68 dX9_letter_60 (by decide) h (fun h => ?_) (fun h => ?_)
        · refine q_iload_n C 0 dX9_letter_68 rfl ?_
          refine q_bipush C (7 : Int32) dX9_letter_69 (by decide) ?_
          refine q_icmp_ne C 79 dX9_letter_71 (by decide) h (fun h => ?_) (fun h => ?_)
          · refine q_iload_n C 0 dX9_letter_79 rfl ?_
            refine q_bipush C (8 : Int32) dX9_letter_80 (by decide) ?_
            refine q_icmp_ne C 90 dX9_letter_82 (by decide) h (fun h => ?_) (fun h => ?_)
            · refine q_bipush C (118 : Int32) dX9_letter_90 (by decide) ?_
              exact q_cret C C2 rfl (Nat.le_of_ble_eq_true rfl) (Nat.le_of_ble_eq_true rfl) dX9_letter_92 h
            · refine q_bipush C (103 : Int32) dX9_letter_85 (by decide) ?_
              refine q_goto C 92 dX9_letter_87 (by decide) ?_
              exact q_cret C C2 rfl (Nat.le_of_ble_eq_true rfl) (Nat.le_of_ble_eq_true rfl) dX9_letter_92 h
          · refine q_bipush C (116 : Int32) dX9_letter_74 (by decide) ?_
            refine q_goto C 92 dX9_letter_76 (by decide) ?_
            exact q_cret C C2 rfl (Nat.le_of_ble_eq_true rfl) (Nat.le_of_ble_eq_true rfl) dX9_letter_92 h
        · refine q_bipush C (114 : Int32) dX9_letter_63 (by decide) ?_
          refine q_goto C 92 dX9_letter_65 (by decide) ?_
          exact q_cret C C2 rfl (Nat.le_of_ble_eq_true rfl) (Nat.le_of_ble_eq_true rfl) dX9_letter_92 h
      · refine q_bipush C (99 : Int32) dX9_letter_52 (by decide) ?_
        refine q_goto C 92 dX9_letter_54 (by decide) ?_
        exact q_cret C C2 rfl (Nat.le_of_ble_eq_true rfl) (Nat.le_of_ble_eq_true rfl) dX9_letter_92 h
    · refine q_iload_n C 0 dX9_letter_5 rfl ?_
      refine q_if_ne C 14 dX9_letter_6 (by decide) h (fun h => ?_) (fun h => ?_)
      · refine q_iload_n C 0 dX9_letter_14 rfl ?_
        refine q_iconst C (1 : Int32) dX9_letter_15 (by decide) ?_
        refine q_icmp_ne C 24 dX9_letter_16 (by decide) h (fun h => ?_) (fun h => ?_)
        · refine q_iload_n C 0 dX9_letter_24 rfl ?_
          refine q_iconst C (2 : Int32) dX9_letter_25 (by decide) ?_
          refine q_icmp_ne C 34 dX9_letter_26 (by decide) h (fun h => ?_) (fun h => ?_)
          · refine q_iload_n C 0 dX9_letter_34 rfl ?_
            refine q_iconst C (3 : Int32) dX9_letter_35 (by decide) ?_
            refine q_icmp_ne C 44 dX9_letter_36 (by decide) h (fun h => ?_) (fun h => ?_)
            · refine q_bipush C (115 : Int32) dX9_letter_44 (by decide) ?_
              exact q_cret C C2 rfl (Nat.le_of_ble_eq_true rfl) (Nat.le_of_ble_eq_true rfl) dX9_letter_46 h
            · refine q_bipush C (107 : Int32) dX9_letter_39 (by decide) ?_
              refine q_goto C 46 dX9_letter_41 (by decide) ?_
              exact q_cret C C2 rfl (Nat.le_of_ble_eq_true rfl) (Nat.le_of_ble_eq_true rfl) dX9_letter_46 h
          · refine q_bipush C (111 : Int32) dX9_letter_29 (by decide) ?_
            refine q_goto C 46 dX9_letter_31 (by decide) ?_
            exact q_cret C C2 rfl (Nat.le_of_ble_eq_true rfl) (Nat.le_of_ble_eq_true rfl) dX9_letter_46 h
        · refine q_bipush C (112 : Int32) dX9_letter_19 (by decide) ?_
          refine q_goto C 46 dX9_letter_21 (by decide) ?_
          exact q_cret C C2 rfl (Nat.le_of_ble_eq_true rfl) (Nat.le_of_ble_eq_true rfl) dX9_letter_46 h
      · refine q_bipush C (104 : Int32) dX9_letter_9 (by decide) ?_
        refine q_goto C 46 dX9_letter_11 (by decide) ?_
        exact q_cret C C2 rfl (Nat.le_of_ble_eq_true rfl) (Nat.le_of_ble_eq_true rfl) dX9_letter_46 h
  rw [lg_entry_eq]
  exact key _ _ _ hR va_S.rf ⟨lv_entry _ (n := 1) (Nat.le_of_ble_eq_true rfl), (c1_i c1_n)⟩

theorem cd_X9_reason : Cond.code yX9_reason cX9_reason 6 (some .char) ∈ Tg := Tg_of (i := 1624) (by decide +kernel) (by decide +kernel)
theorem ml_X9_154 : Cond.methodLink RX9 154 yX9_wrongPlace ∈ Tg := Tg_of (i := 1625) (by decide +kernel) (by decide +kernel)
theorem lk_X9_154 : Lk RX9 154 yX9_wrongPlace cX9_wrongPlace 4 (some .int) 3 := ⟨ml_X9_154, cd_X9_wrongPlace, iw_X9, by decide +kernel⟩
theorem ml_X9_157 : Cond.methodLink RX9 157 yX9_letter ∈ Tg := Tg_of (i := 1676) (by decide +kernel) (by decide +kernel)
theorem lk_X9_157 : Lk RX9 157 yX9_letter cX9_letter 1 (some .char) 1 := ⟨ml_X9_157, cd_X9_letter, iw_X9, by decide +kernel⟩
theorem sm_X9_letter : Cond.static yX9_letter ∈ Tg := Tg_of (i := 1677) (by decide +kernel) (by decide +kernel)
theorem im_X9_wrongPlace : Cond.instanceMethod yX9_wrongPlace ∈ Tg := Tg_of (i := 1627) (by decide +kernel) (by decide +kernel)
theorem se_X9_X9_wrongPlace : Cond.selects RX9 yX9_wrongPlace yX9_wrongPlace ∈ Tg := Tg_of (i := 39) (by decide +kernel) (by decide +kernel)
section M_X9_reason
variable {p : Program} {l : Launch} {e : Env} {s : State} {m : MethodId} {args : Array Value} {below : List Frame} {meth : Method} {c : Code} {G : GG} {o : Except Nat Int32} {hs' : Hs}
def L_X9_reason_33 (a4 : Int32) (k_33_51 : Int32 → OO Int32) (k_33_63 : OO Int32) : Nat → Int32 → OO Int32
  | 0, _ => failO
  | n + 1, x5 =>
    (if (10 : Int32) ≤ x5 then
    k_33_63
    else
    dvz (2 : Int32) (
    (if ¬ ((irem (a4 >>> (x5 &&& 31)) (2 : Int32))) = (1 : Int32) then
    lets (x5 + (1 : Int32)) fun (v6 : Int32) =>
    (L_X9_reason_33 a4 k_33_51 k_33_63 n) v6
    else
    k_33_51 x5)))
set_option maxRecDepth 100000 in
set_option maxHeartbeats 4000000 in
theorem w_L_X9_reason_33 (C : Cx G l p s m args c RX9 cX9_reason 6) (C2 : Cy meth c (some .char)) (a4 : Int32) (k_33_51 : Int32 → OO Int32) (k_33_63 : OO Int32) (hk_33_51 : ∀ (y5 : Int32) hs, k_33_51 y5 hs = some (o, hs') → WG G p l e { frames := 5, cells := 0, slots := 0, locals := 118 } s m args below meth c 6 0 0 (vx_MQ below (QcT G o hs' tvI) (XCT G o hs') args s 0 0 (gA G)) hs [(5, .int y5)] [] 51) (hk_33_63 : ∀ hs, k_33_63  hs = some (o, hs') → WG G p l e { frames := 5, cells := 0, slots := 0, locals := 118 } s m args below meth c 6 0 0 (vx_MQ below (QcT G o hs' tvI) (XCT G o hs') args s 0 0 (gA G)) hs [] [] 63) : ∀ (n : Nat) (x5 : Int32) (hs : Hs), L_X9_reason_33 a4 k_33_51 k_33_63 n x5 hs = some (o, hs') → WG G p l e { frames := 5, cells := 0, slots := 0, locals := 118 } s m args below meth c 6 0 0 (vx_MQ below (QcT G o hs' tvI) (XCT G o hs') args s 0 0 (gA G)) hs [(4, .int a4), (5, .int x5)] [] 33 := by
  intro n
  induction n with
  | zero =>
    intro x5 hs h
    rw [L_X9_reason_33] at h
    exact absurd h failO_e
  | succ n hrec_33 =>
    intro x5 hs h
    rw [L_X9_reason_33] at h
    refine q_iload C 1 dX9_reason_33 rfl ?_
    refine q_bipush C (10 : Int32) dX9_reason_35 (by decide) ?_
    refine q_icmp_ge C 63 dX9_reason_37 (by decide) h (fun h => ?_) (fun h => ?_)
    · refine WG.sub [] rfl ?_
      exact hk_33_63 _ h
    · refine q_iload C 0 dX9_reason_40 rfl ?_
      refine q_iload C 1 dX9_reason_42 rfl ?_
      refine q_ishr C dX9_reason_44 ?_
      refine q_iconst C (2 : Int32) dX9_reason_45 (by decide) ?_
      refine q_irem C dX9_reason_46 h (fun h => ?_)
      refine q_iconst C (1 : Int32) dX9_reason_47 (by decide) ?_
      refine q_icmp_ne C 57 dX9_reason_48 (by decide) h (fun h => ?_) (fun h => ?_)
      · refine q_iinc C 1 (1 : Int32) (fun v6 => [(5, .int v6), (4, .int a4)]) dX9_reason_57 rfl (by decide) (by decide) (fun _ => rfl) h (fun v6 h => ?_)
        refine q_goto C 33 dX9_reason_60 (by decide) ?_
        refine WG.sub [1, 0] rfl ?_
        exact hrec_33 _ _ h
      · refine WG.sub [1] rfl ?_
        exact hk_33_51 _ _ h
end M_X9_reason
def f_X9_reason (a0 : Nat) (p1 : Int32) (p2 : Int32) (p3 : Int32) : OO Int32 :=
    rcv (some a0) 12 fun r10 => call (f_X9_wrongPlace r10 p1 p2 p3) (fun (v1 : Int32) =>
    pI (some a0) 12 20 v1 (
    gI (some a0) 12 20 fun v2 =>
    (if v2 ≤ 0 then
    rcv (some a0) 12 fun r9 => call (f_X9_letters r9 p1 p2 p3) (fun (v3 : Int32) =>
    lets v3 fun (v4 : Int32) =>
    lets (0 : Int32) fun (v5 : Int32) =>
    L_X9_reason_33 v4 (fun (v7 : Int32) => call (f_X9_letter v7) (fun (v8 : Int32) =>
    retC v8) nox) (retC (45 : Int32)) 100000 v5) nox
    else
    retC (32 : Int32)))) nox
set_option maxRecDepth 100000 in
set_option maxHeartbeats 4000000 in
theorem m_X9_reason {G : GG} {l : Launch} {a0 : Nat} {p1 : Int32} {p2 : Int32} {p3 : Int32} {hs hs' : Hs} {o : Except Nat Int32} (h : f_X9_reason a0 p1 p2 p3 hs = some (o, hs')) : CT G l yX9_reason cX9_reason 6 (some .char) 5 118 0 0 [.ref a0, .int p1, .int p2, .int p3] hs o hs' tvI := by
  refine vx_ofW (cc := cX9_reason) (maxL := 6) (ret := (some .char)) (by decide +kernel) rfl ?_
  intro p e s m args below meth c s₁ B hml hxt hv
  obtain ⟨hav, hR, hKn⟩ := hv
  subst hav
  have hts := atoms_spec (ws := .code yX9_reason cX9_reason 6 (some .char) :: Tg) B.pre
  have C : Cx G l p s m _ c RX9 cX9_reason 6 := ⟨B.exec, B.bytes, hml, findClass_of_methodNamed B.named, fun w hw => hts w (List.mem_cons_of_mem _ hw), hKn, fun q hq => Nat.le_trans hR.2.2.1 hq⟩
  have C2 : Cy meth c (some .char) := ⟨B.returns, B.notSynchronized, hxt⟩
  have key : WG G p l e { frames := 5, cells := 0, slots := 0, locals := 118 } s m ([.ref a0, .int p1, .int p2, .int p3] : List Value).toArray below meth c 6 0 0 (vx_MQ below (QcT G o hs' tvI) (XCT G o hs') ([.ref a0, .int p1, .int p2, .int p3] : List Value).toArray s 0 0 (gA G)) hs [(0, va_rf (some a0)), (1, .int p1), (2, .int p2), (3, .int p3)] [] 0 := by
    unfold f_X9_reason at h
    refine q_aload_n C 0 dX9_reason_0 rfl ?_
    refine q_aload_n C 0 dX9_reason_1 rfl ?_
    refine q_iload_n C 1 dX9_reason_2 rfl ?_
    refine q_iload_n C 2 dX9_reason_3 rfl ?_
    refine q_iload_n C 3 dX9_reason_4 rfl ?_
    refine q_callV C (CN := RX9) (T := TX9) (N := 28) [.int p1, .int p2, .int p3] [va_rf (some a0)] (fun a0 o2 hs1 hm => m_X9_wrongPlace hm) lk_X9_154 im_X9_wrongPlace se_X9_X9_wrongPlace rfl ⟨(Nat.le_of_ble_eq_true rfl), (Nat.le_of_ble_eq_true rfl)⟩ ⟨(Nat.le_of_ble_eq_true rfl), (Nat.le_of_ble_eq_true rfl)⟩ rfl rfl (by simp only [List.map, cat_rf, cat_i, cat_a]; decide) dX9_reason_5 h (fun v1 hs h => WG_st (st' := [.int v1, va_rf (some a0)]) rfl ?_)
    refine q_pI C fw_X9_71 (fun z => nomatch z) dX9_reason_8 h (fun hs h => ?_)
    refine q_aload_n C 0 dX9_reason_11 rfl ?_
    refine q_gI C fl_X9_71 dX9_reason_12 h (fun v2 h => ?_)
    refine q_if_le C 21 dX9_reason_15 (by decide) h (fun h => ?_) (fun h => ?_)
    · refine q_aload_n C 0 dX9_reason_21 rfl ?_
      refine q_iload_n C 1 dX9_reason_22 rfl ?_
      refine q_iload_n C 2 dX9_reason_23 rfl ?_
      refine q_iload_n C 3 dX9_reason_24 rfl ?_
      refine q_callV C (CN := RX9) (T := TX9) (N := 28) [.int p1, .int p2, .int p3] [] (fun a0 o2 hs1 hm => m_X9_letters hm) lk_X9_145 im_X9_letters se_X9_X9_letters rfl ⟨(Nat.le_of_ble_eq_true rfl), (Nat.le_of_ble_eq_true rfl)⟩ ⟨(Nat.le_of_ble_eq_true rfl), (Nat.le_of_ble_eq_true rfl)⟩ rfl rfl (by decide) dX9_reason_25 h (fun v3 hs h => WG_st (st' := [.int v3]) rfl ?_)
      refine q_istore C (fun v4 => [(4, .int v4), (0, va_rf (some a0)), (1, .int p1), (2, .int p2), (3, .int p3)]) dX9_reason_28 (by decide) (fun _ => rfl) h (fun v4 h => ?_)
      refine q_iconst C (0 : Int32) dX9_reason_30 (by decide) ?_
      refine q_istore C (fun v5 => [(5, .int v5), (4, .int v4), (0, va_rf (some a0)), (1, .int p1), (2, .int p2), (3, .int p3)]) dX9_reason_31 (by decide) (fun _ => rfl) h (fun v5 h => ?_)
      refine WG.sub [1, 0] rfl ?_
      refine w_L_X9_reason_33 C C2 _ _ _ ?_ ?_ _ _ _ h
      · intro v7 hs h
        refine q_iload C 0 dX9_reason_51 rfl ?_
        refine q_callS C [.int v7] [] (fun o2 hs1 hm => m_X9_letter hm) lk_X9_157 sm_X9_letter ⟨(Nat.le_of_ble_eq_true rfl), (Nat.le_of_ble_eq_true rfl)⟩ ⟨(Nat.le_of_ble_eq_true rfl), (Nat.le_of_ble_eq_true rfl)⟩ rfl rfl (by decide) dX9_reason_53 h (fun v8 hs h => WG_st (st' := [.int v8]) rfl ?_)
        exact q_cret C C2 rfl (Nat.le_of_ble_eq_true rfl) (Nat.le_of_ble_eq_true rfl) dX9_reason_56 h
      · intro  hs h
        refine q_bipush C (45 : Int32) dX9_reason_63 (by decide) ?_
        exact q_cret C C2 rfl (Nat.le_of_ble_eq_true rfl) (Nat.le_of_ble_eq_true rfl) dX9_reason_65 h
    · refine q_bipush C (32 : Int32) dX9_reason_18 (by decide) ?_
      exact q_cret C C2 rfl (Nat.le_of_ble_eq_true rfl) (Nat.le_of_ble_eq_true rfl) dX9_reason_20 h
  rw [lg_entry_eq]
  exact key _ _ _ hR va_S.rf ⟨lv_entry _ (n := 6) (Nat.le_of_ble_eq_true rfl), (c1_r (c1_i (c1_i (c1_i c1_n))))⟩

