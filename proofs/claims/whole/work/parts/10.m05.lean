theorem cd_X4_isPossible : Cond.code yX4_isPossible cX4_isPossible 2 (some .boolean) ∈ Tg := Tg_of (i := 1214) (by decide +kernel) (by decide +kernel)
section M_X4_isPossible
variable {p : Program} {l : Launch} {e : Env} {s : State} {m : MethodId} {args : Array Value} {below : List Frame} {meth : Method} {c : Code} {G : GG} {o : Except Nat Int32} {hs' : Hs}
end M_X4_isPossible
def f_X4_isPossible (a0 : Nat) (p1 : Int32) : OO Int32 :=
    (if p1 < 0 then
    retZ (0 : Int32)
    else
    gR (some a0) 7 10 fun v1 =>
    dvz (8 : Int32) (
    call (f_X8_at v1 (irem p1 (8 : Int32))) (fun (v2 : Int32) =>
    dvz (8 : Int32) (
    call (f_X8_has v2 (p1 / (8 : Int32))) (fun (v3 : Int32) =>
    (if v3 = 0 then
    retZ (0 : Int32)
    else
    retZ (1 : Int32))) nox)) nox))
set_option maxRecDepth 100000 in
set_option maxHeartbeats 4000000 in
theorem m_X4_isPossible {G : GG} {l : Launch} {a0 : Nat} {p1 : Int32} {hs hs' : Hs} {o : Except Nat Int32} (h : f_X4_isPossible a0 p1 hs = some (o, hs')) : CT G l yX4_isPossible cX4_isPossible 2 (some .boolean) 1 21 0 0 [.ref a0, .int p1] hs o hs' tvI := by
  refine vx_ofW (cc := cX4_isPossible) (maxL := 2) (ret := (some .boolean)) (by decide +kernel) rfl ?_
  intro p e s m args below meth c s₁ B hml hxt hv
  obtain ⟨hav, hR, hKn⟩ := hv
  subst hav
  have hts := atoms_spec (ws := .code yX4_isPossible cX4_isPossible 2 (some .boolean) :: Tg) B.pre
  have C : Cx G l p s m _ c RX4 cX4_isPossible 2 := ⟨B.exec, B.bytes, hml, findClass_of_methodNamed B.named, fun w hw => hts w (List.mem_cons_of_mem _ hw), hKn, fun q hq => Nat.le_trans hR.2.2.1 hq⟩
  have C2 : Cy meth c (some .boolean) := ⟨B.returns, B.notSynchronized, hxt⟩
  have key : WG G p l e { frames := 1, cells := 0, slots := 0, locals := 21 } s m ([.ref a0, .int p1] : List Value).toArray below meth c 2 0 0 (vx_MQ below (QcT G o hs' tvI) (XCT G o hs') ([.ref a0, .int p1] : List Value).toArray s 0 0 (gA G)) hs [(0, va_rf (some a0)), (1, .int p1)] [] 0 := by
    unfold f_X4_isPossible at h
    refine q_iload_n C 1 dX4_isPossible_0 rfl ?_
    refine q_if_lt C 29 dX4_isPossible_1 (by decide) h (fun h => ?_) (fun h => ?_)
    · refine q_iconst C (0 : Int32) dX4_isPossible_29 (by decide) ?_
      exact q_zret C C2 rfl (Nat.le_of_ble_eq_true rfl) (Nat.le_of_ble_eq_true rfl) dX4_isPossible_30 h
    · refine q_aload_n C 0 dX4_isPossible_4 rfl ?_
      refine q_gR C fl_X4_15 dX4_isPossible_5 h (fun v1 h => ?_)
      refine q_iload_n C 1 dX4_isPossible_8 rfl ?_
      refine q_bipush C (8 : Int32) dX4_isPossible_9 (by decide) ?_
      refine q_irem C dX4_isPossible_11 h (fun h => ?_)
      refine q_callSN C [va_rf v1, .int (irem p1 (8 : Int32))] [] (fun o2 hs1 hm => m_X8_at hm) lk_X4_123 sm_X8_at ⟨(Nat.le_of_ble_eq_true rfl), (Nat.le_of_ble_eq_true rfl)⟩ ⟨(Nat.le_of_ble_eq_true rfl), (Nat.le_of_ble_eq_true rfl)⟩ rfl rfl (by decide) dX4_isPossible_12 h (fun v2 hs h => WG_st (st' := [.int v2]) rfl ?_)
      refine q_iload_n C 1 dX4_isPossible_15 rfl ?_
      refine q_bipush C (8 : Int32) dX4_isPossible_16 (by decide) ?_
      refine q_idiv C dX4_isPossible_18 h (fun h => ?_)
      refine q_callSN C [.int v2, .int (p1 / (8 : Int32))] [] (fun o2 hs1 hm => m_X8_has hm) lk_X4_138 sm_X8_has ⟨(Nat.le_of_ble_eq_true rfl), (Nat.le_of_ble_eq_true rfl)⟩ ⟨(Nat.le_of_ble_eq_true rfl), (Nat.le_of_ble_eq_true rfl)⟩ rfl rfl (by decide) dX4_isPossible_19 h (fun v3 hs h => WG_st (st' := [.int v3]) rfl ?_)
      refine q_if_eq C 29 dX4_isPossible_22 (by decide) h (fun h => ?_) (fun h => ?_)
      · refine q_iconst C (0 : Int32) dX4_isPossible_29 (by decide) ?_
        exact q_zret C C2 rfl (Nat.le_of_ble_eq_true rfl) (Nat.le_of_ble_eq_true rfl) dX4_isPossible_30 h
      · refine q_iconst C (1 : Int32) dX4_isPossible_25 (by decide) ?_
        refine q_goto C 30 dX4_isPossible_26 (by decide) ?_
        exact q_zret C C2 rfl (Nat.le_of_ble_eq_true rfl) (Nat.le_of_ble_eq_true rfl) dX4_isPossible_30 h
  rw [lg_entry_eq]
  exact key _ _ _ hR va_S.rf ⟨lv_entry _ (n := 2) (Nat.le_of_ble_eq_true rfl), (c1_r (c1_i c1_n))⟩

theorem cd_X5_init : Cond.code yX5_init cX5_init 5 none ∈ Tg := Tg_of (i := 679) (by decide +kernel) (by decide +kernel)
theorem wf_X5_7 : Cond.fieldLink RX5 7 RX5 (TX5 4).2.1 (TX5 4).2.2.1 ∈ Tg := Tg_of (i := 691) (by decide +kernel) (by decide +kernel)
theorem fw_X5_7 : FldW RX5 7 8 4 .boolean false := ⟨RX5, TX5, 5, RX5, rfl, by decide, wf_X5_7, (Or.inl rfl), gu_X5, tyX5_ok _ (by decide), ⟨tyX5, tyX5_ok⟩, nmX5, rfl, fun z => nomatch z⟩
theorem wf_X5_13 : Cond.fieldLink RX5 13 RX5 (TX5 0).2.1 (TX5 0).2.2.1 ∈ Tg := Tg_of (i := 681) (by decide +kernel) (by decide +kernel)
theorem fw_X5_13 : FldW RX5 13 8 0 .int true := ⟨RX5, TX5, 5, RX5, rfl, by decide, wf_X5_13, (Or.inl rfl), gu_X5, tyX5_ok _ (by decide), ⟨tyX5, tyX5_ok⟩, nmX5, rfl, fun _ => rfl⟩
theorem wf_X5_17 : Cond.fieldLink RX5 17 RX5 (TX5 1).2.1 (TX5 1).2.2.1 ∈ Tg := Tg_of (i := 683) (by decide +kernel) (by decide +kernel)
theorem fw_X5_17 : FldW RX5 17 8 1 .int true := ⟨RX5, TX5, 5, RX5, rfl, by decide, wf_X5_17, (Or.inl rfl), gu_X5, tyX5_ok _ (by decide), ⟨tyX5, tyX5_ok⟩, nmX5, rfl, fun _ => rfl⟩
theorem wf_X5_20 : Cond.fieldLink RX5 20 RX5 (TX5 2).2.1 (TX5 2).2.2.1 ∈ Tg := Tg_of (i := 685) (by decide +kernel) (by decide +kernel)
theorem fw_X5_20 : FldW RX5 20 8 2 .int true := ⟨RX5, TX5, 5, RX5, rfl, by decide, wf_X5_20, (Or.inl rfl), gu_X5, tyX5_ok _ (by decide), ⟨tyX5, tyX5_ok⟩, nmX5, rfl, fun _ => rfl⟩
theorem wf_X5_23 : Cond.fieldLink RX5 23 RX5 (TX5 3).2.1 (TX5 3).2.2.1 ∈ Tg := Tg_of (i := 688) (by decide +kernel) (by decide +kernel)
theorem fw_X5_23 : FldW RX5 23 8 3 .int true := ⟨RX5, TX5, 5, RX5, rfl, by decide, wf_X5_23, (Or.inl rfl), gu_X5, tyX5_ok _ (by decide), ⟨tyX5, tyX5_ok⟩, nmX5, rfl, fun _ => rfl⟩
theorem mo_X5_1 : Cond.methodLink RX5 1 Lib.objectInit ∈ Tg := Tg_of (i := 680) (by decide +kernel) (by decide +kernel)
section M_X5_init
variable {p : Program} {l : Launch} {e : Env} {s : State} {m : MethodId} {args : Array Value} {below : List Frame} {meth : Method} {c : Code} {G : GG} {o : Except Nat Unit} {hs' : Hs}
end M_X5_init
def f_X5_init (a0 : Nat) (p1 : Int32) (p2 : Int32) (p3 : Int32) (p4 : Int32) : OO Unit :=
    pZ (some a0) 8 4 (1 : Int32) (
    pI (some a0) 8 0 p1 (
    pI (some a0) 8 1 p2 (
    pI (some a0) 8 2 p3 (
    pI (some a0) 8 3 p4 (
    rtn ())))))
set_option maxRecDepth 100000 in
set_option maxHeartbeats 4000000 in
theorem m_X5_init {G : GG} {l : Launch} {a0 : Nat} {p1 : Int32} {p2 : Int32} {p3 : Int32} {p4 : Int32} {hs hs' : Hs} {o : Except Nat Unit} (h : f_X5_init a0 p1 p2 p3 p4 hs = some (o, hs')) : CT G l yX5_init cX5_init 5 none 1 20 0 0 [.ref a0, .int p1, .int p2, .int p3, .int p4] hs o hs' tvV := by
  refine vx_ofW (cc := cX5_init) (maxL := 5) (ret := none) (by decide +kernel) rfl ?_
  intro p e s m args below meth c s₁ B hml hxt hv
  obtain ⟨hav, hR, hKn⟩ := hv
  subst hav
  have hts := atoms_spec (ws := .code yX5_init cX5_init 5 none :: Tg) B.pre
  have C : Cx G l p s m _ c RX5 cX5_init 5 := ⟨B.exec, B.bytes, hml, findClass_of_methodNamed B.named, fun w hw => hts w (List.mem_cons_of_mem _ hw), hKn, fun q hq => Nat.le_trans hR.2.2.1 hq⟩
  have C2 : Cy meth c none := ⟨B.returns, B.notSynchronized, hxt⟩
  have hin : meth.name = "<init>" := (name_of_methodNamed B.named B.method).1
  have key : WG G p l e { frames := 1, cells := 0, slots := 0, locals := 20 } s m ([.ref a0, .int p1, .int p2, .int p3, .int p4] : List Value).toArray below meth c 5 0 0 (vx_MQ below (QcT G o hs' tvV) (XCT G o hs') ([.ref a0, .int p1, .int p2, .int p3, .int p4] : List Value).toArray s 0 0 (gA G)) hs [(0, va_rf (some a0)), (1, .int p1), (2, .int p2), (3, .int p3), (4, .int p4)] [] 0 := by
    unfold f_X5_init at h
    refine q_aload_n C 0 dX5_init_0 rfl ?_
    refine q_objInit C rfl mo_X5_1 im_objInit cd_objInit (Nat.le_of_ble_eq_true rfl) (Nat.le_of_ble_eq_true rfl) (by decide) dX5_init_1 ?_
    refine q_aload_n C 0 dX5_init_4 rfl ?_
    refine q_iconst C (1 : Int32) dX5_init_5 (by decide) ?_
    refine q_pZ C fw_X5_7 (fun z => nomatch z) dX5_init_6 h (fun hs h => ?_)
    refine q_aload_n C 0 dX5_init_9 rfl ?_
    refine q_iload_n C 1 dX5_init_10 rfl ?_
    refine q_pI C fw_X5_13 (fun _ => hin) dX5_init_11 h (fun hs h => ?_)
    refine q_aload_n C 0 dX5_init_14 rfl ?_
    refine q_iload_n C 2 dX5_init_15 rfl ?_
    refine q_pI C fw_X5_17 (fun _ => hin) dX5_init_16 h (fun hs h => ?_)
    refine q_aload_n C 0 dX5_init_19 rfl ?_
    refine q_iload_n C 3 dX5_init_20 rfl ?_
    refine q_pI C fw_X5_20 (fun _ => hin) dX5_init_21 h (fun hs h => ?_)
    refine q_aload_n C 0 dX5_init_24 rfl ?_
    refine q_iload C 4 dX5_init_25 rfl ?_
    refine q_pI C fw_X5_23 (fun _ => hin) dX5_init_27 h (fun hs h => ?_)
    exact q_vret C C2 rfl (Nat.le_of_ble_eq_true rfl) (Nat.le_of_ble_eq_true rfl) dX5_init_30 h
  rw [lg_entry_eq]
  exact key _ _ _ hR va_S.rf ⟨lv_entry _ (n := 5) (Nat.le_of_ble_eq_true rfl), (c1_r (c1_i (c1_i (c1_i (c1_i c1_n)))))⟩

theorem cd_Jxa1e45_init_da8c8 : Cond.code yJxa1e45_init_da8c8 cJxa1e45_init_da8c8 1 none ∈ Tg := Tg_of (i := 131) (by decide +kernel) (by decide +kernel)
theorem mo_Jxa1e45_1 : Cond.methodLink RJxa1e45 1 Lib.objectInit ∈ Tg := Tg_of (i := 132) (by decide +kernel) (by decide +kernel)
section M_Jxa1e45_init_da8c8
variable {p : Program} {l : Launch} {e : Env} {s : State} {m : MethodId} {args : Array Value} {below : List Frame} {meth : Method} {c : Code} {G : GG} {o : Except Nat Unit} {hs' : Hs}
end M_Jxa1e45_init_da8c8
def f_Jxa1e45_init_da8c8 (a0 : Nat) : OO Unit :=
    rtn ()
set_option maxRecDepth 100000 in
set_option maxHeartbeats 4000000 in
theorem m_Jxa1e45_init_da8c8 {G : GG} {l : Launch} {a0 : Nat} {hs hs' : Hs} {o : Except Nat Unit} (h : f_Jxa1e45_init_da8c8 a0 hs = some (o, hs')) : CT G l yJxa1e45_init_da8c8 cJxa1e45_init_da8c8 1 none 1 20 0 0 [.ref a0] hs o hs' tvV := by
  refine vx_ofW (cc := cJxa1e45_init_da8c8) (maxL := 1) (ret := none) (by decide +kernel) rfl ?_
  intro p e s m args below meth c s₁ B hml hxt hv
  obtain ⟨hav, hR, hKn⟩ := hv
  subst hav
  have hts := atoms_spec (ws := .code yJxa1e45_init_da8c8 cJxa1e45_init_da8c8 1 none :: Tg) B.pre
  have C : Cx G l p s m _ c RJxa1e45 cJxa1e45_init_da8c8 1 := ⟨B.exec, B.bytes, hml, findClass_of_methodNamed B.named, fun w hw => hts w (List.mem_cons_of_mem _ hw), hKn, fun q hq => Nat.le_trans hR.2.2.1 hq⟩
  have C2 : Cy meth c none := ⟨B.returns, B.notSynchronized, hxt⟩
  have hin : meth.name = "<init>" := (name_of_methodNamed B.named B.method).1
  have key : WG G p l e { frames := 1, cells := 0, slots := 0, locals := 20 } s m ([.ref a0] : List Value).toArray below meth c 1 0 0 (vx_MQ below (QcT G o hs' tvV) (XCT G o hs') ([.ref a0] : List Value).toArray s 0 0 (gA G)) hs [(0, va_rf (some a0))] [] 0 := by
    unfold f_Jxa1e45_init_da8c8 at h
    refine q_aload_n C 0 dJxa1e45_init_da8c8_0 rfl ?_
    refine q_objInit C rfl mo_Jxa1e45_1 im_objInit cd_objInit (Nat.le_of_ble_eq_true rfl) (Nat.le_of_ble_eq_true rfl) (by decide) dJxa1e45_init_da8c8_1 ?_
    exact q_vret C C2 rfl (Nat.le_of_ble_eq_true rfl) (Nat.le_of_ble_eq_true rfl) dJxa1e45_init_da8c8_4 h
  rw [lg_entry_eq]
  exact key _ _ _ hR va_S.rf ⟨lv_entry _ (n := 1) (Nat.le_of_ble_eq_true rfl), (c1_r c1_n)⟩

theorem cd_Jxc12de_init_da8c8 : Cond.code yJxc12de_init_da8c8 cJxc12de_init_da8c8 1 none ∈ Tg := Tg_of (i := 128) (by decide +kernel) (by decide +kernel)
theorem iw_Jxa1e45 : Cond.initialized RJxa1e45 ∈ Tg := Tg_of (i := 81) (by decide +kernel) (by decide +kernel)
theorem ml_Jxc12de_1 : Cond.methodLink RJxc12de 1 yJxa1e45_init_da8c8 ∈ Tg := Tg_of (i := 129) (by decide +kernel) (by decide +kernel)
theorem lk_Jxc12de_1 : Lk RJxc12de 1 yJxa1e45_init_da8c8 cJxa1e45_init_da8c8 1 none 0 := ⟨ml_Jxc12de_1, cd_Jxa1e45_init_da8c8, iw_Jxa1e45, by decide +kernel⟩
theorem wf_Jxc12de_7 : Cond.fieldLink RJxc12de 7 RJxc12de (TJx4a65c 0).2.1 (TJx4a65c 0).2.2.1 ∈ Tg := Tg_of (i := 137) (by decide +kernel) (by decide +kernel)
theorem fw_Jxc12de_7 : FldW RJxc12de 7 2 0 .int false := ⟨RJx4a65c, TJx4a65c, 3, RJxc12de, rfl, by decide, wf_Jxc12de_7, (Or.inl rfl), gu_Jx4a65c, tyJx4a65c_ok _ (by decide), ⟨tyJx4a65c, tyJx4a65c_ok⟩, nmJx4a65c, rfl, fun z => nomatch z⟩
theorem im_Jxa1e45_init_da8c8 : Cond.instanceMethod yJxa1e45_init_da8c8 ∈ Tg := Tg_of (i := 130) (by decide +kernel) (by decide +kernel)
section M_Jxc12de_init_da8c8
variable {p : Program} {l : Launch} {e : Env} {s : State} {m : MethodId} {args : Array Value} {below : List Frame} {meth : Method} {c : Code} {G : GG} {o : Except Nat Unit} {hs' : Hs}
end M_Jxc12de_init_da8c8
def f_Jxc12de_init_da8c8 (a0 : Nat) : OO Unit :=
    call (f_Jxa1e45_init_da8c8 a0 ) (fun (v1 : Unit) =>
    pI (some a0) 2 0 (0 : Int32) (
    rtn ())) nox
set_option maxRecDepth 100000 in
set_option maxHeartbeats 4000000 in
theorem m_Jxc12de_init_da8c8 {G : GG} {l : Launch} {a0 : Nat} {hs hs' : Hs} {o : Except Nat Unit} (h : f_Jxc12de_init_da8c8 a0 hs = some (o, hs')) : CT G l yJxc12de_init_da8c8 cJxc12de_init_da8c8 1 none 2 40 0 0 [.ref a0] hs o hs' tvV := by
  refine vx_ofW (cc := cJxc12de_init_da8c8) (maxL := 1) (ret := none) (by decide +kernel) rfl ?_
  intro p e s m args below meth c s₁ B hml hxt hv
  obtain ⟨hav, hR, hKn⟩ := hv
  subst hav
  have hts := atoms_spec (ws := .code yJxc12de_init_da8c8 cJxc12de_init_da8c8 1 none :: Tg) B.pre
  have C : Cx G l p s m _ c RJxc12de cJxc12de_init_da8c8 1 := ⟨B.exec, B.bytes, hml, findClass_of_methodNamed B.named, fun w hw => hts w (List.mem_cons_of_mem _ hw), hKn, fun q hq => Nat.le_trans hR.2.2.1 hq⟩
  have C2 : Cy meth c none := ⟨B.returns, B.notSynchronized, hxt⟩
  have hin : meth.name = "<init>" := (name_of_methodNamed B.named B.method).1
  have key : WG G p l e { frames := 2, cells := 0, slots := 0, locals := 40 } s m ([.ref a0] : List Value).toArray below meth c 1 0 0 (vx_MQ below (QcT G o hs' tvV) (XCT G o hs') ([.ref a0] : List Value).toArray s 0 0 (gA G)) hs [(0, va_rf (some a0))] [] 0 := by
    unfold f_Jxc12de_init_da8c8 at h
    refine q_aload_n C 0 dJxc12de_init_da8c8_0 rfl ?_
    refine q_callI C [] [] (fun o2 hs1 hm => m_Jxa1e45_init_da8c8 hm) lk_Jxc12de_1 im_Jxa1e45_init_da8c8 rfl ⟨(Nat.le_of_ble_eq_true rfl), (Nat.le_of_ble_eq_true rfl)⟩ ⟨(Nat.le_of_ble_eq_true rfl), (Nat.le_of_ble_eq_true rfl)⟩ rfl rfl (by decide) dJxc12de_init_da8c8_1 h (fun v1 hs h => WG_st (st' := []) rfl ?_)
    refine q_aload_n C 0 dJxc12de_init_da8c8_4 rfl ?_
    refine q_iconst C (0 : Int32) dJxc12de_init_da8c8_5 (by decide) ?_
    refine q_pI C fw_Jxc12de_7 (fun z => nomatch z) dJxc12de_init_da8c8_6 h (fun hs h => ?_)
    exact q_vret C C2 rfl (Nat.le_of_ble_eq_true rfl) (Nat.le_of_ble_eq_true rfl) dJxc12de_init_da8c8_9 h
  rw [lg_entry_eq]
  exact key _ _ _ hR va_S.rf ⟨lv_entry _ (n := 1) (Nat.le_of_ble_eq_true rfl), (c1_r c1_n)⟩

theorem cd_Jx4a65c_init_da8c8 : Cond.code yJx4a65c_init_da8c8 cJx4a65c_init_da8c8 1 none ∈ Tg := Tg_of (i := 125) (by decide +kernel) (by decide +kernel)
theorem iw_Jxc12de : Cond.initialized RJxc12de ∈ Tg := Tg_of (i := 82) (by decide +kernel) (by decide +kernel)
theorem ml_Jx4a65c_1 : Cond.methodLink RJx4a65c 1 yJxc12de_init_da8c8 ∈ Tg := Tg_of (i := 126) (by decide +kernel) (by decide +kernel)
theorem lk_Jx4a65c_1 : Lk RJx4a65c 1 yJxc12de_init_da8c8 cJxc12de_init_da8c8 1 none 0 := ⟨ml_Jx4a65c_1, cd_Jxc12de_init_da8c8, iw_Jxc12de, by decide +kernel⟩
theorem ws_Jx4a65c_39 : Cond.fieldLink RJx4a65c 39 "java/util/ArrayList" "DEFAULTCAPACITY_EMPTY_ELEMENTDATA" "[Ljava/lang/Object;" ∈ Tg := Tg_of (i := 133) (by decide +kernel) (by decide +kernel)
theorem fw_Jx4a65c_9 : FldW RJx4a65c 9 2 1 (.array (.object "java/lang/Object")) false := ⟨RJx4a65c, TJx4a65c, 3, RJx4a65c, rfl, by decide, wf_Jx4a65c_9, (Or.inl rfl), gu_Jx4a65c, tyJx4a65c_ok _ (by decide), ⟨tyJx4a65c, tyJx4a65c_ok⟩, nmJx4a65c, rfl, fun z => nomatch z⟩
theorem im_Jxc12de_init_da8c8 : Cond.instanceMethod yJxc12de_init_da8c8 ∈ Tg := Tg_of (i := 127) (by decide +kernel) (by decide +kernel)
section M_Jx4a65c_init_da8c8
variable {p : Program} {l : Launch} {e : Env} {s : State} {m : MethodId} {args : Array Value} {below : List Frame} {meth : Method} {c : Code} {G : GG} {o : Except Nat Unit} {hs' : Hs}
end M_Jx4a65c_init_da8c8
def f_Jx4a65c_init_da8c8 (a0 : Nat) : OO Unit :=
    call (f_Jxc12de_init_da8c8 a0 ) (fun (v1 : Unit) =>
    gE fun (v2 : Option Nat) =>
    pR (some a0) 2 1 v2 (
    rtn ())) nox
set_option maxRecDepth 100000 in
set_option maxHeartbeats 4000000 in
theorem m_Jx4a65c_init_da8c8 {G : GG} {l : Launch} {a0 : Nat} {hs hs' : Hs} {o : Except Nat Unit} (h : f_Jx4a65c_init_da8c8 a0 hs = some (o, hs')) : CT G l yJx4a65c_init_da8c8 cJx4a65c_init_da8c8 1 none 3 60 0 0 [.ref a0] hs o hs' tvV := by
  refine vx_ofW (cc := cJx4a65c_init_da8c8) (maxL := 1) (ret := none) (by decide +kernel) rfl ?_
  intro p e s m args below meth c s₁ B hml hxt hv
  obtain ⟨hav, hR, hKn⟩ := hv
  subst hav
  have hts := atoms_spec (ws := .code yJx4a65c_init_da8c8 cJx4a65c_init_da8c8 1 none :: Tg) B.pre
  have C : Cx G l p s m _ c RJx4a65c cJx4a65c_init_da8c8 1 := ⟨B.exec, B.bytes, hml, findClass_of_methodNamed B.named, fun w hw => hts w (List.mem_cons_of_mem _ hw), hKn, fun q hq => Nat.le_trans hR.2.2.1 hq⟩
  have C2 : Cy meth c none := ⟨B.returns, B.notSynchronized, hxt⟩
  have hin : meth.name = "<init>" := (name_of_methodNamed B.named B.method).1
  have key : WG G p l e { frames := 3, cells := 0, slots := 0, locals := 60 } s m ([.ref a0] : List Value).toArray below meth c 1 0 0 (vx_MQ below (QcT G o hs' tvV) (XCT G o hs') ([.ref a0] : List Value).toArray s 0 0 (gA G)) hs [(0, va_rf (some a0))] [] 0 := by
    unfold f_Jx4a65c_init_da8c8 at h
    refine q_aload_n C 0 dJx4a65c_init_da8c8_0 rfl ?_
    refine q_callI C [] [] (fun o2 hs1 hm => m_Jxc12de_init_da8c8 hm) lk_Jx4a65c_1 im_Jxc12de_init_da8c8 rfl ⟨(Nat.le_of_ble_eq_true rfl), (Nat.le_of_ble_eq_true rfl)⟩ ⟨(Nat.le_of_ble_eq_true rfl), (Nat.le_of_ble_eq_true rfl)⟩ rfl rfl (by decide) dJx4a65c_init_da8c8_1 h (fun v1 hs h => WG_st (st' := []) rfl ?_)
    refine q_aload_n C 0 dJx4a65c_init_da8c8_4 rfl ?_
    refine q_gE C ws_Jx4a65c_39 dJx4a65c_init_da8c8_5 h (fun v2 h => ?_)
    refine q_pR C fw_Jx4a65c_9 (fun z => nomatch z) rfl dJx4a65c_init_da8c8_8 h (fun hs h => ?_)
    exact q_vret C C2 rfl (Nat.le_of_ble_eq_true rfl) (Nat.le_of_ble_eq_true rfl) dJx4a65c_init_da8c8_11 h
  rw [lg_entry_eq]
  exact key _ _ _ hR va_S.rf ⟨lv_entry _ (n := 1) (Nat.le_of_ble_eq_true rfl), (c1_r c1_n)⟩

theorem cd_X6_init : Cond.code yX6_init cX6_init 1 none ∈ Tg := Tg_of (i := 151) (by decide +kernel) (by decide +kernel)
theorem wc_X6_9 : Cond.classLink RX6 9 RJx4a65c ∈ Tg := Tg_of (i := 153) (by decide +kernel) (by decide +kernel)
theorem wi_Jx4a65c : Cond.instantiable RJx4a65c 3 ∈ Tg := Tg_of (i := 122) (by decide +kernel) (by decide +kernel)
theorem nf_X6_9 : NewC RX6 9 2 [.int 0, .null, .int 0] 3 := ⟨RJx4a65c, TJx4a65c, tyJx4a65c, rfl, wc_X6_9, wi_Jx4a65c, iw_Jx4a65c, gu_Jx4a65c, tyJx4a65c_ok, by decide⟩
theorem ml_X6_11 : Cond.methodLink RX6 11 yJx4a65c_init_da8c8 ∈ Tg := Tg_of (i := 154) (by decide +kernel) (by decide +kernel)
theorem lk_X6_11 : Lk RX6 11 yJx4a65c_init_da8c8 cJx4a65c_init_da8c8 1 none 0 := ⟨ml_X6_11, cd_Jx4a65c_init_da8c8, iw_Jx4a65c, by decide +kernel⟩
theorem fw_X6_12 : FldW RX6 12 9 0 (.object "java/util/ArrayList") true := ⟨RX6, TX6, 6, RX6, rfl, by decide, wf_X6_12, (Or.inl rfl), gu_X6, tyX6_ok _ (by decide), ⟨tyX6, tyX6_ok⟩, nmX6, rfl, fun _ => rfl⟩
theorem wf_X6_18 : Cond.fieldLink RX6 18 RX6 (TX6 1).2.1 (TX6 1).2.2.1 ∈ Tg := Tg_of (i := 159) (by decide +kernel) (by decide +kernel)
theorem fw_X6_18 : FldW RX6 18 9 1 (.object "java/util/ArrayList") true := ⟨RX6, TX6, 6, RX6, rfl, by decide, wf_X6_18, (Or.inl rfl), gu_X6, tyX6_ok _ (by decide), ⟨tyX6, tyX6_ok⟩, nmX6, rfl, fun _ => rfl⟩
theorem fw_X6_21 : FldW RX6 21 9 2 (.object "java/util/ArrayList") true := ⟨RX6, TX6, 6, RX6, rfl, by decide, wf_X6_21, (Or.inl rfl), gu_X6, tyX6_ok _ (by decide), ⟨tyX6, tyX6_ok⟩, nmX6, rfl, fun _ => rfl⟩
theorem fw_X6_24 : FldW RX6 24 9 3 (.array .int) true := ⟨RX6, TX6, 6, RX6, rfl, by decide, wf_X6_24, (Or.inl rfl), gu_X6, tyX6_ok _ (by decide), ⟨tyX6, tyX6_ok⟩, nmX6, rfl, fun _ => rfl⟩
theorem fw_X6_28 : FldW RX6 28 9 4 (.array .int) true := ⟨RX6, TX6, 6, RX6, rfl, by decide, wf_X6_28, (Or.inl rfl), gu_X6, tyX6_ok _ (by decide), ⟨tyX6, tyX6_ok⟩, nmX6, rfl, fun _ => rfl⟩
theorem im_Jx4a65c_init_da8c8 : Cond.instanceMethod yJx4a65c_init_da8c8 ∈ Tg := Tg_of (i := 124) (by decide +kernel) (by decide +kernel)
theorem mo_X6_3 : Cond.methodLink RX6 3 Lib.objectInit ∈ Tg := Tg_of (i := 152) (by decide +kernel) (by decide +kernel)
section M_X6_init
variable {p : Program} {l : Launch} {e : Env} {s : State} {m : MethodId} {args : Array Value} {below : List Frame} {meth : Method} {c : Code} {G : GG} {o : Except Nat Unit} {hs' : Hs}
end M_X6_init
def f_X6_init (a0 : Nat) : OO Unit :=
    nw 2 [.int 0, .null, .int 0] fun q1 =>
    call (f_Jx4a65c_init_da8c8 q1 ) (fun (v2 : Unit) =>
    pR (some a0) 9 0 (some q1) (
    nw 2 [.int 0, .null, .int 0] fun q3 =>
    call (f_Jx4a65c_init_da8c8 q3 ) (fun (v4 : Unit) =>
    pR (some a0) 9 1 (some q3) (
    nw 2 [.int 0, .null, .int 0] fun q5 =>
    call (f_Jx4a65c_init_da8c8 q5 ) (fun (v6 : Unit) =>
    pR (some a0) 9 2 (some q5) (
    nwI 0 (4 : Int32) 4 fun q7 =>
    stI (some q7) (0 : Int32) (1 : Int32) (
    stI (some q7) (1 : Int32) (1 : Int32) (
    stI (some q7) (2 : Int32) (1 : Int32) (
    stI (some q7) (3 : Int32) (1 : Int32) (
    pR (some a0) 9 3 (some q7) (
    nwI 0 (4 : Int32) 4 fun q8 =>
    pR (some a0) 9 4 (some q8) (
    rtn ())))))))) nox)) nox)) nox
set_option maxRecDepth 100000 in
set_option maxHeartbeats 4000000 in
theorem m_X6_init {G : GG} {l : Launch} {a0 : Nat} {hs hs' : Hs} {o : Except Nat Unit} (h : f_X6_init a0 hs = some (o, hs')) : CT G l yX6_init cX6_init 1 none 4 80 5 17 [.ref a0] hs o hs' tvV := by
  refine vx_ofW (cc := cX6_init) (maxL := 1) (ret := none) (by decide +kernel) rfl ?_
  intro p e s m args below meth c s₁ B hml hxt hv
  obtain ⟨hav, hR, hKn⟩ := hv
  subst hav
  have hts := atoms_spec (ws := .code yX6_init cX6_init 1 none :: Tg) B.pre
  have C : Cx G l p s m _ c RX6 cX6_init 1 := ⟨B.exec, B.bytes, hml, findClass_of_methodNamed B.named, fun w hw => hts w (List.mem_cons_of_mem _ hw), hKn, fun q hq => Nat.le_trans hR.2.2.1 hq⟩
  have C2 : Cy meth c none := ⟨B.returns, B.notSynchronized, hxt⟩
  have hin : meth.name = "<init>" := (name_of_methodNamed B.named B.method).1
  have key : WG G p l e { frames := 4, cells := 5, slots := 17, locals := 80 } s m ([.ref a0] : List Value).toArray below meth c 1 0 0 (vx_MQ below (QcT G o hs' tvV) (XCT G o hs') ([.ref a0] : List Value).toArray s 5 17 (gA G)) hs [(0, va_rf (some a0))] [] 0 := by
    unfold f_X6_init at h
    refine q_aload_n C 0 dX6_init_0 rfl ?_
    refine q_objInit C rfl mo_X6_3 im_objInit cd_objInit (Nat.le_of_ble_eq_true rfl) (Nat.le_of_ble_eq_true rfl) (by decide) dX6_init_1 ?_
    refine q_aload_n C 0 dX6_init_4 rfl ?_
    refine q_new C nf_X6_9 (Nat.le_of_ble_eq_true rfl) (Nat.le_of_ble_eq_true rfl) dX6_init_5 h (fun q1 hs h => ?_)
    refine q_dup C (cat_rf _) dX6_init_8 ?_
    refine q_callI C [] [va_rf (some q1), va_rf (some a0)] (fun o2 hs1 hm => m_Jx4a65c_init_da8c8 hm) lk_X6_11 im_Jx4a65c_init_da8c8 rfl ⟨(Nat.le_of_ble_eq_true rfl), (Nat.le_of_ble_eq_true rfl)⟩ ⟨(Nat.le_of_ble_eq_true rfl), (Nat.le_of_ble_eq_true rfl)⟩ rfl rfl (by simp only [List.map, cat_rf, cat_i, cat_a]; decide) dX6_init_9 h (fun v2 hs h => WG_st (st' := [va_rf (some q1), va_rf (some a0)]) rfl ?_)
    refine q_pR C fw_X6_12 (fun _ => hin) rfl dX6_init_12 h (fun hs h => ?_)
    refine q_aload_n C 0 dX6_init_15 rfl ?_
    refine q_new C nf_X6_9 (Nat.le_of_ble_eq_true rfl) (Nat.le_of_ble_eq_true rfl) dX6_init_16 h (fun q3 hs h => ?_)
    refine q_dup C (cat_rf _) dX6_init_19 ?_
    refine q_callI C [] [va_rf (some q3), va_rf (some a0)] (fun o2 hs1 hm => m_Jx4a65c_init_da8c8 hm) lk_X6_11 im_Jx4a65c_init_da8c8 rfl ⟨(Nat.le_of_ble_eq_true rfl), (Nat.le_of_ble_eq_true rfl)⟩ ⟨(Nat.le_of_ble_eq_true rfl), (Nat.le_of_ble_eq_true rfl)⟩ rfl rfl (by simp only [List.map, cat_rf, cat_i, cat_a]; decide) dX6_init_20 h (fun v4 hs h => WG_st (st' := [va_rf (some q3), va_rf (some a0)]) rfl ?_)
    refine q_pR C fw_X6_18 (fun _ => hin) rfl dX6_init_23 h (fun hs h => ?_)
    refine q_aload_n C 0 dX6_init_26 rfl ?_
    refine q_new C nf_X6_9 (Nat.le_of_ble_eq_true rfl) (Nat.le_of_ble_eq_true rfl) dX6_init_27 h (fun q5 hs h => ?_)
    refine q_dup C (cat_rf _) dX6_init_30 ?_
    refine q_callI C [] [va_rf (some q5), va_rf (some a0)] (fun o2 hs1 hm => m_Jx4a65c_init_da8c8 hm) lk_X6_11 im_Jx4a65c_init_da8c8 rfl ⟨(Nat.le_of_ble_eq_true rfl), (Nat.le_of_ble_eq_true rfl)⟩ ⟨(Nat.le_of_ble_eq_true rfl), (Nat.le_of_ble_eq_true rfl)⟩ rfl rfl (by simp only [List.map, cat_rf, cat_i, cat_a]; decide) dX6_init_31 h (fun v6 hs h => WG_st (st' := [va_rf (some q5), va_rf (some a0)]) rfl ?_)
    refine q_pR C fw_X6_21 (fun _ => hin) rfl dX6_init_34 h (fun hs h => ?_)
    refine q_aload_n C 0 dX6_init_37 rfl ?_
    refine q_iconst C (4 : Int32) dX6_init_38 (by decide) ?_
    refine q_newI C 4 (Nat.le_of_ble_eq_true rfl) ac_0 (Nat.le_of_ble_eq_true rfl) (Nat.le_of_ble_eq_true rfl) dX6_init_39 h (fun q7 hs h => ?_)
    refine q_dup C (cat_rf _) dX6_init_41 ?_
    refine q_iconst C (0 : Int32) dX6_init_42 (by decide) ?_
    refine q_iconst C (1 : Int32) dX6_init_43 (by decide) ?_
    refine q_iast C dX6_init_44 h (fun hs h => ?_)
    refine q_dup C (cat_rf _) dX6_init_45 ?_
    refine q_iconst C (1 : Int32) dX6_init_46 (by decide) ?_
    refine q_iconst C (1 : Int32) dX6_init_47 (by decide) ?_
    refine q_iast C dX6_init_48 h (fun hs h => ?_)
    refine q_dup C (cat_rf _) dX6_init_49 ?_
    refine q_iconst C (2 : Int32) dX6_init_50 (by decide) ?_
    refine q_iconst C (1 : Int32) dX6_init_51 (by decide) ?_
    refine q_iast C dX6_init_52 h (fun hs h => ?_)
    refine q_dup C (cat_rf _) dX6_init_53 ?_
    refine q_iconst C (3 : Int32) dX6_init_54 (by decide) ?_
    refine q_iconst C (1 : Int32) dX6_init_55 (by decide) ?_
    refine q_iast C dX6_init_56 h (fun hs h => ?_)
    refine q_pR C fw_X6_24 (fun _ => hin) rfl dX6_init_57 h (fun hs h => ?_)
    refine q_aload_n C 0 dX6_init_60 rfl ?_
    refine q_iconst C (4 : Int32) dX6_init_61 (by decide) ?_
    refine q_newI C 4 (Nat.le_of_ble_eq_true rfl) ac_0 (Nat.le_of_ble_eq_true rfl) (Nat.le_of_ble_eq_true rfl) dX6_init_62 h (fun q8 hs h => ?_)
    refine q_pR C fw_X6_28 (fun _ => hin) rfl dX6_init_64 h (fun hs h => ?_)
    exact q_vret C C2 rfl (Nat.le_of_ble_eq_true rfl) (Nat.le_of_ble_eq_true rfl) dX6_init_67 h
  rw [lg_entry_eq]
  exact key _ _ _ hR va_S.rf ⟨lv_entry _ (n := 1) (Nat.le_of_ble_eq_true rfl), (c1_r c1_n)⟩

theorem cd_X6_repair : Cond.code yX6_repair cX6_repair 5 (some .int) ∈ Tg := Tg_of (i := 1344) (by decide +kernel) (by decide +kernel)
theorem ml_X6_96 : Cond.methodLink RX6 96 yX6_takeAll ∈ Tg := Tg_of (i := 1345) (by decide +kernel) (by decide +kernel)
theorem lk_X6_96 : Lk RX6 96 yX6_takeAll cX6_takeAll 3 none 1 := ⟨ml_X6_96, cd_X6_takeAll, iw_X6, by decide +kernel⟩
theorem ml_X6_99 : Cond.methodLink RX6 99 yX6_findHardest ∈ Tg := Tg_of (i := 1346) (by decide +kernel) (by decide +kernel)
theorem lk_X6_99 : Lk RX6 99 yX6_findHardest cX6_findHardest 6 (some (.object "Termgrid$Lesson")) 1 := ⟨ml_X6_99, cd_X6_findHardest, iw_X6, by decide +kernel⟩
theorem wf_X6_103 : Cond.fieldLink RX6 103 RX4 (TX4 0).2.1 (TX4 0).2.2.1 ∈ Tg := Tg_of (i := 891) (by decide +kernel) (by decide +kernel)
theorem fl_X6_103 : Fld RX6 103 7 0 .int := ⟨RX4, TX4, 18, RX4, rfl, by decide, wf_X6_103, (Or.inl rfl), gu_X4, tyX4_ok _ (by decide), ⟨tyX4, tyX4_ok⟩, nmX4⟩
theorem ml_X6_106 : Cond.methodLink RX6 106 yX6_findCheapest ∈ Tg := Tg_of (i := 1347) (by decide +kernel) (by decide +kernel)
theorem lk_X6_106 : Lk RX6 106 yX6_findCheapest cX6_findCheapest 2 (some .int) 1 := ⟨ml_X6_106, cd_X6_findCheapest, iw_X6, by decide +kernel⟩
theorem ml_X6_110 : Cond.methodLink RX6 110 yX6_putAt ∈ Tg := Tg_of (i := 1348) (by decide +kernel) (by decide +kernel)
theorem lk_X6_110 : Lk RX6 110 yX6_putAt cX6_putAt 4 none 2 := ⟨ml_X6_110, cd_X6_putAt, iw_X6, by decide +kernel⟩
theorem ml_X6_113 : Cond.methodLink RX6 113 yX6_unplaced ∈ Tg := Tg_of (i := 1349) (by decide +kernel) (by decide +kernel)
theorem lk_X6_113 : Lk RX6 113 yX6_unplaced cX6_unplaced 3 (some .int) 0 := ⟨ml_X6_113, cd_X6_unplaced, iw_X6, by decide +kernel⟩
theorem ml_X6_116 : Cond.methodLink RX6 116 yJ6_bitCount_0f7a4 ∈ Tg := Tg_of (i := 536) (by decide +kernel) (by decide +kernel)
theorem lk_X6_116 : Lk RX6 116 yJ6_bitCount_0f7a4 cJ6_bitCount_0f7a4 1 (some .int) 1 := ⟨ml_X6_116, cd_J6_bitCount_0f7a4, iw_J6, by decide +kernel⟩
section M_X6_repair
variable {p : Program} {l : Launch} {e : Env} {s : State} {m : MethodId} {args : Array Value} {below : List Frame} {meth : Method} {c : Code} {G : GG} {o : Except Nat Int32} {hs' : Hs}
def L_X6_repair_9 (a0 : Option Nat) (a1 : Int32) (k_9_27 : OO Int32) (k_9_60 : OO Int32) : Nat → Int32 → Int32 → OO Int32
  | 0, _, _ => failO
  | n + 1, x2, x3 =>
    (if (16 : Int32) ≤ x3 then
    k_9_60
    else
    rcv a0 9 fun r13 => call (f_X6_findHardest r13 x2) (fun (v4 : Option Nat) =>
    lets v4 fun (v5 : Option Nat) =>
    (if ¬ v5 = none then
    gI v5 7 0 fun v6 =>
    lets ((x2 &&& (((((1 : Int32) <<< (v6 &&& 31))) ^^^ (-1 : Int32))))) fun (v7 : Int32) =>
    rcv a0 9 fun r12 => call (f_X6_findCheapest r12 v5) (fun (v8 : Int32) =>
    rcv a0 9 fun r11 => call (f_X6_putAt r11 v5 v8) (fun (v9 : Unit) =>
    lets (x3 + (1 : Int32)) fun (v10 : Int32) =>
    (L_X6_repair_9 a0 a1 k_9_27 k_9_60 n) v7 v10) nox) nox
    else
    k_9_27)) nox)
set_option maxRecDepth 100000 in
set_option maxHeartbeats 4000000 in
theorem w_L_X6_repair_9 (C : Cx G l p s m args c RX6 cX6_repair 5) (C2 : Cy meth c (some .int)) (a0 : Option Nat) (a1 : Int32) (k_9_27 : OO Int32) (k_9_60 : OO Int32) (hk_9_27 : ∀ hs, k_9_27  hs = some (o, hs') → WG G p l e { frames := 12, cells := 0, slots := 0, locals := 430 } s m args below meth c 5 0 0 (vx_MQ below (QcT G o hs' tvI) (XCT G o hs') args s 0 0 (gA G)) hs [(0, va_rf a0), (1, .int a1)] [] 27) (hk_9_60 : ∀ hs, k_9_60  hs = some (o, hs') → WG G p l e { frames := 12, cells := 0, slots := 0, locals := 430 } s m args below meth c 5 0 0 (vx_MQ below (QcT G o hs' tvI) (XCT G o hs') args s 0 0 (gA G)) hs [(0, va_rf a0), (1, .int a1)] [] 60) : ∀ (n : Nat) (x2 : Int32) (x3 : Int32) (hs : Hs), L_X6_repair_9 a0 a1 k_9_27 k_9_60 n x2 x3 hs = some (o, hs') → WG G p l e { frames := 12, cells := 0, slots := 0, locals := 430 } s m args below meth c 5 0 0 (vx_MQ below (QcT G o hs' tvI) (XCT G o hs') args s 0 0 (gA G)) hs [(0, va_rf a0), (1, .int a1), (2, .int x2), (3, .int x3)] [] 9 := by
  intro n
  induction n with
  | zero =>
    intro x2 x3 hs h
    rw [L_X6_repair_9] at h
    exact absurd h failO_e
  | succ n hrec_9 =>
    intro x2 x3 hs h
    rw [L_X6_repair_9] at h
    refine q_iload_n C 3 dX6_repair_9 rfl ?_
    refine q_bipush C (16 : Int32) dX6_repair_10 (by decide) ?_
    refine q_icmp_ge C 60 dX6_repair_12 (by decide) h (fun h => ?_) (fun h => ?_)
    · refine WG.sub [0, 1] rfl ?_
      exact hk_9_60 _ h
    · refine q_aload_n C 0 dX6_repair_15 rfl ?_
      refine q_iload_n C 2 dX6_repair_16 rfl ?_
      refine q_callV C (CN := RX6) (T := TX6) (N := 6) [.int x2] [] (fun a0 o2 hs1 hm => m_X6_findHardest hm) lk_X6_99 im_X6_findHardest se_X6_X6_findHardest rfl ⟨(Nat.le_of_ble_eq_true rfl), (Nat.le_of_ble_eq_true rfl)⟩ ⟨(Nat.le_of_ble_eq_true rfl), (Nat.le_of_ble_eq_true rfl)⟩ rfl rfl (by decide) dX6_repair_17 h (fun v4 hs h => WG_st (st' := [va_rf v4]) rfl ?_)
      refine q_astore C (fun v5 => [(4, va_rf v5), (0, va_rf a0), (1, .int a1), (2, .int x2), (3, .int x3)]) dX6_repair_20 (by decide) (fun _ => rfl) h (fun v5 h => ?_)
      refine q_aload C 0 dX6_repair_22 rfl ?_
      refine q_ifnonnull C 30 dX6_repair_24 (by decide) h (fun h => ?_) (fun h => ?_)
      · refine q_iload_n C 3 dX6_repair_30 rfl ?_
        refine q_iconst C (1 : Int32) dX6_repair_31 (by decide) ?_
        refine q_aload C 0 dX6_repair_32 rfl ?_
        refine q_gI C fl_X6_103 dX6_repair_34 h (fun v6 h => ?_)
        refine q_ishl C dX6_repair_37 ?_
        refine q_iconst C (-1 : Int32) dX6_repair_38 (by decide) ?_
        refine q_ixor C dX6_repair_39 ?_
        refine q_iand C dX6_repair_40 ?_
        refine q_istore_n C (fun v7 => [(2, .int v7), (4, va_rf v5), (0, va_rf a0), (1, .int a1), (3, .int x3)]) dX6_repair_41 (by decide) (fun _ => rfl) h (fun v7 h => ?_)
        refine q_aload_n C 2 dX6_repair_42 rfl ?_
        refine q_aload C 1 dX6_repair_43 rfl ?_
        refine q_aload_n C 2 dX6_repair_45 rfl ?_
        refine q_aload C 1 dX6_repair_46 rfl ?_
        refine q_callV C (CN := RX6) (T := TX6) (N := 6) [va_rf v5] [va_rf v5, va_rf a0] (fun a0 o2 hs1 hm => m_X6_findCheapest hm) lk_X6_106 im_X6_findCheapest se_X6_X6_findCheapest rfl ⟨(Nat.le_of_ble_eq_true rfl), (Nat.le_of_ble_eq_true rfl)⟩ ⟨(Nat.le_of_ble_eq_true rfl), (Nat.le_of_ble_eq_true rfl)⟩ rfl rfl (by simp only [List.map, cat_rf, cat_i, cat_a]; decide) dX6_repair_48 h (fun v8 hs h => WG_st (st' := [.int v8, va_rf v5, va_rf a0]) rfl ?_)
        refine q_callV C (CN := RX6) (T := TX6) (N := 6) [va_rf v5, .int v8] [] (fun a0 o2 hs1 hm => m_X6_putAt hm) lk_X6_110 im_X6_putAt se_X6_X6_putAt rfl ⟨(Nat.le_of_ble_eq_true rfl), (Nat.le_of_ble_eq_true rfl)⟩ ⟨(Nat.le_of_ble_eq_true rfl), (Nat.le_of_ble_eq_true rfl)⟩ rfl rfl (by decide) dX6_repair_51 h (fun v9 hs h => WG_st (st' := []) rfl ?_)
        refine q_iinc C 4 (1 : Int32) (fun v10 => [(3, .int v10), (2, .int v7), (4, va_rf v5), (0, va_rf a0), (1, .int a1)]) dX6_repair_54 rfl (by decide) (by decide) (fun _ => rfl) h (fun v10 h => ?_)
        refine q_goto C 9 dX6_repair_57 (by decide) ?_
        refine WG.sub [3, 4, 1, 0] rfl ?_
        exact hrec_9 _ _ _ h
      · refine WG.sub [1, 2] rfl ?_
        exact hk_9_27 _ h
def j_X6_repair_60 (a0 : Option Nat) (a1 : Int32)   : OO Int32 :=
  rcv a0 9 fun r16 => call (f_X6_unplaced r16 ) (fun (v14 : Int32) =>
    call (f_J6_bitCount_0f7a4 (a1 &&& v14)) (fun (v15 : Int32) =>
    rtn v15) nox) nox
set_option maxRecDepth 100000 in
set_option maxHeartbeats 4000000 in
theorem w_j_X6_repair_60 (C : Cx G l p s m args c RX6 cX6_repair 5) (C2 : Cy meth c (some .int)) {hs : Hs} (a0 : Option Nat) (a1 : Int32)    (h : j_X6_repair_60 a0 a1 hs = some (o, hs')) : WG G p l e { frames := 12, cells := 0, slots := 0, locals := 430 } s m args below meth c 5 0 0 (vx_MQ below (QcT G o hs' tvI) (XCT G o hs') args s 0 0 (gA G)) hs [(0, va_rf a0), (1, .int a1)] [] 60 := by
  unfold j_X6_repair_60 at h
  refine q_iload_n C 1 dX6_repair_60 rfl ?_
  refine q_aload_n C 0 dX6_repair_61 rfl ?_
  refine q_callV C (CN := RX6) (T := TX6) (N := 6) [] [.int a1] (fun a0 o2 hs1 hm => m_X6_unplaced hm) lk_X6_113 im_X6_unplaced se_X6_X6_unplaced rfl ⟨(Nat.le_of_ble_eq_true rfl), (Nat.le_of_ble_eq_true rfl)⟩ ⟨(Nat.le_of_ble_eq_true rfl), (Nat.le_of_ble_eq_true rfl)⟩ rfl rfl (by simp only [List.map, cat_rf, cat_i, cat_a]; decide) dX6_repair_62 h (fun v14 hs h => WG_st (st' := [.int v14, .int a1]) rfl ?_)
  refine q_iand C dX6_repair_65 ?_
  refine q_callS C [.int (a1 &&& v14)] [] (fun o2 hs1 hm => m_J6_bitCount_0f7a4 hm) lk_X6_116 sm_J6_bitCount_0f7a4 ⟨(Nat.le_of_ble_eq_true rfl), (Nat.le_of_ble_eq_true rfl)⟩ ⟨(Nat.le_of_ble_eq_true rfl), (Nat.le_of_ble_eq_true rfl)⟩ rfl rfl (by decide) dX6_repair_66 h (fun v15 hs h => WG_st (st' := [.int v15]) rfl ?_)
  exact q_iret C C2 rfl (Nat.le_of_ble_eq_true rfl) (Nat.le_of_ble_eq_true rfl) dX6_repair_69 h
end M_X6_repair
def f_X6_repair (a0 : Nat) (p1 : Int32) : OO Int32 :=
    rcv (some a0) 9 fun r17 => call (f_X6_takeAll r17 p1) (fun (v1 : Unit) =>
    lets p1 fun (v2 : Int32) =>
    lets (0 : Int32) fun (v3 : Int32) =>
    L_X6_repair_9 (some a0) p1 (j_X6_repair_60 (some a0) p1) (j_X6_repair_60 (some a0) p1) 100000 v2 v3) nox
set_option maxRecDepth 100000 in
set_option maxHeartbeats 4000000 in
theorem m_X6_repair {G : GG} {l : Launch} {a0 : Nat} {p1 : Int32} {hs hs' : Hs} {o : Except Nat Int32} (h : f_X6_repair a0 p1 hs = some (o, hs')) : CT G l yX6_repair cX6_repair 5 (some .int) 12 430 0 0 [.ref a0, .int p1] hs o hs' tvI := by
  refine vx_ofW (cc := cX6_repair) (maxL := 5) (ret := (some .int)) (by decide +kernel) rfl ?_
  intro p e s m args below meth c s₁ B hml hxt hv
  obtain ⟨hav, hR, hKn⟩ := hv
  subst hav
  have hts := atoms_spec (ws := .code yX6_repair cX6_repair 5 (some .int) :: Tg) B.pre
  have C : Cx G l p s m _ c RX6 cX6_repair 5 := ⟨B.exec, B.bytes, hml, findClass_of_methodNamed B.named, fun w hw => hts w (List.mem_cons_of_mem _ hw), hKn, fun q hq => Nat.le_trans hR.2.2.1 hq⟩
  have C2 : Cy meth c (some .int) := ⟨B.returns, B.notSynchronized, hxt⟩
  have key : WG G p l e { frames := 12, cells := 0, slots := 0, locals := 430 } s m ([.ref a0, .int p1] : List Value).toArray below meth c 5 0 0 (vx_MQ below (QcT G o hs' tvI) (XCT G o hs') ([.ref a0, .int p1] : List Value).toArray s 0 0 (gA G)) hs [(0, va_rf (some a0)), (1, .int p1)] [] 0 := by
    unfold f_X6_repair at h
    refine q_aload_n C 0 dX6_repair_0 rfl ?_
    refine q_iload_n C 1 dX6_repair_1 rfl ?_
    refine q_callV C (CN := RX6) (T := TX6) (N := 6) [.int p1] [] (fun a0 o2 hs1 hm => m_X6_takeAll hm) lk_X6_96 im_X6_takeAll se_X6_X6_takeAll rfl ⟨(Nat.le_of_ble_eq_true rfl), (Nat.le_of_ble_eq_true rfl)⟩ ⟨(Nat.le_of_ble_eq_true rfl), (Nat.le_of_ble_eq_true rfl)⟩ rfl rfl (by decide) dX6_repair_2 h (fun v1 hs h => WG_st (st' := []) rfl ?_)
    refine q_iload_n C 1 dX6_repair_5 rfl ?_
    refine q_istore_n C (fun v2 => [(2, .int v2), (0, va_rf (some a0)), (1, .int p1)]) dX6_repair_6 (by decide) (fun _ => rfl) h (fun v2 h => ?_)
    refine q_iconst C (0 : Int32) dX6_repair_7 (by decide) ?_
    refine q_istore_n C (fun v3 => [(3, .int v3), (2, .int v2), (0, va_rf (some a0)), (1, .int p1)]) dX6_repair_8 (by decide) (fun _ => rfl) h (fun v3 h => ?_)
    refine WG.sub [2, 3, 1, 0] rfl ?_
    refine w_L_X6_repair_9 C C2 _ _ _ _ ?_ ?_ _ _ _ _ h
    · intro  hs h
      refine q_goto C 60 dX6_repair_27 (by decide) ?_
      exact w_j_X6_repair_60 C C2 _ _   h
    · intro  hs h
      exact w_j_X6_repair_60 C C2 _ _   h
  rw [lg_entry_eq]
  exact key _ _ _ hR va_S.rf ⟨lv_entry _ (n := 5) (Nat.le_of_ble_eq_true rfl), (c1_r (c1_i c1_n))⟩

theorem cd_X6_setFreeLessons : Cond.code yX6_setFreeLessons cX6_setFreeLessons 5 none ∈ Tg := Tg_of (i := 1443) (by decide +kernel) (by decide +kernel)
theorem ml_X6_131 : Cond.methodLink RX6 131 yX6_isFree ∈ Tg := Tg_of (i := 1444) (by decide +kernel) (by decide +kernel)
theorem lk_X6_131 : Lk RX6 131 yX6_isFree cX6_isFree 2 (some .boolean) 1 := ⟨ml_X6_131, cd_X6_isFree, iw_X6, by decide +kernel⟩
theorem ml_X6_141 : Cond.methodLink RX6 141 yX4_isPossible ∈ Tg := Tg_of (i := 1211) (by decide +kernel) (by decide +kernel)
theorem lk_X6_141 : Lk RX6 141 yX4_isPossible cX4_isPossible 2 (some .boolean) 1 := ⟨ml_X6_141, cd_X4_isPossible, iw_X4, by decide +kernel⟩
theorem im_X4_isPossible : Cond.instanceMethod yX4_isPossible ∈ Tg := Tg_of (i := 1212) (by decide +kernel) (by decide +kernel)
theorem se_X4_X4_isPossible : Cond.selects RX4 yX4_isPossible yX4_isPossible ∈ Tg := Tg_of (i := 1213) (by decide +kernel) (by decide +kernel)
section M_X6_setFreeLessons
variable {p : Program} {l : Launch} {e : Env} {s : State} {m : MethodId} {args : Array Value} {below : List Frame} {meth : Method} {c : Code} {G : GG} {o : Except Nat Unit} {hs' : Hs}
def j_X6_setFreeLessons_41 (a0 : Option Nat) (a1 : Option Nat) (a3 : Int32) (s0 : Int32) (s1 : Int32) (rec_4 : Int32 → Int32 → OO Unit) : OO Unit :=
  lets (s1 ||| s0) fun (v8 : Int32) =>
    lets (a3 + (1 : Int32)) fun (v9 : Int32) =>
    rec_4 v8 v9
set_option maxRecDepth 100000 in
set_option maxHeartbeats 4000000 in
theorem w_j_X6_setFreeLessons_41 (C : Cx G l p s m args c RX6 cX6_setFreeLessons 5) (C2 : Cy meth c none) {hs : Hs} (a0 : Option Nat) (a1 : Option Nat) (a3 : Int32) (s0 : Int32) (s1 : Int32) (rec_4 : Int32 → Int32 → OO Unit) (hrec_4 : ∀ (y2 : Int32) (y3 : Int32) hs, rec_4 y2 y3 hs = some (o, hs') → WG G p l e { frames := 10, cells := 0, slots := 0, locals := 384 } s m args below meth c 5 0 0 (vx_MQ below (QcT G o hs' tvV) (XCT G o hs') args s 0 0 (gA G)) hs [(0, va_rf a0), (1, va_rf a1), (2, .int y2), (3, .int y3)] [] 4) (h : j_X6_setFreeLessons_41 a0 a1 a3 s0 s1 rec_4 hs = some (o, hs')) : WG G p l e { frames := 10, cells := 0, slots := 0, locals := 384 } s m args below meth c 5 0 0 (vx_MQ below (QcT G o hs' tvV) (XCT G o hs') args s 0 0 (gA G)) hs [(0, va_rf a0), (1, va_rf a1), (3, .int a3)] [.int s0, .int s1] 41 := by
  unfold j_X6_setFreeLessons_41 at h
  refine q_ior C dX6_setFreeLessons_41 ?_
  refine q_istore_n C (fun v8 => [(2, .int v8), (0, va_rf a0), (1, va_rf a1), (3, .int a3)]) dX6_setFreeLessons_42 (by decide) (fun _ => rfl) h (fun v8 h => ?_)
  refine q_iinc C 3 (1 : Int32) (fun v9 => [(3, .int v9), (2, .int v8), (0, va_rf a0), (1, va_rf a1)]) dX6_setFreeLessons_43 rfl (by decide) (by decide) (fun _ => rfl) h (fun v9 h => ?_)
  refine q_goto C 4 dX6_setFreeLessons_46 (by decide) ?_
  refine WG.sub [2, 3, 1, 0] rfl ?_
  exact hrec_4 _ _ _ h
def L_X6_setFreeLessons_4 (a0 : Option Nat) (a1 : Option Nat) (k_4_49 : Int32 → OO Unit) : Nat → Int32 → Int32 → OO Unit
  | 0, _, _ => failO
  | n + 1, x2, x3 =>
    gR a0 9 2 fun v3 =>
    rcv v3 2 fun r12 => call (f_Jx4a65c_size_8abf5 r12 ) (fun (v4 : Int32) =>
    (if v4 ≤ x3 then
    k_4_49 x2
    else
    gR a0 9 2 fun v5 =>
    rcv v5 2 fun r11 => call (f_Jx4a65c_get_915e3 r11 x3) (fun (v6 : Option Nat) =>
    cst v6 7 (
    rcv a0 9 fun r10 => call (f_X6_isFree r10 v6) (fun (v7 : Int32) =>
    (if v7 = 0 then
    j_X6_setFreeLessons_41 a0 a1 x3 (0 : Int32) x2 (L_X6_setFreeLessons_4 a0 a1 k_4_49 n)
    else
    j_X6_setFreeLessons_41 a0 a1 x3 (((1 : Int32) <<< (x3 &&& 31))) x2 (L_X6_setFreeLessons_4 a0 a1 k_4_49 n))) nox)) nox)) nox
set_option maxRecDepth 100000 in
set_option maxHeartbeats 4000000 in
theorem w_L_X6_setFreeLessons_4 (C : Cx G l p s m args c RX6 cX6_setFreeLessons 5) (C2 : Cy meth c none) (a0 : Option Nat) (a1 : Option Nat) (k_4_49 : Int32 → OO Unit) (hk_4_49 : ∀ (y2 : Int32) hs, k_4_49 y2 hs = some (o, hs') → WG G p l e { frames := 10, cells := 0, slots := 0, locals := 384 } s m args below meth c 5 0 0 (vx_MQ below (QcT G o hs' tvV) (XCT G o hs') args s 0 0 (gA G)) hs [(0, va_rf a0), (1, va_rf a1), (2, .int y2)] [] 49) : ∀ (n : Nat) (x2 : Int32) (x3 : Int32) (hs : Hs), L_X6_setFreeLessons_4 a0 a1 k_4_49 n x2 x3 hs = some (o, hs') → WG G p l e { frames := 10, cells := 0, slots := 0, locals := 384 } s m args below meth c 5 0 0 (vx_MQ below (QcT G o hs' tvV) (XCT G o hs') args s 0 0 (gA G)) hs [(0, va_rf a0), (1, va_rf a1), (2, .int x2), (3, .int x3)] [] 4 := by
  intro n
  induction n with
  | zero =>
    intro x2 x3 hs h
    rw [L_X6_setFreeLessons_4] at h
    exact absurd h failO_e
  | succ n hrec_4 =>
    intro x2 x3 hs h
    rw [L_X6_setFreeLessons_4] at h
    refine q_iload_n C 3 dX6_setFreeLessons_4 rfl ?_
    refine q_aload_n C 0 dX6_setFreeLessons_5 rfl ?_
    refine q_gR C fl_X6_21 dX6_setFreeLessons_6 h (fun v3 h => ?_)
    refine q_callV C (CN := RJx4a65c) (T := TJx4a65c) (N := 3) [] [.int x3] (fun a0 o2 hs1 hm => m_Jx4a65c_size_8abf5 hm) lk_X6_52 im_Jx4a65c_size_8abf5 se_Jx4a65c_Jx4a65c_size_8abf5 rfl ⟨(Nat.le_of_ble_eq_true rfl), (Nat.le_of_ble_eq_true rfl)⟩ ⟨(Nat.le_of_ble_eq_true rfl), (Nat.le_of_ble_eq_true rfl)⟩ rfl rfl (by simp only [List.map, cat_rf, cat_i, cat_a]; decide) dX6_setFreeLessons_9 h (fun v4 hs h => WG_st (st' := [.int v4, .int x3]) rfl ?_)
    refine q_icmp_ge C 49 dX6_setFreeLessons_12 (by decide) h (fun h => ?_) (fun h => ?_)
    · refine WG.sub [0, 1, 2] rfl ?_
      exact hk_4_49 _ _ h
    · refine q_iload_n C 2 dX6_setFreeLessons_15 rfl ?_
      refine q_aload_n C 0 dX6_setFreeLessons_16 rfl ?_
      refine q_aload_n C 0 dX6_setFreeLessons_17 rfl ?_
      refine q_gR C fl_X6_21 dX6_setFreeLessons_18 h (fun v5 h => ?_)
      refine q_iload_n C 3 dX6_setFreeLessons_21 rfl ?_
      refine q_callV C (CN := RJx4a65c) (T := TJx4a65c) (N := 3) [.int x3] [va_rf a0, .int x2] (fun a0 o2 hs1 hm => m_Jx4a65c_get_915e3 hm) lk_X6_56 im_Jx4a65c_get_915e3 se_Jx4a65c_Jx4a65c_get_915e3 rfl ⟨(Nat.le_of_ble_eq_true rfl), (Nat.le_of_ble_eq_true rfl)⟩ ⟨(Nat.le_of_ble_eq_true rfl), (Nat.le_of_ble_eq_true rfl)⟩ rfl rfl (by simp only [List.map, cat_rf, cat_i, cat_a]; decide) dX6_setFreeLessons_22 h (fun v6 hs h => WG_st (st' := [va_rf v6, va_rf a0, .int x2]) rfl ?_)
      refine q_castS C (nm := RX4) (T := TX4) (N := 18) rfl wc_X6_32 dX6_setFreeLessons_25 h (fun h => ?_)
      refine q_callV C (CN := RX6) (T := TX6) (N := 6) [va_rf v6] [.int x2] (fun a0 o2 hs1 hm => m_X6_isFree hm) lk_X6_131 im_X6_isFree se_X6_X6_isFree rfl ⟨(Nat.le_of_ble_eq_true rfl), (Nat.le_of_ble_eq_true rfl)⟩ ⟨(Nat.le_of_ble_eq_true rfl), (Nat.le_of_ble_eq_true rfl)⟩ rfl rfl (by simp only [List.map, cat_rf, cat_i, cat_a]; decide) dX6_setFreeLessons_28 h (fun v7 hs h => WG_st (st' := [.int v7, .int x2]) rfl ?_)
      refine q_if_eq C 40 dX6_setFreeLessons_31 (by decide) h (fun h => ?_) (fun h => ?_)
      · refine q_iconst C (0 : Int32) dX6_setFreeLessons_40 (by decide) ?_
        refine WG.sub [0, 1, 3] rfl ?_
        exact w_j_X6_setFreeLessons_41 C C2 _ _ _ _ _ _ hrec_4 h
      · refine q_iconst C (1 : Int32) dX6_setFreeLessons_34 (by decide) ?_
        refine q_iload_n C 3 dX6_setFreeLessons_35 rfl ?_
        refine q_ishl C dX6_setFreeLessons_36 ?_
        refine q_goto C 41 dX6_setFreeLessons_37 (by decide) ?_
        refine WG.sub [0, 1, 3] rfl ?_
        exact w_j_X6_setFreeLessons_41 C C2 _ _ _ _ _ _ hrec_4 h
def j_X6_setFreeLessons_127 (a0 : Option Nat) (a1 : Option Nat) (a2 : Int32) (a3 : Int32)  (rec_56 : Int32 → OO Unit) : OO Unit :=
  lets (a3 + (1 : Int32)) fun (v22 : Int32) =>
    rec_56 v22
set_option maxRecDepth 100000 in
set_option maxHeartbeats 4000000 in
theorem w_j_X6_setFreeLessons_127 (C : Cx G l p s m args c RX6 cX6_setFreeLessons 5) (C2 : Cy meth c none) {hs : Hs} (a0 : Option Nat) (a1 : Option Nat) (a2 : Int32) (a3 : Int32)  (rec_56 : Int32 → OO Unit) (hrec_56 : ∀ (y3 : Int32) hs, rec_56 y3 hs = some (o, hs') → WG G p l e { frames := 10, cells := 0, slots := 0, locals := 384 } s m args below meth c 5 0 0 (vx_MQ below (QcT G o hs' tvV) (XCT G o hs') args s 0 0 (gA G)) hs [(0, va_rf a0), (1, va_rf a1), (2, .int a2), (3, .int y3)] [] 56) (h : j_X6_setFreeLessons_127 a0 a1 a2 a3 rec_56 hs = some (o, hs')) : WG G p l e { frames := 10, cells := 0, slots := 0, locals := 384 } s m args below meth c 5 0 0 (vx_MQ below (QcT G o hs' tvV) (XCT G o hs') args s 0 0 (gA G)) hs [(0, va_rf a0), (1, va_rf a1), (2, .int a2), (3, .int a3)] [] 127 := by
  unfold j_X6_setFreeLessons_127 at h
  refine q_iinc C 3 (1 : Int32) (fun v22 => [(3, .int v22), (0, va_rf a0), (1, va_rf a1), (2, .int a2)]) dX6_setFreeLessons_127 rfl (by decide) (by decide) (fun _ => rfl) h (fun v22 h => ?_)
  refine q_goto C 56 dX6_setFreeLessons_130 (by decide) ?_
  refine WG.sub [1, 2, 3, 0] rfl ?_
  exact hrec_56 _ _ h
def L_X6_setFreeLessons_56 (a0 : Option Nat) (a1 : Option Nat) (a2 : Int32) (k_56_133 : OO Unit) : Nat → Int32 → OO Unit
  | 0, _ => failO
  | n + 1, x3 =>
    gR a0 9 2 fun v16 =>
    rcv v16 2 fun r33 => call (f_Jx4a65c_size_8abf5 r33 ) (fun (v17 : Int32) =>
    (if v17 ≤ x3 then
    k_56_133
    else
    gR a0 9 2 fun v18 =>
    rcv v18 2 fun r32 => call (f_Jx4a65c_get_915e3 r32 x3) (fun (v19 : Option Nat) =>
    cst v19 7 (
    lets v19 fun (v20 : Option Nat) =>
    call (f_X8_has a2 x3) (fun (v21 : Int32) =>
    (if v21 = 0 then
    j_X6_setFreeLessons_127 a0 a1 a2 x3 (L_X6_setFreeLessons_56 a0 a1 a2 k_56_133 n)
    else
    call (f_X8_at a1 x3) (fun (v23 : Int32) =>
    (if v23 = (-1 : Int32) then
    j_X6_setFreeLessons_127 a0 a1 a2 x3 (L_X6_setFreeLessons_56 a0 a1 a2 k_56_133 n)
    else
    rcv a0 9 fun r31 => call (f_X6_judgePlaces r31 v20) (fun (v24 : Unit) =>
    call (f_X8_at a1 x3) (fun (v25 : Int32) =>
    rcv v20 7 fun r30 => call (f_X4_isPossible r30 v25) (fun (v26 : Int32) =>
    (if v26 = 0 then
    j_X6_setFreeLessons_127 a0 a1 a2 x3 (L_X6_setFreeLessons_56 a0 a1 a2 k_56_133 n)
    else
    call (f_X8_at a1 x3) (fun (v27 : Int32) =>
    rcv a0 9 fun r29 => call (f_X6_putAt r29 v20 v27) (fun (v28 : Unit) =>
    j_X6_setFreeLessons_127 a0 a1 a2 x3 (L_X6_setFreeLessons_56 a0 a1 a2 k_56_133 n)) nox) nox)) nox) nox) nox)) nox)) nox)) nox)) nox
set_option maxRecDepth 100000 in
set_option maxHeartbeats 4000000 in
theorem w_L_X6_setFreeLessons_56 (C : Cx G l p s m args c RX6 cX6_setFreeLessons 5) (C2 : Cy meth c none) (a0 : Option Nat) (a1 : Option Nat) (a2 : Int32) (k_56_133 : OO Unit) (hk_56_133 : ∀ hs, k_56_133  hs = some (o, hs') → WG G p l e { frames := 10, cells := 0, slots := 0, locals := 384 } s m args below meth c 5 0 0 (vx_MQ below (QcT G o hs' tvV) (XCT G o hs') args s 0 0 (gA G)) hs [] [] 133) : ∀ (n : Nat) (x3 : Int32) (hs : Hs), L_X6_setFreeLessons_56 a0 a1 a2 k_56_133 n x3 hs = some (o, hs') → WG G p l e { frames := 10, cells := 0, slots := 0, locals := 384 } s m args below meth c 5 0 0 (vx_MQ below (QcT G o hs' tvV) (XCT G o hs') args s 0 0 (gA G)) hs [(0, va_rf a0), (1, va_rf a1), (2, .int a2), (3, .int x3)] [] 56 := by
  intro n
  induction n with
  | zero =>
    intro x3 hs h
    rw [L_X6_setFreeLessons_56] at h
    exact absurd h failO_e
  | succ n hrec_56 =>
    intro x3 hs h
    rw [L_X6_setFreeLessons_56] at h
    refine q_iload_n C 3 dX6_setFreeLessons_56 rfl ?_
    refine q_aload_n C 0 dX6_setFreeLessons_57 rfl ?_
    refine q_gR C fl_X6_21 dX6_setFreeLessons_58 h (fun v16 h => ?_)
    refine q_callV C (CN := RJx4a65c) (T := TJx4a65c) (N := 3) [] [.int x3] (fun a0 o2 hs1 hm => m_Jx4a65c_size_8abf5 hm) lk_X6_52 im_Jx4a65c_size_8abf5 se_Jx4a65c_Jx4a65c_size_8abf5 rfl ⟨(Nat.le_of_ble_eq_true rfl), (Nat.le_of_ble_eq_true rfl)⟩ ⟨(Nat.le_of_ble_eq_true rfl), (Nat.le_of_ble_eq_true rfl)⟩ rfl rfl (by simp only [List.map, cat_rf, cat_i, cat_a]; decide) dX6_setFreeLessons_61 h (fun v17 hs h => WG_st (st' := [.int v17, .int x3]) rfl ?_)
    refine q_icmp_ge C 133 dX6_setFreeLessons_64 (by decide) h (fun h => ?_) (fun h => ?_)
    · refine WG.sub [] rfl ?_
      exact hk_56_133 _ h
    · refine q_aload_n C 0 dX6_setFreeLessons_67 rfl ?_
      refine q_gR C fl_X6_21 dX6_setFreeLessons_68 h (fun v18 h => ?_)
      refine q_iload_n C 3 dX6_setFreeLessons_71 rfl ?_
      refine q_callV C (CN := RJx4a65c) (T := TJx4a65c) (N := 3) [.int x3] [] (fun a0 o2 hs1 hm => m_Jx4a65c_get_915e3 hm) lk_X6_56 im_Jx4a65c_get_915e3 se_Jx4a65c_Jx4a65c_get_915e3 rfl ⟨(Nat.le_of_ble_eq_true rfl), (Nat.le_of_ble_eq_true rfl)⟩ ⟨(Nat.le_of_ble_eq_true rfl), (Nat.le_of_ble_eq_true rfl)⟩ rfl rfl (by decide) dX6_setFreeLessons_72 h (fun v19 hs h => WG_st (st' := [va_rf v19]) rfl ?_)
      refine q_castS C (nm := RX4) (T := TX4) (N := 18) rfl wc_X6_32 dX6_setFreeLessons_75 h (fun h => ?_)
      refine q_astore C (fun v20 => [(4, va_rf v20), (0, va_rf a0), (1, va_rf a1), (2, .int a2), (3, .int x3)]) dX6_setFreeLessons_78 (by decide) (fun _ => rfl) h (fun v20 h => ?_)
      refine q_iload_n C 3 dX6_setFreeLessons_80 rfl ?_
      refine q_iload_n C 4 dX6_setFreeLessons_81 rfl ?_
      refine q_callSN C [.int a2, .int x3] [] (fun o2 hs1 hm => m_X8_has hm) lk_X6_89 sm_X8_has ⟨(Nat.le_of_ble_eq_true rfl), (Nat.le_of_ble_eq_true rfl)⟩ ⟨(Nat.le_of_ble_eq_true rfl), (Nat.le_of_ble_eq_true rfl)⟩ rfl rfl (by decide) dX6_setFreeLessons_82 h (fun v21 hs h => WG_st (st' := [.int v21]) rfl ?_)
      refine q_if_eq C 127 dX6_setFreeLessons_85 (by decide) h (fun h => ?_) (fun h => ?_)
      · refine WG.sub [1, 2, 3, 4] rfl ?_
        exact w_j_X6_setFreeLessons_127 C C2 _ _ _ _ _ hrec_56 h
      · refine q_aload_n C 2 dX6_setFreeLessons_88 rfl ?_
        refine q_iload_n C 4 dX6_setFreeLessons_89 rfl ?_
        refine q_callSN C [va_rf a1, .int x3] [] (fun o2 hs1 hm => m_X8_at hm) lk_X6_134 sm_X8_at ⟨(Nat.le_of_ble_eq_true rfl), (Nat.le_of_ble_eq_true rfl)⟩ ⟨(Nat.le_of_ble_eq_true rfl), (Nat.le_of_ble_eq_true rfl)⟩ rfl rfl (by decide) dX6_setFreeLessons_90 h (fun v23 hs h => WG_st (st' := [.int v23]) rfl ?_)
        refine q_iconst C (-1 : Int32) dX6_setFreeLessons_93 (by decide) ?_
        refine q_icmp_eq C 127 dX6_setFreeLessons_94 (by decide) h (fun h => ?_) (fun h => ?_)
        · refine WG.sub [1, 2, 3, 4] rfl ?_
          exact w_j_X6_setFreeLessons_127 C C2 _ _ _ _ _ hrec_56 h
        · refine q_aload_n C 1 dX6_setFreeLessons_97 rfl ?_
          refine q_aload C 0 dX6_setFreeLessons_98 rfl ?_
          refine q_callV C (CN := RX6) (T := TX6) (N := 6) [va_rf v20] [] (fun a0 o2 hs1 hm => m_X6_judgePlaces hm) lk_X6_138 im_X6_judgePlaces se_X6_X6_judgePlaces rfl ⟨(Nat.le_of_ble_eq_true rfl), (Nat.le_of_ble_eq_true rfl)⟩ ⟨(Nat.le_of_ble_eq_true rfl), (Nat.le_of_ble_eq_true rfl)⟩ rfl rfl (by decide) dX6_setFreeLessons_100 h (fun v24 hs h => WG_st (st' := []) rfl ?_)
          refine q_aload C 0 dX6_setFreeLessons_103 rfl ?_
          refine q_aload_n C 2 dX6_setFreeLessons_105 rfl ?_
          refine q_iload_n C 4 dX6_setFreeLessons_106 rfl ?_
          refine q_callSN C [va_rf a1, .int x3] [va_rf v20] (fun o2 hs1 hm => m_X8_at hm) lk_X6_134 sm_X8_at ⟨(Nat.le_of_ble_eq_true rfl), (Nat.le_of_ble_eq_true rfl)⟩ ⟨(Nat.le_of_ble_eq_true rfl), (Nat.le_of_ble_eq_true rfl)⟩ rfl rfl (by simp only [List.map, cat_rf, cat_i, cat_a]; decide) dX6_setFreeLessons_107 h (fun v25 hs h => WG_st (st' := [.int v25, va_rf v20]) rfl ?_)
          refine q_callV C (CN := RX4) (T := TX4) (N := 18) [.int v25] [] (fun a0 o2 hs1 hm => m_X4_isPossible hm) lk_X6_141 im_X4_isPossible se_X4_X4_isPossible rfl ⟨(Nat.le_of_ble_eq_true rfl), (Nat.le_of_ble_eq_true rfl)⟩ ⟨(Nat.le_of_ble_eq_true rfl), (Nat.le_of_ble_eq_true rfl)⟩ rfl rfl (by decide) dX6_setFreeLessons_110 h (fun v26 hs h => WG_st (st' := [.int v26]) rfl ?_)
          refine q_if_eq C 127 dX6_setFreeLessons_113 (by decide) h (fun h => ?_) (fun h => ?_)
          · refine WG.sub [1, 2, 3, 4] rfl ?_
            exact w_j_X6_setFreeLessons_127 C C2 _ _ _ _ _ hrec_56 h
          · refine q_aload_n C 1 dX6_setFreeLessons_116 rfl ?_
            refine q_aload C 0 dX6_setFreeLessons_117 rfl ?_
            refine q_aload_n C 2 dX6_setFreeLessons_119 rfl ?_
            refine q_iload_n C 4 dX6_setFreeLessons_120 rfl ?_
            refine q_callSN C [va_rf a1, .int x3] [va_rf v20, va_rf a0] (fun o2 hs1 hm => m_X8_at hm) lk_X6_134 sm_X8_at ⟨(Nat.le_of_ble_eq_true rfl), (Nat.le_of_ble_eq_true rfl)⟩ ⟨(Nat.le_of_ble_eq_true rfl), (Nat.le_of_ble_eq_true rfl)⟩ rfl rfl (by simp only [List.map, cat_rf, cat_i, cat_a]; decide) dX6_setFreeLessons_121 h (fun v27 hs h => WG_st (st' := [.int v27, va_rf v20, va_rf a0]) rfl ?_)
            refine q_callV C (CN := RX6) (T := TX6) (N := 6) [va_rf v20, .int v27] [] (fun a0 o2 hs1 hm => m_X6_putAt hm) lk_X6_110 im_X6_putAt se_X6_X6_putAt rfl ⟨(Nat.le_of_ble_eq_true rfl), (Nat.le_of_ble_eq_true rfl)⟩ ⟨(Nat.le_of_ble_eq_true rfl), (Nat.le_of_ble_eq_true rfl)⟩ rfl rfl (by decide) dX6_setFreeLessons_124 h (fun v28 hs h => WG_st (st' := []) rfl ?_)
            refine WG.sub [1, 2, 3, 4] rfl ?_
            exact w_j_X6_setFreeLessons_127 C C2 _ _ _ _ _ hrec_56 h
end M_X6_setFreeLessons
def f_X6_setFreeLessons (a0 : Nat) (p1 : Option Nat) : OO Unit :=
    lets (0 : Int32) fun (v1 : Int32) =>
    lets (0 : Int32) fun (v2 : Int32) =>
    L_X6_setFreeLessons_4 (some a0) p1 (fun (v13 : Int32) => rcv (some a0) 9 fun r34 => call (f_X6_takeAll r34 v13) (fun (v14 : Unit) =>
    lets (0 : Int32) fun (v15 : Int32) =>
    L_X6_setFreeLessons_56 (some a0) p1 v13 (rtn ()) 100000 v15) nox) 100000 v1 v2
set_option maxRecDepth 100000 in
set_option maxHeartbeats 4000000 in
theorem m_X6_setFreeLessons {G : GG} {l : Launch} {a0 : Nat} {p1 : Option Nat} {hs hs' : Hs} {o : Except Nat Unit} (h : f_X6_setFreeLessons a0 p1 hs = some (o, hs')) : CT G l yX6_setFreeLessons cX6_setFreeLessons 5 none 10 384 0 0 [.ref a0, va_rf p1] hs o hs' tvV := by
  refine vx_ofW (cc := cX6_setFreeLessons) (maxL := 5) (ret := none) (by decide +kernel) rfl ?_
  intro p e s m args below meth c s₁ B hml hxt hv
  obtain ⟨hav, hR, hKn⟩ := hv
  subst hav
  have hts := atoms_spec (ws := .code yX6_setFreeLessons cX6_setFreeLessons 5 none :: Tg) B.pre
  have C : Cx G l p s m _ c RX6 cX6_setFreeLessons 5 := ⟨B.exec, B.bytes, hml, findClass_of_methodNamed B.named, fun w hw => hts w (List.mem_cons_of_mem _ hw), hKn, fun q hq => Nat.le_trans hR.2.2.1 hq⟩
  have C2 : Cy meth c none := ⟨B.returns, B.notSynchronized, hxt⟩
  have key : WG G p l e { frames := 10, cells := 0, slots := 0, locals := 384 } s m ([.ref a0, va_rf p1] : List Value).toArray below meth c 5 0 0 (vx_MQ below (QcT G o hs' tvV) (XCT G o hs') ([.ref a0, va_rf p1] : List Value).toArray s 0 0 (gA G)) hs [(0, va_rf (some a0)), (1, va_rf p1)] [] 0 := by
    unfold f_X6_setFreeLessons at h
    refine q_iconst C (0 : Int32) dX6_setFreeLessons_0 (by decide) ?_
    refine q_istore_n C (fun v1 => [(2, .int v1), (0, va_rf (some a0)), (1, va_rf p1)]) dX6_setFreeLessons_1 (by decide) (fun _ => rfl) h (fun v1 h => ?_)
    refine q_iconst C (0 : Int32) dX6_setFreeLessons_2 (by decide) ?_
    refine q_istore_n C (fun v2 => [(3, .int v2), (2, .int v1), (0, va_rf (some a0)), (1, va_rf p1)]) dX6_setFreeLessons_3 (by decide) (fun _ => rfl) h (fun v2 h => ?_)
    refine WG.sub [2, 3, 1, 0] rfl ?_
    refine w_L_X6_setFreeLessons_4 C C2 _ _ _ ?_ _ _ _ _ h
    · intro v13 hs h
      refine q_aload_n C 0 dX6_setFreeLessons_49 rfl ?_
      refine q_iload_n C 2 dX6_setFreeLessons_50 rfl ?_
      refine q_callV C (CN := RX6) (T := TX6) (N := 6) [.int v13] [] (fun a0 o2 hs1 hm => m_X6_takeAll hm) lk_X6_96 im_X6_takeAll se_X6_X6_takeAll rfl ⟨(Nat.le_of_ble_eq_true rfl), (Nat.le_of_ble_eq_true rfl)⟩ ⟨(Nat.le_of_ble_eq_true rfl), (Nat.le_of_ble_eq_true rfl)⟩ rfl rfl (by decide) dX6_setFreeLessons_51 h (fun v14 hs h => WG_st (st' := []) rfl ?_)
      refine q_iconst C (0 : Int32) dX6_setFreeLessons_54 (by decide) ?_
      refine q_istore_n C (fun v15 => [(3, .int v15), (0, va_rf (some a0)), (1, va_rf p1), (2, .int v13)]) dX6_setFreeLessons_55 (by decide) (fun _ => rfl) h (fun v15 h => ?_)
      refine WG.sub [1, 2, 3, 0] rfl ?_
      refine w_L_X6_setFreeLessons_56 C C2 _ _ _ _ ?_ _ _ _ h
      · intro  hs h
        exact q_vret C C2 rfl (Nat.le_of_ble_eq_true rfl) (Nat.le_of_ble_eq_true rfl) dX6_setFreeLessons_133 h
  rw [lg_entry_eq]
  cases p1 <;> exact key _ _ _ hR va_S.rf ⟨lv_entry _ (n := 5) (Nat.le_of_ble_eq_true rfl), (c1_r (c1_r c1_n))⟩

theorem cd_X6_changeWish : Cond.code yX6_changeWish cX6_changeWish 7 (some .int) ∈ Tg := Tg_of (i := 977) (by decide +kernel) (by decide +kernel)
theorem wf_X6_145 : Cond.fieldLink RX6 145 RX7 (TX7 0).2.1 (TX7 0).2.2.1 ∈ Tg := Tg_of (i := 790) (by decide +kernel) (by decide +kernel)
theorem fl_X6_145 : Fld RX6 145 10 0 (.array .int) := ⟨RX7, TX7, 3, RX7, rfl, by decide, wf_X6_145, (Or.inl rfl), gu_X7, tyX7_ok _ (by decide), ⟨tyX7, tyX7_ok⟩, nmX7⟩
theorem wf_X6_150 : Cond.fieldLink RX6 150 RX4 (TX4 2).2.1 (TX4 2).2.2.1 ∈ Tg := Tg_of (i := 898) (by decide +kernel) (by decide +kernel)
theorem fl_X6_150 : Fld RX6 150 7 2 (.object "Termgrid$Teacher") := ⟨RX4, TX4, 18, RX4, rfl, by decide, wf_X6_150, (Or.inl rfl), gu_X4, tyX4_ok _ (by decide), ⟨tyX4, tyX4_ok⟩, nmX4⟩
theorem ml_X6_154 : Cond.methodLink RX6 154 yX4_hoursNow ∈ Tg := Tg_of (i := 486) (by decide +kernel) (by decide +kernel)
theorem lk_X6_154 : Lk RX6 154 yX4_hoursNow cX4_hoursNow 1 (some .int) 0 := ⟨ml_X6_154, cd_X4_hoursNow, iw_X4, by decide +kernel⟩
theorem im_X4_hoursNow : Cond.instanceMethod yX4_hoursNow ∈ Tg := Tg_of (i := 487) (by decide +kernel) (by decide +kernel)
theorem se_X4_X4_hoursNow : Cond.selects RX4 yX4_hoursNow yX4_hoursNow ∈ Tg := Tg_of (i := 488) (by decide +kernel) (by decide +kernel)
section M_X6_changeWish
variable {p : Program} {l : Launch} {e : Env} {s : State} {m : MethodId} {args : Array Value} {below : List Frame} {meth : Method} {c : Code} {G : GG} {o : Except Nat Int32} {hs' : Hs}
def j_X6_changeWish_73 (a0 : Option Nat) (a1 : Option Nat) (a2 : Int32) (a3 : Int32) (a4 : Int32) (a5 : Int32)  (rec_13 : Int32 → OO Int32) : OO Int32 :=
  lets (a5 + (1 : Int32)) fun (v11 : Int32) =>
    rec_13 v11
set_option maxRecDepth 100000 in
set_option maxHeartbeats 4000000 in
theorem w_j_X6_changeWish_73 (C : Cx G l p s m args c RX6 cX6_changeWish 7) (C2 : Cy meth c (some .int)) {hs : Hs} (a0 : Option Nat) (a1 : Option Nat) (a2 : Int32) (a3 : Int32) (a4 : Int32) (a5 : Int32)  (rec_13 : Int32 → OO Int32) (hrec_13 : ∀ (y5 : Int32) hs, rec_13 y5 hs = some (o, hs') → WG G p l e { frames := 3, cells := 0, slots := 0, locals := 64 } s m args below meth c 7 0 0 (vx_MQ below (QcT G o hs' tvI) (XCT G o hs') args s 0 0 (gA G)) hs [(0, va_rf a0), (1, va_rf a1), (2, .int a2), (3, .int a3), (4, .int a4), (5, .int y5)] [] 13) (h : j_X6_changeWish_73 a0 a1 a2 a3 a4 a5 rec_13 hs = some (o, hs')) : WG G p l e { frames := 3, cells := 0, slots := 0, locals := 64 } s m args below meth c 7 0 0 (vx_MQ below (QcT G o hs' tvI) (XCT G o hs') args s 0 0 (gA G)) hs [(0, va_rf a0), (1, va_rf a1), (2, .int a2), (3, .int a3), (4, .int a4), (5, .int a5)] [] 73 := by
  unfold j_X6_changeWish_73 at h
  refine q_iinc C 5 (1 : Int32) (fun v11 => [(5, .int v11), (0, va_rf a0), (1, va_rf a1), (2, .int a2), (3, .int a3), (4, .int a4)]) dX6_changeWish_73 rfl (by decide) (by decide) (fun _ => rfl) h (fun v11 h => ?_)
  refine q_goto C 13 dX6_changeWish_76 (by decide) ?_
  refine WG.sub [1, 2, 3, 4, 5, 0] rfl ?_
  exact hrec_13 _ _ h
def L_X6_changeWish_13 (a0 : Option Nat) (a1 : Option Nat) (a2 : Int32) (a3 : Int32) (a4 : Int32) (k_13_79 : OO Int32) : Nat → Int32 → OO Int32
  | 0, _ => failO
  | n + 1, x5 =>
    gR a0 9 2 fun v5 =>
    rcv v5 2 fun r18 => call (f_Jx4a65c_size_8abf5 r18 ) (fun (v6 : Int32) =>
    (if v6 ≤ x5 then
    k_13_79
    else
    gR a0 9 2 fun v7 =>
    rcv v7 2 fun r17 => call (f_Jx4a65c_get_915e3 r17 x5) (fun (v8 : Option Nat) =>
    cst v8 7 (
    lets v8 fun (v9 : Option Nat) =>
    gR v9 7 2 fun v10 =>
    (if ¬ v10 = a1 then
    j_X6_changeWish_73 a0 a1 a2 a3 a4 x5 (L_X6_changeWish_13 a0 a1 a2 a3 a4 k_13_79 n)
    else
    rcv v9 7 fun r16 => call (f_X4_hoursNow r16 ) (fun (v12 : Int32) =>
    call (f_X8_has v12 a2) (fun (v13 : Int32) =>
    (if v13 = 0 then
    j_X6_changeWish_73 a0 a1 a2 a3 a4 x5 (L_X6_changeWish_13 a0 a1 a2 a3 a4 k_13_79 n)
    else
    gR a0 9 4 fun v14 =>
    ldI 0 v14 (2 : Int32) fun v15 =>
    stI v14 (2 : Int32) (v15 + (a3 - a4)) (
    j_X6_changeWish_73 a0 a1 a2 a3 a4 x5 (L_X6_changeWish_13 a0 a1 a2 a3 a4 k_13_79 n)))) nox) nox))) nox)) nox
set_option maxRecDepth 100000 in
set_option maxHeartbeats 4000000 in
theorem w_L_X6_changeWish_13 (C : Cx G l p s m args c RX6 cX6_changeWish 7) (C2 : Cy meth c (some .int)) (a0 : Option Nat) (a1 : Option Nat) (a2 : Int32) (a3 : Int32) (a4 : Int32) (k_13_79 : OO Int32) (hk_13_79 : ∀ hs, k_13_79  hs = some (o, hs') → WG G p l e { frames := 3, cells := 0, slots := 0, locals := 64 } s m args below meth c 7 0 0 (vx_MQ below (QcT G o hs' tvI) (XCT G o hs') args s 0 0 (gA G)) hs [(1, va_rf a1), (2, .int a2), (3, .int a3), (4, .int a4)] [] 79) : ∀ (n : Nat) (x5 : Int32) (hs : Hs), L_X6_changeWish_13 a0 a1 a2 a3 a4 k_13_79 n x5 hs = some (o, hs') → WG G p l e { frames := 3, cells := 0, slots := 0, locals := 64 } s m args below meth c 7 0 0 (vx_MQ below (QcT G o hs' tvI) (XCT G o hs') args s 0 0 (gA G)) hs [(0, va_rf a0), (1, va_rf a1), (2, .int a2), (3, .int a3), (4, .int a4), (5, .int x5)] [] 13 := by
  intro n
  induction n with
  | zero =>
    intro x5 hs h
    rw [L_X6_changeWish_13] at h
    exact absurd h failO_e
  | succ n hrec_13 =>
    intro x5 hs h
    rw [L_X6_changeWish_13] at h
    refine q_iload C 5 dX6_changeWish_13 rfl ?_
    refine q_aload_n C 0 dX6_changeWish_15 rfl ?_
    refine q_gR C fl_X6_21 dX6_changeWish_16 h (fun v5 h => ?_)
    refine q_callV C (CN := RJx4a65c) (T := TJx4a65c) (N := 3) [] [.int x5] (fun a0 o2 hs1 hm => m_Jx4a65c_size_8abf5 hm) lk_X6_52 im_Jx4a65c_size_8abf5 se_Jx4a65c_Jx4a65c_size_8abf5 rfl ⟨(Nat.le_of_ble_eq_true rfl), (Nat.le_of_ble_eq_true rfl)⟩ ⟨(Nat.le_of_ble_eq_true rfl), (Nat.le_of_ble_eq_true rfl)⟩ rfl rfl (by simp only [List.map, cat_rf, cat_i, cat_a]; decide) dX6_changeWish_19 h (fun v6 hs h => WG_st (st' := [.int v6, .int x5]) rfl ?_)
    refine q_icmp_ge C 79 dX6_changeWish_22 (by decide) h (fun h => ?_) (fun h => ?_)
    · refine WG.sub [1, 2, 3, 4] rfl ?_
      exact hk_13_79 _ h
    · refine q_aload_n C 0 dX6_changeWish_25 rfl ?_
      refine q_gR C fl_X6_21 dX6_changeWish_26 h (fun v7 h => ?_)
      refine q_iload C 5 dX6_changeWish_29 rfl ?_
      refine q_callV C (CN := RJx4a65c) (T := TJx4a65c) (N := 3) [.int x5] [] (fun a0 o2 hs1 hm => m_Jx4a65c_get_915e3 hm) lk_X6_56 im_Jx4a65c_get_915e3 se_Jx4a65c_Jx4a65c_get_915e3 rfl ⟨(Nat.le_of_ble_eq_true rfl), (Nat.le_of_ble_eq_true rfl)⟩ ⟨(Nat.le_of_ble_eq_true rfl), (Nat.le_of_ble_eq_true rfl)⟩ rfl rfl (by decide) dX6_changeWish_31 h (fun v8 hs h => WG_st (st' := [va_rf v8]) rfl ?_)
      refine q_castS C (nm := RX4) (T := TX4) (N := 18) rfl wc_X6_32 dX6_changeWish_34 h (fun h => ?_)
      refine q_astore C (fun v9 => [(6, va_rf v9), (0, va_rf a0), (1, va_rf a1), (2, .int a2), (3, .int a3), (4, .int a4), (5, .int x5)]) dX6_changeWish_37 (by decide) (fun _ => rfl) h (fun v9 h => ?_)
      refine q_aload C 0 dX6_changeWish_39 rfl ?_
      refine q_gR C fl_X6_150 dX6_changeWish_41 h (fun v10 h => ?_)
      refine q_aload_n C 2 dX6_changeWish_44 rfl ?_
      refine q_acmp_ne C 73 dX6_changeWish_45 (by decide) h (fun h => ?_) (fun h => ?_)
      · refine WG.sub [1, 2, 3, 4, 5, 6] rfl ?_
        exact w_j_X6_changeWish_73 C C2 _ _ _ _ _ _ _ hrec_13 h
      · refine q_aload C 0 dX6_changeWish_48 rfl ?_
        refine q_callV C (CN := RX4) (T := TX4) (N := 18) [] [] (fun a0 o2 hs1 hm => m_X4_hoursNow hm) lk_X6_154 im_X4_hoursNow se_X4_X4_hoursNow rfl ⟨(Nat.le_of_ble_eq_true rfl), (Nat.le_of_ble_eq_true rfl)⟩ ⟨(Nat.le_of_ble_eq_true rfl), (Nat.le_of_ble_eq_true rfl)⟩ rfl rfl (by decide) dX6_changeWish_50 h (fun v12 hs h => WG_st (st' := [.int v12]) rfl ?_)
        refine q_iload_n C 3 dX6_changeWish_53 rfl ?_
        refine q_callSN C [.int v12, .int a2] [] (fun o2 hs1 hm => m_X8_has hm) lk_X6_89 sm_X8_has ⟨(Nat.le_of_ble_eq_true rfl), (Nat.le_of_ble_eq_true rfl)⟩ ⟨(Nat.le_of_ble_eq_true rfl), (Nat.le_of_ble_eq_true rfl)⟩ rfl rfl (by decide) dX6_changeWish_54 h (fun v13 hs h => WG_st (st' := [.int v13]) rfl ?_)
        refine q_if_eq C 73 dX6_changeWish_57 (by decide) h (fun h => ?_) (fun h => ?_)
        · refine WG.sub [1, 2, 3, 4, 5, 6] rfl ?_
          exact w_j_X6_changeWish_73 C C2 _ _ _ _ _ _ _ hrec_13 h
        · refine q_aload_n C 1 dX6_changeWish_60 rfl ?_
          refine q_gR C fl_X6_28 dX6_changeWish_61 h (fun v14 h => ?_)
          refine q_iconst C (2 : Int32) dX6_changeWish_64 (by decide) ?_
          refine q_dup2 C rfl (cat_rf _) dX6_changeWish_65 ?_
          refine q_iald C dX6_changeWish_66 h (fun v15 h => ?_)
          refine q_iload_n C 4 dX6_changeWish_67 rfl ?_
          refine q_iload C 5 dX6_changeWish_68 rfl ?_
          refine q_isub C dX6_changeWish_70 ?_
          refine q_iadd C dX6_changeWish_71 ?_
          refine q_iast C dX6_changeWish_72 h (fun hs h => ?_)
          refine WG.sub [1, 2, 3, 4, 5, 6] rfl ?_
          exact w_j_X6_changeWish_73 C C2 _ _ _ _ _ _ _ hrec_13 h
end M_X6_changeWish
def f_X6_changeWish (a0 : Nat) (p1 : Option Nat) (p2 : Int32) (p3 : Int32) : OO Int32 :=
    gR p1 10 0 fun v1 =>
    call (f_X8_at v1 p2) (fun (v2 : Int32) =>
    lets v2 fun (v3 : Int32) =>
    lets (0 : Int32) fun (v4 : Int32) =>
    L_X6_changeWish_13 (some a0) p1 p2 p3 v3 ((if p2 < 0 then
    rtn v3
    else
    gR p1 10 0 fun v19 =>
    alen v19 fun v20 =>
    (if v20 ≤ p2 then
    rtn v3
    else
    gR p1 10 0 fun v21 =>
    stI v21 p2 p3 (
    rtn v3)))) 100000 v4) nox
set_option maxRecDepth 100000 in
set_option maxHeartbeats 4000000 in
theorem m_X6_changeWish {G : GG} {l : Launch} {a0 : Nat} {p1 : Option Nat} {p2 : Int32} {p3 : Int32} {hs hs' : Hs} {o : Except Nat Int32} (h : f_X6_changeWish a0 p1 p2 p3 hs = some (o, hs')) : CT G l yX6_changeWish cX6_changeWish 7 (some .int) 3 64 0 0 [.ref a0, va_rf p1, .int p2, .int p3] hs o hs' tvI := by
  refine vx_ofW (cc := cX6_changeWish) (maxL := 7) (ret := (some .int)) (by decide +kernel) rfl ?_
  intro p e s m args below meth c s₁ B hml hxt hv
  obtain ⟨hav, hR, hKn⟩ := hv
  subst hav
  have hts := atoms_spec (ws := .code yX6_changeWish cX6_changeWish 7 (some .int) :: Tg) B.pre
  have C : Cx G l p s m _ c RX6 cX6_changeWish 7 := ⟨B.exec, B.bytes, hml, findClass_of_methodNamed B.named, fun w hw => hts w (List.mem_cons_of_mem _ hw), hKn, fun q hq => Nat.le_trans hR.2.2.1 hq⟩
  have C2 : Cy meth c (some .int) := ⟨B.returns, B.notSynchronized, hxt⟩
  have key : WG G p l e { frames := 3, cells := 0, slots := 0, locals := 64 } s m ([.ref a0, va_rf p1, .int p2, .int p3] : List Value).toArray below meth c 7 0 0 (vx_MQ below (QcT G o hs' tvI) (XCT G o hs') ([.ref a0, va_rf p1, .int p2, .int p3] : List Value).toArray s 0 0 (gA G)) hs [(0, va_rf (some a0)), (1, va_rf p1), (2, .int p2), (3, .int p3)] [] 0 := by
    unfold f_X6_changeWish at h
    refine q_aload_n C 1 dX6_changeWish_0 rfl ?_
    refine q_gR C fl_X6_145 dX6_changeWish_1 h (fun v1 h => ?_)
    refine q_iload_n C 2 dX6_changeWish_4 rfl ?_
    refine q_callSN C [va_rf v1, .int p2] [] (fun o2 hs1 hm => m_X8_at hm) lk_X6_134 sm_X8_at ⟨(Nat.le_of_ble_eq_true rfl), (Nat.le_of_ble_eq_true rfl)⟩ ⟨(Nat.le_of_ble_eq_true rfl), (Nat.le_of_ble_eq_true rfl)⟩ rfl rfl (by decide) dX6_changeWish_5 h (fun v2 hs h => WG_st (st' := [.int v2]) rfl ?_)
    refine q_istore C (fun v3 => [(4, .int v3), (0, va_rf (some a0)), (1, va_rf p1), (2, .int p2), (3, .int p3)]) dX6_changeWish_8 (by decide) (fun _ => rfl) h (fun v3 h => ?_)
    refine q_iconst C (0 : Int32) dX6_changeWish_10 (by decide) ?_
    refine q_istore C (fun v4 => [(5, .int v4), (4, .int v3), (0, va_rf (some a0)), (1, va_rf p1), (2, .int p2), (3, .int p3)]) dX6_changeWish_11 (by decide) (fun _ => rfl) h (fun v4 h => ?_)
    refine WG.sub [2, 3, 4, 5, 1, 0] rfl ?_
    refine w_L_X6_changeWish_13 C C2 _ _ _ _ _ _ ?_ _ _ _ h
    · intro  hs h
      refine q_iload_n C 1 dX6_changeWish_79 rfl ?_
      refine q_if_lt C 99 dX6_changeWish_80 (by decide) h (fun h => ?_) (fun h => ?_)
      · refine q_iload C 3 dX6_changeWish_99 rfl ?_
        exact q_iret C C2 rfl (Nat.le_of_ble_eq_true rfl) (Nat.le_of_ble_eq_true rfl) dX6_changeWish_101 h
      · refine q_iload_n C 1 dX6_changeWish_83 rfl ?_
        refine q_aload_n C 0 dX6_changeWish_84 rfl ?_
        refine q_gR C fl_X6_145 dX6_changeWish_85 h (fun v19 h => ?_)
        refine q_alen C dX6_changeWish_88 h (fun v20 h => ?_)
        refine q_icmp_ge C 99 dX6_changeWish_89 (by decide) h (fun h => ?_) (fun h => ?_)
        · refine q_iload C 3 dX6_changeWish_99 rfl ?_
          exact q_iret C C2 rfl (Nat.le_of_ble_eq_true rfl) (Nat.le_of_ble_eq_true rfl) dX6_changeWish_101 h
        · refine q_aload_n C 0 dX6_changeWish_92 rfl ?_
          refine q_gR C fl_X6_145 dX6_changeWish_93 h (fun v21 h => ?_)
          refine q_iload_n C 1 dX6_changeWish_96 rfl ?_
          refine q_iload_n C 2 dX6_changeWish_97 rfl ?_
          refine q_iast C dX6_changeWish_98 h (fun hs h => ?_)
          refine q_iload C 3 dX6_changeWish_99 rfl ?_
          exact q_iret C C2 rfl (Nat.le_of_ble_eq_true rfl) (Nat.le_of_ble_eq_true rfl) dX6_changeWish_101 h
  rw [lg_entry_eq]
  cases p1 <;> exact key _ _ _ hR va_S.rf ⟨lv_entry _ (n := 7) (Nat.le_of_ble_eq_true rfl), (c1_r (c1_r (c1_i (c1_i c1_n))))⟩

theorem cd_X6_changeWeight : Cond.code yX6_changeWeight cX6_changeWeight 4 (some .int) ∈ Tg := Tg_of (i := 993) (by decide +kernel) (by decide +kernel)
section M_X6_changeWeight
variable {p : Program} {l : Launch} {e : Env} {s : State} {m : MethodId} {args : Array Value} {below : List Frame} {meth : Method} {c : Code} {G : GG} {o : Except Nat Int32} {hs' : Hs}
end M_X6_changeWeight
def f_X6_changeWeight (a0 : Nat) (p1 : Int32) (p2 : Int32) : OO Int32 :=
    gR (some a0) 9 3 fun v1 =>
    call (f_X8_at v1 p1) (fun (v2 : Int32) =>
    lets v2 fun (v3 : Int32) =>
    (if p1 < 0 then
    rtn v3
    else
    gR (some a0) 9 3 fun v4 =>
    alen v4 fun v5 =>
    (if v5 ≤ p1 then
    rtn v3
    else
    gR (some a0) 9 3 fun v6 =>
    stI v6 p1 p2 (
    rtn v3)))) nox
set_option maxRecDepth 100000 in
set_option maxHeartbeats 4000000 in
theorem m_X6_changeWeight {G : GG} {l : Launch} {a0 : Nat} {p1 : Int32} {p2 : Int32} {hs hs' : Hs} {o : Except Nat Int32} (h : f_X6_changeWeight a0 p1 p2 hs = some (o, hs')) : CT G l yX6_changeWeight cX6_changeWeight 4 (some .int) 1 21 0 0 [.ref a0, .int p1, .int p2] hs o hs' tvI := by
  refine vx_ofW (cc := cX6_changeWeight) (maxL := 4) (ret := (some .int)) (by decide +kernel) rfl ?_
  intro p e s m args below meth c s₁ B hml hxt hv
  obtain ⟨hav, hR, hKn⟩ := hv
  subst hav
  have hts := atoms_spec (ws := .code yX6_changeWeight cX6_changeWeight 4 (some .int) :: Tg) B.pre
  have C : Cx G l p s m _ c RX6 cX6_changeWeight 4 := ⟨B.exec, B.bytes, hml, findClass_of_methodNamed B.named, fun w hw => hts w (List.mem_cons_of_mem _ hw), hKn, fun q hq => Nat.le_trans hR.2.2.1 hq⟩
  have C2 : Cy meth c (some .int) := ⟨B.returns, B.notSynchronized, hxt⟩
  have key : WG G p l e { frames := 1, cells := 0, slots := 0, locals := 21 } s m ([.ref a0, .int p1, .int p2] : List Value).toArray below meth c 4 0 0 (vx_MQ below (QcT G o hs' tvI) (XCT G o hs') ([.ref a0, .int p1, .int p2] : List Value).toArray s 0 0 (gA G)) hs [(0, va_rf (some a0)), (1, .int p1), (2, .int p2)] [] 0 := by
    unfold f_X6_changeWeight at h
    refine q_aload_n C 0 dX6_changeWeight_0 rfl ?_
    refine q_gR C fl_X6_24 dX6_changeWeight_1 h (fun v1 h => ?_)
    refine q_iload_n C 1 dX6_changeWeight_4 rfl ?_
    refine q_callSN C [va_rf v1, .int p1] [] (fun o2 hs1 hm => m_X8_at hm) lk_X6_134 sm_X8_at ⟨(Nat.le_of_ble_eq_true rfl), (Nat.le_of_ble_eq_true rfl)⟩ ⟨(Nat.le_of_ble_eq_true rfl), (Nat.le_of_ble_eq_true rfl)⟩ rfl rfl (by decide) dX6_changeWeight_5 h (fun v2 hs h => WG_st (st' := [.int v2]) rfl ?_)
    refine q_istore_n C (fun v3 => [(3, .int v3), (0, va_rf (some a0)), (1, .int p1), (2, .int p2)]) dX6_changeWeight_8 (by decide) (fun _ => rfl) h (fun v3 h => ?_)
    refine q_iload_n C 2 dX6_changeWeight_9 rfl ?_
    refine q_if_lt C 29 dX6_changeWeight_10 (by decide) h (fun h => ?_) (fun h => ?_)
    · refine q_iload_n C 0 dX6_changeWeight_29 rfl ?_
      exact q_iret C C2 rfl (Nat.le_of_ble_eq_true rfl) (Nat.le_of_ble_eq_true rfl) dX6_changeWeight_30 h
    · refine q_iload_n C 2 dX6_changeWeight_13 rfl ?_
      refine q_aload_n C 1 dX6_changeWeight_14 rfl ?_
      refine q_gR C fl_X6_24 dX6_changeWeight_15 h (fun v4 h => ?_)
      refine q_alen C dX6_changeWeight_18 h (fun v5 h => ?_)
      refine q_icmp_ge C 29 dX6_changeWeight_19 (by decide) h (fun h => ?_) (fun h => ?_)
      · refine q_iload_n C 0 dX6_changeWeight_29 rfl ?_
        exact q_iret C C2 rfl (Nat.le_of_ble_eq_true rfl) (Nat.le_of_ble_eq_true rfl) dX6_changeWeight_30 h
      · refine q_aload_n C 1 dX6_changeWeight_22 rfl ?_
        refine q_gR C fl_X6_24 dX6_changeWeight_23 h (fun v6 h => ?_)
        refine q_iload_n C 2 dX6_changeWeight_26 rfl ?_
        refine q_iload_n C 3 dX6_changeWeight_27 rfl ?_
        refine q_iast C dX6_changeWeight_28 h (fun hs h => ?_)
        refine q_iload_n C 0 dX6_changeWeight_29 rfl ?_
        exact q_iret C C2 rfl (Nat.le_of_ble_eq_true rfl) (Nat.le_of_ble_eq_true rfl) dX6_changeWeight_30 h
  rw [lg_entry_eq]
  exact key _ _ _ hR va_S.rf ⟨lv_entry _ (n := 4) (Nat.le_of_ble_eq_true rfl), (c1_r (c1_i (c1_i c1_n)))⟩

theorem cd_X6_isLate : Cond.code yX6_isLate cX6_isLate 1 (some .boolean) ∈ Tg := Tg_of (i := 499) (by decide +kernel) (by decide +kernel)
theorem kc_X6_167 : Cond.constant RX6 167 (545392672) ∈ Tg := Tg_of (i := 500) (by decide +kernel) (by decide +kernel)
section M_X6_isLate
variable {p : Program} {l : Launch} {e : Env} {s : State} {m : MethodId} {args : Array Value} {below : List Frame} {meth : Method} {c : Code} {G : GG} {o : Except Nat Int32} {hs' : Hs}
end M_X6_isLate
def f_X6_isLate (p0 : Option Nat) : OO Int32 :=
    rcv p0 7 fun r2 => call (f_X4_hoursNow r2 ) (fun (v1 : Int32) =>
    (if (v1 &&& (545392672 : Int32)) = 0 then
    retZ (0 : Int32)
    else
    retZ (1 : Int32))) nox
set_option maxRecDepth 100000 in
set_option maxHeartbeats 4000000 in
theorem m_X6_isLate {G : GG} {l : Launch} {p0 : Option Nat} {hs hs' : Hs} {o : Except Nat Int32} (h : f_X6_isLate p0 hs = some (o, hs')) : CT G l yX6_isLate cX6_isLate 1 (some .boolean) 2 41 0 0 [va_rf p0] hs o hs' tvI := by
  refine vx_ofW (cc := cX6_isLate) (maxL := 1) (ret := (some .boolean)) (by decide +kernel) rfl ?_
  intro p e s m args below meth c s₁ B hml hxt hv
  obtain ⟨hav, hR, hKn⟩ := hv
  subst hav
  have hts := atoms_spec (ws := .code yX6_isLate cX6_isLate 1 (some .boolean) :: Tg) B.pre
  have C : Cx G l p s m _ c RX6 cX6_isLate 1 := ⟨B.exec, B.bytes, hml, findClass_of_methodNamed B.named, fun w hw => hts w (List.mem_cons_of_mem _ hw), hKn, fun q hq => Nat.le_trans hR.2.2.1 hq⟩
  have C2 : Cy meth c (some .boolean) := ⟨B.returns, B.notSynchronized, hxt⟩
  have key : WG G p l e { frames := 2, cells := 0, slots := 0, locals := 41 } s m ([va_rf p0] : List Value).toArray below meth c 1 0 0 (vx_MQ below (QcT G o hs' tvI) (XCT G o hs') ([va_rf p0] : List Value).toArray s 0 0 (gA G)) hs [(0, va_rf p0)] [] 0 := by
    unfold f_X6_isLate at h
    refine q_aload_n C 0 dX6_isLate_0 rfl ?_
    refine q_callV C (CN := RX4) (T := TX4) (N := 18) [] [] (fun a0 o2 hs1 hm => m_X4_hoursNow hm) lk_X6_154 im_X4_hoursNow se_X4_X4_hoursNow rfl ⟨(Nat.le_of_ble_eq_true rfl), (Nat.le_of_ble_eq_true rfl)⟩ ⟨(Nat.le_of_ble_eq_true rfl), (Nat.le_of_ble_eq_true rfl)⟩ rfl rfl (by decide) dX6_isLate_1 h (fun v1 hs h => WG_st (st' := [.int v1]) rfl ?_)
    refine q_ldc C kc_X6_167 dX6_isLate_4 ?_
    refine q_iand C dX6_isLate_6 ?_
    refine q_if_eq C 14 dX6_isLate_7 (by decide) h (fun h => ?_) (fun h => ?_)
    · refine q_iconst C (0 : Int32) dX6_isLate_14 (by decide) ?_
      exact q_zret C C2 rfl (Nat.le_of_ble_eq_true rfl) (Nat.le_of_ble_eq_true rfl) dX6_isLate_15 h
    · refine q_iconst C (1 : Int32) dX6_isLate_10 (by decide) ?_
      refine q_goto C 15 dX6_isLate_11 (by decide) ?_
      exact q_zret C C2 rfl (Nat.le_of_ble_eq_true rfl) (Nat.le_of_ble_eq_true rfl) dX6_isLate_15 h
  rw [lg_entry_eq]
  cases p0 <;> exact key _ _ _ hR va_S.rf ⟨lv_entry _ (n := 1) (Nat.le_of_ble_eq_true rfl), (c1_r c1_n)⟩

theorem cd_X6_lateLessonsOf : Cond.code yX6_lateLessonsOf cX6_lateLessonsOf 4 (some .int) ∈ Tg := Tg_of (i := 1395) (by decide +kernel) (by decide +kernel)
theorem ml_X6_157 : Cond.methodLink RX6 157 yX6_isLate ∈ Tg := Tg_of (i := 497) (by decide +kernel) (by decide +kernel)
theorem lk_X6_157 : Lk RX6 157 yX6_isLate cX6_isLate 1 (some .boolean) 1 := ⟨ml_X6_157, cd_X6_isLate, iw_X6, by decide +kernel⟩
theorem sm_X6_isLate : Cond.static yX6_isLate ∈ Tg := Tg_of (i := 498) (by decide +kernel) (by decide +kernel)
section M_X6_lateLessonsOf
variable {p : Program} {l : Launch} {e : Env} {s : State} {m : MethodId} {args : Array Value} {below : List Frame} {meth : Method} {c : Code} {G : GG} {o : Except Nat Int32} {hs' : Hs}
def j_X6_lateLessonsOf_53 (a0 : Option Nat) (a1 : Option Nat) (a2 : Int32) (a3 : Int32)  (rec_4 : Int32 → Int32 → OO Int32) : OO Int32 :=
  lets (a3 + (1 : Int32)) fun (v8 : Int32) =>
    rec_4 a2 v8
set_option maxRecDepth 100000 in
set_option maxHeartbeats 4000000 in
theorem w_j_X6_lateLessonsOf_53 (C : Cx G l p s m args c RX6 cX6_lateLessonsOf 4) (C2 : Cy meth c (some .int)) {hs : Hs} (a0 : Option Nat) (a1 : Option Nat) (a2 : Int32) (a3 : Int32)  (rec_4 : Int32 → Int32 → OO Int32) (hrec_4 : ∀ (y2 : Int32) (y3 : Int32) hs, rec_4 y2 y3 hs = some (o, hs') → WG G p l e { frames := 3, cells := 0, slots := 0, locals := 64 } s m args below meth c 4 0 0 (vx_MQ below (QcT G o hs' tvI) (XCT G o hs') args s 0 0 (gA G)) hs [(0, va_rf a0), (1, va_rf a1), (2, .int y2), (3, .int y3)] [] 4) (h : j_X6_lateLessonsOf_53 a0 a1 a2 a3 rec_4 hs = some (o, hs')) : WG G p l e { frames := 3, cells := 0, slots := 0, locals := 64 } s m args below meth c 4 0 0 (vx_MQ below (QcT G o hs' tvI) (XCT G o hs') args s 0 0 (gA G)) hs [(0, va_rf a0), (1, va_rf a1), (2, .int a2), (3, .int a3)] [] 53 := by
  unfold j_X6_lateLessonsOf_53 at h
  refine q_iinc C 3 (1 : Int32) (fun v8 => [(3, .int v8), (0, va_rf a0), (1, va_rf a1), (2, .int a2)]) dX6_lateLessonsOf_53 rfl (by decide) (by decide) (fun _ => rfl) h (fun v8 h => ?_)
  refine q_goto C 4 dX6_lateLessonsOf_56 (by decide) ?_
  refine WG.sub [1, 2, 3, 0] rfl ?_
  exact hrec_4 _ _ _ h
def L_X6_lateLessonsOf_4 (a0 : Option Nat) (a1 : Option Nat) (k_4_59 : Int32 → OO Int32) : Nat → Int32 → Int32 → OO Int32
  | 0, _, _ => failO
  | n + 1, x2, x3 =>
    gR a0 9 2 fun v3 =>
    rcv v3 2 fun r15 => call (f_Jx4a65c_size_8abf5 r15 ) (fun (v4 : Int32) =>
    (if v4 ≤ x3 then
    k_4_59 x2
    else
    gR a0 9 2 fun v5 =>
    rcv v5 2 fun r14 => call (f_Jx4a65c_get_915e3 r14 x3) (fun (v6 : Option Nat) =>
    cst v6 7 (
    gR v6 7 2 fun v7 =>
    (if ¬ v7 = a1 then
    j_X6_lateLessonsOf_53 a0 a1 x2 x3 (L_X6_lateLessonsOf_4 a0 a1 k_4_59 n)
    else
    gR a0 9 2 fun v9 =>
    rcv v9 2 fun r13 => call (f_Jx4a65c_get_915e3 r13 x3) (fun (v10 : Option Nat) =>
    cst v10 7 (
    call (f_X6_isLate v10) (fun (v11 : Int32) =>
    (if v11 = 0 then
    j_X6_lateLessonsOf_53 a0 a1 x2 x3 (L_X6_lateLessonsOf_4 a0 a1 k_4_59 n)
    else
    lets (x2 + (1 : Int32)) fun (v12 : Int32) =>
    j_X6_lateLessonsOf_53 a0 a1 v12 x3 (L_X6_lateLessonsOf_4 a0 a1 k_4_59 n))) nox)) nox))) nox)) nox
set_option maxRecDepth 100000 in
set_option maxHeartbeats 4000000 in
theorem w_L_X6_lateLessonsOf_4 (C : Cx G l p s m args c RX6 cX6_lateLessonsOf 4) (C2 : Cy meth c (some .int)) (a0 : Option Nat) (a1 : Option Nat) (k_4_59 : Int32 → OO Int32) (hk_4_59 : ∀ (y2 : Int32) hs, k_4_59 y2 hs = some (o, hs') → WG G p l e { frames := 3, cells := 0, slots := 0, locals := 64 } s m args below meth c 4 0 0 (vx_MQ below (QcT G o hs' tvI) (XCT G o hs') args s 0 0 (gA G)) hs [(2, .int y2)] [] 59) : ∀ (n : Nat) (x2 : Int32) (x3 : Int32) (hs : Hs), L_X6_lateLessonsOf_4 a0 a1 k_4_59 n x2 x3 hs = some (o, hs') → WG G p l e { frames := 3, cells := 0, slots := 0, locals := 64 } s m args below meth c 4 0 0 (vx_MQ below (QcT G o hs' tvI) (XCT G o hs') args s 0 0 (gA G)) hs [(0, va_rf a0), (1, va_rf a1), (2, .int x2), (3, .int x3)] [] 4 := by
  intro n
  induction n with
  | zero =>
    intro x2 x3 hs h
    rw [L_X6_lateLessonsOf_4] at h
    exact absurd h failO_e
  | succ n hrec_4 =>
    intro x2 x3 hs h
    rw [L_X6_lateLessonsOf_4] at h
    refine q_iload_n C 3 dX6_lateLessonsOf_4 rfl ?_
    refine q_aload_n C 0 dX6_lateLessonsOf_5 rfl ?_
    refine q_gR C fl_X6_21 dX6_lateLessonsOf_6 h (fun v3 h => ?_)
    refine q_callV C (CN := RJx4a65c) (T := TJx4a65c) (N := 3) [] [.int x3] (fun a0 o2 hs1 hm => m_Jx4a65c_size_8abf5 hm) lk_X6_52 im_Jx4a65c_size_8abf5 se_Jx4a65c_Jx4a65c_size_8abf5 rfl ⟨(Nat.le_of_ble_eq_true rfl), (Nat.le_of_ble_eq_true rfl)⟩ ⟨(Nat.le_of_ble_eq_true rfl), (Nat.le_of_ble_eq_true rfl)⟩ rfl rfl (by simp only [List.map, cat_rf, cat_i, cat_a]; decide) dX6_lateLessonsOf_9 h (fun v4 hs h => WG_st (st' := [.int v4, .int x3]) rfl ?_)
    refine q_icmp_ge C 59 dX6_lateLessonsOf_12 (by decide) h (fun h => ?_) (fun h => ?_)
    · refine WG.sub [2] rfl ?_
      exact hk_4_59 _ _ h
    · refine q_aload_n C 0 dX6_lateLessonsOf_15 rfl ?_
      refine q_gR C fl_X6_21 dX6_lateLessonsOf_16 h (fun v5 h => ?_)
      refine q_iload_n C 3 dX6_lateLessonsOf_19 rfl ?_
      refine q_callV C (CN := RJx4a65c) (T := TJx4a65c) (N := 3) [.int x3] [] (fun a0 o2 hs1 hm => m_Jx4a65c_get_915e3 hm) lk_X6_56 im_Jx4a65c_get_915e3 se_Jx4a65c_Jx4a65c_get_915e3 rfl ⟨(Nat.le_of_ble_eq_true rfl), (Nat.le_of_ble_eq_true rfl)⟩ ⟨(Nat.le_of_ble_eq_true rfl), (Nat.le_of_ble_eq_true rfl)⟩ rfl rfl (by decide) dX6_lateLessonsOf_20 h (fun v6 hs h => WG_st (st' := [va_rf v6]) rfl ?_)
      refine q_castS C (nm := RX4) (T := TX4) (N := 18) rfl wc_X6_32 dX6_lateLessonsOf_23 h (fun h => ?_)
      refine q_gR C fl_X6_150 dX6_lateLessonsOf_26 h (fun v7 h => ?_)
      refine q_aload_n C 1 dX6_lateLessonsOf_29 rfl ?_
      refine q_acmp_ne C 53 dX6_lateLessonsOf_30 (by decide) h (fun h => ?_) (fun h => ?_)
      · exact w_j_X6_lateLessonsOf_53 C C2 _ _ _ _ _ hrec_4 h
      · refine q_aload_n C 0 dX6_lateLessonsOf_33 rfl ?_
        refine q_gR C fl_X6_21 dX6_lateLessonsOf_34 h (fun v9 h => ?_)
        refine q_iload_n C 3 dX6_lateLessonsOf_37 rfl ?_
        refine q_callV C (CN := RJx4a65c) (T := TJx4a65c) (N := 3) [.int x3] [] (fun a0 o2 hs1 hm => m_Jx4a65c_get_915e3 hm) lk_X6_56 im_Jx4a65c_get_915e3 se_Jx4a65c_Jx4a65c_get_915e3 rfl ⟨(Nat.le_of_ble_eq_true rfl), (Nat.le_of_ble_eq_true rfl)⟩ ⟨(Nat.le_of_ble_eq_true rfl), (Nat.le_of_ble_eq_true rfl)⟩ rfl rfl (by decide) dX6_lateLessonsOf_38 h (fun v10 hs h => WG_st (st' := [va_rf v10]) rfl ?_)
        refine q_castS C (nm := RX4) (T := TX4) (N := 18) rfl wc_X6_32 dX6_lateLessonsOf_41 h (fun h => ?_)
        refine q_callS C [va_rf v10] [] (fun o2 hs1 hm => m_X6_isLate hm) lk_X6_157 sm_X6_isLate ⟨(Nat.le_of_ble_eq_true rfl), (Nat.le_of_ble_eq_true rfl)⟩ ⟨(Nat.le_of_ble_eq_true rfl), (Nat.le_of_ble_eq_true rfl)⟩ rfl rfl (by decide) dX6_lateLessonsOf_44 h (fun v11 hs h => WG_st (st' := [.int v11]) rfl ?_)
        refine q_if_eq C 53 dX6_lateLessonsOf_47 (by decide) h (fun h => ?_) (fun h => ?_)
        · exact w_j_X6_lateLessonsOf_53 C C2 _ _ _ _ _ hrec_4 h
        · refine q_iinc C 2 (1 : Int32) (fun v12 => [(2, .int v12), (0, va_rf a0), (1, va_rf a1), (3, .int x3)]) dX6_lateLessonsOf_50 rfl (by decide) (by decide) (fun _ => rfl) h (fun v12 h => ?_)
          refine WG.sub [1, 2, 0, 3] rfl ?_
          exact w_j_X6_lateLessonsOf_53 C C2 _ _ _ _ _ hrec_4 h
end M_X6_lateLessonsOf
def f_X6_lateLessonsOf (a0 : Nat) (p1 : Option Nat) : OO Int32 :=
    lets (0 : Int32) fun (v1 : Int32) =>
    lets (0 : Int32) fun (v2 : Int32) =>
    L_X6_lateLessonsOf_4 (some a0) p1 (fun (v16 : Int32) => rtn v16) 100000 v1 v2
set_option maxRecDepth 100000 in
set_option maxHeartbeats 4000000 in
theorem m_X6_lateLessonsOf {G : GG} {l : Launch} {a0 : Nat} {p1 : Option Nat} {hs hs' : Hs} {o : Except Nat Int32} (h : f_X6_lateLessonsOf a0 p1 hs = some (o, hs')) : CT G l yX6_lateLessonsOf cX6_lateLessonsOf 4 (some .int) 3 64 0 0 [.ref a0, va_rf p1] hs o hs' tvI := by
  refine vx_ofW (cc := cX6_lateLessonsOf) (maxL := 4) (ret := (some .int)) (by decide +kernel) rfl ?_
  intro p e s m args below meth c s₁ B hml hxt hv
  obtain ⟨hav, hR, hKn⟩ := hv
  subst hav
  have hts := atoms_spec (ws := .code yX6_lateLessonsOf cX6_lateLessonsOf 4 (some .int) :: Tg) B.pre
  have C : Cx G l p s m _ c RX6 cX6_lateLessonsOf 4 := ⟨B.exec, B.bytes, hml, findClass_of_methodNamed B.named, fun w hw => hts w (List.mem_cons_of_mem _ hw), hKn, fun q hq => Nat.le_trans hR.2.2.1 hq⟩
  have C2 : Cy meth c (some .int) := ⟨B.returns, B.notSynchronized, hxt⟩
  have key : WG G p l e { frames := 3, cells := 0, slots := 0, locals := 64 } s m ([.ref a0, va_rf p1] : List Value).toArray below meth c 4 0 0 (vx_MQ below (QcT G o hs' tvI) (XCT G o hs') ([.ref a0, va_rf p1] : List Value).toArray s 0 0 (gA G)) hs [(0, va_rf (some a0)), (1, va_rf p1)] [] 0 := by
    unfold f_X6_lateLessonsOf at h
    refine q_iconst C (0 : Int32) dX6_lateLessonsOf_0 (by decide) ?_
    refine q_istore_n C (fun v1 => [(2, .int v1), (0, va_rf (some a0)), (1, va_rf p1)]) dX6_lateLessonsOf_1 (by decide) (fun _ => rfl) h (fun v1 h => ?_)
    refine q_iconst C (0 : Int32) dX6_lateLessonsOf_2 (by decide) ?_
    refine q_istore_n C (fun v2 => [(3, .int v2), (2, .int v1), (0, va_rf (some a0)), (1, va_rf p1)]) dX6_lateLessonsOf_3 (by decide) (fun _ => rfl) h (fun v2 h => ?_)
    refine WG.sub [2, 3, 1, 0] rfl ?_
    refine w_L_X6_lateLessonsOf_4 C C2 _ _ _ ?_ _ _ _ _ h
    · intro v16 hs h
      refine q_iload_n C 0 dX6_lateLessonsOf_59 rfl ?_
      exact q_iret C C2 rfl (Nat.le_of_ble_eq_true rfl) (Nat.le_of_ble_eq_true rfl) dX6_lateLessonsOf_60 h
  rw [lg_entry_eq]
  cases p1 <;> exact key _ _ _ hR va_S.rf ⟨lv_entry _ (n := 4) (Nat.le_of_ble_eq_true rfl), (c1_r (c1_r c1_n))⟩

theorem cd_X6_bookLateHours : Cond.code yX6_bookLateHours cX6_bookLateHours 3 none ∈ Tg := Tg_of (i := 1391) (by decide +kernel) (by decide +kernel)
theorem wf_X6_160 : Cond.fieldLink RX6 160 RX7 (TX7 2).2.1 (TX7 2).2.2.1 ∈ Tg := Tg_of (i := 795) (by decide +kernel) (by decide +kernel)
theorem fl_X6_160 : Fld RX6 160 10 2 .int := ⟨RX7, TX7, 3, RX7, rfl, by decide, wf_X6_160, (Or.inl rfl), gu_X7, tyX7_ok _ (by decide), ⟨tyX7, tyX7_ok⟩, nmX7⟩
theorem fw_X6_160 : FldW RX6 160 10 2 .int false := ⟨RX7, TX7, 3, RX7, rfl, by decide, wf_X6_160, (Or.inl rfl), gu_X7, tyX7_ok _ (by decide), ⟨tyX7, tyX7_ok⟩, nmX7, rfl, fun z => nomatch z⟩
theorem ml_X6_163 : Cond.methodLink RX6 163 yX6_lateLessonsOf ∈ Tg := Tg_of (i := 1392) (by decide +kernel) (by decide +kernel)
theorem lk_X6_163 : Lk RX6 163 yX6_lateLessonsOf cX6_lateLessonsOf 4 (some .int) 1 := ⟨ml_X6_163, cd_X6_lateLessonsOf, iw_X6, by decide +kernel⟩
theorem im_X6_lateLessonsOf : Cond.instanceMethod yX6_lateLessonsOf ∈ Tg := Tg_of (i := 1394) (by decide +kernel) (by decide +kernel)
theorem se_X6_X6_lateLessonsOf : Cond.selects RX6 yX6_lateLessonsOf yX6_lateLessonsOf ∈ Tg := Tg_of (i := 34) (by decide +kernel) (by decide +kernel)
section M_X6_bookLateHours
variable {p : Program} {l : Launch} {e : Env} {s : State} {m : MethodId} {args : Array Value} {below : List Frame} {meth : Method} {c : Code} {G : GG} {o : Except Nat Unit} {hs' : Hs}
def j_X6_bookLateHours_74 (a0 : Option Nat) (a1 : Int32)  (rec_2 : Int32 → OO Unit) : OO Unit :=
  lets (a1 + (1 : Int32)) fun (v8 : Int32) =>
    rec_2 v8
set_option maxRecDepth 100000 in
set_option maxHeartbeats 4000000 in
theorem w_j_X6_bookLateHours_74 (C : Cx G l p s m args c RX6 cX6_bookLateHours 3) (C2 : Cy meth c none) {hs : Hs} (a0 : Option Nat) (a1 : Int32)  (rec_2 : Int32 → OO Unit) (hrec_2 : ∀ (y1 : Int32) hs, rec_2 y1 hs = some (o, hs') → WG G p l e { frames := 4, cells := 0, slots := 0, locals := 87 } s m args below meth c 3 0 0 (vx_MQ below (QcT G o hs' tvV) (XCT G o hs') args s 0 0 (gA G)) hs [(0, va_rf a0), (1, .int y1)] [] 2) (h : j_X6_bookLateHours_74 a0 a1 rec_2 hs = some (o, hs')) : WG G p l e { frames := 4, cells := 0, slots := 0, locals := 87 } s m args below meth c 3 0 0 (vx_MQ below (QcT G o hs' tvV) (XCT G o hs') args s 0 0 (gA G)) hs [(0, va_rf a0), (1, .int a1)] [] 74 := by
  unfold j_X6_bookLateHours_74 at h
  refine q_iinc C 1 (1 : Int32) (fun v8 => [(1, .int v8), (0, va_rf a0)]) dX6_bookLateHours_74 rfl (by decide) (by decide) (fun _ => rfl) h (fun v8 h => ?_)
  refine q_goto C 2 dX6_bookLateHours_77 (by decide) ?_
  refine WG.sub [1, 0] rfl ?_
  exact hrec_2 _ _ h
def L_X6_bookLateHours_2 (a0 : Option Nat) (k_2_80 : OO Unit) : Nat → Int32 → OO Unit
  | 0, _ => failO
  | n + 1, x1 =>
    gR a0 9 2 fun v2 =>
    rcv v2 2 fun r19 => call (f_Jx4a65c_size_8abf5 r19 ) (fun (v3 : Int32) =>
    (if v3 ≤ x1 then
    k_2_80
    else
    gR a0 9 2 fun v4 =>
    rcv v4 2 fun r18 => call (f_Jx4a65c_get_915e3 r18 x1) (fun (v5 : Option Nat) =>
    cst v5 7 (
    lets v5 fun (v6 : Option Nat) =>
    call (f_X6_isLate v6) (fun (v7 : Int32) =>
    (if v7 = 0 then
    j_X6_bookLateHours_74 a0 x1 (L_X6_bookLateHours_2 a0 k_2_80 n)
    else
    gR v6 7 2 fun v9 =>
    gI v9 10 2 fun v10 =>
    (if (9 : Int32) ≤ v10 then
    j_X6_bookLateHours_74 a0 x1 (L_X6_bookLateHours_2 a0 k_2_80 n)
    else
    gR v6 7 2 fun v11 =>
    gI v11 10 2 fun v12 =>
    pI v11 10 2 (v12 + (1 : Int32)) (
    gR a0 9 4 fun v13 =>
    ldI 0 v13 (1 : Int32) fun v14 =>
    gR v6 7 2 fun v15 =>
    rcv a0 9 fun r17 => call (f_X6_lateLessonsOf r17 v15) (fun (v16 : Int32) =>
    stI v13 (1 : Int32) (v14 + v16) (
    j_X6_bookLateHours_74 a0 x1 (L_X6_bookLateHours_2 a0 k_2_80 n))) nox)))) nox)) nox)) nox
set_option maxRecDepth 100000 in
set_option maxHeartbeats 4000000 in
theorem w_L_X6_bookLateHours_2 (C : Cx G l p s m args c RX6 cX6_bookLateHours 3) (C2 : Cy meth c none) (a0 : Option Nat) (k_2_80 : OO Unit) (hk_2_80 : ∀ hs, k_2_80  hs = some (o, hs') → WG G p l e { frames := 4, cells := 0, slots := 0, locals := 87 } s m args below meth c 3 0 0 (vx_MQ below (QcT G o hs' tvV) (XCT G o hs') args s 0 0 (gA G)) hs [] [] 80) : ∀ (n : Nat) (x1 : Int32) (hs : Hs), L_X6_bookLateHours_2 a0 k_2_80 n x1 hs = some (o, hs') → WG G p l e { frames := 4, cells := 0, slots := 0, locals := 87 } s m args below meth c 3 0 0 (vx_MQ below (QcT G o hs' tvV) (XCT G o hs') args s 0 0 (gA G)) hs [(0, va_rf a0), (1, .int x1)] [] 2 := by
  intro n
  induction n with
  | zero =>
    intro x1 hs h
    rw [L_X6_bookLateHours_2] at h
    exact absurd h failO_e
  | succ n hrec_2 =>
    intro x1 hs h
    rw [L_X6_bookLateHours_2] at h
    refine q_iload_n C 1 dX6_bookLateHours_2 rfl ?_
    refine q_aload_n C 0 dX6_bookLateHours_3 rfl ?_
    refine q_gR C fl_X6_21 dX6_bookLateHours_4 h (fun v2 h => ?_)
    refine q_callV C (CN := RJx4a65c) (T := TJx4a65c) (N := 3) [] [.int x1] (fun a0 o2 hs1 hm => m_Jx4a65c_size_8abf5 hm) lk_X6_52 im_Jx4a65c_size_8abf5 se_Jx4a65c_Jx4a65c_size_8abf5 rfl ⟨(Nat.le_of_ble_eq_true rfl), (Nat.le_of_ble_eq_true rfl)⟩ ⟨(Nat.le_of_ble_eq_true rfl), (Nat.le_of_ble_eq_true rfl)⟩ rfl rfl (by simp only [List.map, cat_rf, cat_i, cat_a]; decide) dX6_bookLateHours_7 h (fun v3 hs h => WG_st (st' := [.int v3, .int x1]) rfl ?_)
    refine q_icmp_ge C 80 dX6_bookLateHours_10 (by decide) h (fun h => ?_) (fun h => ?_)
    · refine WG.sub [] rfl ?_
      exact hk_2_80 _ h
    · refine q_aload_n C 0 dX6_bookLateHours_13 rfl ?_
      refine q_gR C fl_X6_21 dX6_bookLateHours_14 h (fun v4 h => ?_)
      refine q_iload_n C 1 dX6_bookLateHours_17 rfl ?_
      refine q_callV C (CN := RJx4a65c) (T := TJx4a65c) (N := 3) [.int x1] [] (fun a0 o2 hs1 hm => m_Jx4a65c_get_915e3 hm) lk_X6_56 im_Jx4a65c_get_915e3 se_Jx4a65c_Jx4a65c_get_915e3 rfl ⟨(Nat.le_of_ble_eq_true rfl), (Nat.le_of_ble_eq_true rfl)⟩ ⟨(Nat.le_of_ble_eq_true rfl), (Nat.le_of_ble_eq_true rfl)⟩ rfl rfl (by decide) dX6_bookLateHours_18 h (fun v5 hs h => WG_st (st' := [va_rf v5]) rfl ?_)
      refine q_castS C (nm := RX4) (T := TX4) (N := 18) rfl wc_X6_32 dX6_bookLateHours_21 h (fun h => ?_)
      refine q_astore_n C (fun v6 => [(2, va_rf v6), (0, va_rf a0), (1, .int x1)]) dX6_bookLateHours_24 (by decide) (fun _ => rfl) h (fun v6 h => ?_)
      refine q_aload_n C 0 dX6_bookLateHours_25 rfl ?_
      refine q_callS C [va_rf v6] [] (fun o2 hs1 hm => m_X6_isLate hm) lk_X6_157 sm_X6_isLate ⟨(Nat.le_of_ble_eq_true rfl), (Nat.le_of_ble_eq_true rfl)⟩ ⟨(Nat.le_of_ble_eq_true rfl), (Nat.le_of_ble_eq_true rfl)⟩ rfl rfl (by decide) dX6_bookLateHours_26 h (fun v7 hs h => WG_st (st' := [.int v7]) rfl ?_)
      refine q_if_eq C 74 dX6_bookLateHours_29 (by decide) h (fun h => ?_) (fun h => ?_)
      · refine WG.sub [1, 2] rfl ?_
        exact w_j_X6_bookLateHours_74 C C2 _ _ _ hrec_2 h
      · refine q_aload_n C 0 dX6_bookLateHours_32 rfl ?_
        refine q_gR C fl_X6_150 dX6_bookLateHours_33 h (fun v9 h => ?_)
        refine q_gI C fl_X6_160 dX6_bookLateHours_36 h (fun v10 h => ?_)
        refine q_bipush C (9 : Int32) dX6_bookLateHours_39 (by decide) ?_
        refine q_icmp_ge C 74 dX6_bookLateHours_41 (by decide) h (fun h => ?_) (fun h => ?_)
        · refine WG.sub [1, 2] rfl ?_
          exact w_j_X6_bookLateHours_74 C C2 _ _ _ hrec_2 h
        · refine q_aload_n C 0 dX6_bookLateHours_44 rfl ?_
          refine q_gR C fl_X6_150 dX6_bookLateHours_45 h (fun v11 h => ?_)
          refine q_dup C (cat_rf _) dX6_bookLateHours_48 ?_
          refine q_gI C fl_X6_160 dX6_bookLateHours_49 h (fun v12 h => ?_)
          refine q_iconst C (1 : Int32) dX6_bookLateHours_52 (by decide) ?_
          refine q_iadd C dX6_bookLateHours_53 ?_
          refine q_pI C fw_X6_160 (fun z => nomatch z) dX6_bookLateHours_54 h (fun hs h => ?_)
          refine q_aload_n C 1 dX6_bookLateHours_57 rfl ?_
          refine q_gR C fl_X6_28 dX6_bookLateHours_58 h (fun v13 h => ?_)
          refine q_iconst C (1 : Int32) dX6_bookLateHours_61 (by decide) ?_
          refine q_dup2 C rfl (cat_rf _) dX6_bookLateHours_62 ?_
          refine q_iald C dX6_bookLateHours_63 h (fun v14 h => ?_)
          refine q_aload_n C 1 dX6_bookLateHours_64 rfl ?_
          refine q_aload_n C 0 dX6_bookLateHours_65 rfl ?_
          refine q_gR C fl_X6_150 dX6_bookLateHours_66 h (fun v15 h => ?_)
          refine q_callV C (CN := RX6) (T := TX6) (N := 6) [va_rf v15] [.int v14, .int (1 : Int32), va_rf v13] (fun a0 o2 hs1 hm => m_X6_lateLessonsOf hm) lk_X6_163 im_X6_lateLessonsOf se_X6_X6_lateLessonsOf rfl ⟨(Nat.le_of_ble_eq_true rfl), (Nat.le_of_ble_eq_true rfl)⟩ ⟨(Nat.le_of_ble_eq_true rfl), (Nat.le_of_ble_eq_true rfl)⟩ rfl rfl (by simp only [List.map, cat_rf, cat_i, cat_a]; decide) dX6_bookLateHours_69 h (fun v16 hs h => WG_st (st' := [.int v16, .int v14, .int (1 : Int32), va_rf v13]) rfl ?_)
          refine q_iadd C dX6_bookLateHours_72 ?_
          refine q_iast C dX6_bookLateHours_73 h (fun hs h => ?_)
          refine WG.sub [1, 2] rfl ?_
          exact w_j_X6_bookLateHours_74 C C2 _ _ _ hrec_2 h
end M_X6_bookLateHours
def f_X6_bookLateHours (a0 : Nat) : OO Unit :=
    lets (0 : Int32) fun (v1 : Int32) =>
    L_X6_bookLateHours_2 (some a0) (rtn ()) 100000 v1
set_option maxRecDepth 100000 in
set_option maxHeartbeats 4000000 in
theorem m_X6_bookLateHours {G : GG} {l : Launch} {a0 : Nat} {hs hs' : Hs} {o : Except Nat Unit} (h : f_X6_bookLateHours a0 hs = some (o, hs')) : CT G l yX6_bookLateHours cX6_bookLateHours 3 none 4 87 0 0 [.ref a0] hs o hs' tvV := by
  refine vx_ofW (cc := cX6_bookLateHours) (maxL := 3) (ret := none) (by decide +kernel) rfl ?_
  intro p e s m args below meth c s₁ B hml hxt hv
  obtain ⟨hav, hR, hKn⟩ := hv
  subst hav
  have hts := atoms_spec (ws := .code yX6_bookLateHours cX6_bookLateHours 3 none :: Tg) B.pre
  have C : Cx G l p s m _ c RX6 cX6_bookLateHours 3 := ⟨B.exec, B.bytes, hml, findClass_of_methodNamed B.named, fun w hw => hts w (List.mem_cons_of_mem _ hw), hKn, fun q hq => Nat.le_trans hR.2.2.1 hq⟩
  have C2 : Cy meth c none := ⟨B.returns, B.notSynchronized, hxt⟩
  have key : WG G p l e { frames := 4, cells := 0, slots := 0, locals := 87 } s m ([.ref a0] : List Value).toArray below meth c 3 0 0 (vx_MQ below (QcT G o hs' tvV) (XCT G o hs') ([.ref a0] : List Value).toArray s 0 0 (gA G)) hs [(0, va_rf (some a0))] [] 0 := by
    unfold f_X6_bookLateHours at h
    refine q_iconst C (0 : Int32) dX6_bookLateHours_0 (by decide) ?_
    refine q_istore_n C (fun v1 => [(1, .int v1), (0, va_rf (some a0))]) dX6_bookLateHours_1 (by decide) (fun _ => rfl) h (fun v1 h => ?_)
    refine WG.sub [1, 0] rfl ?_
    refine w_L_X6_bookLateHours_2 C C2 _ _ ?_ _ _ _ h
    · intro  hs h
      exact q_vret C C2 rfl (Nat.le_of_ble_eq_true rfl) (Nat.le_of_ble_eq_true rfl) dX6_bookLateHours_80 h
  rw [lg_entry_eq]
  exact key _ _ _ hR va_S.rf ⟨lv_entry _ (n := 3) (Nat.le_of_ble_eq_true rfl), (c1_r c1_n)⟩

theorem cd_X6_findPossible : Cond.code yX6_findPossible cX6_findPossible 5 (some .int) ∈ Tg := Tg_of (i := 1210) (by decide +kernel) (by decide +kernel)
section M_X6_findPossible
variable {p : Program} {l : Launch} {e : Env} {s : State} {m : MethodId} {args : Array Value} {below : List Frame} {meth : Method} {c : Code} {G : GG} {o : Except Nat Int32} {hs' : Hs}
def j_X6_findPossible_37 (a1 : Option Nat) (a3 : Int32) (a4 : Int32)  (rec_10 : Int32 → Int32 → OO Int32) : OO Int32 :=
  lets (a4 + (1 : Int32)) fun (v5 : Int32) =>
    rec_10 a3 v5
set_option maxRecDepth 100000 in
set_option maxHeartbeats 4000000 in
theorem w_j_X6_findPossible_37 (C : Cx G l p s m args c RX6 cX6_findPossible 5) (C2 : Cy meth c (some .int)) {hs : Hs} (a1 : Option Nat) (a3 : Int32) (a4 : Int32)  (rec_10 : Int32 → Int32 → OO Int32) (hrec_10 : ∀ (y3 : Int32) (y4 : Int32) hs, rec_10 y3 y4 hs = some (o, hs') → WG G p l e { frames := 10, cells := 0, slots := 0, locals := 384 } s m args below meth c 5 0 0 (vx_MQ below (QcT G o hs' tvI) (XCT G o hs') args s 0 0 (gA G)) hs [(1, va_rf a1), (3, .int y3), (4, .int y4)] [] 10) (h : j_X6_findPossible_37 a1 a3 a4 rec_10 hs = some (o, hs')) : WG G p l e { frames := 10, cells := 0, slots := 0, locals := 384 } s m args below meth c 5 0 0 (vx_MQ below (QcT G o hs' tvI) (XCT G o hs') args s 0 0 (gA G)) hs [(1, va_rf a1), (3, .int a3), (4, .int a4)] [] 37 := by
  unfold j_X6_findPossible_37 at h
  refine q_iinc C 2 (1 : Int32) (fun v5 => [(4, .int v5), (1, va_rf a1), (3, .int a3)]) dX6_findPossible_37 rfl (by decide) (by decide) (fun _ => rfl) h (fun v5 h => ?_)
  refine q_goto C 10 dX6_findPossible_40 (by decide) ?_
  refine WG.sub [1, 2, 0] rfl ?_
  exact hrec_10 _ _ _ h
def L_X6_findPossible_10 (a1 : Option Nat) (k_10_31 : Int32 → OO Int32) (k_10_43 : OO Int32) : Nat → Int32 → Int32 → OO Int32
  | 0, _, _ => failO
  | n + 1, x3, x4 =>
    (if (240 : Int32) ≤ x4 then
    k_10_43
    else
    rcv a1 7 fun r7 => call (f_X4_isPossible r7 x4) (fun (v4 : Int32) =>
    (if v4 = 0 then
    j_X6_findPossible_37 a1 x3 x4 (L_X6_findPossible_10 a1 k_10_31 k_10_43 n)
    else
    (if ¬ x3 = 0 then
    lets (x3 + (-1 : Int32)) fun (v6 : Int32) =>
    j_X6_findPossible_37 a1 v6 x4 (L_X6_findPossible_10 a1 k_10_31 k_10_43 n)
    else
    k_10_31 x4))) nox)
set_option maxRecDepth 100000 in
set_option maxHeartbeats 4000000 in
theorem w_L_X6_findPossible_10 (C : Cx G l p s m args c RX6 cX6_findPossible 5) (C2 : Cy meth c (some .int)) (a1 : Option Nat) (k_10_31 : Int32 → OO Int32) (k_10_43 : OO Int32) (hk_10_31 : ∀ (y4 : Int32) hs, k_10_31 y4 hs = some (o, hs') → WG G p l e { frames := 10, cells := 0, slots := 0, locals := 384 } s m args below meth c 5 0 0 (vx_MQ below (QcT G o hs' tvI) (XCT G o hs') args s 0 0 (gA G)) hs [(4, .int y4)] [] 31) (hk_10_43 : ∀ hs, k_10_43  hs = some (o, hs') → WG G p l e { frames := 10, cells := 0, slots := 0, locals := 384 } s m args below meth c 5 0 0 (vx_MQ below (QcT G o hs' tvI) (XCT G o hs') args s 0 0 (gA G)) hs [] [] 43) : ∀ (n : Nat) (x3 : Int32) (x4 : Int32) (hs : Hs), L_X6_findPossible_10 a1 k_10_31 k_10_43 n x3 x4 hs = some (o, hs') → WG G p l e { frames := 10, cells := 0, slots := 0, locals := 384 } s m args below meth c 5 0 0 (vx_MQ below (QcT G o hs' tvI) (XCT G o hs') args s 0 0 (gA G)) hs [(1, va_rf a1), (3, .int x3), (4, .int x4)] [] 10 := by
  intro n
  induction n with
  | zero =>
    intro x3 x4 hs h
    rw [L_X6_findPossible_10] at h
    exact absurd h failO_e
  | succ n hrec_10 =>
    intro x3 x4 hs h
    rw [L_X6_findPossible_10] at h
    refine q_iload C 2 dX6_findPossible_10 rfl ?_
    refine q_sipush C (240 : Int32) dX6_findPossible_12 (by decide) ?_
    refine q_icmp_ge C 43 dX6_findPossible_15 (by decide) h (fun h => ?_) (fun h => ?_)
    · refine WG.sub [] rfl ?_
      exact hk_10_43 _ h
    · refine q_aload_n C 0 dX6_findPossible_18 rfl ?_
      refine q_iload C 2 dX6_findPossible_19 rfl ?_
      refine q_callV C (CN := RX4) (T := TX4) (N := 18) [.int x4] [] (fun a0 o2 hs1 hm => m_X4_isPossible hm) lk_X6_141 im_X4_isPossible se_X4_X4_isPossible rfl ⟨(Nat.le_of_ble_eq_true rfl), (Nat.le_of_ble_eq_true rfl)⟩ ⟨(Nat.le_of_ble_eq_true rfl), (Nat.le_of_ble_eq_true rfl)⟩ rfl rfl (by decide) dX6_findPossible_21 h (fun v4 hs h => WG_st (st' := [.int v4]) rfl ?_)
      refine q_if_eq C 37 dX6_findPossible_24 (by decide) h (fun h => ?_) (fun h => ?_)
      · exact w_j_X6_findPossible_37 C C2 _ _ _ _ hrec_10 h
      · refine q_iload_n C 1 dX6_findPossible_27 rfl ?_
        refine q_if_ne C 34 dX6_findPossible_28 (by decide) h (fun h => ?_) (fun h => ?_)
        · refine q_iinc C 1 (-1 : Int32) (fun v6 => [(3, .int v6), (1, va_rf a1), (4, .int x4)]) dX6_findPossible_34 rfl (by decide) (by decide) (fun _ => rfl) h (fun v6 h => ?_)
          refine WG.sub [1, 0, 2] rfl ?_
          exact w_j_X6_findPossible_37 C C2 _ _ _ _ hrec_10 h
        · refine WG.sub [2] rfl ?_
          exact hk_10_31 _ _ h
end M_X6_findPossible
def f_X6_findPossible (a0 : Nat) (p1 : Option Nat) (p2 : Int32) : OO Int32 :=
    rcv (some a0) 9 fun r9 => call (f_X6_judgePlaces r9 p1) (fun (v1 : Unit) =>
    lets p2 fun (v2 : Int32) =>
    lets (0 : Int32) fun (v3 : Int32) =>
    L_X6_findPossible_10 p1 (fun (v8 : Int32) => rtn v8) (rtn (-1 : Int32)) 100000 v2 v3) nox
set_option maxRecDepth 100000 in
set_option maxHeartbeats 4000000 in
theorem m_X6_findPossible {G : GG} {l : Launch} {a0 : Nat} {p1 : Option Nat} {p2 : Int32} {hs hs' : Hs} {o : Except Nat Int32} (h : f_X6_findPossible a0 p1 p2 hs = some (o, hs')) : CT G l yX6_findPossible cX6_findPossible 5 (some .int) 10 384 0 0 [.ref a0, va_rf p1, .int p2] hs o hs' tvI := by
  refine vx_ofW (cc := cX6_findPossible) (maxL := 5) (ret := (some .int)) (by decide +kernel) rfl ?_
  intro p e s m args below meth c s₁ B hml hxt hv
  obtain ⟨hav, hR, hKn⟩ := hv
  subst hav
  have hts := atoms_spec (ws := .code yX6_findPossible cX6_findPossible 5 (some .int) :: Tg) B.pre
  have C : Cx G l p s m _ c RX6 cX6_findPossible 5 := ⟨B.exec, B.bytes, hml, findClass_of_methodNamed B.named, fun w hw => hts w (List.mem_cons_of_mem _ hw), hKn, fun q hq => Nat.le_trans hR.2.2.1 hq⟩
  have C2 : Cy meth c (some .int) := ⟨B.returns, B.notSynchronized, hxt⟩
  have key : WG G p l e { frames := 10, cells := 0, slots := 0, locals := 384 } s m ([.ref a0, va_rf p1, .int p2] : List Value).toArray below meth c 5 0 0 (vx_MQ below (QcT G o hs' tvI) (XCT G o hs') ([.ref a0, va_rf p1, .int p2] : List Value).toArray s 0 0 (gA G)) hs [(0, va_rf (some a0)), (1, va_rf p1), (2, .int p2)] [] 0 := by
    unfold f_X6_findPossible at h
    refine q_aload_n C 0 dX6_findPossible_0 rfl ?_
    refine q_aload_n C 1 dX6_findPossible_1 rfl ?_
    refine q_callV C (CN := RX6) (T := TX6) (N := 6) [va_rf p1] [] (fun a0 o2 hs1 hm => m_X6_judgePlaces hm) lk_X6_138 im_X6_judgePlaces se_X6_X6_judgePlaces rfl ⟨(Nat.le_of_ble_eq_true rfl), (Nat.le_of_ble_eq_true rfl)⟩ ⟨(Nat.le_of_ble_eq_true rfl), (Nat.le_of_ble_eq_true rfl)⟩ rfl rfl (by decide) dX6_findPossible_2 h (fun v1 hs h => WG_st (st' := []) rfl ?_)
    refine q_iload_n C 2 dX6_findPossible_5 rfl ?_
    refine q_istore_n C (fun v2 => [(3, .int v2), (0, va_rf (some a0)), (1, va_rf p1), (2, .int p2)]) dX6_findPossible_6 (by decide) (fun _ => rfl) h (fun v2 h => ?_)
    refine q_iconst C (0 : Int32) dX6_findPossible_7 (by decide) ?_
    refine q_istore C (fun v3 => [(4, .int v3), (3, .int v2), (0, va_rf (some a0)), (1, va_rf p1), (2, .int p2)]) dX6_findPossible_8 (by decide) (fun _ => rfl) h (fun v3 h => ?_)
    refine WG.sub [3, 1, 0] rfl ?_
    refine w_L_X6_findPossible_10 C C2 _ _ _ ?_ ?_ _ _ _ _ h
    · intro v8 hs h
      refine q_iload C 0 dX6_findPossible_31 rfl ?_
      exact q_iret C C2 rfl (Nat.le_of_ble_eq_true rfl) (Nat.le_of_ble_eq_true rfl) dX6_findPossible_33 h
    · intro  hs h
      refine q_iconst C (-1 : Int32) dX6_findPossible_43 (by decide) ?_
      exact q_iret C C2 rfl (Nat.le_of_ble_eq_true rfl) (Nat.le_of_ble_eq_true rfl) dX6_findPossible_44 h
  rw [lg_entry_eq]
  cases p1 <;> exact key _ _ _ hR va_S.rf ⟨lv_entry _ (n := 5) (Nat.le_of_ble_eq_true rfl), (c1_r (c1_r (c1_i c1_n)))⟩

