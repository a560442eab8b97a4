theorem cd_X0_init : Cond.code yX0_init cX0_init 1 none ∈ Tg := Tg_of (i := 214) (by decide +kernel) (by decide +kernel)
theorem ac_0 : Cond.arrayClass .int ∈ Tg := Tg_of (i := 186) (by decide +kernel) (by decide +kernel)
theorem wf_X0_9 : Cond.fieldLink RX0 9 RX0 (TX0 0).2.1 (TX0 0).2.2.1 ∈ Tg := Tg_of (i := 216) (by decide +kernel) (by decide +kernel)
set_option maxRecDepth 100000 in
theorem gu_X0 : ∀ w ∈ u_ws RX0 TX0 1, w ∈ Tg := by decide +kernel
theorem fw_X0_9 : FldW RX0 9 3 0 (.array .int) true := ⟨RX0, TX0, 1, RX0, rfl, by decide, wf_X0_9, (Or.inl rfl), gu_X0, tyX0_ok _ (by decide), ⟨tyX0, tyX0_ok⟩, nmX0, rfl, fun _ => rfl⟩
theorem mo_X0_3 : Cond.methodLink RX0 3 Lib.objectInit ∈ Tg := Tg_of (i := 215) (by decide +kernel) (by decide +kernel)
theorem im_objInit : Cond.instanceMethod Lib.objectInit ∈ Tg := Tg_of (i := 119) (by decide +kernel) (by decide +kernel)
theorem cd_objInit : Cond.code Lib.objectInit ⟨#[0xb1]⟩ 1 none ∈ Tg := Tg_of (i := 120) (by decide +kernel) (by decide +kernel)
section M_X0_init
variable {p : Program} {l : Launch} {e : Env} {s : State} {m : MethodId} {args : Array Value} {below : List Frame} {meth : Method} {c : Code} {G : GG} {o : Except Nat Unit} {hs' : Hs}
end M_X0_init
def f_X0_init (a0 : Nat) : OO Unit :=
    nwI 0 (8 : Int32) 8 fun q1 =>
    pR (some a0) 3 0 (some q1) (
    rtn ())
set_option maxRecDepth 100000 in
set_option maxHeartbeats 4000000 in
theorem m_X0_init {G : GG} {l : Launch} {a0 : Nat} {hs hs' : Hs} {o : Except Nat Unit} (h : f_X0_init a0 hs = some (o, hs')) : CT G l yX0_init cX0_init 1 none 1 20 1 8 [.ref a0] hs o hs' tvV := by
  refine vx_ofW (cc := cX0_init) (maxL := 1) (ret := none) (by decide +kernel) rfl ?_
  intro p e s m args below meth c s₁ B hml hxt hv
  obtain ⟨hav, hR, hKn⟩ := hv
  subst hav
  have hts := atoms_spec (ws := .code yX0_init cX0_init 1 none :: Tg) B.pre
  have C : Cx G l p s m _ c RX0 cX0_init 1 := ⟨B.exec, B.bytes, hml, findClass_of_methodNamed B.named, fun w hw => hts w (List.mem_cons_of_mem _ hw), hKn, fun q hq => Nat.le_trans hR.2.2.1 hq⟩
  have C2 : Cy meth c none := ⟨B.returns, B.notSynchronized, hxt⟩
  have hin : meth.name = "<init>" := (name_of_methodNamed B.named B.method).1
  have key : WG G p l e { frames := 1, cells := 1, slots := 8, locals := 20 } s m ([.ref a0] : List Value).toArray below meth c 1 0 0 (vx_MQ below (QcT G o hs' tvV) (XCT G o hs') ([.ref a0] : List Value).toArray s 1 8 (gA G)) hs [(0, va_rf (some a0))] [] 0 := by
    unfold f_X0_init at h
    refine q_aload_n C 0 dX0_init_0 rfl ?_
    refine q_objInit C rfl mo_X0_3 im_objInit cd_objInit (Nat.le_of_ble_eq_true rfl) (Nat.le_of_ble_eq_true rfl) (by decide) dX0_init_1 ?_
    refine q_aload_n C 0 dX0_init_4 rfl ?_
    refine q_bipush C (8 : Int32) dX0_init_5 (by decide) ?_
    refine q_newI C 8 (Nat.le_of_ble_eq_true rfl) ac_0 (Nat.le_of_ble_eq_true rfl) (Nat.le_of_ble_eq_true rfl) dX0_init_7 h (fun q1 hs h => ?_)
    refine q_pR C fw_X0_9 (fun _ => hin) rfl dX0_init_9 h (fun hs h => ?_)
    exact q_vret C C2 rfl (Nat.le_of_ble_eq_true rfl) (Nat.le_of_ble_eq_true rfl) dX0_init_12 h
  rw [lg_entry_eq]
  exact key _ _ _ hR va_S.rf ⟨lv_entry _ (n := 1) (Nat.le_of_ble_eq_true rfl), (c1_r c1_n)⟩

theorem cd_J7_fill_53178 : Cond.code yJ7_fill_53178 cJ7_fill_53178 4 none ∈ Tg := Tg_of (i := 309) (by decide +kernel) (by decide +kernel)
section M_J7_fill_53178
variable {p : Program} {l : Launch} {e : Env} {s : State} {m : MethodId} {args : Array Value} {below : List Frame} {meth : Method} {c : Code} {G : GG} {o : Except Nat Unit} {hs' : Hs}
def L_J7_fill_53178_5 (a0 : Option Nat) (a1 : Int32) (a3 : Int32) (k_5_20 : OO Unit) : Nat → Int32 → OO Unit
  | 0, _ => failO
  | n + 1, x2 =>
    (if a3 ≤ x2 then
    k_5_20
    else
    stI a0 x2 a1 (
    lets (x2 + (1 : Int32)) fun (v4 : Int32) =>
    (L_J7_fill_53178_5 a0 a1 a3 k_5_20 n) v4))
set_option maxRecDepth 100000 in
set_option maxHeartbeats 4000000 in
theorem w_L_J7_fill_53178_5 (C : Cx G l p s m args c RJ7 cJ7_fill_53178 4) (C2 : Cy meth c none) (a0 : Option Nat) (a1 : Int32) (a3 : Int32) (k_5_20 : OO Unit) (hk_5_20 : ∀ hs, k_5_20  hs = some (o, hs') → WG G p l e { frames := 0, cells := 0, slots := 0, locals := 0 } s m args below meth c 4 0 0 (vx_MQ below (QcT G o hs' tvV) (XCT G o hs') args s 0 0 (gA G)) hs [] [] 20) : ∀ (n : Nat) (x2 : Int32) (hs : Hs), L_J7_fill_53178_5 a0 a1 a3 k_5_20 n x2 hs = some (o, hs') → WG G p l e { frames := 0, cells := 0, slots := 0, locals := 0 } s m args below meth c 4 0 0 (vx_MQ below (QcT G o hs' tvV) (XCT G o hs') args s 0 0 (gA G)) hs [(0, va_rf a0), (1, .int a1), (2, .int x2), (3, .int a3)] [] 5 := by
  intro n
  induction n with
  | zero =>
    intro x2 hs h
    rw [L_J7_fill_53178_5] at h
    exact absurd h failO_e
  | succ n hrec_5 =>
    intro x2 hs h
    rw [L_J7_fill_53178_5] at h
    refine q_iload_n C 2 dJ7_fill_53178_5 rfl ?_
    refine q_iload_n C 3 dJ7_fill_53178_6 rfl ?_
    refine q_icmp_ge C 20 dJ7_fill_53178_7 (by decide) h (fun h => ?_) (fun h => ?_)
    · refine WG.sub [] rfl ?_
      exact hk_5_20 _ h
    · refine q_aload_n C 0 dJ7_fill_53178_10 rfl ?_
      refine q_iload_n C 2 dJ7_fill_53178_11 rfl ?_
      refine q_iload_n C 1 dJ7_fill_53178_12 rfl ?_
      refine q_iast C dJ7_fill_53178_13 h (fun hs h => ?_)
      refine q_iinc C 2 (1 : Int32) (fun v4 => [(2, .int v4), (0, va_rf a0), (1, .int a1), (3, .int a3)]) dJ7_fill_53178_14 rfl (by decide) (by decide) (fun _ => rfl) h (fun v4 h => ?_)
      refine q_goto C 5 dJ7_fill_53178_17 (by decide) ?_
      refine WG.sub [1, 2, 0, 3] rfl ?_
      exact hrec_5 _ _ h
end M_J7_fill_53178
def f_J7_fill_53178 (p0 : Option Nat) (p1 : Int32) : OO Unit :=
    lets (0 : Int32) fun (v1 : Int32) =>
    alen p0 fun v2 =>
    lets v2 fun (v3 : Int32) =>
    L_J7_fill_53178_5 p0 p1 v3 (rtn ()) 100000 v1
set_option maxRecDepth 100000 in
set_option maxHeartbeats 4000000 in
theorem m_J7_fill_53178 {G : GG} {l : Launch} {p0 : Option Nat} {p1 : Int32} {hs hs' : Hs} {o : Except Nat Unit} (h : f_J7_fill_53178 p0 p1 hs = some (o, hs')) : CT G l yJ7_fill_53178 cJ7_fill_53178 4 none 0 0 0 0 [va_rf p0, .int p1] hs o hs' tvV := by
  refine vx_ofW (cc := cJ7_fill_53178) (maxL := 4) (ret := none) (by decide +kernel) rfl ?_
  intro p e s m args below meth c s₁ B hml hxt hv
  obtain ⟨hav, hR, hKn⟩ := hv
  subst hav
  have hts := atoms_spec (ws := .code yJ7_fill_53178 cJ7_fill_53178 4 none :: Tg) B.pre
  have C : Cx G l p s m _ c RJ7 cJ7_fill_53178 4 := ⟨B.exec, B.bytes, hml, findClass_of_methodNamed B.named, fun w hw => hts w (List.mem_cons_of_mem _ hw), hKn, fun q hq => Nat.le_trans hR.2.2.1 hq⟩
  have C2 : Cy meth c none := ⟨B.returns, B.notSynchronized, hxt⟩
  have key : WG G p l e { frames := 0, cells := 0, slots := 0, locals := 0 } s m ([va_rf p0, .int p1] : List Value).toArray below meth c 4 0 0 (vx_MQ below (QcT G o hs' tvV) (XCT G o hs') ([va_rf p0, .int p1] : List Value).toArray s 0 0 (gA G)) hs [(0, va_rf p0), (1, .int p1)] [] 0 := by
    unfold f_J7_fill_53178 at h
    refine q_iconst C (0 : Int32) dJ7_fill_53178_0 (by decide) ?_
    refine q_istore_n C (fun v1 => [(2, .int v1), (0, va_rf p0), (1, .int p1)]) dJ7_fill_53178_1 (by decide) (fun _ => rfl) h (fun v1 h => ?_)
    refine q_aload_n C 1 dJ7_fill_53178_2 rfl ?_
    refine q_alen C dJ7_fill_53178_3 h (fun v2 h => ?_)
    refine q_istore_n C (fun v3 => [(3, .int v3), (2, .int v1), (0, va_rf p0), (1, .int p1)]) dJ7_fill_53178_4 (by decide) (fun _ => rfl) h (fun v3 h => ?_)
    refine WG.sub [2, 3, 1, 0] rfl ?_
    refine w_L_J7_fill_53178_5 C C2 _ _ _ _ ?_ _ _ _ h
    · intro  hs h
      exact q_vret C C2 rfl (Nat.le_of_ble_eq_true rfl) (Nat.le_of_ble_eq_true rfl) dJ7_fill_53178_20 h
  rw [lg_entry_eq]
  cases p0 <;> exact key _ _ _ hR va_S.rf ⟨lv_entry _ (n := 4) (Nat.le_of_ble_eq_true rfl), (c1_r (c1_i c1_n))⟩

theorem cd_Jx4a65c_size_8abf5 : Cond.code yJx4a65c_size_8abf5 cJx4a65c_size_8abf5 1 (some .int) ∈ Tg := Tg_of (i := 268) (by decide +kernel) (by decide +kernel)
theorem wf_Jx4a65c_48 : Cond.fieldLink RJx4a65c 48 RJx4a65c (TJx4a65c 2).2.1 (TJx4a65c 2).2.2.1 ∈ Tg := Tg_of (i := 136) (by decide +kernel) (by decide +kernel)
set_option maxRecDepth 100000 in
theorem gu_Jx4a65c : ∀ w ∈ u_ws RJx4a65c TJx4a65c 3, w ∈ Tg := by decide +kernel
theorem fl_Jx4a65c_48 : Fld RJx4a65c 48 2 2 .int := ⟨RJx4a65c, TJx4a65c, 3, RJx4a65c, rfl, by decide, wf_Jx4a65c_48, (Or.inl rfl), gu_Jx4a65c, tyJx4a65c_ok _ (by decide), ⟨tyJx4a65c, tyJx4a65c_ok⟩, nmJx4a65c⟩
section M_Jx4a65c_size_8abf5
variable {p : Program} {l : Launch} {e : Env} {s : State} {m : MethodId} {args : Array Value} {below : List Frame} {meth : Method} {c : Code} {G : GG} {o : Except Nat Int32} {hs' : Hs}
end M_Jx4a65c_size_8abf5
def f_Jx4a65c_size_8abf5 (a0 : Nat) : OO Int32 :=
    gI (some a0) 2 2 fun v1 =>
    rtn v1
set_option maxRecDepth 100000 in
set_option maxHeartbeats 4000000 in
theorem m_Jx4a65c_size_8abf5 {G : GG} {l : Launch} {a0 : Nat} {hs hs' : Hs} {o : Except Nat Int32} (h : f_Jx4a65c_size_8abf5 a0 hs = some (o, hs')) : CT G l yJx4a65c_size_8abf5 cJx4a65c_size_8abf5 1 (some .int) 0 0 0 0 [.ref a0] hs o hs' tvI := by
  refine vx_ofW (cc := cJx4a65c_size_8abf5) (maxL := 1) (ret := (some .int)) (by decide +kernel) rfl ?_
  intro p e s m args below meth c s₁ B hml hxt hv
  obtain ⟨hav, hR, hKn⟩ := hv
  subst hav
  have hts := atoms_spec (ws := .code yJx4a65c_size_8abf5 cJx4a65c_size_8abf5 1 (some .int) :: Tg) B.pre
  have C : Cx G l p s m _ c RJx4a65c cJx4a65c_size_8abf5 1 := ⟨B.exec, B.bytes, hml, findClass_of_methodNamed B.named, fun w hw => hts w (List.mem_cons_of_mem _ hw), hKn, fun q hq => Nat.le_trans hR.2.2.1 hq⟩
  have C2 : Cy meth c (some .int) := ⟨B.returns, B.notSynchronized, hxt⟩
  have key : WG G p l e { frames := 0, cells := 0, slots := 0, locals := 0 } s m ([.ref a0] : List Value).toArray below meth c 1 0 0 (vx_MQ below (QcT G o hs' tvI) (XCT G o hs') ([.ref a0] : List Value).toArray s 0 0 (gA G)) hs [(0, va_rf (some a0))] [] 0 := by
    unfold f_Jx4a65c_size_8abf5 at h
    refine q_aload_n C 0 dJx4a65c_size_8abf5_0 rfl ?_
    refine q_gI C fl_Jx4a65c_48 dJx4a65c_size_8abf5_1 h (fun v1 h => ?_)
    exact q_iret C C2 rfl (Nat.le_of_ble_eq_true rfl) (Nat.le_of_ble_eq_true rfl) dJx4a65c_size_8abf5_4 h
  rw [lg_entry_eq]
  exact key _ _ _ hR va_S.rf ⟨lv_entry _ (n := 1) (Nat.le_of_ble_eq_true rfl), (c1_r c1_n)⟩

theorem cd_J15_checkIndex_7cf53 : Cond.code yJ15_checkIndex_7cf53 cJ15_checkIndex_7cf53 2 (some .int) ∈ Tg := Tg_of (i := 275) (by decide +kernel) (by decide +kernel)
theorem ml_J15_105 : Cond.methodLink RJ15 105 yJ3_checkIndex_8e157 ∈ Tg := Tg_of (i := 276) (by decide +kernel) (by decide +kernel)
theorem lk_J15_105 : Lk RJ15 105 yJ3_checkIndex_8e157 cJ3_checkIndex_8e157 3 (some .int) 3 := ⟨ml_J15_105, cd_J3_checkIndex_8e157, iw_J3, by decide +kernel⟩
section M_J15_checkIndex_7cf53
variable {p : Program} {l : Launch} {e : Env} {s : State} {m : MethodId} {args : Array Value} {below : List Frame} {meth : Method} {c : Code} {G : GG} {o : Except Nat Int32} {hs' : Hs}
end M_J15_checkIndex_7cf53
def f_J15_checkIndex_7cf53 (p0 : Int32) (p1 : Int32) : OO Int32 :=
    call (f_J3_checkIndex_8e157 p0 p1 none) (fun (v1 : Int32) =>
    rtn v1) nox
set_option maxRecDepth 100000 in
set_option maxHeartbeats 4000000 in
theorem m_J15_checkIndex_7cf53 {G : GG} {l : Launch} {p0 : Int32} {p1 : Int32} {hs hs' : Hs} {o : Except Nat Int32} (h : f_J15_checkIndex_7cf53 p0 p1 hs = some (o, hs')) : CT G l yJ15_checkIndex_7cf53 cJ15_checkIndex_7cf53 2 (some .int) 1 22 0 0 [.int p0, .int p1] hs o hs' tvI := by
  refine vx_ofW (cc := cJ15_checkIndex_7cf53) (maxL := 2) (ret := (some .int)) (by decide +kernel) rfl ?_
  intro p e s m args below meth c s₁ B hml hxt hv
  obtain ⟨hav, hR, hKn⟩ := hv
  subst hav
  have hts := atoms_spec (ws := .code yJ15_checkIndex_7cf53 cJ15_checkIndex_7cf53 2 (some .int) :: Tg) B.pre
  have C : Cx G l p s m _ c RJ15 cJ15_checkIndex_7cf53 2 := ⟨B.exec, B.bytes, hml, findClass_of_methodNamed B.named, fun w hw => hts w (List.mem_cons_of_mem _ hw), hKn, fun q hq => Nat.le_trans hR.2.2.1 hq⟩
  have C2 : Cy meth c (some .int) := ⟨B.returns, B.notSynchronized, hxt⟩
  have key : WG G p l e { frames := 1, cells := 0, slots := 0, locals := 22 } s m ([.int p0, .int p1] : List Value).toArray below meth c 2 0 0 (vx_MQ below (QcT G o hs' tvI) (XCT G o hs') ([.int p0, .int p1] : List Value).toArray s 0 0 (gA G)) hs [(0, .int p0), (1, .int p1)] [] 0 := by
    unfold f_J15_checkIndex_7cf53 at h
    refine q_iload_n C 0 dJ15_checkIndex_7cf53_0 rfl ?_
    refine q_iload_n C 1 dJ15_checkIndex_7cf53_1 rfl ?_
    refine q_null C dJ15_checkIndex_7cf53_2 ?_
    refine q_callS C [.int p0, .int p1, va_rf none] [] (fun o2 hs1 hm => m_J3_checkIndex_8e157 hm) lk_J15_105 sm_J3_checkIndex_8e157 ⟨(Nat.le_of_ble_eq_true rfl), (Nat.le_of_ble_eq_true rfl)⟩ ⟨(Nat.le_of_ble_eq_true rfl), (Nat.le_of_ble_eq_true rfl)⟩ rfl rfl (by decide) dJ15_checkIndex_7cf53_3 h (fun v1 hs h => WG_st (st' := [.int v1]) rfl ?_)
    exact q_iret C C2 rfl (Nat.le_of_ble_eq_true rfl) (Nat.le_of_ble_eq_true rfl) dJ15_checkIndex_7cf53_6 h
  rw [lg_entry_eq]
  exact key _ _ _ hR va_S.rf ⟨lv_entry _ (n := 2) (Nat.le_of_ble_eq_true rfl), (c1_i (c1_i c1_n))⟩

theorem cd_Jx4a65c_elementData_915e3 : Cond.code yJx4a65c_elementData_915e3 cJx4a65c_elementData_915e3 2 (some (.object "java/lang/Object")) ∈ Tg := Tg_of (i := 282) (by decide +kernel) (by decide +kernel)
theorem wf_Jx4a65c_9 : Cond.fieldLink RJx4a65c 9 RJx4a65c (TJx4a65c 1).2.1 (TJx4a65c 1).2.2.1 ∈ Tg := Tg_of (i := 135) (by decide +kernel) (by decide +kernel)
theorem fl_Jx4a65c_9 : Fld RJx4a65c 9 2 1 (.array (.object "java/lang/Object")) := ⟨RJx4a65c, TJx4a65c, 3, RJx4a65c, rfl, by decide, wf_Jx4a65c_9, (Or.inl rfl), gu_Jx4a65c, tyJx4a65c_ok _ (by decide), ⟨tyJx4a65c, tyJx4a65c_ok⟩, nmJx4a65c⟩
section M_Jx4a65c_elementData_915e3
variable {p : Program} {l : Launch} {e : Env} {s : State} {m : MethodId} {args : Array Value} {below : List Frame} {meth : Method} {c : Code} {G : GG} {o : Except Nat (Option Nat)} {hs' : Hs}
end M_Jx4a65c_elementData_915e3
def f_Jx4a65c_elementData_915e3 (a0 : Nat) (p1 : Int32) : OO (Option Nat) :=
    gR (some a0) 2 1 fun v1 =>
    ldR 4 v1 p1 fun v2 =>
    rtn v2
set_option maxRecDepth 100000 in
set_option maxHeartbeats 4000000 in
theorem m_Jx4a65c_elementData_915e3 {G : GG} {l : Launch} {a0 : Nat} {p1 : Int32} {hs hs' : Hs} {o : Except Nat (Option Nat)} (h : f_Jx4a65c_elementData_915e3 a0 p1 hs = some (o, hs')) : CT G l yJx4a65c_elementData_915e3 cJx4a65c_elementData_915e3 2 (some (.object "java/lang/Object")) 0 0 0 0 [.ref a0, .int p1] hs o hs' tvR := by
  refine vx_ofW (cc := cJx4a65c_elementData_915e3) (maxL := 2) (ret := (some (.object "java/lang/Object"))) (by decide +kernel) rfl ?_
  intro p e s m args below meth c s₁ B hml hxt hv
  obtain ⟨hav, hR, hKn⟩ := hv
  subst hav
  have hts := atoms_spec (ws := .code yJx4a65c_elementData_915e3 cJx4a65c_elementData_915e3 2 (some (.object "java/lang/Object")) :: Tg) B.pre
  have C : Cx G l p s m _ c RJx4a65c cJx4a65c_elementData_915e3 2 := ⟨B.exec, B.bytes, hml, findClass_of_methodNamed B.named, fun w hw => hts w (List.mem_cons_of_mem _ hw), hKn, fun q hq => Nat.le_trans hR.2.2.1 hq⟩
  have C2 : Cy meth c (some (.object "java/lang/Object")) := ⟨B.returns, B.notSynchronized, hxt⟩
  have key : WG G p l e { frames := 0, cells := 0, slots := 0, locals := 0 } s m ([.ref a0, .int p1] : List Value).toArray below meth c 2 0 0 (vx_MQ below (QcT G o hs' tvR) (XCT G o hs') ([.ref a0, .int p1] : List Value).toArray s 0 0 (gA G)) hs [(0, va_rf (some a0)), (1, .int p1)] [] 0 := by
    unfold f_Jx4a65c_elementData_915e3 at h
    refine q_aload_n C 0 dJx4a65c_elementData_915e3_0 rfl ?_
    refine q_gR C fl_Jx4a65c_9 dJx4a65c_elementData_915e3_1 h (fun v1 h => ?_)
    refine q_iload_n C 1 dJx4a65c_elementData_915e3_4 rfl ?_
    refine q_aaldO C dJx4a65c_elementData_915e3_5 h (fun v2 h => ?_)
    exact q_aret C C2 rfl (Or.inl ⟨_, rfl⟩) (Nat.le_of_ble_eq_true rfl) (Nat.le_of_ble_eq_true rfl) dJx4a65c_elementData_915e3_6 h
  rw [lg_entry_eq]
  exact key _ _ _ hR va_S.rf ⟨lv_entry _ (n := 2) (Nat.le_of_ble_eq_true rfl), (c1_r (c1_i c1_n))⟩

theorem cd_Jx4a65c_get_915e3 : Cond.code yJx4a65c_get_915e3 cJx4a65c_get_915e3 2 (some (.object "java/lang/Object")) ∈ Tg := Tg_of (i := 272) (by decide +kernel) (by decide +kernel)
theorem iw_J15 : Cond.initialized RJ15 ∈ Tg := Tg_of (i := 104) (by decide +kernel) (by decide +kernel)
theorem ml_Jx4a65c_118 : Cond.methodLink RJx4a65c 118 yJ15_checkIndex_7cf53 ∈ Tg := Tg_of (i := 273) (by decide +kernel) (by decide +kernel)
theorem lk_Jx4a65c_118 : Lk RJx4a65c 118 yJ15_checkIndex_7cf53 cJ15_checkIndex_7cf53 2 (some .int) 2 := ⟨ml_Jx4a65c_118, cd_J15_checkIndex_7cf53, iw_J15, by decide +kernel⟩
theorem iw_Jx4a65c : Cond.initialized RJx4a65c ∈ Tg := Tg_of (i := 83) (by decide +kernel) (by decide +kernel)
theorem ml_Jx4a65c_123 : Cond.methodLink RJx4a65c 123 yJx4a65c_elementData_915e3 ∈ Tg := Tg_of (i := 279) (by decide +kernel) (by decide +kernel)
theorem lk_Jx4a65c_123 : Lk RJx4a65c 123 yJx4a65c_elementData_915e3 cJx4a65c_elementData_915e3 2 (some (.object "java/lang/Object")) 1 := ⟨ml_Jx4a65c_123, cd_Jx4a65c_elementData_915e3, iw_Jx4a65c, by decide +kernel⟩
theorem im_Jx4a65c_elementData_915e3 : Cond.instanceMethod yJx4a65c_elementData_915e3 ∈ Tg := Tg_of (i := 280) (by decide +kernel) (by decide +kernel)
theorem se_Jx4a65c_Jx4a65c_elementData_915e3 : Cond.selects RJx4a65c yJx4a65c_elementData_915e3 yJx4a65c_elementData_915e3 ∈ Tg := Tg_of (i := 281) (by decide +kernel) (by decide +kernel)
theorem sm_J15_checkIndex_7cf53 : Cond.static yJ15_checkIndex_7cf53 ∈ Tg := Tg_of (i := 274) (by decide +kernel) (by decide +kernel)
section M_Jx4a65c_get_915e3
variable {p : Program} {l : Launch} {e : Env} {s : State} {m : MethodId} {args : Array Value} {below : List Frame} {meth : Method} {c : Code} {G : GG} {o : Except Nat (Option Nat)} {hs' : Hs}
end M_Jx4a65c_get_915e3
def f_Jx4a65c_get_915e3 (a0 : Nat) (p1 : Int32) : OO (Option Nat) :=
    gI (some a0) 2 2 fun v1 =>
    call (f_J15_checkIndex_7cf53 p1 v1) (fun (v2 : Int32) =>
    rcv (some a0) 2 fun r4 => call (f_Jx4a65c_elementData_915e3 r4 p1) (fun (v3 : Option Nat) =>
    rtn v3) nox) nox
set_option maxRecDepth 100000 in
set_option maxHeartbeats 4000000 in
theorem m_Jx4a65c_get_915e3 {G : GG} {l : Launch} {a0 : Nat} {p1 : Int32} {hs hs' : Hs} {o : Except Nat (Option Nat)} (h : f_Jx4a65c_get_915e3 a0 p1 hs = some (o, hs')) : CT G l yJx4a65c_get_915e3 cJx4a65c_get_915e3 2 (some (.object "java/lang/Object")) 2 43 0 0 [.ref a0, .int p1] hs o hs' tvR := by
  refine vx_ofW (cc := cJx4a65c_get_915e3) (maxL := 2) (ret := (some (.object "java/lang/Object"))) (by decide +kernel) rfl ?_
  intro p e s m args below meth c s₁ B hml hxt hv
  obtain ⟨hav, hR, hKn⟩ := hv
  subst hav
  have hts := atoms_spec (ws := .code yJx4a65c_get_915e3 cJx4a65c_get_915e3 2 (some (.object "java/lang/Object")) :: Tg) B.pre
  have C : Cx G l p s m _ c RJx4a65c cJx4a65c_get_915e3 2 := ⟨B.exec, B.bytes, hml, findClass_of_methodNamed B.named, fun w hw => hts w (List.mem_cons_of_mem _ hw), hKn, fun q hq => Nat.le_trans hR.2.2.1 hq⟩
  have C2 : Cy meth c (some (.object "java/lang/Object")) := ⟨B.returns, B.notSynchronized, hxt⟩
  have key : WG G p l e { frames := 2, cells := 0, slots := 0, locals := 43 } s m ([.ref a0, .int p1] : List Value).toArray below meth c 2 0 0 (vx_MQ below (QcT G o hs' tvR) (XCT G o hs') ([.ref a0, .int p1] : List Value).toArray s 0 0 (gA G)) hs [(0, va_rf (some a0)), (1, .int p1)] [] 0 := by
    unfold f_Jx4a65c_get_915e3 at h
    refine q_iload_n C 1 dJx4a65c_get_915e3_0 rfl ?_
    refine q_aload_n C 0 dJx4a65c_get_915e3_1 rfl ?_
    refine q_gI C fl_Jx4a65c_48 dJx4a65c_get_915e3_2 h (fun v1 h => ?_)
    refine q_callS C [.int p1, .int v1] [] (fun o2 hs1 hm => m_J15_checkIndex_7cf53 hm) lk_Jx4a65c_118 sm_J15_checkIndex_7cf53 ⟨(Nat.le_of_ble_eq_true rfl), (Nat.le_of_ble_eq_true rfl)⟩ ⟨(Nat.le_of_ble_eq_true rfl), (Nat.le_of_ble_eq_true rfl)⟩ rfl rfl (by decide) dJx4a65c_get_915e3_5 h (fun v2 hs h => WG_st (st' := [.int v2]) rfl ?_)
    refine q_pop C rfl dJx4a65c_get_915e3_8 ?_
    refine q_aload_n C 0 dJx4a65c_get_915e3_9 rfl ?_
    refine q_iload_n C 1 dJx4a65c_get_915e3_10 rfl ?_
    refine q_callV C (CN := RJx4a65c) (T := TJx4a65c) (N := 3) [.int p1] [] (fun a0 o2 hs1 hm => m_Jx4a65c_elementData_915e3 hm) lk_Jx4a65c_123 im_Jx4a65c_elementData_915e3 se_Jx4a65c_Jx4a65c_elementData_915e3 rfl ⟨(Nat.le_of_ble_eq_true rfl), (Nat.le_of_ble_eq_true rfl)⟩ ⟨(Nat.le_of_ble_eq_true rfl), (Nat.le_of_ble_eq_true rfl)⟩ rfl rfl (by decide) dJx4a65c_get_915e3_11 h (fun v3 hs h => WG_st (st' := [va_rf v3]) rfl ?_)
    exact q_aret C C2 rfl (Or.inl ⟨_, rfl⟩) (Nat.le_of_ble_eq_true rfl) (Nat.le_of_ble_eq_true rfl) dJx4a65c_get_915e3_14 h
  rw [lg_entry_eq]
  exact key _ _ _ hR va_S.rf ⟨lv_entry _ (n := 2) (Nat.le_of_ble_eq_true rfl), (c1_r (c1_i c1_n))⟩

theorem cd_X8_has : Cond.code yX8_has cX8_has 2 (some .boolean) ∈ Tg := Tg_of (i := 290) (by decide +kernel) (by decide +kernel)
section M_X8_has
variable {p : Program} {l : Launch} {e : Env} {s : State} {m : MethodId} {args : Array Value} {below : List Frame} {meth : Method} {c : Code} {G : GG} {o : Except Nat Int32} {hs' : Hs}
end M_X8_has
def f_X8_has (p0 : Int32) (p1 : Int32) : OO Int32 :=
    (if (((ushr p0 p1) &&& (1 : Int32))) = 0 then
    retZ (0 : Int32)
    else
    retZ (1 : Int32))
set_option maxRecDepth 100000 in
set_option maxHeartbeats 4000000 in
theorem m_X8_has {G : GG} {l : Launch} {p0 : Int32} {p1 : Int32} {hs hs' : Hs} {o : Except Nat Int32} (h : f_X8_has p0 p1 hs = some (o, hs')) : CT G l yX8_has cX8_has 2 (some .boolean) 0 0 0 0 [.int p0, .int p1] hs o hs' tvI := by
  refine vx_ofW (cc := cX8_has) (maxL := 2) (ret := (some .boolean)) (by decide +kernel) rfl ?_
  intro p e s m args below meth c s₁ B hml hxt hv
  obtain ⟨hav, hR, hKn⟩ := hv
  subst hav
  have hts := atoms_spec (ws := .code yX8_has cX8_has 2 (some .boolean) :: Tg) B.pre
  have C : Cx G l p s m _ c RX8 cX8_has 2 := ⟨B.exec, B.bytes, hml, findClass_of_methodNamed B.named, fun w hw => hts w (List.mem_cons_of_mem _ hw), hKn, fun q hq => Nat.le_trans hR.2.2.1 hq⟩
  have C2 : Cy meth c (some .boolean) := ⟨B.returns, B.notSynchronized, hxt⟩
  have key : WG G p l e { frames := 0, cells := 0, slots := 0, locals := 0 } s m ([.int p0, .int p1] : List Value).toArray below meth c 2 0 0 (vx_MQ below (QcT G o hs' tvI) (XCT G o hs') ([.int p0, .int p1] : List Value).toArray s 0 0 (gA G)) hs [(0, .int p0), (1, .int p1)] [] 0 := by
    unfold f_X8_has at h
    refine q_iload_n C 0 dX8_has_0 rfl ?_
    refine q_iload_n C 1 dX8_has_1 rfl ?_
    refine q_iushr C dX8_has_2 ?_
    refine q_iconst C (1 : Int32) dX8_has_3 (by decide) ?_
    refine q_iand C dX8_has_4 ?_
    refine q_if_eq C 12 dX8_has_5 (by decide) h (fun h => ?_) (fun h => ?_)
    · refine q_iconst C (0 : Int32) dX8_has_12 (by decide) ?_
      exact q_zret C C2 rfl (Nat.le_of_ble_eq_true rfl) (Nat.le_of_ble_eq_true rfl) dX8_has_13 h
    · refine q_iconst C (1 : Int32) dX8_has_8 (by decide) ?_
      refine q_goto C 13 dX8_has_9 (by decide) ?_
      exact q_zret C C2 rfl (Nat.le_of_ble_eq_true rfl) (Nat.le_of_ble_eq_true rfl) dX8_has_13 h
  rw [lg_entry_eq]
  exact key _ _ _ hR va_S.rf ⟨lv_entry _ (n := 2) (Nat.le_of_ble_eq_true rfl), (c1_i (c1_i c1_n))⟩

theorem cd_X0_largestGroup : Cond.code yX0_largestGroup cX0_largestGroup 6 (some (.object "Termgrid$Lesson")) ∈ Tg := Tg_of (i := 556) (by decide +kernel) (by decide +kernel)
theorem wf_X0_21 : Cond.fieldLink RX0 21 RX6 (TX6 2).2.1 (TX6 2).2.2.1 ∈ Tg := Tg_of (i := 162) (by decide +kernel) (by decide +kernel)
set_option maxRecDepth 100000 in
theorem gu_X6 : ∀ w ∈ u_ws RX6 TX6 6, w ∈ Tg := by decide +kernel
theorem fl_X0_21 : Fld RX0 21 9 2 (.object "java/util/ArrayList") := ⟨RX6, TX6, 6, RX6, rfl, by decide, wf_X0_21, (Or.inl rfl), gu_X6, tyX6_ok _ (by decide), ⟨tyX6, tyX6_ok⟩, nmX6⟩
theorem ml_X0_27 : Cond.methodLink RX0 27 yJx4a65c_size_8abf5 ∈ Tg := Tg_of (i := 553) (by decide +kernel) (by decide +kernel)
theorem lk_X0_27 : Lk RX0 27 yJx4a65c_size_8abf5 cJx4a65c_size_8abf5 1 (some .int) 0 := ⟨ml_X0_27, cd_Jx4a65c_size_8abf5, iw_Jx4a65c, by decide +kernel⟩
theorem ml_X0_50 : Cond.methodLink RX0 50 yJx4a65c_get_915e3 ∈ Tg := Tg_of (i := 557) (by decide +kernel) (by decide +kernel)
theorem lk_X0_50 : Lk RX0 50 yJx4a65c_get_915e3 cJx4a65c_get_915e3 2 (some (.object "java/lang/Object")) 1 := ⟨ml_X0_50, cd_Jx4a65c_get_915e3, iw_Jx4a65c, by decide +kernel⟩
theorem wc_X0_38 : Cond.classLink RX0 38 RX4 ∈ Tg := Tg_of (i := 558) (by decide +kernel) (by decide +kernel)
theorem wf_X0_54 : Cond.fieldLink RX0 54 RX4 (TX4 3).2.1 (TX4 3).2.2.1 ∈ Tg := Tg_of (i := 901) (by decide +kernel) (by decide +kernel)
set_option maxRecDepth 100000 in
theorem gu_X4 : ∀ w ∈ u_ws RX4 TX4 18, w ∈ Tg := by decide +kernel
theorem fl_X0_54 : Fld RX0 54 7 3 .int := ⟨RX4, TX4, 18, RX4, rfl, by decide, wf_X0_54, (Or.inl rfl), gu_X4, tyX4_ok _ (by decide), ⟨tyX4, tyX4_ok⟩, nmX4⟩
theorem iw_X8 : Cond.initialized RX8 ∈ Tg := Tg_of (i := 80) (by decide +kernel) (by decide +kernel)
theorem lk_X0_57 : LkN RX0 57 yX8_has "Termgrid" cX8_has 2 (some .boolean) 2 := ⟨by decide +kernel, cd_X8_has, iw_X8, by decide +kernel⟩
theorem wf_X0_61 : Cond.fieldLink RX0 61 RX4 (TX4 1).2.1 (TX4 1).2.2.1 ∈ Tg := Tg_of (i := 894) (by decide +kernel) (by decide +kernel)
theorem fl_X0_61 : Fld RX0 61 7 1 (.object "Termgrid$Group") := ⟨RX4, TX4, 18, RX4, rfl, by decide, wf_X0_61, (Or.inl rfl), gu_X4, tyX4_ok _ (by decide), ⟨tyX4, tyX4_ok⟩, nmX4⟩
theorem wf_X0_65 : Cond.fieldLink RX0 65 RX2 (TX2 0).2.1 (TX2 0).2.2.1 ∈ Tg := Tg_of (i := 821) (by decide +kernel) (by decide +kernel)
set_option maxRecDepth 100000 in
theorem gu_X2 : ∀ w ∈ u_ws RX2 TX2 1, w ∈ Tg := by decide +kernel
theorem fl_X0_65 : Fld RX0 65 5 0 .int := ⟨RX2, TX2, 1, RX2, rfl, by decide, wf_X0_65, (Or.inl rfl), gu_X2, tyX2_ok _ (by decide), ⟨tyX2, tyX2_ok⟩, nmX2⟩
theorem sm_X8_has : Cond.static yX8_has ∈ Tg := Tg_of (i := 289) (by decide +kernel) (by decide +kernel)
theorem im_Jx4a65c_get_915e3 : Cond.instanceMethod yJx4a65c_get_915e3 ∈ Tg := Tg_of (i := 270) (by decide +kernel) (by decide +kernel)
theorem se_Jx4a65c_Jx4a65c_get_915e3 : Cond.selects RJx4a65c yJx4a65c_get_915e3 yJx4a65c_get_915e3 ∈ Tg := Tg_of (i := 271) (by decide +kernel) (by decide +kernel)
theorem im_Jx4a65c_size_8abf5 : Cond.instanceMethod yJx4a65c_size_8abf5 ∈ Tg := Tg_of (i := 266) (by decide +kernel) (by decide +kernel)
theorem se_Jx4a65c_Jx4a65c_size_8abf5 : Cond.selects RJx4a65c yJx4a65c_size_8abf5 yJx4a65c_size_8abf5 ∈ Tg := Tg_of (i := 267) (by decide +kernel) (by decide +kernel)
section M_X0_largestGroup
variable {p : Program} {l : Launch} {e : Env} {s : State} {m : MethodId} {args : Array Value} {below : List Frame} {meth : Method} {c : Code} {G : GG} {o : Except Nat (Option Nat)} {hs' : Hs}
def j_X0_largestGroup_74 (a0 : Option Nat) (a1 : Int32) (a2 : Int32) (a3 : Option Nat) (a4 : Int32)  (rec_5 : Option Nat → Int32 → OO (Option Nat)) : OO (Option Nat) :=
  lets (a4 + (1 : Int32)) fun (v9 : Int32) =>
    rec_5 a3 v9
set_option maxRecDepth 100000 in
set_option maxHeartbeats 4000000 in
theorem w_j_X0_largestGroup_74 (C : Cx G l p s m args c RX0 cX0_largestGroup 6) (C2 : Cy meth c (some (.object "Termgrid$Lesson"))) {hs : Hs} (a0 : Option Nat) (a1 : Int32) (a2 : Int32) (a3 : Option Nat) (a4 : Int32)  (rec_5 : Option Nat → Int32 → OO (Option Nat)) (hrec_5 : ∀ (y3 : Option Nat) (y4 : Int32) hs, rec_5 y3 y4 hs = some (o, hs') → WG G p l e { frames := 3, cells := 0, slots := 0, locals := 64 } s m args below meth c 6 0 0 (vx_MQ below (QcT G o hs' tvR) (XCT G o hs') args s 0 0 (gA G)) hs [(0, va_rf a0), (1, .int a1), (2, .int a2), (3, va_rf y3), (4, .int y4)] [] 5) (h : j_X0_largestGroup_74 a0 a1 a2 a3 a4 rec_5 hs = some (o, hs')) : WG G p l e { frames := 3, cells := 0, slots := 0, locals := 64 } s m args below meth c 6 0 0 (vx_MQ below (QcT G o hs' tvR) (XCT G o hs') args s 0 0 (gA G)) hs [(0, va_rf a0), (1, .int a1), (2, .int a2), (3, va_rf a3), (4, .int a4)] [] 74 := by
  unfold j_X0_largestGroup_74 at h
  refine q_iinc C 4 (1 : Int32) (fun v9 => [(4, .int v9), (0, va_rf a0), (1, .int a1), (2, .int a2), (3, va_rf a3)]) dX0_largestGroup_74 rfl (by decide) (by decide) (fun _ => rfl) h (fun v9 h => ?_)
  refine q_goto C 5 dX0_largestGroup_77 (by decide) ?_
  refine WG.sub [1, 2, 3, 4, 0] rfl ?_
  exact hrec_5 _ _ _ h
def j_X0_largestGroup_71 (a0 : Option Nat) (a1 : Int32) (a2 : Int32) (a4 : Int32) (a5 : Option Nat)  (rec_5 : Option Nat → Int32 → OO (Option Nat)) : OO (Option Nat) :=
  lets a5 fun (v11 : Option Nat) =>
    j_X0_largestGroup_74 a0 a1 a2 v11 a4 rec_5
set_option maxRecDepth 100000 in
set_option maxHeartbeats 4000000 in
theorem w_j_X0_largestGroup_71 (C : Cx G l p s m args c RX0 cX0_largestGroup 6) (C2 : Cy meth c (some (.object "Termgrid$Lesson"))) {hs : Hs} (a0 : Option Nat) (a1 : Int32) (a2 : Int32) (a4 : Int32) (a5 : Option Nat)  (rec_5 : Option Nat → Int32 → OO (Option Nat)) (hrec_5 : ∀ (y3 : Option Nat) (y4 : Int32) hs, rec_5 y3 y4 hs = some (o, hs') → WG G p l e { frames := 3, cells := 0, slots := 0, locals := 64 } s m args below meth c 6 0 0 (vx_MQ below (QcT G o hs' tvR) (XCT G o hs') args s 0 0 (gA G)) hs [(0, va_rf a0), (1, .int a1), (2, .int a2), (3, va_rf y3), (4, .int y4)] [] 5) (h : j_X0_largestGroup_71 a0 a1 a2 a4 a5 rec_5 hs = some (o, hs')) : WG G p l e { frames := 3, cells := 0, slots := 0, locals := 64 } s m args below meth c 6 0 0 (vx_MQ below (QcT G o hs' tvR) (XCT G o hs') args s 0 0 (gA G)) hs [(0, va_rf a0), (1, .int a1), (2, .int a2), (4, .int a4), (5, va_rf a5)] [] 71 := by
  unfold j_X0_largestGroup_71 at h
  refine q_aload C 4 dX0_largestGroup_71 rfl ?_
  refine q_astore_n C (fun v11 => [(3, va_rf v11), (0, va_rf a0), (1, .int a1), (2, .int a2), (4, .int a4), (5, va_rf a5)]) dX0_largestGroup_73 (by decide) (fun _ => rfl) h (fun v11 h => ?_)
  refine WG.sub [1, 2, 3, 0, 4] rfl ?_
  exact w_j_X0_largestGroup_74 C C2 _ _ _ _ _ _ hrec_5 h
def L_X0_largestGroup_5 (a0 : Option Nat) (a1 : Int32) (a2 : Int32) (k_5_80 : Option Nat → OO (Option Nat)) : Nat → Option Nat → Int32 → OO (Option Nat)
  | 0, _, _ => failO
  | n + 1, x3, x4 =>
    gR a0 9 2 fun v3 =>
    rcv v3 2 fun r17 => call (f_Jx4a65c_size_8abf5 r17 ) (fun (v4 : Int32) =>
    (if v4 ≤ x4 then
    k_5_80 x3
    else
    gR a0 9 2 fun v5 =>
    rcv v5 2 fun r16 => call (f_Jx4a65c_get_915e3 r16 x4) (fun (v6 : Option Nat) =>
    cst v6 7 (
    lets v6 fun (v7 : Option Nat) =>
    gI v7 7 3 fun v8 =>
    (if ¬ v8 = a1 then
    j_X0_largestGroup_74 a0 a1 a2 x3 x4 (L_X0_largestGroup_5 a0 a1 a2 k_5_80 n)
    else
    call (f_X8_has a2 x4) (fun (v10 : Int32) =>
    (if ¬ v10 = 0 then
    j_X0_largestGroup_74 a0 a1 a2 x3 x4 (L_X0_largestGroup_5 a0 a1 a2 k_5_80 n)
    else
    (if x3 = none then
    j_X0_largestGroup_71 a0 a1 a2 x4 v7 (L_X0_largestGroup_5 a0 a1 a2 k_5_80 n)
    else
    gR v7 7 1 fun v12 =>
    gI v12 5 0 fun v13 =>
    gR x3 7 1 fun v14 =>
    gI v14 5 0 fun v15 =>
    (if v13 ≤ v15 then
    j_X0_largestGroup_74 a0 a1 a2 x3 x4 (L_X0_largestGroup_5 a0 a1 a2 k_5_80 n)
    else
    j_X0_largestGroup_71 a0 a1 a2 x4 v7 (L_X0_largestGroup_5 a0 a1 a2 k_5_80 n))))) nox))) nox)) nox
set_option maxRecDepth 100000 in
set_option maxHeartbeats 4000000 in
theorem w_L_X0_largestGroup_5 (C : Cx G l p s m args c RX0 cX0_largestGroup 6) (C2 : Cy meth c (some (.object "Termgrid$Lesson"))) (a0 : Option Nat) (a1 : Int32) (a2 : Int32) (k_5_80 : Option Nat → OO (Option Nat)) (hk_5_80 : ∀ (y3 : Option Nat) hs, k_5_80 y3 hs = some (o, hs') → WG G p l e { frames := 3, cells := 0, slots := 0, locals := 64 } s m args below meth c 6 0 0 (vx_MQ below (QcT G o hs' tvR) (XCT G o hs') args s 0 0 (gA G)) hs [(3, va_rf y3)] [] 80) : ∀ (n : Nat) (x3 : Option Nat) (x4 : Int32) (hs : Hs), L_X0_largestGroup_5 a0 a1 a2 k_5_80 n x3 x4 hs = some (o, hs') → WG G p l e { frames := 3, cells := 0, slots := 0, locals := 64 } s m args below meth c 6 0 0 (vx_MQ below (QcT G o hs' tvR) (XCT G o hs') args s 0 0 (gA G)) hs [(0, va_rf a0), (1, .int a1), (2, .int a2), (3, va_rf x3), (4, .int x4)] [] 5 := by
  intro n
  induction n with
  | zero =>
    intro x3 x4 hs h
    rw [L_X0_largestGroup_5] at h
    exact absurd h failO_e
  | succ n hrec_5 =>
    intro x3 x4 hs h
    rw [L_X0_largestGroup_5] at h
    refine q_iload C 4 dX0_largestGroup_5 rfl ?_
    refine q_aload_n C 0 dX0_largestGroup_7 rfl ?_
    refine q_gR C fl_X0_21 dX0_largestGroup_8 h (fun v3 h => ?_)
    refine q_callV C (CN := RJx4a65c) (T := TJx4a65c) (N := 3) [] [.int x4] (fun a0 o2 hs1 hm => m_Jx4a65c_size_8abf5 hm) lk_X0_27 im_Jx4a65c_size_8abf5 se_Jx4a65c_Jx4a65c_size_8abf5 rfl ⟨(Nat.le_of_ble_eq_true rfl), (Nat.le_of_ble_eq_true rfl)⟩ ⟨(Nat.le_of_ble_eq_true rfl), (Nat.le_of_ble_eq_true rfl)⟩ rfl rfl (by simp only [List.map, cat_rf, cat_i, cat_a]; decide) dX0_largestGroup_11 h (fun v4 hs h => WG_st (st' := [.int v4, .int x4]) rfl ?_)
    refine q_icmp_ge C 80 dX0_largestGroup_14 (by decide) h (fun h => ?_) (fun h => ?_)
    · refine WG.sub [3] rfl ?_
      exact hk_5_80 _ _ h
    · refine q_aload_n C 0 dX0_largestGroup_17 rfl ?_
      refine q_gR C fl_X0_21 dX0_largestGroup_18 h (fun v5 h => ?_)
      refine q_iload C 4 dX0_largestGroup_21 rfl ?_
      refine q_callV C (CN := RJx4a65c) (T := TJx4a65c) (N := 3) [.int x4] [] (fun a0 o2 hs1 hm => m_Jx4a65c_get_915e3 hm) lk_X0_50 im_Jx4a65c_get_915e3 se_Jx4a65c_Jx4a65c_get_915e3 rfl ⟨(Nat.le_of_ble_eq_true rfl), (Nat.le_of_ble_eq_true rfl)⟩ ⟨(Nat.le_of_ble_eq_true rfl), (Nat.le_of_ble_eq_true rfl)⟩ rfl rfl (by decide) dX0_largestGroup_23 h (fun v6 hs h => WG_st (st' := [va_rf v6]) rfl ?_)
      refine q_castS C (nm := RX4) (T := TX4) (N := 18) rfl wc_X0_38 dX0_largestGroup_26 h (fun h => ?_)
      refine q_astore C (fun v7 => [(5, va_rf v7), (0, va_rf a0), (1, .int a1), (2, .int a2), (3, va_rf x3), (4, .int x4)]) dX0_largestGroup_29 (by decide) (fun _ => rfl) h (fun v7 h => ?_)
      refine q_aload C 0 dX0_largestGroup_31 rfl ?_
      refine q_gI C fl_X0_54 dX0_largestGroup_33 h (fun v8 h => ?_)
      refine q_iload_n C 2 dX0_largestGroup_36 rfl ?_
      refine q_icmp_ne C 74 dX0_largestGroup_37 (by decide) h (fun h => ?_) (fun h => ?_)
      · refine WG.sub [1, 2, 3, 4, 5] rfl ?_
        exact w_j_X0_largestGroup_74 C C2 _ _ _ _ _ _ hrec_5 h
      · refine q_iload_n C 3 dX0_largestGroup_40 rfl ?_
        refine q_iload C 5 dX0_largestGroup_41 rfl ?_
        refine q_callSN C [.int a2, .int x4] [] (fun o2 hs1 hm => m_X8_has hm) lk_X0_57 sm_X8_has ⟨(Nat.le_of_ble_eq_true rfl), (Nat.le_of_ble_eq_true rfl)⟩ ⟨(Nat.le_of_ble_eq_true rfl), (Nat.le_of_ble_eq_true rfl)⟩ rfl rfl (by decide) dX0_largestGroup_43 h (fun v10 hs h => WG_st (st' := [.int v10]) rfl ?_)
        refine q_if_ne C 74 dX0_largestGroup_46 (by decide) h (fun h => ?_) (fun h => ?_)
        · refine WG.sub [1, 2, 3, 4, 5] rfl ?_
          exact w_j_X0_largestGroup_74 C C2 _ _ _ _ _ _ hrec_5 h
        · refine q_aload_n C 4 dX0_largestGroup_49 rfl ?_
          refine q_ifnull C 71 dX0_largestGroup_50 (by decide) h (fun h => ?_) (fun h => ?_)
          · refine WG.sub [1, 2, 3, 5, 0] rfl ?_
            exact w_j_X0_largestGroup_71 C C2 _ _ _ _ _ _ hrec_5 h
          · refine q_aload C 0 dX0_largestGroup_53 rfl ?_
            refine q_gR C fl_X0_61 dX0_largestGroup_55 h (fun v12 h => ?_)
            refine q_gI C fl_X0_65 dX0_largestGroup_58 h (fun v13 h => ?_)
            refine q_aload_n C 4 dX0_largestGroup_61 rfl ?_
            refine q_gR C fl_X0_61 dX0_largestGroup_62 h (fun v14 h => ?_)
            refine q_gI C fl_X0_65 dX0_largestGroup_65 h (fun v15 h => ?_)
            refine q_icmp_le C 74 dX0_largestGroup_68 (by decide) h (fun h => ?_) (fun h => ?_)
            · refine WG.sub [1, 2, 3, 4, 5] rfl ?_
              exact w_j_X0_largestGroup_74 C C2 _ _ _ _ _ _ hrec_5 h
            · refine WG.sub [1, 2, 3, 5, 0] rfl ?_
              exact w_j_X0_largestGroup_71 C C2 _ _ _ _ _ _ hrec_5 h
end M_X0_largestGroup
def f_X0_largestGroup (p0 : Option Nat) (p1 : Int32) (p2 : Int32) : OO (Option Nat) :=
    lets none fun (v1 : Option Nat) =>
    lets (0 : Int32) fun (v2 : Int32) =>
    L_X0_largestGroup_5 p0 p1 p2 (fun (v18 : Option Nat) => rtn v18) 100000 v1 v2
set_option maxRecDepth 100000 in
set_option maxHeartbeats 4000000 in
theorem m_X0_largestGroup {G : GG} {l : Launch} {p0 : Option Nat} {p1 : Int32} {p2 : Int32} {hs hs' : Hs} {o : Except Nat (Option Nat)} (h : f_X0_largestGroup p0 p1 p2 hs = some (o, hs')) : CT G l yX0_largestGroup cX0_largestGroup 6 (some (.object "Termgrid$Lesson")) 3 64 0 0 [va_rf p0, .int p1, .int p2] hs o hs' tvR := by
  refine vx_ofW (cc := cX0_largestGroup) (maxL := 6) (ret := (some (.object "Termgrid$Lesson"))) (by decide +kernel) rfl ?_
  intro p e s m args below meth c s₁ B hml hxt hv
  obtain ⟨hav, hR, hKn⟩ := hv
  subst hav
  have hts := atoms_spec (ws := .code yX0_largestGroup cX0_largestGroup 6 (some (.object "Termgrid$Lesson")) :: Tg) B.pre
  have C : Cx G l p s m _ c RX0 cX0_largestGroup 6 := ⟨B.exec, B.bytes, hml, findClass_of_methodNamed B.named, fun w hw => hts w (List.mem_cons_of_mem _ hw), hKn, fun q hq => Nat.le_trans hR.2.2.1 hq⟩
  have C2 : Cy meth c (some (.object "Termgrid$Lesson")) := ⟨B.returns, B.notSynchronized, hxt⟩
  have key : WG G p l e { frames := 3, cells := 0, slots := 0, locals := 64 } s m ([va_rf p0, .int p1, .int p2] : List Value).toArray below meth c 6 0 0 (vx_MQ below (QcT G o hs' tvR) (XCT G o hs') ([va_rf p0, .int p1, .int p2] : List Value).toArray s 0 0 (gA G)) hs [(0, va_rf p0), (1, .int p1), (2, .int p2)] [] 0 := by
    unfold f_X0_largestGroup at h
    refine q_null C dX0_largestGroup_0 ?_
    refine q_astore_n C (fun v1 => [(3, va_rf v1), (0, va_rf p0), (1, .int p1), (2, .int p2)]) dX0_largestGroup_1 (by decide) (fun _ => rfl) h (fun v1 h => ?_)
    refine q_iconst C (0 : Int32) dX0_largestGroup_2 (by decide) ?_
    refine q_istore C (fun v2 => [(4, .int v2), (3, va_rf v1), (0, va_rf p0), (1, .int p1), (2, .int p2)]) dX0_largestGroup_3 (by decide) (fun _ => rfl) h (fun v2 h => ?_)
    refine WG.sub [2, 3, 4, 1, 0] rfl ?_
    refine w_L_X0_largestGroup_5 C C2 _ _ _ _ ?_ _ _ _ _ h
    · intro v18 hs h
      refine q_aload_n C 0 dX0_largestGroup_80 rfl ?_
      exact q_aret C C2 rfl (Or.inl ⟨_, rfl⟩) (Nat.le_of_ble_eq_true rfl) (Nat.le_of_ble_eq_true rfl) dX0_largestGroup_81 h
  rw [lg_entry_eq]
  cases p0 <;> exact key _ _ _ hR va_S.rf ⟨lv_entry _ (n := 6) (Nat.le_of_ble_eq_true rfl), (c1_r (c1_i (c1_i c1_n)))⟩

theorem cd_X0_giveHour : Cond.code yX0_giveHour cX0_giveHour 5 (some .boolean) ∈ Tg := Tg_of (i := 563) (by decide +kernel) (by decide +kernel)
theorem wf_X0_70 : Cond.fieldLink RX0 70 RX6 (TX6 0).2.1 (TX6 0).2.2.1 ∈ Tg := Tg_of (i := 157) (by decide +kernel) (by decide +kernel)
theorem fl_X0_70 : Fld RX0 70 9 0 (.object "java/util/ArrayList") := ⟨RX6, TX6, 6, RX6, rfl, by decide, wf_X0_70, (Or.inl rfl), gu_X6, tyX6_ok _ (by decide), ⟨tyX6, tyX6_ok⟩, nmX6⟩
theorem fl_X0_9 : Fld RX0 9 3 0 (.array .int) := ⟨RX0, TX0, 1, RX0, rfl, by decide, wf_X0_9, (Or.inl rfl), gu_X0, tyX0_ok _ (by decide), ⟨tyX0, tyX0_ok⟩, nmX0⟩
theorem wc_X0_73 : Cond.classLink RX0 73 RX5 ∈ Tg := Tg_of (i := 564) (by decide +kernel) (by decide +kernel)
theorem wf_X0_75 : Cond.fieldLink RX0 75 RX5 (TX5 4).2.1 (TX5 4).2.2.1 ∈ Tg := Tg_of (i := 692) (by decide +kernel) (by decide +kernel)
set_option maxRecDepth 100000 in
theorem gu_X5 : ∀ w ∈ u_ws RX5 TX5 5, w ∈ Tg := by decide +kernel
theorem fl_X0_75 : Fld RX0 75 8 4 .boolean := ⟨RX5, TX5, 5, RX5, rfl, by decide, wf_X0_75, (Or.inl rfl), gu_X5, tyX5_ok _ (by decide), ⟨tyX5, tyX5_ok⟩, nmX5⟩
theorem wf_X0_79 : Cond.fieldLink RX0 79 RX5 (TX5 2).2.1 (TX5 2).2.2.1 ∈ Tg := Tg_of (i := 686) (by decide +kernel) (by decide +kernel)
theorem fl_X0_79 : Fld RX0 79 8 2 .int := ⟨RX5, TX5, 5, RX5, rfl, by decide, wf_X0_79, (Or.inl rfl), gu_X5, tyX5_ok _ (by decide), ⟨tyX5, tyX5_ok⟩, nmX5⟩
theorem wf_X0_80 : Cond.fieldLink RX0 80 RX5 (TX5 3).2.1 (TX5 3).2.2.1 ∈ Tg := Tg_of (i := 689) (by decide +kernel) (by decide +kernel)
theorem fl_X0_80 : Fld RX0 80 8 3 .int := ⟨RX5, TX5, 5, RX5, rfl, by decide, wf_X0_80, (Or.inl rfl), gu_X5, tyX5_ok _ (by decide), ⟨tyX5, tyX5_ok⟩, nmX5⟩
section M_X0_giveHour
variable {p : Program} {l : Launch} {e : Env} {s : State} {m : MethodId} {args : Array Value} {below : List Frame} {meth : Method} {c : Code} {G : GG} {o : Except Nat Int32} {hs' : Hs}
def j_X0_giveHour_93 (a0 : Option Nat) (a1 : Option Nat) (a2 : Option Nat) (a3 : Int32)  (rec_2 : Int32 → OO Int32) : OO Int32 :=
  lets (a3 + (1 : Int32)) fun (v10 : Int32) =>
    rec_2 v10
set_option maxRecDepth 100000 in
set_option maxHeartbeats 4000000 in
theorem w_j_X0_giveHour_93 (C : Cx G l p s m args c RX0 cX0_giveHour 5) (C2 : Cy meth c (some .boolean)) {hs : Hs} (a0 : Option Nat) (a1 : Option Nat) (a2 : Option Nat) (a3 : Int32)  (rec_2 : Int32 → OO Int32) (hrec_2 : ∀ (y3 : Int32) hs, rec_2 y3 hs = some (o, hs') → WG G p l e { frames := 3, cells := 0, slots := 0, locals := 64 } s m args below meth c 5 0 0 (vx_MQ below (QcT G o hs' tvI) (XCT G o hs') args s 0 0 (gA G)) hs [(0, va_rf a0), (1, va_rf a1), (2, va_rf a2), (3, .int y3)] [] 2) (h : j_X0_giveHour_93 a0 a1 a2 a3 rec_2 hs = some (o, hs')) : WG G p l e { frames := 3, cells := 0, slots := 0, locals := 64 } s m args below meth c 5 0 0 (vx_MQ below (QcT G o hs' tvI) (XCT G o hs') args s 0 0 (gA G)) hs [(0, va_rf a0), (1, va_rf a1), (2, va_rf a2), (3, .int a3)] [] 93 := by
  unfold j_X0_giveHour_93 at h
  refine q_iinc C 3 (1 : Int32) (fun v10 => [(3, .int v10), (0, va_rf a0), (1, va_rf a1), (2, va_rf a2)]) dX0_giveHour_93 rfl (by decide) (by decide) (fun _ => rfl) h (fun v10 h => ?_)
  refine q_goto C 2 dX0_giveHour_96 (by decide) ?_
  refine WG.sub [1, 2, 3, 0] rfl ?_
  exact hrec_2 _ _ h
def L_X0_giveHour_2 (a0 : Option Nat) (a1 : Option Nat) (a2 : Option Nat) (k_2_81 : Int32 → OO Int32) (k_2_99 : OO Int32) : Nat → Int32 → OO Int32
  | 0, _ => failO
  | n + 1, x3 =>
    gR a1 9 0 fun v2 =>
    rcv v2 2 fun r19 => call (f_Jx4a65c_size_8abf5 r19 ) (fun (v3 : Int32) =>
    (if v3 ≤ x3 then
    k_2_99
    else
    gR a0 3 0 fun v4 =>
    alen v4 fun v5 =>
    (if v5 ≤ x3 then
    k_2_99
    else
    gR a1 9 0 fun v6 =>
    rcv v6 2 fun r18 => call (f_Jx4a65c_get_915e3 r18 x3) (fun (v7 : Option Nat) =>
    cst v7 8 (
    lets v7 fun (v8 : Option Nat) =>
    gI v8 8 4 fun v9 =>
    (if v9 = 0 then
    j_X0_giveHour_93 a0 a1 a2 x3 (L_X0_giveHour_2 a0 a1 a2 k_2_81 k_2_99 n)
    else
    gI v8 8 2 fun v11 =>
    gI a2 7 3 fun v12 =>
    (if ¬ v11 = v12 then
    j_X0_giveHour_93 a0 a1 a2 x3 (L_X0_giveHour_2 a0 a1 a2 k_2_81 k_2_99 n)
    else
    gI v8 8 3 fun v13 =>
    gR a2 7 1 fun v14 =>
    gI v14 5 0 fun v15 =>
    (if v13 < v15 then
    j_X0_giveHour_93 a0 a1 a2 x3 (L_X0_giveHour_2 a0 a1 a2 k_2_81 k_2_99 n)
    else
    gR a0 3 0 fun v16 =>
    ldI 0 v16 x3 fun v17 =>
    (if (30 : Int32) ≤ v17 then
    j_X0_giveHour_93 a0 a1 a2 x3 (L_X0_giveHour_2 a0 a1 a2 k_2_81 k_2_99 n)
    else
    k_2_81 x3)))))) nox))) nox
set_option maxRecDepth 100000 in
set_option maxHeartbeats 4000000 in
theorem w_L_X0_giveHour_2 (C : Cx G l p s m args c RX0 cX0_giveHour 5) (C2 : Cy meth c (some .boolean)) (a0 : Option Nat) (a1 : Option Nat) (a2 : Option Nat) (k_2_81 : Int32 → OO Int32) (k_2_99 : OO Int32) (hk_2_81 : ∀ (y3 : Int32) hs, k_2_81 y3 hs = some (o, hs') → WG G p l e { frames := 3, cells := 0, slots := 0, locals := 64 } s m args below meth c 5 0 0 (vx_MQ below (QcT G o hs' tvI) (XCT G o hs') args s 0 0 (gA G)) hs [(0, va_rf a0), (3, .int y3)] [] 81) (hk_2_99 : ∀ hs, k_2_99  hs = some (o, hs') → WG G p l e { frames := 3, cells := 0, slots := 0, locals := 64 } s m args below meth c 5 0 0 (vx_MQ below (QcT G o hs' tvI) (XCT G o hs') args s 0 0 (gA G)) hs [] [] 99) : ∀ (n : Nat) (x3 : Int32) (hs : Hs), L_X0_giveHour_2 a0 a1 a2 k_2_81 k_2_99 n x3 hs = some (o, hs') → WG G p l e { frames := 3, cells := 0, slots := 0, locals := 64 } s m args below meth c 5 0 0 (vx_MQ below (QcT G o hs' tvI) (XCT G o hs') args s 0 0 (gA G)) hs [(0, va_rf a0), (1, va_rf a1), (2, va_rf a2), (3, .int x3)] [] 2 := by
  intro n
  induction n with
  | zero =>
    intro x3 hs h
    rw [L_X0_giveHour_2] at h
    exact absurd h failO_e
  | succ n hrec_2 =>
    intro x3 hs h
    rw [L_X0_giveHour_2] at h
    refine q_iload_n C 3 dX0_giveHour_2 rfl ?_
    refine q_aload_n C 1 dX0_giveHour_3 rfl ?_
    refine q_gR C fl_X0_70 dX0_giveHour_4 h (fun v2 h => ?_)
    refine q_callV C (CN := RJx4a65c) (T := TJx4a65c) (N := 3) [] [.int x3] (fun a0 o2 hs1 hm => m_Jx4a65c_size_8abf5 hm) lk_X0_27 im_Jx4a65c_size_8abf5 se_Jx4a65c_Jx4a65c_size_8abf5 rfl ⟨(Nat.le_of_ble_eq_true rfl), (Nat.le_of_ble_eq_true rfl)⟩ ⟨(Nat.le_of_ble_eq_true rfl), (Nat.le_of_ble_eq_true rfl)⟩ rfl rfl (by simp only [List.map, cat_rf, cat_i, cat_a]; decide) dX0_giveHour_7 h (fun v3 hs h => WG_st (st' := [.int v3, .int x3]) rfl ?_)
    refine q_icmp_ge C 99 dX0_giveHour_10 (by decide) h (fun h => ?_) (fun h => ?_)
    · refine WG.sub [] rfl ?_
      exact hk_2_99 _ h
    · refine q_iload_n C 3 dX0_giveHour_13 rfl ?_
      refine q_aload_n C 0 dX0_giveHour_14 rfl ?_
      refine q_gR C fl_X0_9 dX0_giveHour_15 h (fun v4 h => ?_)
      refine q_alen C dX0_giveHour_18 h (fun v5 h => ?_)
      refine q_icmp_ge C 99 dX0_giveHour_19 (by decide) h (fun h => ?_) (fun h => ?_)
      · refine WG.sub [] rfl ?_
        exact hk_2_99 _ h
      · refine q_aload_n C 1 dX0_giveHour_22 rfl ?_
        refine q_gR C fl_X0_70 dX0_giveHour_23 h (fun v6 h => ?_)
        refine q_iload_n C 3 dX0_giveHour_26 rfl ?_
        refine q_callV C (CN := RJx4a65c) (T := TJx4a65c) (N := 3) [.int x3] [] (fun a0 o2 hs1 hm => m_Jx4a65c_get_915e3 hm) lk_X0_50 im_Jx4a65c_get_915e3 se_Jx4a65c_Jx4a65c_get_915e3 rfl ⟨(Nat.le_of_ble_eq_true rfl), (Nat.le_of_ble_eq_true rfl)⟩ ⟨(Nat.le_of_ble_eq_true rfl), (Nat.le_of_ble_eq_true rfl)⟩ rfl rfl (by decide) dX0_giveHour_27 h (fun v7 hs h => WG_st (st' := [va_rf v7]) rfl ?_)
        refine q_castS C (nm := RX5) (T := TX5) (N := 5) rfl wc_X0_73 dX0_giveHour_30 h (fun h => ?_)
        refine q_astore C (fun v8 => [(4, va_rf v8), (0, va_rf a0), (1, va_rf a1), (2, va_rf a2), (3, .int x3)]) dX0_giveHour_33 (by decide) (fun _ => rfl) h (fun v8 h => ?_)
        refine q_aload C 0 dX0_giveHour_35 rfl ?_
        refine q_gI C fl_X0_75 dX0_giveHour_37 h (fun v9 h => ?_)
        refine q_if_eq C 93 dX0_giveHour_40 (by decide) h (fun h => ?_) (fun h => ?_)
        · refine WG.sub [1, 2, 3, 4] rfl ?_
          exact w_j_X0_giveHour_93 C C2 _ _ _ _ _ hrec_2 h
        · refine q_aload C 0 dX0_giveHour_43 rfl ?_
          refine q_gI C fl_X0_79 dX0_giveHour_45 h (fun v11 h => ?_)
          refine q_aload_n C 3 dX0_giveHour_48 rfl ?_
          refine q_gI C fl_X0_54 dX0_giveHour_49 h (fun v12 h => ?_)
          refine q_icmp_ne C 93 dX0_giveHour_52 (by decide) h (fun h => ?_) (fun h => ?_)
          · refine WG.sub [1, 2, 3, 4] rfl ?_
            exact w_j_X0_giveHour_93 C C2 _ _ _ _ _ hrec_2 h
          · refine q_aload C 0 dX0_giveHour_55 rfl ?_
            refine q_gI C fl_X0_80 dX0_giveHour_57 h (fun v13 h => ?_)
            refine q_aload_n C 3 dX0_giveHour_60 rfl ?_
            refine q_gR C fl_X0_61 dX0_giveHour_61 h (fun v14 h => ?_)
            refine q_gI C fl_X0_65 dX0_giveHour_64 h (fun v15 h => ?_)
            refine q_icmp_lt C 93 dX0_giveHour_67 (by decide) h (fun h => ?_) (fun h => ?_)
            · refine WG.sub [1, 2, 3, 4] rfl ?_
              exact w_j_X0_giveHour_93 C C2 _ _ _ _ _ hrec_2 h
            · refine q_aload_n C 1 dX0_giveHour_70 rfl ?_
              refine q_gR C fl_X0_9 dX0_giveHour_71 h (fun v16 h => ?_)
              refine q_iload_n C 4 dX0_giveHour_74 rfl ?_
              refine q_iald C dX0_giveHour_75 h (fun v17 h => ?_)
              refine q_bipush C (30 : Int32) dX0_giveHour_76 (by decide) ?_
              refine q_icmp_ge C 93 dX0_giveHour_78 (by decide) h (fun h => ?_) (fun h => ?_)
              · refine WG.sub [1, 2, 3, 4] rfl ?_
                exact w_j_X0_giveHour_93 C C2 _ _ _ _ _ hrec_2 h
              · refine WG.sub [1, 4] rfl ?_
                exact hk_2_81 _ _ h
end M_X0_giveHour
def f_X0_giveHour (a0 : Nat) (p1 : Option Nat) (p2 : Option Nat) : OO Int32 :=
    lets (0 : Int32) fun (v1 : Int32) =>
    L_X0_giveHour_2 (some a0) p1 p2 (fun (v20 : Int32) => gR (some a0) 3 0 fun v21 =>
    ldI 0 v21 v20 fun v22 =>
    stI v21 v20 (v22 + (1 : Int32)) (
    retZ (1 : Int32))) (retZ (0 : Int32)) 100000 v1
set_option maxRecDepth 100000 in
set_option maxHeartbeats 4000000 in
theorem m_X0_giveHour {G : GG} {l : Launch} {a0 : Nat} {p1 : Option Nat} {p2 : Option Nat} {hs hs' : Hs} {o : Except Nat Int32} (h : f_X0_giveHour a0 p1 p2 hs = some (o, hs')) : CT G l yX0_giveHour cX0_giveHour 5 (some .boolean) 3 64 0 0 [.ref a0, va_rf p1, va_rf p2] hs o hs' tvI := by
  refine vx_ofW (cc := cX0_giveHour) (maxL := 5) (ret := (some .boolean)) (by decide +kernel) rfl ?_
  intro p e s m args below meth c s₁ B hml hxt hv
  obtain ⟨hav, hR, hKn⟩ := hv
  subst hav
  have hts := atoms_spec (ws := .code yX0_giveHour cX0_giveHour 5 (some .boolean) :: Tg) B.pre
  have C : Cx G l p s m _ c RX0 cX0_giveHour 5 := ⟨B.exec, B.bytes, hml, findClass_of_methodNamed B.named, fun w hw => hts w (List.mem_cons_of_mem _ hw), hKn, fun q hq => Nat.le_trans hR.2.2.1 hq⟩
  have C2 : Cy meth c (some .boolean) := ⟨B.returns, B.notSynchronized, hxt⟩
  have key : WG G p l e { frames := 3, cells := 0, slots := 0, locals := 64 } s m ([.ref a0, va_rf p1, va_rf p2] : List Value).toArray below meth c 5 0 0 (vx_MQ below (QcT G o hs' tvI) (XCT G o hs') ([.ref a0, va_rf p1, va_rf p2] : List Value).toArray s 0 0 (gA G)) hs [(0, va_rf (some a0)), (1, va_rf p1), (2, va_rf p2)] [] 0 := by
    unfold f_X0_giveHour at h
    refine q_iconst C (0 : Int32) dX0_giveHour_0 (by decide) ?_
    refine q_istore_n C (fun v1 => [(3, .int v1), (0, va_rf (some a0)), (1, va_rf p1), (2, va_rf p2)]) dX0_giveHour_1 (by decide) (fun _ => rfl) h (fun v1 h => ?_)
    refine WG.sub [1, 2, 3, 0] rfl ?_
    refine w_L_X0_giveHour_2 C C2 _ _ _ _ _ ?_ ?_ _ _ _ h
    · intro v20 hs h
      refine q_aload_n C 0 dX0_giveHour_81 rfl ?_
      refine q_gR C fl_X0_9 dX0_giveHour_82 h (fun v21 h => ?_)
      refine q_iload_n C 1 dX0_giveHour_85 rfl ?_
      refine q_dup2 C rfl (cat_rf _) dX0_giveHour_86 ?_
      refine q_iald C dX0_giveHour_87 h (fun v22 h => ?_)
      refine q_iconst C (1 : Int32) dX0_giveHour_88 (by decide) ?_
      refine q_iadd C dX0_giveHour_89 ?_
      refine q_iast C dX0_giveHour_90 h (fun hs h => ?_)
      refine q_iconst C (1 : Int32) dX0_giveHour_91 (by decide) ?_
      exact q_zret C C2 rfl (Nat.le_of_ble_eq_true rfl) (Nat.le_of_ble_eq_true rfl) dX0_giveHour_92 h
    · intro  hs h
      refine q_iconst C (0 : Int32) dX0_giveHour_99 (by decide) ?_
      exact q_zret C C2 rfl (Nat.le_of_ble_eq_true rfl) (Nat.le_of_ble_eq_true rfl) dX0_giveHour_100 h
  rw [lg_entry_eq]
  cases p1 <;> cases p2 <;> exact key _ _ _ hR va_S.rf ⟨lv_entry _ (n := 5) (Nat.le_of_ble_eq_true rfl), (c1_r (c1_r (c1_r c1_n)))⟩

theorem cd_X0_lackByGiving : Cond.code yX0_lackByGiving cX0_lackByGiving 8 (some .int) ∈ Tg := Tg_of (i := 551) (by decide +kernel) (by decide +kernel)
theorem iw_J7 : Cond.initialized RJ7 ∈ Tg := Tg_of (i := 97) (by decide +kernel) (by decide +kernel)
theorem ml_X0_15 : Cond.methodLink RX0 15 yJ7_fill_53178 ∈ Tg := Tg_of (i := 552) (by decide +kernel) (by decide +kernel)
theorem lk_X0_15 : Lk RX0 15 yJ7_fill_53178 cJ7_fill_53178 4 none 2 := ⟨ml_X0_15, cd_J7_fill_53178, iw_J7, by decide +kernel⟩
theorem iw_X0 : Cond.initialized RX0 ∈ Tg := Tg_of (i := 87) (by decide +kernel) (by decide +kernel)
theorem ml_X0_33 : Cond.methodLink RX0 33 yX0_largestGroup ∈ Tg := Tg_of (i := 554) (by decide +kernel) (by decide +kernel)
theorem lk_X0_33 : Lk RX0 33 yX0_largestGroup cX0_largestGroup 6 (some (.object "Termgrid$Lesson")) 3 := ⟨ml_X0_33, cd_X0_largestGroup, iw_X0, by decide +kernel⟩
theorem wf_X0_37 : Cond.fieldLink RX0 37 RX4 (TX4 0).2.1 (TX4 0).2.2.1 ∈ Tg := Tg_of (i := 888) (by decide +kernel) (by decide +kernel)
theorem fl_X0_37 : Fld RX0 37 7 0 .int := ⟨RX4, TX4, 18, RX4, rfl, by decide, wf_X0_37, (Or.inl rfl), gu_X4, tyX4_ok _ (by decide), ⟨tyX4, tyX4_ok⟩, nmX4⟩
theorem wf_X0_43 : Cond.fieldLink RX0 43 RX4 (TX4 4).2.1 (TX4 4).2.2.1 ∈ Tg := Tg_of (i := 903) (by decide +kernel) (by decide +kernel)
theorem fl_X0_43 : Fld RX0 43 7 4 .int := ⟨RX4, TX4, 18, RX4, rfl, by decide, wf_X0_43, (Or.inl rfl), gu_X4, tyX4_ok _ (by decide), ⟨tyX4, tyX4_ok⟩, nmX4⟩
theorem ml_X0_46 : Cond.methodLink RX0 46 yX0_giveHour ∈ Tg := Tg_of (i := 560) (by decide +kernel) (by decide +kernel)
theorem lk_X0_46 : Lk RX0 46 yX0_giveHour cX0_giveHour 5 (some .boolean) 2 := ⟨ml_X0_46, cd_X0_giveHour, iw_X0, by decide +kernel⟩
theorem im_X0_giveHour : Cond.instanceMethod yX0_giveHour ∈ Tg := Tg_of (i := 562) (by decide +kernel) (by decide +kernel)
theorem se_X0_X0_giveHour : Cond.selects RX0 yX0_giveHour yX0_giveHour ∈ Tg := Tg_of (i := 15) (by decide +kernel) (by decide +kernel)
theorem sm_X0_largestGroup : Cond.static yX0_largestGroup ∈ Tg := Tg_of (i := 555) (by decide +kernel) (by decide +kernel)
theorem sm_J7_fill_53178 : Cond.static yJ7_fill_53178 ∈ Tg := Tg_of (i := 308) (by decide +kernel) (by decide +kernel)
section M_X0_lackByGiving
variable {p : Program} {l : Launch} {e : Env} {s : State} {m : MethodId} {args : Array Value} {below : List Frame} {meth : Method} {c : Code} {G : GG} {o : Except Nat Int32} {hs' : Hs}
def j_X0_lackByGiving_85 (a0 : Option Nat) (a1 : Option Nat) (a2 : Int32) (a4 : Int32) (a5 : Int32) (a6 : Option Nat) (a7 : Int32) (s0 : Int32) (s1 : Int32) (rec_59 : Int32 → Int32 → OO Int32) : OO Int32 :=
  lets (s1 + s0) fun (v15 : Int32) =>
    lets (a7 + (1 : Int32)) fun (v16 : Int32) =>
    rec_59 v15 v16
set_option maxRecDepth 100000 in
set_option maxHeartbeats 4000000 in
theorem w_j_X0_lackByGiving_85 (C : Cx G l p s m args c RX0 cX0_lackByGiving 8) (C2 : Cy meth c (some .int)) {hs : Hs} (a0 : Option Nat) (a1 : Option Nat) (a2 : Int32) (a4 : Int32) (a5 : Int32) (a6 : Option Nat) (a7 : Int32) (s0 : Int32) (s1 : Int32) (rec_59 : Int32 → Int32 → OO Int32) (hrec_59 : ∀ (y3 : Int32) (y7 : Int32) hs, rec_59 y3 y7 hs = some (o, hs') → WG G p l e { frames := 4, cells := 0, slots := 0, locals := 89 } s m args below meth c 8 0 0 (vx_MQ below (QcT G o hs' tvI) (XCT G o hs') args s 0 0 (gA G)) hs [(0, va_rf a0), (1, va_rf a1), (2, .int a2), (3, .int y3), (4, .int a4), (5, .int a5), (6, va_rf a6), (7, .int y7)] [] 59) (h : j_X0_lackByGiving_85 a0 a1 a2 a4 a5 a6 a7 s0 s1 rec_59 hs = some (o, hs')) : WG G p l e { frames := 4, cells := 0, slots := 0, locals := 89 } s m args below meth c 8 0 0 (vx_MQ below (QcT G o hs' tvI) (XCT G o hs') args s 0 0 (gA G)) hs [(0, va_rf a0), (1, va_rf a1), (2, .int a2), (4, .int a4), (5, .int a5), (6, va_rf a6), (7, .int a7)] [.int s0, .int s1] 85 := by
  unfold j_X0_lackByGiving_85 at h
  refine q_iadd C dX0_lackByGiving_85 ?_
  refine q_istore_n C (fun v15 => [(3, .int v15), (0, va_rf a0), (1, va_rf a1), (2, .int a2), (4, .int a4), (5, .int a5), (6, va_rf a6), (7, .int a7)]) dX0_lackByGiving_86 (by decide) (fun _ => rfl) h (fun v15 h => ?_)
  refine q_iinc C 7 (1 : Int32) (fun v16 => [(7, .int v16), (3, .int v15), (0, va_rf a0), (1, va_rf a1), (2, .int a2), (4, .int a4), (5, .int a5), (6, va_rf a6)]) dX0_lackByGiving_87 rfl (by decide) (by decide) (fun _ => rfl) h (fun v16 h => ?_)
  refine q_goto C 59 dX0_lackByGiving_90 (by decide) ?_
  refine WG.sub [2, 3, 4, 1, 5, 6, 7, 0] rfl ?_
  exact hrec_59 _ _ _ h
def L_X0_lackByGiving_59 (a0 : Option Nat) (a1 : Option Nat) (a2 : Int32) (a4 : Int32) (a5 : Int32) (a6 : Option Nat) (k_59_93 : Int32 → OO Int32) : Nat → Int32 → Int32 → OO Int32
  | 0, _, _ => failO
  | n + 1, x3, x7 =>
    gI a6 7 4 fun v13 =>
    (if v13 ≤ x7 then
    k_59_93 x3
    else
    rcv a0 3 fun r17 => call (f_X0_giveHour r17 a1 a6) (fun (v14 : Int32) =>
    (if v14 = 0 then
    j_X0_lackByGiving_85 a0 a1 a2 a4 a5 a6 x7 (1 : Int32) x3 (L_X0_lackByGiving_59 a0 a1 a2 a4 a5 a6 k_59_93 n)
    else
    j_X0_lackByGiving_85 a0 a1 a2 a4 a5 a6 x7 (0 : Int32) x3 (L_X0_lackByGiving_59 a0 a1 a2 a4 a5 a6 k_59_93 n))) nox)
set_option maxRecDepth 100000 in
set_option maxHeartbeats 4000000 in
theorem w_L_X0_lackByGiving_59 (C : Cx G l p s m args c RX0 cX0_lackByGiving 8) (C2 : Cy meth c (some .int)) (a0 : Option Nat) (a1 : Option Nat) (a2 : Int32) (a4 : Int32) (a5 : Int32) (a6 : Option Nat) (k_59_93 : Int32 → OO Int32) (hk_59_93 : ∀ (y3 : Int32) hs, k_59_93 y3 hs = some (o, hs') → WG G p l e { frames := 4, cells := 0, slots := 0, locals := 89 } s m args below meth c 8 0 0 (vx_MQ below (QcT G o hs' tvI) (XCT G o hs') args s 0 0 (gA G)) hs [(0, va_rf a0), (1, va_rf a1), (2, .int a2), (3, .int y3), (4, .int a4), (5, .int a5)] [] 93) : ∀ (n : Nat) (x3 : Int32) (x7 : Int32) (hs : Hs), L_X0_lackByGiving_59 a0 a1 a2 a4 a5 a6 k_59_93 n x3 x7 hs = some (o, hs') → WG G p l e { frames := 4, cells := 0, slots := 0, locals := 89 } s m args below meth c 8 0 0 (vx_MQ below (QcT G o hs' tvI) (XCT G o hs') args s 0 0 (gA G)) hs [(0, va_rf a0), (1, va_rf a1), (2, .int a2), (3, .int x3), (4, .int a4), (5, .int a5), (6, va_rf a6), (7, .int x7)] [] 59 := by
  intro n
  induction n with
  | zero =>
    intro x3 x7 hs h
    rw [L_X0_lackByGiving_59] at h
    exact absurd h failO_e
  | succ n hrec_59 =>
    intro x3 x7 hs h
    rw [L_X0_lackByGiving_59] at h
    refine q_iload C 7 dX0_lackByGiving_59 rfl ?_
    refine q_aload C 6 dX0_lackByGiving_61 rfl ?_
    refine q_gI C fl_X0_43 dX0_lackByGiving_63 h (fun v13 h => ?_)
    refine q_icmp_ge C 93 dX0_lackByGiving_66 (by decide) h (fun h => ?_) (fun h => ?_)
    · refine WG.sub [0, 1, 2, 3, 4, 5] rfl ?_
      exact hk_59_93 _ _ h
    · refine q_iload_n C 3 dX0_lackByGiving_69 rfl ?_
      refine q_aload_n C 0 dX0_lackByGiving_70 rfl ?_
      refine q_aload_n C 1 dX0_lackByGiving_71 rfl ?_
      refine q_aload C 6 dX0_lackByGiving_72 rfl ?_
      refine q_callV C (CN := RX0) (T := TX0) (N := 1) [va_rf a1, va_rf a6] [.int x3] (fun a0 o2 hs1 hm => m_X0_giveHour hm) lk_X0_46 im_X0_giveHour se_X0_X0_giveHour rfl ⟨(Nat.le_of_ble_eq_true rfl), (Nat.le_of_ble_eq_true rfl)⟩ ⟨(Nat.le_of_ble_eq_true rfl), (Nat.le_of_ble_eq_true rfl)⟩ rfl rfl (by simp only [List.map, cat_rf, cat_i, cat_a]; decide) dX0_lackByGiving_74 h (fun v14 hs h => WG_st (st' := [.int v14, .int x3]) rfl ?_)
      refine q_if_eq C 84 dX0_lackByGiving_77 (by decide) h (fun h => ?_) (fun h => ?_)
      · refine q_iconst C (1 : Int32) dX0_lackByGiving_84 (by decide) ?_
        refine WG.sub [0, 1, 2, 4, 5, 6, 7] rfl ?_
        exact w_j_X0_lackByGiving_85 C C2 _ _ _ _ _ _ _ _ _ _ hrec_59 h
      · refine q_iconst C (0 : Int32) dX0_lackByGiving_80 (by decide) ?_
        refine q_goto C 85 dX0_lackByGiving_81 (by decide) ?_
        refine WG.sub [0, 1, 2, 4, 5, 6, 7] rfl ?_
        exact w_j_X0_lackByGiving_85 C C2 _ _ _ _ _ _ _ _ _ _ hrec_59 h
def L_X0_lackByGiving_16 (a0 : Option Nat) (a1 : Option Nat) (a2 : Int32) (k_16_42 : Int32 → OO Int32) (k_16_99 : Int32 → OO Int32) : Nat → Int32 → Int32 → Int32 → OO Int32
  | 0, _, _, _ => failO
  | n + 1, x3, x4, x5 =>
    gR a1 9 2 fun v6 =>
    rcv v6 2 fun r20 => call (f_Jx4a65c_size_8abf5 r20 ) (fun (v7 : Int32) =>
    (if v7 ≤ x5 then
    k_16_99 x3
    else
    call (f_X0_largestGroup a1 a2 x4) (fun (v8 : Option Nat) =>
    lets v8 fun (v9 : Option Nat) =>
    (if ¬ v9 = none then
    gI v9 7 0 fun v10 =>
    lets ((x4 ||| (((1 : Int32) <<< (v10 &&& 31))))) fun (v11 : Int32) =>
    lets (0 : Int32) fun (v12 : Int32) =>
    L_X0_lackByGiving_59 a0 a1 a2 v11 x5 v9 (fun (v18 : Int32) => lets (x5 + (1 : Int32)) fun (v19 : Int32) =>
    (L_X0_lackByGiving_16 a0 a1 a2 k_16_42 k_16_99 n) v18 v11 v19) 100000 x3 v12
    else
    k_16_42 x3)) nox)) nox
set_option maxRecDepth 100000 in
set_option maxHeartbeats 4000000 in
theorem w_L_X0_lackByGiving_16 (C : Cx G l p s m args c RX0 cX0_lackByGiving 8) (C2 : Cy meth c (some .int)) (a0 : Option Nat) (a1 : Option Nat) (a2 : Int32) (k_16_42 : Int32 → OO Int32) (k_16_99 : Int32 → OO Int32) (hk_16_42 : ∀ (y3 : Int32) hs, k_16_42 y3 hs = some (o, hs') → WG G p l e { frames := 4, cells := 0, slots := 0, locals := 89 } s m args below meth c 8 0 0 (vx_MQ below (QcT G o hs' tvI) (XCT G o hs') args s 0 0 (gA G)) hs [(3, .int y3)] [] 42) (hk_16_99 : ∀ (y3 : Int32) hs, k_16_99 y3 hs = some (o, hs') → WG G p l e { frames := 4, cells := 0, slots := 0, locals := 89 } s m args below meth c 8 0 0 (vx_MQ below (QcT G o hs' tvI) (XCT G o hs') args s 0 0 (gA G)) hs [(3, .int y3)] [] 99) : ∀ (n : Nat) (x3 : Int32) (x4 : Int32) (x5 : Int32) (hs : Hs), L_X0_lackByGiving_16 a0 a1 a2 k_16_42 k_16_99 n x3 x4 x5 hs = some (o, hs') → WG G p l e { frames := 4, cells := 0, slots := 0, locals := 89 } s m args below meth c 8 0 0 (vx_MQ below (QcT G o hs' tvI) (XCT G o hs') args s 0 0 (gA G)) hs [(0, va_rf a0), (1, va_rf a1), (2, .int a2), (3, .int x3), (4, .int x4), (5, .int x5)] [] 16 := by
  intro n
  induction n with
  | zero =>
    intro x3 x4 x5 hs h
    rw [L_X0_lackByGiving_16] at h
    exact absurd h failO_e
  | succ n hrec_16 =>
    intro x3 x4 x5 hs h
    rw [L_X0_lackByGiving_16] at h
    refine q_iload C 5 dX0_lackByGiving_16 rfl ?_
    refine q_aload_n C 1 dX0_lackByGiving_18 rfl ?_
    refine q_gR C fl_X0_21 dX0_lackByGiving_19 h (fun v6 h => ?_)
    refine q_callV C (CN := RJx4a65c) (T := TJx4a65c) (N := 3) [] [.int x5] (fun a0 o2 hs1 hm => m_Jx4a65c_size_8abf5 hm) lk_X0_27 im_Jx4a65c_size_8abf5 se_Jx4a65c_Jx4a65c_size_8abf5 rfl ⟨(Nat.le_of_ble_eq_true rfl), (Nat.le_of_ble_eq_true rfl)⟩ ⟨(Nat.le_of_ble_eq_true rfl), (Nat.le_of_ble_eq_true rfl)⟩ rfl rfl (by simp only [List.map, cat_rf, cat_i, cat_a]; decide) dX0_lackByGiving_22 h (fun v7 hs h => WG_st (st' := [.int v7, .int x5]) rfl ?_)
    refine q_icmp_ge C 99 dX0_lackByGiving_25 (by decide) h (fun h => ?_) (fun h => ?_)
    · refine WG.sub [3] rfl ?_
      exact hk_16_99 _ _ h
    · refine q_aload_n C 1 dX0_lackByGiving_28 rfl ?_
      refine q_iload_n C 2 dX0_lackByGiving_29 rfl ?_
      refine q_iload C 4 dX0_lackByGiving_30 rfl ?_
      refine q_callS C [va_rf a1, .int a2, .int x4] [] (fun o2 hs1 hm => m_X0_largestGroup hm) lk_X0_33 sm_X0_largestGroup ⟨(Nat.le_of_ble_eq_true rfl), (Nat.le_of_ble_eq_true rfl)⟩ ⟨(Nat.le_of_ble_eq_true rfl), (Nat.le_of_ble_eq_true rfl)⟩ rfl rfl (by decide) dX0_lackByGiving_32 h (fun v8 hs h => WG_st (st' := [va_rf v8]) rfl ?_)
      refine q_astore C (fun v9 => [(6, va_rf v9), (0, va_rf a0), (1, va_rf a1), (2, .int a2), (3, .int x3), (4, .int x4), (5, .int x5)]) dX0_lackByGiving_35 (by decide) (fun _ => rfl) h (fun v9 h => ?_)
      refine q_aload C 0 dX0_lackByGiving_37 rfl ?_
      refine q_ifnonnull C 44 dX0_lackByGiving_39 (by decide) h (fun h => ?_) (fun h => ?_)
      · refine q_iload C 5 dX0_lackByGiving_44 rfl ?_
        refine q_iconst C (1 : Int32) dX0_lackByGiving_46 (by decide) ?_
        refine q_aload C 0 dX0_lackByGiving_47 rfl ?_
        refine q_gI C fl_X0_37 dX0_lackByGiving_49 h (fun v10 h => ?_)
        refine q_ishl C dX0_lackByGiving_52 ?_
        refine q_ior C dX0_lackByGiving_53 ?_
        refine q_istore C (fun v11 => [(4, .int v11), (6, va_rf v9), (0, va_rf a0), (1, va_rf a1), (2, .int a2), (3, .int x3), (5, .int x5)]) dX0_lackByGiving_54 (by decide) (fun _ => rfl) h (fun v11 h => ?_)
        refine q_iconst C (0 : Int32) dX0_lackByGiving_56 (by decide) ?_
        refine q_istore C (fun v12 => [(7, .int v12), (4, .int v11), (6, va_rf v9), (0, va_rf a0), (1, va_rf a1), (2, .int a2), (3, .int x3), (5, .int x5)]) dX0_lackByGiving_57 (by decide) (fun _ => rfl) h (fun v12 h => ?_)
        refine WG.sub [3, 4, 5, 6, 1, 7, 2, 0] rfl ?_
        refine w_L_X0_lackByGiving_59 C C2 _ _ _ _ _ _ _ ?_ _ _ _ _ h
        · intro v18 hs h
          refine q_iinc C 5 (1 : Int32) (fun v19 => [(5, .int v19), (0, va_rf a0), (1, va_rf a1), (2, .int a2), (3, .int v18), (4, .int v11)]) dX0_lackByGiving_93 rfl (by decide) (by decide) (fun _ => rfl) h (fun v19 h => ?_)
          refine q_goto C 16 dX0_lackByGiving_96 (by decide) ?_
          refine WG.sub [1, 2, 3, 4, 5, 0] rfl ?_
          exact hrec_16 _ _ _ _ h
      · refine WG.sub [4] rfl ?_
        exact hk_16_42 _ _ h
end M_X0_lackByGiving
def f_X0_lackByGiving (a0 : Nat) (p1 : Option Nat) (p2 : Int32) : OO Int32 :=
    gR (some a0) 3 0 fun v1 =>
    call (f_J7_fill_53178 v1 (0 : Int32)) (fun (v2 : Unit) =>
    lets (0 : Int32) fun (v3 : Int32) =>
    lets (0 : Int32) fun (v4 : Int32) =>
    lets (0 : Int32) fun (v5 : Int32) =>
    L_X0_lackByGiving_16 (some a0) p1 p2 (fun (v21 : Int32) => rtn v21) (fun (v22 : Int32) => rtn v22) 100000 v3 v4 v5) nox
set_option maxRecDepth 100000 in
set_option maxHeartbeats 4000000 in
theorem m_X0_lackByGiving {G : GG} {l : Launch} {a0 : Nat} {p1 : Option Nat} {p2 : Int32} {hs hs' : Hs} {o : Except Nat Int32} (h : f_X0_lackByGiving a0 p1 p2 hs = some (o, hs')) : CT G l yX0_lackByGiving cX0_lackByGiving 8 (some .int) 4 89 0 0 [.ref a0, va_rf p1, .int p2] hs o hs' tvI := by
  refine vx_ofW (cc := cX0_lackByGiving) (maxL := 8) (ret := (some .int)) (by decide +kernel) rfl ?_
  intro p e s m args below meth c s₁ B hml hxt hv
  obtain ⟨hav, hR, hKn⟩ := hv
  subst hav
  have hts := atoms_spec (ws := .code yX0_lackByGiving cX0_lackByGiving 8 (some .int) :: Tg) B.pre
  have C : Cx G l p s m _ c RX0 cX0_lackByGiving 8 := ⟨B.exec, B.bytes, hml, findClass_of_methodNamed B.named, fun w hw => hts w (List.mem_cons_of_mem _ hw), hKn, fun q hq => Nat.le_trans hR.2.2.1 hq⟩
  have C2 : Cy meth c (some .int) := ⟨B.returns, B.notSynchronized, hxt⟩
  have key : WG G p l e { frames := 4, cells := 0, slots := 0, locals := 89 } s m ([.ref a0, va_rf p1, .int p2] : List Value).toArray below meth c 8 0 0 (vx_MQ below (QcT G o hs' tvI) (XCT G o hs') ([.ref a0, va_rf p1, .int p2] : List Value).toArray s 0 0 (gA G)) hs [(0, va_rf (some a0)), (1, va_rf p1), (2, .int p2)] [] 0 := by
    unfold f_X0_lackByGiving at h
    refine q_aload_n C 0 dX0_lackByGiving_0 rfl ?_
    refine q_gR C fl_X0_9 dX0_lackByGiving_1 h (fun v1 h => ?_)
    refine q_iconst C (0 : Int32) dX0_lackByGiving_4 (by decide) ?_
    refine q_callS C [va_rf v1, .int (0 : Int32)] [] (fun o2 hs1 hm => m_J7_fill_53178 hm) lk_X0_15 sm_J7_fill_53178 ⟨(Nat.le_of_ble_eq_true rfl), (Nat.le_of_ble_eq_true rfl)⟩ ⟨(Nat.le_of_ble_eq_true rfl), (Nat.le_of_ble_eq_true rfl)⟩ rfl rfl (by decide) dX0_lackByGiving_5 h (fun v2 hs h => WG_st (st' := []) rfl ?_)
    refine q_iconst C (0 : Int32) dX0_lackByGiving_8 (by decide) ?_
    refine q_istore_n C (fun v3 => [(3, .int v3), (0, va_rf (some a0)), (1, va_rf p1), (2, .int p2)]) dX0_lackByGiving_9 (by decide) (fun _ => rfl) h (fun v3 h => ?_)
    refine q_iconst C (0 : Int32) dX0_lackByGiving_10 (by decide) ?_
    refine q_istore C (fun v4 => [(4, .int v4), (3, .int v3), (0, va_rf (some a0)), (1, va_rf p1), (2, .int p2)]) dX0_lackByGiving_11 (by decide) (fun _ => rfl) h (fun v4 h => ?_)
    refine q_iconst C (0 : Int32) dX0_lackByGiving_13 (by decide) ?_
    refine q_istore C (fun v5 => [(5, .int v5), (4, .int v4), (3, .int v3), (0, va_rf (some a0)), (1, va_rf p1), (2, .int p2)]) dX0_lackByGiving_14 (by decide) (fun _ => rfl) h (fun v5 h => ?_)
    refine WG.sub [3, 4, 5, 2, 1, 0] rfl ?_
    refine w_L_X0_lackByGiving_16 C C2 _ _ _ _ _ ?_ ?_ _ _ _ _ _ h
    · intro v21 hs h
      refine q_iload_n C 0 dX0_lackByGiving_42 rfl ?_
      exact q_iret C C2 rfl (Nat.le_of_ble_eq_true rfl) (Nat.le_of_ble_eq_true rfl) dX0_lackByGiving_43 h
    · intro v22 hs h
      refine q_iload_n C 0 dX0_lackByGiving_99 rfl ?_
      exact q_iret C C2 rfl (Nat.le_of_ble_eq_true rfl) (Nat.le_of_ble_eq_true rfl) dX0_lackByGiving_100 h
  rw [lg_entry_eq]
  cases p1 <;> exact key _ _ _ hR va_S.rf ⟨lv_entry _ (n := 8) (Nat.le_of_ble_eq_true rfl), (c1_r (c1_r (c1_i c1_n)))⟩

theorem cd_X0_excessAbove : Cond.code yX0_excessAbove cX0_excessAbove 6 (some .int) ∈ Tg := Tg_of (i := 571) (by decide +kernel) (by decide +kernel)
section M_X0_excessAbove
variable {p : Program} {l : Launch} {e : Env} {s : State} {m : MethodId} {args : Array Value} {below : List Frame} {meth : Method} {c : Code} {G : GG} {o : Except Nat Int32} {hs' : Hs}
def j_X0_excessAbove_62 (a0 : Option Nat) (a1 : Int32) (a2 : Int32) (a4 : Int32) (s0 : Int32) (s1 : Int32) (rec_5 : Int32 → Int32 → OO Int32) : OO Int32 :=
  lets (s1 + s0) fun (v9 : Int32) =>
    lets (a4 + (1 : Int32)) fun (v10 : Int32) =>
    rec_5 v9 v10
set_option maxRecDepth 100000 in
set_option maxHeartbeats 4000000 in
theorem w_j_X0_excessAbove_62 (C : Cx G l p s m args c RX0 cX0_excessAbove 6) (C2 : Cy meth c (some .int)) {hs : Hs} (a0 : Option Nat) (a1 : Int32) (a2 : Int32) (a4 : Int32) (s0 : Int32) (s1 : Int32) (rec_5 : Int32 → Int32 → OO Int32) (hrec_5 : ∀ (y3 : Int32) (y4 : Int32) hs, rec_5 y3 y4 hs = some (o, hs') → WG G p l e { frames := 3, cells := 0, slots := 0, locals := 64 } s m args below meth c 6 0 0 (vx_MQ below (QcT G o hs' tvI) (XCT G o hs') args s 0 0 (gA G)) hs [(0, va_rf a0), (1, .int a1), (2, .int a2), (3, .int y3), (4, .int y4)] [] 5) (h : j_X0_excessAbove_62 a0 a1 a2 a4 s0 s1 rec_5 hs = some (o, hs')) : WG G p l e { frames := 3, cells := 0, slots := 0, locals := 64 } s m args below meth c 6 0 0 (vx_MQ below (QcT G o hs' tvI) (XCT G o hs') args s 0 0 (gA G)) hs [(0, va_rf a0), (1, .int a1), (2, .int a2), (4, .int a4)] [.int s0, .int s1] 62 := by
  unfold j_X0_excessAbove_62 at h
  refine q_iadd C dX0_excessAbove_62 ?_
  refine q_istore_n C (fun v9 => [(3, .int v9), (0, va_rf a0), (1, .int a1), (2, .int a2), (4, .int a4)]) dX0_excessAbove_63 (by decide) (fun _ => rfl) h (fun v9 h => ?_)
  refine q_iinc C 4 (1 : Int32) (fun v10 => [(4, .int v10), (3, .int v9), (0, va_rf a0), (1, .int a1), (2, .int a2)]) dX0_excessAbove_64 rfl (by decide) (by decide) (fun _ => rfl) h (fun v10 h => ?_)
  refine q_goto C 5 dX0_excessAbove_67 (by decide) ?_
  refine WG.sub [2, 3, 4, 1, 0] rfl ?_
  exact hrec_5 _ _ _ h
def j_X0_excessAbove_61 (a0 : Option Nat) (a1 : Int32) (a2 : Int32) (a4 : Int32) (s0 : Int32) (rec_5 : Int32 → Int32 → OO Int32) : OO Int32 :=
  j_X0_excessAbove_62 a0 a1 a2 a4 (0 : Int32) s0 rec_5
set_option maxRecDepth 100000 in
set_option maxHeartbeats 4000000 in
theorem w_j_X0_excessAbove_61 (C : Cx G l p s m args c RX0 cX0_excessAbove 6) (C2 : Cy meth c (some .int)) {hs : Hs} (a0 : Option Nat) (a1 : Int32) (a2 : Int32) (a4 : Int32) (s0 : Int32) (rec_5 : Int32 → Int32 → OO Int32) (hrec_5 : ∀ (y3 : Int32) (y4 : Int32) hs, rec_5 y3 y4 hs = some (o, hs') → WG G p l e { frames := 3, cells := 0, slots := 0, locals := 64 } s m args below meth c 6 0 0 (vx_MQ below (QcT G o hs' tvI) (XCT G o hs') args s 0 0 (gA G)) hs [(0, va_rf a0), (1, .int a1), (2, .int a2), (3, .int y3), (4, .int y4)] [] 5) (h : j_X0_excessAbove_61 a0 a1 a2 a4 s0 rec_5 hs = some (o, hs')) : WG G p l e { frames := 3, cells := 0, slots := 0, locals := 64 } s m args below meth c 6 0 0 (vx_MQ below (QcT G o hs' tvI) (XCT G o hs') args s 0 0 (gA G)) hs [(0, va_rf a0), (1, .int a1), (2, .int a2), (4, .int a4)] [.int s0] 61 := by
  unfold j_X0_excessAbove_61 at h
  refine q_iconst C (0 : Int32) dX0_excessAbove_61 (by decide) ?_
  exact w_j_X0_excessAbove_62 C C2 _ _ _ _ _ _ _ hrec_5 h
def L_X0_excessAbove_5 (a0 : Option Nat) (a1 : Int32) (a2 : Int32) (k_5_70 : Int32 → OO Int32) : Nat → Int32 → Int32 → OO Int32
  | 0, _, _ => failO
  | n + 1, x3, x4 =>
    gR a0 9 2 fun v3 =>
    rcv v3 2 fun r15 => call (f_Jx4a65c_size_8abf5 r15 ) (fun (v4 : Int32) =>
    (if v4 ≤ x4 then
    k_5_70 x3
    else
    gR a0 9 2 fun v5 =>
    rcv v5 2 fun r14 => call (f_Jx4a65c_get_915e3 r14 x4) (fun (v6 : Option Nat) =>
    cst v6 7 (
    lets v6 fun (v7 : Option Nat) =>
    gI v7 7 3 fun v8 =>
    (if ¬ v8 = a1 then
    j_X0_excessAbove_61 a0 a1 a2 x4 x3 (L_X0_excessAbove_5 a0 a1 a2 k_5_70 n)
    else
    gR v7 7 1 fun v11 =>
    gI v11 5 0 fun v12 =>
    (if v12 ≤ a2 then
    j_X0_excessAbove_61 a0 a1 a2 x4 x3 (L_X0_excessAbove_5 a0 a1 a2 k_5_70 n)
    else
    gI v7 7 4 fun v13 =>
    j_X0_excessAbove_62 a0 a1 a2 x4 v13 x3 (L_X0_excessAbove_5 a0 a1 a2 k_5_70 n))))) nox)) nox
set_option maxRecDepth 100000 in
set_option maxHeartbeats 4000000 in
theorem w_L_X0_excessAbove_5 (C : Cx G l p s m args c RX0 cX0_excessAbove 6) (C2 : Cy meth c (some .int)) (a0 : Option Nat) (a1 : Int32) (a2 : Int32) (k_5_70 : Int32 → OO Int32) (hk_5_70 : ∀ (y3 : Int32) hs, k_5_70 y3 hs = some (o, hs') → WG G p l e { frames := 3, cells := 0, slots := 0, locals := 64 } s m args below meth c 6 0 0 (vx_MQ below (QcT G o hs' tvI) (XCT G o hs') args s 0 0 (gA G)) hs [(0, va_rf a0), (1, .int a1), (2, .int a2), (3, .int y3)] [] 70) : ∀ (n : Nat) (x3 : Int32) (x4 : Int32) (hs : Hs), L_X0_excessAbove_5 a0 a1 a2 k_5_70 n x3 x4 hs = some (o, hs') → WG G p l e { frames := 3, cells := 0, slots := 0, locals := 64 } s m args below meth c 6 0 0 (vx_MQ below (QcT G o hs' tvI) (XCT G o hs') args s 0 0 (gA G)) hs [(0, va_rf a0), (1, .int a1), (2, .int a2), (3, .int x3), (4, .int x4)] [] 5 := by
  intro n
  induction n with
  | zero =>
    intro x3 x4 hs h
    rw [L_X0_excessAbove_5] at h
    exact absurd h failO_e
  | succ n hrec_5 =>
    intro x3 x4 hs h
    rw [L_X0_excessAbove_5] at h
    refine q_iload C 4 dX0_excessAbove_5 rfl ?_
    refine q_aload_n C 0 dX0_excessAbove_7 rfl ?_
    refine q_gR C fl_X0_21 dX0_excessAbove_8 h (fun v3 h => ?_)
    refine q_callV C (CN := RJx4a65c) (T := TJx4a65c) (N := 3) [] [.int x4] (fun a0 o2 hs1 hm => m_Jx4a65c_size_8abf5 hm) lk_X0_27 im_Jx4a65c_size_8abf5 se_Jx4a65c_Jx4a65c_size_8abf5 rfl ⟨(Nat.le_of_ble_eq_true rfl), (Nat.le_of_ble_eq_true rfl)⟩ ⟨(Nat.le_of_ble_eq_true rfl), (Nat.le_of_ble_eq_true rfl)⟩ rfl rfl (by simp only [List.map, cat_rf, cat_i, cat_a]; decide) dX0_excessAbove_11 h (fun v4 hs h => WG_st (st' := [.int v4, .int x4]) rfl ?_)
    refine q_icmp_ge C 70 dX0_excessAbove_14 (by decide) h (fun h => ?_) (fun h => ?_)
    · refine WG.sub [0, 1, 2, 3] rfl ?_
      exact hk_5_70 _ _ h
    · refine q_aload_n C 0 dX0_excessAbove_17 rfl ?_
      refine q_gR C fl_X0_21 dX0_excessAbove_18 h (fun v5 h => ?_)
      refine q_iload C 4 dX0_excessAbove_21 rfl ?_
      refine q_callV C (CN := RJx4a65c) (T := TJx4a65c) (N := 3) [.int x4] [] (fun a0 o2 hs1 hm => m_Jx4a65c_get_915e3 hm) lk_X0_50 im_Jx4a65c_get_915e3 se_Jx4a65c_Jx4a65c_get_915e3 rfl ⟨(Nat.le_of_ble_eq_true rfl), (Nat.le_of_ble_eq_true rfl)⟩ ⟨(Nat.le_of_ble_eq_true rfl), (Nat.le_of_ble_eq_true rfl)⟩ rfl rfl (by decide) dX0_excessAbove_23 h (fun v6 hs h => WG_st (st' := [va_rf v6]) rfl ?_)
      refine q_castS C (nm := RX4) (T := TX4) (N := 18) rfl wc_X0_38 dX0_excessAbove_26 h (fun h => ?_)
      refine q_astore C (fun v7 => [(5, va_rf v7), (0, va_rf a0), (1, .int a1), (2, .int a2), (3, .int x3), (4, .int x4)]) dX0_excessAbove_29 (by decide) (fun _ => rfl) h (fun v7 h => ?_)
      refine q_iload_n C 4 dX0_excessAbove_31 rfl ?_
      refine q_aload C 0 dX0_excessAbove_32 rfl ?_
      refine q_gI C fl_X0_54 dX0_excessAbove_34 h (fun v8 h => ?_)
      refine q_iload_n C 2 dX0_excessAbove_37 rfl ?_
      refine q_icmp_ne C 61 dX0_excessAbove_38 (by decide) h (fun h => ?_) (fun h => ?_)
      · refine WG.sub [1, 2, 3, 5] rfl ?_
        exact w_j_X0_excessAbove_61 C C2 _ _ _ _ _ _ hrec_5 h
      · refine q_aload C 0 dX0_excessAbove_41 rfl ?_
        refine q_gR C fl_X0_61 dX0_excessAbove_43 h (fun v11 h => ?_)
        refine q_gI C fl_X0_65 dX0_excessAbove_46 h (fun v12 h => ?_)
        refine q_iload_n C 3 dX0_excessAbove_49 rfl ?_
        refine q_icmp_le C 61 dX0_excessAbove_50 (by decide) h (fun h => ?_) (fun h => ?_)
        · refine WG.sub [1, 2, 3, 5] rfl ?_
          exact w_j_X0_excessAbove_61 C C2 _ _ _ _ _ _ hrec_5 h
        · refine q_aload C 0 dX0_excessAbove_53 rfl ?_
          refine q_gI C fl_X0_43 dX0_excessAbove_55 h (fun v13 h => ?_)
          refine q_goto C 62 dX0_excessAbove_58 (by decide) ?_
          refine WG.sub [1, 2, 3, 5] rfl ?_
          exact w_j_X0_excessAbove_62 C C2 _ _ _ _ _ _ _ hrec_5 h
def j_X0_excessAbove_132 (a0 : Option Nat) (a1 : Int32) (a2 : Int32) (a4 : Int32) (s0 : Int32) (s1 : Int32) (rec_73 : Int32 → Int32 → OO Int32) : OO Int32 :=
  lets (s1 - s0) fun (v24 : Int32) =>
    lets (a4 + (1 : Int32)) fun (v25 : Int32) =>
    rec_73 v24 v25
set_option maxRecDepth 100000 in
set_option maxHeartbeats 4000000 in
theorem w_j_X0_excessAbove_132 (C : Cx G l p s m args c RX0 cX0_excessAbove 6) (C2 : Cy meth c (some .int)) {hs : Hs} (a0 : Option Nat) (a1 : Int32) (a2 : Int32) (a4 : Int32) (s0 : Int32) (s1 : Int32) (rec_73 : Int32 → Int32 → OO Int32) (hrec_73 : ∀ (y3 : Int32) (y4 : Int32) hs, rec_73 y3 y4 hs = some (o, hs') → WG G p l e { frames := 3, cells := 0, slots := 0, locals := 64 } s m args below meth c 6 0 0 (vx_MQ below (QcT G o hs' tvI) (XCT G o hs') args s 0 0 (gA G)) hs [(0, va_rf a0), (1, .int a1), (2, .int a2), (3, .int y3), (4, .int y4)] [] 73) (h : j_X0_excessAbove_132 a0 a1 a2 a4 s0 s1 rec_73 hs = some (o, hs')) : WG G p l e { frames := 3, cells := 0, slots := 0, locals := 64 } s m args below meth c 6 0 0 (vx_MQ below (QcT G o hs' tvI) (XCT G o hs') args s 0 0 (gA G)) hs [(0, va_rf a0), (1, .int a1), (2, .int a2), (4, .int a4)] [.int s0, .int s1] 132 := by
  unfold j_X0_excessAbove_132 at h
  refine q_isub C dX0_excessAbove_132 ?_
  refine q_istore_n C (fun v24 => [(3, .int v24), (0, va_rf a0), (1, .int a1), (2, .int a2), (4, .int a4)]) dX0_excessAbove_133 (by decide) (fun _ => rfl) h (fun v24 h => ?_)
  refine q_iinc C 4 (1 : Int32) (fun v25 => [(4, .int v25), (3, .int v24), (0, va_rf a0), (1, .int a1), (2, .int a2)]) dX0_excessAbove_134 rfl (by decide) (by decide) (fun _ => rfl) h (fun v25 h => ?_)
  refine q_goto C 73 dX0_excessAbove_137 (by decide) ?_
  refine WG.sub [2, 3, 4, 1, 0] rfl ?_
  exact hrec_73 _ _ _ h
def j_X0_excessAbove_131 (a0 : Option Nat) (a1 : Int32) (a2 : Int32) (a4 : Int32) (s0 : Int32) (rec_73 : Int32 → Int32 → OO Int32) : OO Int32 :=
  j_X0_excessAbove_132 a0 a1 a2 a4 (0 : Int32) s0 rec_73
set_option maxRecDepth 100000 in
set_option maxHeartbeats 4000000 in
theorem w_j_X0_excessAbove_131 (C : Cx G l p s m args c RX0 cX0_excessAbove 6) (C2 : Cy meth c (some .int)) {hs : Hs} (a0 : Option Nat) (a1 : Int32) (a2 : Int32) (a4 : Int32) (s0 : Int32) (rec_73 : Int32 → Int32 → OO Int32) (hrec_73 : ∀ (y3 : Int32) (y4 : Int32) hs, rec_73 y3 y4 hs = some (o, hs') → WG G p l e { frames := 3, cells := 0, slots := 0, locals := 64 } s m args below meth c 6 0 0 (vx_MQ below (QcT G o hs' tvI) (XCT G o hs') args s 0 0 (gA G)) hs [(0, va_rf a0), (1, .int a1), (2, .int a2), (3, .int y3), (4, .int y4)] [] 73) (h : j_X0_excessAbove_131 a0 a1 a2 a4 s0 rec_73 hs = some (o, hs')) : WG G p l e { frames := 3, cells := 0, slots := 0, locals := 64 } s m args below meth c 6 0 0 (vx_MQ below (QcT G o hs' tvI) (XCT G o hs') args s 0 0 (gA G)) hs [(0, va_rf a0), (1, .int a1), (2, .int a2), (4, .int a4)] [.int s0] 131 := by
  unfold j_X0_excessAbove_131 at h
  refine q_iconst C (0 : Int32) dX0_excessAbove_131 (by decide) ?_
  exact w_j_X0_excessAbove_132 C C2 _ _ _ _ _ _ _ hrec_73 h
def L_X0_excessAbove_73 (a0 : Option Nat) (a1 : Int32) (a2 : Int32) (k_73_140 : Int32 → OO Int32) : Nat → Int32 → Int32 → OO Int32
  | 0, _, _ => failO
  | n + 1, x3, x4 =>
    gR a0 9 0 fun v18 =>
    rcv v18 2 fun r29 => call (f_Jx4a65c_size_8abf5 r29 ) (fun (v19 : Int32) =>
    (if v19 ≤ x4 then
    k_73_140 x3
    else
    gR a0 9 0 fun v20 =>
    rcv v20 2 fun r28 => call (f_Jx4a65c_get_915e3 r28 x4) (fun (v21 : Option Nat) =>
    cst v21 8 (
    lets v21 fun (v22 : Option Nat) =>
    gI v22 8 4 fun v23 =>
    (if v23 = 0 then
    j_X0_excessAbove_131 a0 a1 a2 x4 x3 (L_X0_excessAbove_73 a0 a1 a2 k_73_140 n)
    else
    gI v22 8 2 fun v26 =>
    (if ¬ v26 = a1 then
    j_X0_excessAbove_131 a0 a1 a2 x4 x3 (L_X0_excessAbove_73 a0 a1 a2 k_73_140 n)
    else
    gI v22 8 3 fun v27 =>
    (if v27 ≤ a2 then
    j_X0_excessAbove_131 a0 a1 a2 x4 x3 (L_X0_excessAbove_73 a0 a1 a2 k_73_140 n)
    else
    j_X0_excessAbove_132 a0 a1 a2 x4 (30 : Int32) x3 (L_X0_excessAbove_73 a0 a1 a2 k_73_140 n)))))) nox)) nox
set_option maxRecDepth 100000 in
set_option maxHeartbeats 4000000 in
theorem w_L_X0_excessAbove_73 (C : Cx G l p s m args c RX0 cX0_excessAbove 6) (C2 : Cy meth c (some .int)) (a0 : Option Nat) (a1 : Int32) (a2 : Int32) (k_73_140 : Int32 → OO Int32) (hk_73_140 : ∀ (y3 : Int32) hs, k_73_140 y3 hs = some (o, hs') → WG G p l e { frames := 3, cells := 0, slots := 0, locals := 64 } s m args below meth c 6 0 0 (vx_MQ below (QcT G o hs' tvI) (XCT G o hs') args s 0 0 (gA G)) hs [(3, .int y3)] [] 140) : ∀ (n : Nat) (x3 : Int32) (x4 : Int32) (hs : Hs), L_X0_excessAbove_73 a0 a1 a2 k_73_140 n x3 x4 hs = some (o, hs') → WG G p l e { frames := 3, cells := 0, slots := 0, locals := 64 } s m args below meth c 6 0 0 (vx_MQ below (QcT G o hs' tvI) (XCT G o hs') args s 0 0 (gA G)) hs [(0, va_rf a0), (1, .int a1), (2, .int a2), (3, .int x3), (4, .int x4)] [] 73 := by
  intro n
  induction n with
  | zero =>
    intro x3 x4 hs h
    rw [L_X0_excessAbove_73] at h
    exact absurd h failO_e
  | succ n hrec_73 =>
    intro x3 x4 hs h
    rw [L_X0_excessAbove_73] at h
    refine q_iload C 4 dX0_excessAbove_73 rfl ?_
    refine q_aload_n C 0 dX0_excessAbove_75 rfl ?_
    refine q_gR C fl_X0_70 dX0_excessAbove_76 h (fun v18 h => ?_)
    refine q_callV C (CN := RJx4a65c) (T := TJx4a65c) (N := 3) [] [.int x4] (fun a0 o2 hs1 hm => m_Jx4a65c_size_8abf5 hm) lk_X0_27 im_Jx4a65c_size_8abf5 se_Jx4a65c_Jx4a65c_size_8abf5 rfl ⟨(Nat.le_of_ble_eq_true rfl), (Nat.le_of_ble_eq_true rfl)⟩ ⟨(Nat.le_of_ble_eq_true rfl), (Nat.le_of_ble_eq_true rfl)⟩ rfl rfl (by simp only [List.map, cat_rf, cat_i, cat_a]; decide) dX0_excessAbove_79 h (fun v19 hs h => WG_st (st' := [.int v19, .int x4]) rfl ?_)
    refine q_icmp_ge C 140 dX0_excessAbove_82 (by decide) h (fun h => ?_) (fun h => ?_)
    · refine WG.sub [3] rfl ?_
      exact hk_73_140 _ _ h
    · refine q_aload_n C 0 dX0_excessAbove_85 rfl ?_
      refine q_gR C fl_X0_70 dX0_excessAbove_86 h (fun v20 h => ?_)
      refine q_iload C 4 dX0_excessAbove_89 rfl ?_
      refine q_callV C (CN := RJx4a65c) (T := TJx4a65c) (N := 3) [.int x4] [] (fun a0 o2 hs1 hm => m_Jx4a65c_get_915e3 hm) lk_X0_50 im_Jx4a65c_get_915e3 se_Jx4a65c_Jx4a65c_get_915e3 rfl ⟨(Nat.le_of_ble_eq_true rfl), (Nat.le_of_ble_eq_true rfl)⟩ ⟨(Nat.le_of_ble_eq_true rfl), (Nat.le_of_ble_eq_true rfl)⟩ rfl rfl (by decide) dX0_excessAbove_91 h (fun v21 hs h => WG_st (st' := [va_rf v21]) rfl ?_)
      refine q_castS C (nm := RX5) (T := TX5) (N := 5) rfl wc_X0_73 dX0_excessAbove_94 h (fun h => ?_)
      refine q_astore C (fun v22 => [(5, va_rf v22), (0, va_rf a0), (1, .int a1), (2, .int a2), (3, .int x3), (4, .int x4)]) dX0_excessAbove_97 (by decide) (fun _ => rfl) h (fun v22 h => ?_)
      refine q_iload_n C 4 dX0_excessAbove_99 rfl ?_
      refine q_aload C 0 dX0_excessAbove_100 rfl ?_
      refine q_gI C fl_X0_75 dX0_excessAbove_102 h (fun v23 h => ?_)
      refine q_if_eq C 131 dX0_excessAbove_105 (by decide) h (fun h => ?_) (fun h => ?_)
      · refine WG.sub [1, 2, 3, 5] rfl ?_
        exact w_j_X0_excessAbove_131 C C2 _ _ _ _ _ _ hrec_73 h
      · refine q_aload C 0 dX0_excessAbove_108 rfl ?_
        refine q_gI C fl_X0_79 dX0_excessAbove_110 h (fun v26 h => ?_)
        refine q_iload_n C 2 dX0_excessAbove_113 rfl ?_
        refine q_icmp_ne C 131 dX0_excessAbove_114 (by decide) h (fun h => ?_) (fun h => ?_)
        · refine WG.sub [1, 2, 3, 5] rfl ?_
          exact w_j_X0_excessAbove_131 C C2 _ _ _ _ _ _ hrec_73 h
        · refine q_aload C 0 dX0_excessAbove_117 rfl ?_
          refine q_gI C fl_X0_80 dX0_excessAbove_119 h (fun v27 h => ?_)
          refine q_iload_n C 3 dX0_excessAbove_122 rfl ?_
          refine q_icmp_le C 131 dX0_excessAbove_123 (by decide) h (fun h => ?_) (fun h => ?_)
          · refine WG.sub [1, 2, 3, 5] rfl ?_
            exact w_j_X0_excessAbove_131 C C2 _ _ _ _ _ _ hrec_73 h
          · refine q_bipush C (30 : Int32) dX0_excessAbove_126 (by decide) ?_
            refine q_goto C 132 dX0_excessAbove_128 (by decide) ?_
            refine WG.sub [1, 2, 3, 5] rfl ?_
            exact w_j_X0_excessAbove_132 C C2 _ _ _ _ _ _ _ hrec_73 h
end M_X0_excessAbove
def f_X0_excessAbove (p0 : Option Nat) (p1 : Int32) (p2 : Int32) : OO Int32 :=
    lets (0 : Int32) fun (v1 : Int32) =>
    lets (0 : Int32) fun (v2 : Int32) =>
    L_X0_excessAbove_5 p0 p1 p2 (fun (v16 : Int32) => lets (0 : Int32) fun (v17 : Int32) =>
    L_X0_excessAbove_73 p0 p1 p2 (fun (v30 : Int32) => rtn v30) 100000 v16 v17) 100000 v1 v2
set_option maxRecDepth 100000 in
set_option maxHeartbeats 4000000 in
theorem m_X0_excessAbove {G : GG} {l : Launch} {p0 : Option Nat} {p1 : Int32} {p2 : Int32} {hs hs' : Hs} {o : Except Nat Int32} (h : f_X0_excessAbove p0 p1 p2 hs = some (o, hs')) : CT G l yX0_excessAbove cX0_excessAbove 6 (some .int) 3 64 0 0 [va_rf p0, .int p1, .int p2] hs o hs' tvI := by
  refine vx_ofW (cc := cX0_excessAbove) (maxL := 6) (ret := (some .int)) (by decide +kernel) rfl ?_
  intro p e s m args below meth c s₁ B hml hxt hv
  obtain ⟨hav, hR, hKn⟩ := hv
  subst hav
  have hts := atoms_spec (ws := .code yX0_excessAbove cX0_excessAbove 6 (some .int) :: Tg) B.pre
  have C : Cx G l p s m _ c RX0 cX0_excessAbove 6 := ⟨B.exec, B.bytes, hml, findClass_of_methodNamed B.named, fun w hw => hts w (List.mem_cons_of_mem _ hw), hKn, fun q hq => Nat.le_trans hR.2.2.1 hq⟩
  have C2 : Cy meth c (some .int) := ⟨B.returns, B.notSynchronized, hxt⟩
  have key : WG G p l e { frames := 3, cells := 0, slots := 0, locals := 64 } s m ([va_rf p0, .int p1, .int p2] : List Value).toArray below meth c 6 0 0 (vx_MQ below (QcT G o hs' tvI) (XCT G o hs') ([va_rf p0, .int p1, .int p2] : List Value).toArray s 0 0 (gA G)) hs [(0, va_rf p0), (1, .int p1), (2, .int p2)] [] 0 := by
    unfold f_X0_excessAbove at h
    refine q_iconst C (0 : Int32) dX0_excessAbove_0 (by decide) ?_
    refine q_istore_n C (fun v1 => [(3, .int v1), (0, va_rf p0), (1, .int p1), (2, .int p2)]) dX0_excessAbove_1 (by decide) (fun _ => rfl) h (fun v1 h => ?_)
    refine q_iconst C (0 : Int32) dX0_excessAbove_2 (by decide) ?_
    refine q_istore C (fun v2 => [(4, .int v2), (3, .int v1), (0, va_rf p0), (1, .int p1), (2, .int p2)]) dX0_excessAbove_3 (by decide) (fun _ => rfl) h (fun v2 h => ?_)
    refine WG.sub [2, 3, 4, 1, 0] rfl ?_
    refine w_L_X0_excessAbove_5 C C2 _ _ _ _ ?_ _ _ _ _ h
    · intro v16 hs h
      refine q_iconst C (0 : Int32) dX0_excessAbove_70 (by decide) ?_
      refine q_istore C (fun v17 => [(4, .int v17), (0, va_rf p0), (1, .int p1), (2, .int p2), (3, .int v16)]) dX0_excessAbove_71 (by decide) (fun _ => rfl) h (fun v17 h => ?_)
      refine WG.sub [1, 2, 3, 4, 0] rfl ?_
      refine w_L_X0_excessAbove_73 C C2 _ _ _ _ ?_ _ _ _ _ h
      · intro v30 hs h
        refine q_iload_n C 0 dX0_excessAbove_140 rfl ?_
        exact q_iret C C2 rfl (Nat.le_of_ble_eq_true rfl) (Nat.le_of_ble_eq_true rfl) dX0_excessAbove_141 h
  rw [lg_entry_eq]
  cases p0 <;> exact key _ _ _ hR va_S.rf ⟨lv_entry _ (n := 6) (Nat.le_of_ble_eq_true rfl), (c1_r (c1_i (c1_i c1_n)))⟩

theorem cd_X0_lackByNumbers : Cond.code yX0_lackByNumbers cX0_lackByNumbers 5 (some .int) ∈ Tg := Tg_of (i := 568) (by decide +kernel) (by decide +kernel)
theorem ml_X0_83 : Cond.methodLink RX0 83 yX0_excessAbove ∈ Tg := Tg_of (i := 569) (by decide +kernel) (by decide +kernel)
theorem lk_X0_83 : Lk RX0 83 yX0_excessAbove cX0_excessAbove 6 (some .int) 3 := ⟨ml_X0_83, cd_X0_excessAbove, iw_X0, by decide +kernel⟩
theorem ml_X0_87 : Cond.methodLink RX0 87 Lib.Math.max.name ∈ Tg := Tg_of (i := 572) (by decide +kernel) (by decide +kernel)
theorem sm_max : Cond.static Lib.Math.max.name ∈ Tg := Tg_of (i := 573) (by decide +kernel) (by decide +kernel)
theorem iw_math : Cond.initialized "java/lang/Math" ∈ Tg := Tg_of (i := 96) (by decide +kernel) (by decide +kernel)
theorem cd_max : Cond.code Lib.Math.max.name Lib.Math.max.code 2 (some .int) ∈ Tg := Tg_of (i := 574) (by decide +kernel) (by decide +kernel)
theorem sm_X0_excessAbove : Cond.static yX0_excessAbove ∈ Tg := Tg_of (i := 570) (by decide +kernel) (by decide +kernel)
section M_X0_lackByNumbers
variable {p : Program} {l : Launch} {e : Env} {s : State} {m : MethodId} {args : Array Value} {below : List Frame} {meth : Method} {c : Code} {G : GG} {o : Except Nat Int32} {hs' : Hs}
def L_X0_lackByNumbers_14 (a1 : Option Nat) (a2 : Int32) (k_14_57 : Int32 → OO Int32) : Nat → Int32 → Int32 → OO Int32
  | 0, _, _ => failO
  | n + 1, x3, x4 =>
    gR a1 9 0 fun v4 =>
    rcv v4 2 fun r13 => call (f_Jx4a65c_size_8abf5 r13 ) (fun (v5 : Int32) =>
    (if v5 ≤ x4 then
    k_14_57 x3
    else
    gR a1 9 0 fun v6 =>
    rcv v6 2 fun r12 => call (f_Jx4a65c_get_915e3 r12 x4) (fun (v7 : Option Nat) =>
    cst v7 8 (
    gI v7 8 3 fun v8 =>
    call (f_X0_excessAbove a1 a2 v8) (fun (v9 : Int32) =>
    lets (if x3 < v9 then v9 else x3) fun (v10 : Int32) =>
    lets (x4 + (1 : Int32)) fun (v11 : Int32) =>
    (L_X0_lackByNumbers_14 a1 a2 k_14_57 n) v10 v11) nox)) nox)) nox
set_option maxRecDepth 100000 in
set_option maxHeartbeats 4000000 in
theorem w_L_X0_lackByNumbers_14 (C : Cx G l p s m args c RX0 cX0_lackByNumbers 5) (C2 : Cy meth c (some .int)) (a1 : Option Nat) (a2 : Int32) (k_14_57 : Int32 → OO Int32) (hk_14_57 : ∀ (y3 : Int32) hs, k_14_57 y3 hs = some (o, hs') → WG G p l e { frames := 4, cells := 0, slots := 0, locals := 89 } s m args below meth c 5 0 0 (vx_MQ below (QcT G o hs' tvI) (XCT G o hs') args s 0 0 (gA G)) hs [(3, .int y3)] [] 57) : ∀ (n : Nat) (x3 : Int32) (x4 : Int32) (hs : Hs), L_X0_lackByNumbers_14 a1 a2 k_14_57 n x3 x4 hs = some (o, hs') → WG G p l e { frames := 4, cells := 0, slots := 0, locals := 89 } s m args below meth c 5 0 0 (vx_MQ below (QcT G o hs' tvI) (XCT G o hs') args s 0 0 (gA G)) hs [(1, va_rf a1), (2, .int a2), (3, .int x3), (4, .int x4)] [] 14 := by
  intro n
  induction n with
  | zero =>
    intro x3 x4 hs h
    rw [L_X0_lackByNumbers_14] at h
    exact absurd h failO_e
  | succ n hrec_14 =>
    intro x3 x4 hs h
    rw [L_X0_lackByNumbers_14] at h
    refine q_iload C 3 dX0_lackByNumbers_14 rfl ?_
    refine q_aload_n C 0 dX0_lackByNumbers_16 rfl ?_
    refine q_gR C fl_X0_70 dX0_lackByNumbers_17 h (fun v4 h => ?_)
    refine q_callV C (CN := RJx4a65c) (T := TJx4a65c) (N := 3) [] [.int x4] (fun a0 o2 hs1 hm => m_Jx4a65c_size_8abf5 hm) lk_X0_27 im_Jx4a65c_size_8abf5 se_Jx4a65c_Jx4a65c_size_8abf5 rfl ⟨(Nat.le_of_ble_eq_true rfl), (Nat.le_of_ble_eq_true rfl)⟩ ⟨(Nat.le_of_ble_eq_true rfl), (Nat.le_of_ble_eq_true rfl)⟩ rfl rfl (by simp only [List.map, cat_rf, cat_i, cat_a]; decide) dX0_lackByNumbers_20 h (fun v5 hs h => WG_st (st' := [.int v5, .int x4]) rfl ?_)
    refine q_icmp_ge C 57 dX0_lackByNumbers_23 (by decide) h (fun h => ?_) (fun h => ?_)
    · refine WG.sub [2] rfl ?_
      exact hk_14_57 _ _ h
    · refine q_iload_n C 2 dX0_lackByNumbers_26 rfl ?_
      refine q_aload_n C 0 dX0_lackByNumbers_27 rfl ?_
      refine q_iload_n C 1 dX0_lackByNumbers_28 rfl ?_
      refine q_aload_n C 0 dX0_lackByNumbers_29 rfl ?_
      refine q_gR C fl_X0_70 dX0_lackByNumbers_30 h (fun v6 h => ?_)
      refine q_iload C 3 dX0_lackByNumbers_33 rfl ?_
      refine q_callV C (CN := RJx4a65c) (T := TJx4a65c) (N := 3) [.int x4] [.int a2, va_rf a1, .int x3] (fun a0 o2 hs1 hm => m_Jx4a65c_get_915e3 hm) lk_X0_50 im_Jx4a65c_get_915e3 se_Jx4a65c_Jx4a65c_get_915e3 rfl ⟨(Nat.le_of_ble_eq_true rfl), (Nat.le_of_ble_eq_true rfl)⟩ ⟨(Nat.le_of_ble_eq_true rfl), (Nat.le_of_ble_eq_true rfl)⟩ rfl rfl (by simp only [List.map, cat_rf, cat_i, cat_a]; decide) dX0_lackByNumbers_35 h (fun v7 hs h => WG_st (st' := [va_rf v7, .int a2, va_rf a1, .int x3]) rfl ?_)
      refine q_castS C (nm := RX5) (T := TX5) (N := 5) rfl wc_X0_73 dX0_lackByNumbers_38 h (fun h => ?_)
      refine q_gI C fl_X0_80 dX0_lackByNumbers_41 h (fun v8 h => ?_)
      refine q_callS C [va_rf a1, .int a2, .int v8] [.int x3] (fun o2 hs1 hm => m_X0_excessAbove hm) lk_X0_83 sm_X0_excessAbove ⟨(Nat.le_of_ble_eq_true rfl), (Nat.le_of_ble_eq_true rfl)⟩ ⟨(Nat.le_of_ble_eq_true rfl), (Nat.le_of_ble_eq_true rfl)⟩ rfl rfl (by simp only [List.map, cat_rf, cat_i, cat_a]; decide) dX0_lackByNumbers_44 h (fun v9 hs h => WG_st (st' := [.int v9, .int x3]) rfl ?_)
      refine q_max C ml_X0_87 sm_max iw_math cd_max (Nat.le_of_ble_eq_true rfl) (Nat.le_of_ble_eq_true rfl) (Nat.le_of_ble_eq_true rfl) (Nat.le_of_ble_eq_true rfl) (by decide) dX0_lackByNumbers_47 ?_
      refine q_istore_n C (fun v10 => [(3, .int v10), (1, va_rf a1), (2, .int a2), (4, .int x4)]) dX0_lackByNumbers_50 (by decide) (fun _ => rfl) h (fun v10 h => ?_)
      refine q_iinc C 3 (1 : Int32) (fun v11 => [(4, .int v11), (3, .int v10), (1, va_rf a1), (2, .int a2)]) dX0_lackByNumbers_51 rfl (by decide) (by decide) (fun _ => rfl) h (fun v11 h => ?_)
      refine q_goto C 14 dX0_lackByNumbers_54 (by decide) ?_
      refine WG.sub [2, 3, 1, 0] rfl ?_
      exact hrec_14 _ _ _ h
end M_X0_lackByNumbers
def f_X0_lackByNumbers (a0 : Nat) (p1 : Option Nat) (p2 : Int32) : OO Int32 :=
    call (f_X0_excessAbove p1 p2 (0 : Int32)) (fun (v1 : Int32) =>
    lets ((if (0 : Int32) < v1 then v1 else (0 : Int32))) fun (v2 : Int32) =>
    lets (0 : Int32) fun (v3 : Int32) =>
    L_X0_lackByNumbers_14 p1 p2 (fun (v14 : Int32) => rtn v14) 100000 v2 v3) nox
set_option maxRecDepth 100000 in
set_option maxHeartbeats 4000000 in
theorem m_X0_lackByNumbers {G : GG} {l : Launch} {a0 : Nat} {p1 : Option Nat} {p2 : Int32} {hs hs' : Hs} {o : Except Nat Int32} (h : f_X0_lackByNumbers a0 p1 p2 hs = some (o, hs')) : CT G l yX0_lackByNumbers cX0_lackByNumbers 5 (some .int) 4 89 0 0 [.ref a0, va_rf p1, .int p2] hs o hs' tvI := by
  refine vx_ofW (cc := cX0_lackByNumbers) (maxL := 5) (ret := (some .int)) (by decide +kernel) rfl ?_
  intro p e s m args below meth c s₁ B hml hxt hv
  obtain ⟨hav, hR, hKn⟩ := hv
  subst hav
  have hts := atoms_spec (ws := .code yX0_lackByNumbers cX0_lackByNumbers 5 (some .int) :: Tg) B.pre
  have C : Cx G l p s m _ c RX0 cX0_lackByNumbers 5 := ⟨B.exec, B.bytes, hml, findClass_of_methodNamed B.named, fun w hw => hts w (List.mem_cons_of_mem _ hw), hKn, fun q hq => Nat.le_trans hR.2.2.1 hq⟩
  have C2 : Cy meth c (some .int) := ⟨B.returns, B.notSynchronized, hxt⟩
  have key : WG G p l e { frames := 4, cells := 0, slots := 0, locals := 89 } s m ([.ref a0, va_rf p1, .int p2] : List Value).toArray below meth c 5 0 0 (vx_MQ below (QcT G o hs' tvI) (XCT G o hs') ([.ref a0, va_rf p1, .int p2] : List Value).toArray s 0 0 (gA G)) hs [(0, va_rf (some a0)), (1, va_rf p1), (2, .int p2)] [] 0 := by
    unfold f_X0_lackByNumbers at h
    refine q_iconst C (0 : Int32) dX0_lackByNumbers_0 (by decide) ?_
    refine q_aload_n C 1 dX0_lackByNumbers_1 rfl ?_
    refine q_iload_n C 2 dX0_lackByNumbers_2 rfl ?_
    refine q_iconst C (0 : Int32) dX0_lackByNumbers_3 (by decide) ?_
    refine q_callS C [va_rf p1, .int p2, .int (0 : Int32)] [.int (0 : Int32)] (fun o2 hs1 hm => m_X0_excessAbove hm) lk_X0_83 sm_X0_excessAbove ⟨(Nat.le_of_ble_eq_true rfl), (Nat.le_of_ble_eq_true rfl)⟩ ⟨(Nat.le_of_ble_eq_true rfl), (Nat.le_of_ble_eq_true rfl)⟩ rfl rfl (by simp only [List.map, cat_rf, cat_i, cat_a]; decide) dX0_lackByNumbers_4 h (fun v1 hs h => WG_st (st' := [.int v1, .int (0 : Int32)]) rfl ?_)
    refine q_max C ml_X0_87 sm_max iw_math cd_max (Nat.le_of_ble_eq_true rfl) (Nat.le_of_ble_eq_true rfl) (Nat.le_of_ble_eq_true rfl) (Nat.le_of_ble_eq_true rfl) (by decide) dX0_lackByNumbers_7 ?_
    refine q_istore_n C (fun v2 => [(3, .int v2), (0, va_rf (some a0)), (1, va_rf p1), (2, .int p2)]) dX0_lackByNumbers_10 (by decide) (fun _ => rfl) h (fun v2 h => ?_)
    refine q_iconst C (0 : Int32) dX0_lackByNumbers_11 (by decide) ?_
    refine q_istore C (fun v3 => [(4, .int v3), (3, .int v2), (0, va_rf (some a0)), (1, va_rf p1), (2, .int p2)]) dX0_lackByNumbers_12 (by decide) (fun _ => rfl) h (fun v3 h => ?_)
    refine WG.sub [3, 4, 1, 0] rfl ?_
    refine w_L_X0_lackByNumbers_14 C C2 _ _ _ ?_ _ _ _ _ h
    · intro v14 hs h
      refine q_iload_n C 0 dX0_lackByNumbers_57 rfl ?_
      exact q_iret C C2 rfl (Nat.le_of_ble_eq_true rfl) (Nat.le_of_ble_eq_true rfl) dX0_lackByNumbers_58 h
  rw [lg_entry_eq]
  cases p1 <;> exact key _ _ _ hR va_S.rf ⟨lv_entry _ (n := 5) (Nat.le_of_ble_eq_true rfl), (c1_r (c1_r (c1_i c1_n)))⟩

theorem cd_X1_init : Cond.code yX1_init cX1_init 1 none ∈ Tg := Tg_of (i := 191) (by decide +kernel) (by decide +kernel)
theorem wf_X1_9 : Cond.fieldLink RX1 9 RX1 (TX1 0).2.1 (TX1 0).2.2.1 ∈ Tg := Tg_of (i := 193) (by decide +kernel) (by decide +kernel)
set_option maxRecDepth 100000 in
theorem gu_X1 : ∀ w ∈ u_ws RX1 TX1 1, w ∈ Tg := by decide +kernel
theorem fw_X1_9 : FldW RX1 9 4 0 (.array .int) true := ⟨RX1, TX1, 1, RX1, rfl, by decide, wf_X1_9, (Or.inl rfl), gu_X1, tyX1_ok _ (by decide), ⟨tyX1, tyX1_ok⟩, nmX1, rfl, fun _ => rfl⟩
theorem mo_X1_3 : Cond.methodLink RX1 3 Lib.objectInit ∈ Tg := Tg_of (i := 192) (by decide +kernel) (by decide +kernel)
section M_X1_init
variable {p : Program} {l : Launch} {e : Env} {s : State} {m : MethodId} {args : Array Value} {below : List Frame} {meth : Method} {c : Code} {G : GG} {o : Except Nat Unit} {hs' : Hs}
end M_X1_init
def f_X1_init (a0 : Nat) : OO Unit :=
    nwI 0 (240 : Int32) 240 fun q1 =>
    pR (some a0) 4 0 (some q1) (
    rtn ())
set_option maxRecDepth 100000 in
set_option maxHeartbeats 4000000 in
theorem m_X1_init {G : GG} {l : Launch} {a0 : Nat} {hs hs' : Hs} {o : Except Nat Unit} (h : f_X1_init a0 hs = some (o, hs')) : CT G l yX1_init cX1_init 1 none 1 20 1 240 [.ref a0] hs o hs' tvV := by
  refine vx_ofW (cc := cX1_init) (maxL := 1) (ret := none) (by decide +kernel) rfl ?_
  intro p e s m args below meth c s₁ B hml hxt hv
  obtain ⟨hav, hR, hKn⟩ := hv
  subst hav
  have hts := atoms_spec (ws := .code yX1_init cX1_init 1 none :: Tg) B.pre
  have C : Cx G l p s m _ c RX1 cX1_init 1 := ⟨B.exec, B.bytes, hml, findClass_of_methodNamed B.named, fun w hw => hts w (List.mem_cons_of_mem _ hw), hKn, fun q hq => Nat.le_trans hR.2.2.1 hq⟩
  have C2 : Cy meth c none := ⟨B.returns, B.notSynchronized, hxt⟩
  have hin : meth.name = "<init>" := (name_of_methodNamed B.named B.method).1
  have key : WG G p l e { frames := 1, cells := 1, slots := 240, locals := 20 } s m ([.ref a0] : List Value).toArray below meth c 1 0 0 (vx_MQ below (QcT G o hs' tvV) (XCT G o hs') ([.ref a0] : List Value).toArray s 1 240 (gA G)) hs [(0, va_rf (some a0))] [] 0 := by
    unfold f_X1_init at h
    refine q_aload_n C 0 dX1_init_0 rfl ?_
    refine q_objInit C rfl mo_X1_3 im_objInit cd_objInit (Nat.le_of_ble_eq_true rfl) (Nat.le_of_ble_eq_true rfl) (by decide) dX1_init_1 ?_
    refine q_aload_n C 0 dX1_init_4 rfl ?_
    refine q_sipush C (240 : Int32) dX1_init_5 (by decide) ?_
    refine q_newI C 240 (Nat.le_of_ble_eq_true rfl) ac_0 (Nat.le_of_ble_eq_true rfl) (Nat.le_of_ble_eq_true rfl) dX1_init_8 h (fun q1 hs h => ?_)
    refine q_pR C fw_X1_9 (fun _ => hin) rfl dX1_init_10 h (fun hs h => ?_)
    exact q_vret C C2 rfl (Nat.le_of_ble_eq_true rfl) (Nat.le_of_ble_eq_true rfl) dX1_init_13 h
  rw [lg_entry_eq]
  exact key _ _ _ hR va_S.rf ⟨lv_entry _ (n := 1) (Nat.le_of_ble_eq_true rfl), (c1_r c1_n)⟩

theorem cd_X6_unplaced : Cond.code yX6_unplaced cX6_unplaced 3 (some .int) ∈ Tg := Tg_of (i := 264) (by decide +kernel) (by decide +kernel)
theorem wf_X6_21 : Cond.fieldLink RX6 21 RX6 (TX6 2).2.1 (TX6 2).2.2.1 ∈ Tg := Tg_of (i := 161) (by decide +kernel) (by decide +kernel)
theorem fl_X6_21 : Fld RX6 21 9 2 (.object "java/util/ArrayList") := ⟨RX6, TX6, 6, RX6, rfl, by decide, wf_X6_21, (Or.inl rfl), gu_X6, tyX6_ok _ (by decide), ⟨tyX6, tyX6_ok⟩, nmX6⟩
theorem ml_X6_52 : Cond.methodLink RX6 52 yJx4a65c_size_8abf5 ∈ Tg := Tg_of (i := 265) (by decide +kernel) (by decide +kernel)
theorem lk_X6_52 : Lk RX6 52 yJx4a65c_size_8abf5 cJx4a65c_size_8abf5 1 (some .int) 0 := ⟨ml_X6_52, cd_Jx4a65c_size_8abf5, iw_Jx4a65c, by decide +kernel⟩
theorem ml_X6_56 : Cond.methodLink RX6 56 yJx4a65c_get_915e3 ∈ Tg := Tg_of (i := 269) (by decide +kernel) (by decide +kernel)
theorem lk_X6_56 : Lk RX6 56 yJx4a65c_get_915e3 cJx4a65c_get_915e3 2 (some (.object "java/lang/Object")) 1 := ⟨ml_X6_56, cd_Jx4a65c_get_915e3, iw_Jx4a65c, by decide +kernel⟩
theorem wc_X6_32 : Cond.classLink RX6 32 RX4 ∈ Tg := Tg_of (i := 283) (by decide +kernel) (by decide +kernel)
theorem wf_X6_31 : Cond.fieldLink RX6 31 RX4 (TX4 6).2.1 (TX4 6).2.2.1 ∈ Tg := Tg_of (i := 907) (by decide +kernel) (by decide +kernel)
theorem fl_X6_31 : Fld RX6 31 7 6 (.object "Termgrid$Room") := ⟨RX4, TX4, 18, RX4, rfl, by decide, wf_X6_31, (Or.inl rfl), gu_X4, tyX4_ok _ (by decide), ⟨tyX4, tyX4_ok⟩, nmX4⟩
section M_X6_unplaced
variable {p : Program} {l : Launch} {e : Env} {s : State} {m : MethodId} {args : Array Value} {below : List Frame} {meth : Method} {c : Code} {G : GG} {o : Except Nat Int32} {hs' : Hs}
def j_X6_unplaced_40 (a0 : Option Nat) (a2 : Int32) (s0 : Int32) (s1 : Int32) (rec_4 : Int32 → Int32 → OO Int32) : OO Int32 :=
  lets (s1 ||| s0) fun (v8 : Int32) =>
    lets (a2 + (1 : Int32)) fun (v9 : Int32) =>
    rec_4 v8 v9
set_option maxRecDepth 100000 in
set_option maxHeartbeats 4000000 in
theorem w_j_X6_unplaced_40 (C : Cx G l p s m args c RX6 cX6_unplaced 3) (C2 : Cy meth c (some .int)) {hs : Hs} (a0 : Option Nat) (a2 : Int32) (s0 : Int32) (s1 : Int32) (rec_4 : Int32 → Int32 → OO Int32) (hrec_4 : ∀ (y1 : Int32) (y2 : Int32) hs, rec_4 y1 y2 hs = some (o, hs') → WG G p l e { frames := 3, cells := 0, slots := 0, locals := 64 } s m args below meth c 3 0 0 (vx_MQ below (QcT G o hs' tvI) (XCT G o hs') args s 0 0 (gA G)) hs [(0, va_rf a0), (1, .int y1), (2, .int y2)] [] 4) (h : j_X6_unplaced_40 a0 a2 s0 s1 rec_4 hs = some (o, hs')) : WG G p l e { frames := 3, cells := 0, slots := 0, locals := 64 } s m args below meth c 3 0 0 (vx_MQ below (QcT G o hs' tvI) (XCT G o hs') args s 0 0 (gA G)) hs [(0, va_rf a0), (2, .int a2)] [.int s0, .int s1] 40 := by
  unfold j_X6_unplaced_40 at h
  refine q_ior C dX6_unplaced_40 ?_
  refine q_istore_n C (fun v8 => [(1, .int v8), (0, va_rf a0), (2, .int a2)]) dX6_unplaced_41 (by decide) (fun _ => rfl) h (fun v8 h => ?_)
  refine q_iinc C 2 (1 : Int32) (fun v9 => [(2, .int v9), (1, .int v8), (0, va_rf a0)]) dX6_unplaced_42 rfl (by decide) (by decide) (fun _ => rfl) h (fun v9 h => ?_)
  refine q_goto C 4 dX6_unplaced_45 (by decide) ?_
  refine WG.sub [2, 1, 0] rfl ?_
  exact hrec_4 _ _ _ h
def L_X6_unplaced_4 (a0 : Option Nat) (k_4_48 : Int32 → OO Int32) : Nat → Int32 → Int32 → OO Int32
  | 0, _, _ => failO
  | n + 1, x1, x2 =>
    gR a0 9 2 fun v3 =>
    rcv v3 2 fun r11 => call (f_Jx4a65c_size_8abf5 r11 ) (fun (v4 : Int32) =>
    (if v4 ≤ x2 then
    k_4_48 x1
    else
    gR a0 9 2 fun v5 =>
    rcv v5 2 fun r10 => call (f_Jx4a65c_get_915e3 r10 x2) (fun (v6 : Option Nat) =>
    cst v6 7 (
    gR v6 7 6 fun v7 =>
    (if ¬ v7 = none then
    j_X6_unplaced_40 a0 x2 (0 : Int32) x1 (L_X6_unplaced_4 a0 k_4_48 n)
    else
    j_X6_unplaced_40 a0 x2 (((1 : Int32) <<< (x2 &&& 31))) x1 (L_X6_unplaced_4 a0 k_4_48 n)))) nox)) nox
set_option maxRecDepth 100000 in
set_option maxHeartbeats 4000000 in
theorem w_L_X6_unplaced_4 (C : Cx G l p s m args c RX6 cX6_unplaced 3) (C2 : Cy meth c (some .int)) (a0 : Option Nat) (k_4_48 : Int32 → OO Int32) (hk_4_48 : ∀ (y1 : Int32) hs, k_4_48 y1 hs = some (o, hs') → WG G p l e { frames := 3, cells := 0, slots := 0, locals := 64 } s m args below meth c 3 0 0 (vx_MQ below (QcT G o hs' tvI) (XCT G o hs') args s 0 0 (gA G)) hs [(1, .int y1)] [] 48) : ∀ (n : Nat) (x1 : Int32) (x2 : Int32) (hs : Hs), L_X6_unplaced_4 a0 k_4_48 n x1 x2 hs = some (o, hs') → WG G p l e { frames := 3, cells := 0, slots := 0, locals := 64 } s m args below meth c 3 0 0 (vx_MQ below (QcT G o hs' tvI) (XCT G o hs') args s 0 0 (gA G)) hs [(0, va_rf a0), (1, .int x1), (2, .int x2)] [] 4 := by
  intro n
  induction n with
  | zero =>
    intro x1 x2 hs h
    rw [L_X6_unplaced_4] at h
    exact absurd h failO_e
  | succ n hrec_4 =>
    intro x1 x2 hs h
    rw [L_X6_unplaced_4] at h
    refine q_iload_n C 2 dX6_unplaced_4 rfl ?_
    refine q_aload_n C 0 dX6_unplaced_5 rfl ?_
    refine q_gR C fl_X6_21 dX6_unplaced_6 h (fun v3 h => ?_)
    refine q_callV C (CN := RJx4a65c) (T := TJx4a65c) (N := 3) [] [.int x2] (fun a0 o2 hs1 hm => m_Jx4a65c_size_8abf5 hm) lk_X6_52 im_Jx4a65c_size_8abf5 se_Jx4a65c_Jx4a65c_size_8abf5 rfl ⟨(Nat.le_of_ble_eq_true rfl), (Nat.le_of_ble_eq_true rfl)⟩ ⟨(Nat.le_of_ble_eq_true rfl), (Nat.le_of_ble_eq_true rfl)⟩ rfl rfl (by simp only [List.map, cat_rf, cat_i, cat_a]; decide) dX6_unplaced_9 h (fun v4 hs h => WG_st (st' := [.int v4, .int x2]) rfl ?_)
    refine q_icmp_ge C 48 dX6_unplaced_12 (by decide) h (fun h => ?_) (fun h => ?_)
    · refine WG.sub [1] rfl ?_
      exact hk_4_48 _ _ h
    · refine q_iload_n C 1 dX6_unplaced_15 rfl ?_
      refine q_aload_n C 0 dX6_unplaced_16 rfl ?_
      refine q_gR C fl_X6_21 dX6_unplaced_17 h (fun v5 h => ?_)
      refine q_iload_n C 2 dX6_unplaced_20 rfl ?_
      refine q_callV C (CN := RJx4a65c) (T := TJx4a65c) (N := 3) [.int x2] [.int x1] (fun a0 o2 hs1 hm => m_Jx4a65c_get_915e3 hm) lk_X6_56 im_Jx4a65c_get_915e3 se_Jx4a65c_Jx4a65c_get_915e3 rfl ⟨(Nat.le_of_ble_eq_true rfl), (Nat.le_of_ble_eq_true rfl)⟩ ⟨(Nat.le_of_ble_eq_true rfl), (Nat.le_of_ble_eq_true rfl)⟩ rfl rfl (by simp only [List.map, cat_rf, cat_i, cat_a]; decide) dX6_unplaced_21 h (fun v6 hs h => WG_st (st' := [va_rf v6, .int x1]) rfl ?_)
      refine q_castS C (nm := RX4) (T := TX4) (N := 18) rfl wc_X6_32 dX6_unplaced_24 h (fun h => ?_)
      refine q_gR C fl_X6_31 dX6_unplaced_27 h (fun v7 h => ?_)
      refine q_ifnonnull C 39 dX6_unplaced_30 (by decide) h (fun h => ?_) (fun h => ?_)
      · refine q_iconst C (0 : Int32) dX6_unplaced_39 (by decide) ?_
        refine WG.sub [0, 2] rfl ?_
        exact w_j_X6_unplaced_40 C C2 _ _ _ _ _ hrec_4 h
      · refine q_iconst C (1 : Int32) dX6_unplaced_33 (by decide) ?_
        refine q_iload_n C 2 dX6_unplaced_34 rfl ?_
        refine q_ishl C dX6_unplaced_35 ?_
        refine q_goto C 40 dX6_unplaced_36 (by decide) ?_
        refine WG.sub [0, 2] rfl ?_
        exact w_j_X6_unplaced_40 C C2 _ _ _ _ _ hrec_4 h
end M_X6_unplaced
def f_X6_unplaced (a0 : Nat) : OO Int32 :=
    lets (0 : Int32) fun (v1 : Int32) =>
    lets (0 : Int32) fun (v2 : Int32) =>
    L_X6_unplaced_4 (some a0) (fun (v12 : Int32) => rtn v12) 100000 v1 v2
set_option maxRecDepth 100000 in
set_option maxHeartbeats 4000000 in
theorem m_X6_unplaced {G : GG} {l : Launch} {a0 : Nat} {hs hs' : Hs} {o : Except Nat Int32} (h : f_X6_unplaced a0 hs = some (o, hs')) : CT G l yX6_unplaced cX6_unplaced 3 (some .int) 3 64 0 0 [.ref a0] hs o hs' tvI := by
  refine vx_ofW (cc := cX6_unplaced) (maxL := 3) (ret := (some .int)) (by decide +kernel) rfl ?_
  intro p e s m args below meth c s₁ B hml hxt hv
  obtain ⟨hav, hR, hKn⟩ := hv
  subst hav
  have hts := atoms_spec (ws := .code yX6_unplaced cX6_unplaced 3 (some .int) :: Tg) B.pre
  have C : Cx G l p s m _ c RX6 cX6_unplaced 3 := ⟨B.exec, B.bytes, hml, findClass_of_methodNamed B.named, fun w hw => hts w (List.mem_cons_of_mem _ hw), hKn, fun q hq => Nat.le_trans hR.2.2.1 hq⟩
  have C2 : Cy meth c (some .int) := ⟨B.returns, B.notSynchronized, hxt⟩
  have key : WG G p l e { frames := 3, cells := 0, slots := 0, locals := 64 } s m ([.ref a0] : List Value).toArray below meth c 3 0 0 (vx_MQ below (QcT G o hs' tvI) (XCT G o hs') ([.ref a0] : List Value).toArray s 0 0 (gA G)) hs [(0, va_rf (some a0))] [] 0 := by
    unfold f_X6_unplaced at h
    refine q_iconst C (0 : Int32) dX6_unplaced_0 (by decide) ?_
    refine q_istore_n C (fun v1 => [(1, .int v1), (0, va_rf (some a0))]) dX6_unplaced_1 (by decide) (fun _ => rfl) h (fun v1 h => ?_)
    refine q_iconst C (0 : Int32) dX6_unplaced_2 (by decide) ?_
    refine q_istore_n C (fun v2 => [(2, .int v2), (1, .int v1), (0, va_rf (some a0))]) dX6_unplaced_3 (by decide) (fun _ => rfl) h (fun v2 h => ?_)
    refine WG.sub [2, 1, 0] rfl ?_
    refine w_L_X6_unplaced_4 C C2 _ _ ?_ _ _ _ _ h
    · intro v12 hs h
      refine q_iload_n C 0 dX6_unplaced_48 rfl ?_
      exact q_iret C C2 rfl (Nat.le_of_ble_eq_true rfl) (Nat.le_of_ble_eq_true rfl) dX6_unplaced_49 h
  rw [lg_entry_eq]
  exact key _ _ _ hR va_S.rf ⟨lv_entry _ (n := 3) (Nat.le_of_ble_eq_true rfl), (c1_r c1_n)⟩

