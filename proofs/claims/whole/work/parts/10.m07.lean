theorem cd_X8_isOutside : Cond.code yX8_isOutside cX8_isOutside 3 (some .boolean) ∈ Tg := Tg_of (i := 586) (by decide +kernel) (by decide +kernel)
section M_X8_isOutside
variable {p : Program} {l : Launch} {e : Env} {s : State} {m : MethodId} {args : Array Value} {below : List Frame} {meth : Method} {c : Code} {G : GG} {o : Except Nat Int32} {hs' : Hs}
def j_X8_isOutside_10    : OO Int32 :=
  retZ (1 : Int32)
set_option maxRecDepth 100000 in
set_option maxHeartbeats 4000000 in
theorem w_j_X8_isOutside_10 (C : Cx G l p s m args c RX8 cX8_isOutside 3) (C2 : Cy meth c (some .boolean)) {hs : Hs}     (h : j_X8_isOutside_10 hs = some (o, hs')) : WG G p l e { frames := 0, cells := 0, slots := 0, locals := 0 } s m args below meth c 3 0 0 (vx_MQ below (QcT G o hs' tvI) (XCT G o hs') args s 0 0 (gA G)) hs [] [] 10 := by
  unfold j_X8_isOutside_10 at h
  refine q_iconst C (1 : Int32) dX8_isOutside_10 (by decide) ?_
  refine q_goto C 15 dX8_isOutside_11 (by decide) ?_
  exact q_zret C C2 rfl (Nat.le_of_ble_eq_true rfl) (Nat.le_of_ble_eq_true rfl) dX8_isOutside_15 h
end M_X8_isOutside
def f_X8_isOutside (p0 : Int32) (p1 : Int32) (p2 : Int32) : OO Int32 :=
    (if p0 < p1 then
    j_X8_isOutside_10
    else
    (if p0 ≤ p2 then
    retZ (0 : Int32)
    else
    j_X8_isOutside_10))
set_option maxRecDepth 100000 in
set_option maxHeartbeats 4000000 in
theorem m_X8_isOutside {G : GG} {l : Launch} {p0 : Int32} {p1 : Int32} {p2 : Int32} {hs hs' : Hs} {o : Except Nat Int32} (h : f_X8_isOutside p0 p1 p2 hs = some (o, hs')) : CT G l yX8_isOutside cX8_isOutside 3 (some .boolean) 0 0 0 0 [.int p0, .int p1, .int p2] hs o hs' tvI := by
  refine vx_ofW (cc := cX8_isOutside) (maxL := 3) (ret := (some .boolean)) (by decide +kernel) rfl ?_
  intro p e s m args below meth c s₁ B hml hxt hv
  obtain ⟨hav, hR, hKn⟩ := hv
  subst hav
  have hts := atoms_spec (ws := .code yX8_isOutside cX8_isOutside 3 (some .boolean) :: Tg) B.pre
  have C : Cx G l p s m _ c RX8 cX8_isOutside 3 := ⟨B.exec, B.bytes, hml, findClass_of_methodNamed B.named, fun w hw => hts w (List.mem_cons_of_mem _ hw), hKn, fun q hq => Nat.le_trans hR.2.2.1 hq⟩
  have C2 : Cy meth c (some .boolean) := ⟨B.returns, B.notSynchronized, hxt⟩
  have key : WG G p l e { frames := 0, cells := 0, slots := 0, locals := 0 } s m ([.int p0, .int p1, .int p2] : List Value).toArray below meth c 3 0 0 (vx_MQ below (QcT G o hs' tvI) (XCT G o hs') ([.int p0, .int p1, .int p2] : List Value).toArray s 0 0 (gA G)) hs [(0, .int p0), (1, .int p1), (2, .int p2)] [] 0 := by
    unfold f_X8_isOutside at h
    refine q_iload_n C 0 dX8_isOutside_0 rfl ?_
    refine q_iload_n C 1 dX8_isOutside_1 rfl ?_
    refine q_icmp_lt C 10 dX8_isOutside_2 (by decide) h (fun h => ?_) (fun h => ?_)
    · refine WG.sub [] rfl ?_
      exact w_j_X8_isOutside_10 C C2    h
    · refine q_iload_n C 0 dX8_isOutside_5 rfl ?_
      refine q_iload_n C 2 dX8_isOutside_6 rfl ?_
      refine q_icmp_le C 14 dX8_isOutside_7 (by decide) h (fun h => ?_) (fun h => ?_)
      · refine q_iconst C (0 : Int32) dX8_isOutside_14 (by decide) ?_
        exact q_zret C C2 rfl (Nat.le_of_ble_eq_true rfl) (Nat.le_of_ble_eq_true rfl) dX8_isOutside_15 h
      · refine WG.sub [] rfl ?_
        exact w_j_X8_isOutside_10 C C2    h
  rw [lg_entry_eq]
  exact key _ _ _ hR va_S.rf ⟨lv_entry _ (n := 3) (Nat.le_of_ble_eq_true rfl), (c1_i (c1_i (c1_i c1_n)))⟩

theorem cd_J8_hugeLength_7cf53 : Cond.code yJ8_hugeLength_7cf53 cJ8_hugeLength_7cf53 3 (some .int) ∈ Tg := Tg_of (i := 729) (by decide +kernel) (by decide +kernel)
theorem kc_J8_200 : Cond.constant RJ8 200 (2147483639) ∈ Tg := Tg_of (i := 726) (by decide +kernel) (by decide +kernel)
section M_J8_hugeLength_7cf53
variable {p : Program} {l : Launch} {e : Env} {s : State} {m : MethodId} {args : Array Value} {below : List Frame} {meth : Method} {c : Code} {G : GG} {o : Except Nat Int32} {hs' : Hs}
end M_J8_hugeLength_7cf53
def f_J8_hugeLength_7cf53 (p0 : Int32) (p1 : Int32) : OO Int32 :=
    lets (p0 + p1) fun (v1 : Int32) =>
    (if 0 ≤ v1 then
    (if (2147483639 : Int32) < v1 then
    rtn v1
    else
    rtn (2147483639 : Int32))
    else
    failO)
set_option maxRecDepth 100000 in
set_option maxHeartbeats 4000000 in
theorem m_J8_hugeLength_7cf53 {G : GG} {l : Launch} {p0 : Int32} {p1 : Int32} {hs hs' : Hs} {o : Except Nat Int32} (h : f_J8_hugeLength_7cf53 p0 p1 hs = some (o, hs')) : CT G l yJ8_hugeLength_7cf53 cJ8_hugeLength_7cf53 3 (some .int) 0 0 0 0 [.int p0, .int p1] hs o hs' tvI := by
  refine vx_ofW (cc := cJ8_hugeLength_7cf53) (maxL := 3) (ret := (some .int)) (by decide +kernel) rfl ?_
  intro p e s m args below meth c s₁ B hml hxt hv
  obtain ⟨hav, hR, hKn⟩ := hv
  subst hav
  have hts := atoms_spec (ws := .code yJ8_hugeLength_7cf53 cJ8_hugeLength_7cf53 3 (some .int) :: Tg) B.pre
  have C : Cx G l p s m _ c RJ8 cJ8_hugeLength_7cf53 3 := ⟨B.exec, B.bytes, hml, findClass_of_methodNamed B.named, fun w hw => hts w (List.mem_cons_of_mem _ hw), hKn, fun q hq => Nat.le_trans hR.2.2.1 hq⟩
  have C2 : Cy meth c (some .int) := ⟨B.returns, B.notSynchronized, hxt⟩
  have key : WG G p l e { frames := 0, cells := 0, slots := 0, locals := 0 } s m ([.int p0, .int p1] : List Value).toArray below meth c 3 0 0 (vx_MQ below (QcT G o hs' tvI) (XCT G o hs') ([.int p0, .int p1] : List Value).toArray s 0 0 (gA G)) hs [(0, .int p0), (1, .int p1)] [] 0 := by
    unfold f_J8_hugeLength_7cf53 at h
    refine q_iload_n C 0 dJ8_hugeLength_7cf53_0 rfl ?_
    refine q_iload_n C 1 dJ8_hugeLength_7cf53_1 rfl ?_
    refine q_iadd C dJ8_hugeLength_7cf53_2 ?_
    refine q_istore_n C (fun v1 => [(2, .int v1), (0, .int p0), (1, .int p1)]) dJ8_hugeLength_7cf53_3 (by decide) (fun _ => rfl) h (fun v1 h => ?_)
    refine q_iload_n C 0 dJ8_hugeLength_7cf53_4 rfl ?_
    refine q_if_ge C 49 dJ8_hugeLength_7cf53_5 (by decide) h (fun h => ?_) (fun h => ?_)
    · refine q_iload_n C 0 dJ8_hugeLength_7cf53_49 rfl ?_
      refine q_ldc C kc_J8_200 dJ8_hugeLength_7cf53_50 ?_
      refine q_icmp_gt C 58 dJ8_hugeLength_7cf53_52 (by decide) h (fun h => ?_) (fun h => ?_)
      · refine q_iload_n C 0 dJ8_hugeLength_7cf53_58 rfl ?_
        exact q_iret C C2 rfl (Nat.le_of_ble_eq_true rfl) (Nat.le_of_ble_eq_true rfl) dJ8_hugeLength_7cf53_59 h
      · refine q_ldc C kc_J8_200 dJ8_hugeLength_7cf53_55 ?_
        exact q_iret C C2 rfl (Nat.le_of_ble_eq_true rfl) (Nat.le_of_ble_eq_true rfl) dJ8_hugeLength_7cf53_57 h
    · exact absurd h failO_e
  rw [lg_entry_eq]
  exact key _ _ _ hR va_S.rf ⟨lv_entry _ (n := 3) (Nat.le_of_ble_eq_true rfl), (c1_i (c1_i c1_n))⟩

theorem cd_J8_newLength_cabcc : Cond.code yJ8_newLength_cabcc cJ8_newLength_cabcc 4 (some .int) ∈ Tg := Tg_of (i := 724) (by decide +kernel) (by decide +kernel)
theorem ml_J8_194 : Cond.methodLink RJ8 194 Lib.Math.max.name ∈ Tg := Tg_of (i := 725) (by decide +kernel) (by decide +kernel)
theorem iw_J8 : Cond.initialized RJ8 ∈ Tg := Tg_of (i := 95) (by decide +kernel) (by decide +kernel)
theorem ml_J8_201 : Cond.methodLink RJ8 201 yJ8_hugeLength_7cf53 ∈ Tg := Tg_of (i := 727) (by decide +kernel) (by decide +kernel)
theorem lk_J8_201 : Lk RJ8 201 yJ8_hugeLength_7cf53 cJ8_hugeLength_7cf53 3 (some .int) 2 := ⟨ml_J8_201, cd_J8_hugeLength_7cf53, iw_J8, by decide +kernel⟩
theorem sm_J8_hugeLength_7cf53 : Cond.static yJ8_hugeLength_7cf53 ∈ Tg := Tg_of (i := 728) (by decide +kernel) (by decide +kernel)
section M_J8_newLength_cabcc
variable {p : Program} {l : Launch} {e : Env} {s : State} {m : MethodId} {args : Array Value} {below : List Frame} {meth : Method} {c : Code} {G : GG} {o : Except Nat Int32} {hs' : Hs}
def j_J8_newLength_cabcc_21 (a0 : Int32) (a1 : Int32)   : OO Int32 :=
  call (f_J8_hugeLength_7cf53 a0 a1) (fun (v2 : Int32) =>
    rtn v2) nox
set_option maxRecDepth 100000 in
set_option maxHeartbeats 4000000 in
theorem w_j_J8_newLength_cabcc_21 (C : Cx G l p s m args c RJ8 cJ8_newLength_cabcc 4) (C2 : Cy meth c (some .int)) {hs : Hs} (a0 : Int32) (a1 : Int32)    (h : j_J8_newLength_cabcc_21 a0 a1 hs = some (o, hs')) : WG G p l e { frames := 1, cells := 0, slots := 0, locals := 30 } s m args below meth c 4 0 0 (vx_MQ below (QcT G o hs' tvI) (XCT G o hs') args s 0 0 (gA G)) hs [(0, .int a0), (1, .int a1)] [] 21 := by
  unfold j_J8_newLength_cabcc_21 at h
  refine q_iload_n C 0 dJ8_newLength_cabcc_21 rfl ?_
  refine q_iload_n C 1 dJ8_newLength_cabcc_22 rfl ?_
  refine q_callS C [.int a0, .int a1] [] (fun o2 hs1 hm => m_J8_hugeLength_7cf53 hm) lk_J8_201 sm_J8_hugeLength_7cf53 ⟨(Nat.le_of_ble_eq_true rfl), (Nat.le_of_ble_eq_true rfl)⟩ ⟨(Nat.le_of_ble_eq_true rfl), (Nat.le_of_ble_eq_true rfl)⟩ rfl rfl (by decide) dJ8_newLength_cabcc_23 h (fun v2 hs h => WG_st (st' := [.int v2]) rfl ?_)
  exact q_iret C C2 rfl (Nat.le_of_ble_eq_true rfl) (Nat.le_of_ble_eq_true rfl) dJ8_newLength_cabcc_26 h
end M_J8_newLength_cabcc
def f_J8_newLength_cabcc (p0 : Int32) (p1 : Int32) (p2 : Int32) : OO Int32 :=
    lets (p0 + (if p1 < p2 then p2 else p1)) fun (v1 : Int32) =>
    (if v1 ≤ (0 : Int32) then
    j_J8_newLength_cabcc_21 p0 p1
    else
    (if (2147483639 : Int32) < v1 then
    j_J8_newLength_cabcc_21 p0 p1
    else
    rtn v1))
set_option maxRecDepth 100000 in
set_option maxHeartbeats 4000000 in
theorem m_J8_newLength_cabcc {G : GG} {l : Launch} {p0 : Int32} {p1 : Int32} {p2 : Int32} {hs hs' : Hs} {o : Except Nat Int32} (h : f_J8_newLength_cabcc p0 p1 p2 hs = some (o, hs')) : CT G l yJ8_newLength_cabcc cJ8_newLength_cabcc 4 (some .int) 1 30 0 0 [.int p0, .int p1, .int p2] hs o hs' tvI := by
  refine vx_ofW (cc := cJ8_newLength_cabcc) (maxL := 4) (ret := (some .int)) (by decide +kernel) rfl ?_
  intro p e s m args below meth c s₁ B hml hxt hv
  obtain ⟨hav, hR, hKn⟩ := hv
  subst hav
  have hts := atoms_spec (ws := .code yJ8_newLength_cabcc cJ8_newLength_cabcc 4 (some .int) :: Tg) B.pre
  have C : Cx G l p s m _ c RJ8 cJ8_newLength_cabcc 4 := ⟨B.exec, B.bytes, hml, findClass_of_methodNamed B.named, fun w hw => hts w (List.mem_cons_of_mem _ hw), hKn, fun q hq => Nat.le_trans hR.2.2.1 hq⟩
  have C2 : Cy meth c (some .int) := ⟨B.returns, B.notSynchronized, hxt⟩
  have key : WG G p l e { frames := 1, cells := 0, slots := 0, locals := 30 } s m ([.int p0, .int p1, .int p2] : List Value).toArray below meth c 4 0 0 (vx_MQ below (QcT G o hs' tvI) (XCT G o hs') ([.int p0, .int p1, .int p2] : List Value).toArray s 0 0 (gA G)) hs [(0, .int p0), (1, .int p1), (2, .int p2)] [] 0 := by
    unfold f_J8_newLength_cabcc at h
    refine q_iload_n C 0 dJ8_newLength_cabcc_0 rfl ?_
    refine q_iload_n C 1 dJ8_newLength_cabcc_1 rfl ?_
    refine q_iload_n C 2 dJ8_newLength_cabcc_2 rfl ?_
    refine q_max C ml_J8_194 sm_max iw_math cd_max (Nat.le_of_ble_eq_true rfl) (Nat.le_of_ble_eq_true rfl) (Nat.le_of_ble_eq_true rfl) (Nat.le_of_ble_eq_true rfl) (by simp only [List.map, cat_rf, cat_i, cat_a]; decide) dJ8_newLength_cabcc_3 ?_
    refine q_iadd C dJ8_newLength_cabcc_6 ?_
    refine q_istore_n C (fun v1 => [(3, .int v1), (0, .int p0), (1, .int p1), (2, .int p2)]) dJ8_newLength_cabcc_7 (by decide) (fun _ => rfl) h (fun v1 h => ?_)
    refine q_iconst C (0 : Int32) dJ8_newLength_cabcc_8 (by decide) ?_
    refine q_iload_n C 0 dJ8_newLength_cabcc_9 rfl ?_
    refine q_icmp_ge C 21 dJ8_newLength_cabcc_10 (by decide) h (fun h => ?_) (fun h => ?_)
    · refine WG.sub [1, 2] rfl ?_
      exact w_j_J8_newLength_cabcc_21 C C2 _ _   h
    · refine q_iload_n C 0 dJ8_newLength_cabcc_13 rfl ?_
      refine q_ldc C kc_J8_200 dJ8_newLength_cabcc_14 ?_
      refine q_icmp_gt C 21 dJ8_newLength_cabcc_16 (by decide) h (fun h => ?_) (fun h => ?_)
      · refine WG.sub [1, 2] rfl ?_
        exact w_j_J8_newLength_cabcc_21 C C2 _ _   h
      · refine q_iload_n C 0 dJ8_newLength_cabcc_19 rfl ?_
        exact q_iret C C2 rfl (Nat.le_of_ble_eq_true rfl) (Nat.le_of_ble_eq_true rfl) dJ8_newLength_cabcc_20 h
  rw [lg_entry_eq]
  exact key _ _ _ hR va_S.rf ⟨lv_entry _ (n := 4) (Nat.le_of_ble_eq_true rfl), (c1_i (c1_i (c1_i c1_n)))⟩

theorem cd_J7_copyOf_6403c : Cond.code yJ7_copyOf_6403c cJ7_copyOf_6403c 4 (some (.array (.object "java/lang/Object"))) ∈ Tg := Tg_of (i := 757) (by decide +kernel) (by decide +kernel)
theorem wc_J7_110 : Cond.classLink RJ7 110 "[Ljava/lang/Object;" ∈ Tg := Tg_of (i := 758) (by decide +kernel) (by decide +kernel)
theorem wc_J7_2 : Cond.classLink RJ7 2 "java/lang/Object" ∈ Tg := Tg_of (i := 760) (by decide +kernel) (by decide +kernel)
theorem ml_J7_304 : Cond.methodLink RJ7 304 Lib.Math.min.name ∈ Tg := Tg_of (i := 761) (by decide +kernel) (by decide +kernel)
theorem sm_min : Cond.static Lib.Math.min.name ∈ Tg := Tg_of (i := 762) (by decide +kernel) (by decide +kernel)
theorem cd_min : Cond.code Lib.Math.min.name Lib.Math.min.code 2 (some .int) ∈ Tg := Tg_of (i := 763) (by decide +kernel) (by decide +kernel)
theorem ml_J7_150 : Cond.methodLink RJ7 150 arraycopyName ∈ Tg := Tg_of (i := 764) (by decide +kernel) (by decide +kernel)
theorem na_copy : Cond.native arraycopyName ∈ Tg := Tg_of (i := 766) (by decide +kernel) (by decide +kernel)
theorem sm_copy : Cond.static arraycopyName ∈ Tg := Tg_of (i := 765) (by decide +kernel) (by decide +kernel)
theorem iw_system : Cond.initialized "java/lang/System" ∈ Tg := Tg_of (i := 98) (by decide +kernel) (by decide +kernel)
section M_J7_copyOf_6403c
variable {p : Program} {l : Launch} {e : Env} {s : State} {m : MethodId} {args : Array Value} {below : List Frame} {meth : Method} {c : Code} {G : GG} {o : Except Nat (Option Nat)} {hs' : Hs}
def j_J7_copyOf_6403c_24 (a0 : Option Nat) (a1 : Int32) (s0 : Option Nat)  : OO (Option Nat) :=
  lets s0 fun (v2 : Option Nat) =>
    alen a0 fun v3 =>
    cpy a0 v2 (if a1 < v3 then a1 else v3) (
    rtn v2)
set_option maxRecDepth 100000 in
set_option maxHeartbeats 4000000 in
theorem w_j_J7_copyOf_6403c_24 (C : Cx G l p s m args c RJ7 cJ7_copyOf_6403c 4) (C2 : Cy meth c (some (.array (.object "java/lang/Object")))) {hs : Hs} (a0 : Option Nat) (a1 : Int32) (s0 : Option Nat)   (h : j_J7_copyOf_6403c_24 a0 a1 s0 hs = some (o, hs')) : WG G p l e { frames := 1, cells := 1, slots := 30, locals := 60 } s m args below meth c 4 1 30 (vx_MQ below (QcT G o hs' tvR) (XCT G o hs') args s 1 30 (gA G)) hs [(0, va_rf a0), (1, .int a1)] [va_rf s0] 24 := by
  unfold j_J7_copyOf_6403c_24 at h
  refine q_astore_n C (fun v2 => [(3, va_rf v2), (0, va_rf a0), (1, .int a1)]) dJ7_copyOf_6403c_24 (by decide) (fun _ => rfl) h (fun v2 h => ?_)
  refine q_aload_n C 1 dJ7_copyOf_6403c_25 rfl ?_
  refine q_iconst C (0 : Int32) dJ7_copyOf_6403c_26 (by decide) ?_
  refine q_aload_n C 0 dJ7_copyOf_6403c_27 rfl ?_
  refine q_iconst C (0 : Int32) dJ7_copyOf_6403c_28 (by decide) ?_
  refine q_aload_n C 1 dJ7_copyOf_6403c_29 rfl ?_
  refine q_alen C dJ7_copyOf_6403c_30 h (fun v3 h => ?_)
  refine q_iload_n C 2 dJ7_copyOf_6403c_31 rfl ?_
  refine q_min C ml_J7_304 sm_min iw_math cd_min (Nat.le_of_ble_eq_true rfl) (Nat.le_of_ble_eq_true rfl) (Nat.le_of_ble_eq_true rfl) (Nat.le_of_ble_eq_true rfl) (by simp only [List.map, cat_rf, cat_i, cat_a]; decide) dJ7_copyOf_6403c_32 ?_
  refine q_cpy C ml_J7_150 na_copy sm_copy iw_system (Nat.le_of_ble_eq_true rfl) (Nat.le_of_ble_eq_true rfl) (by decide) dJ7_copyOf_6403c_35 h (fun hs h => ?_)
  refine q_aload_n C 0 dJ7_copyOf_6403c_38 rfl ?_
  exact q_aret C C2 rfl (Or.inr ⟨_, rfl⟩) (Nat.le_of_ble_eq_true rfl) (Nat.le_of_ble_eq_true rfl) dJ7_copyOf_6403c_39 h
end M_J7_copyOf_6403c
def f_J7_copyOf_6403c (p0 : Option Nat) (p1 : Int32) : OO (Option Nat) :=
    nwO p1 30 fun q1 =>
    j_J7_copyOf_6403c_24 p0 p1 (some q1)
set_option maxRecDepth 100000 in
set_option maxHeartbeats 4000000 in
theorem m_J7_copyOf_6403c {G : GG} {l : Launch} {p0 : Option Nat} {p1 : Int32} {hs hs' : Hs} {o : Except Nat (Option Nat)} (h : f_J7_copyOf_6403c p0 p1 hs = some (o, hs')) : CT G l yJ7_copyOf_6403c cJ7_copyOf_6403c 4 (some (.array (.object "java/lang/Object"))) 1 60 1 30 [va_rf p0, .int p1, .ref G.2.2.2.2.2.2] hs o hs' tvR := by
  refine vx_ofW (cc := cJ7_copyOf_6403c) (maxL := 4) (ret := (some (.array (.object "java/lang/Object")))) (by decide +kernel) rfl ?_
  intro p e s m args below meth c s₁ B hml hxt hv
  obtain ⟨hav, hR, hKn⟩ := hv
  subst hav
  have hts := atoms_spec (ws := .code yJ7_copyOf_6403c cJ7_copyOf_6403c 4 (some (.array (.object "java/lang/Object"))) :: Tg) B.pre
  have C : Cx G l p s m _ c RJ7 cJ7_copyOf_6403c 4 := ⟨B.exec, B.bytes, hml, findClass_of_methodNamed B.named, fun w hw => hts w (List.mem_cons_of_mem _ hw), hKn, fun q hq => Nat.le_trans hR.2.2.1 hq⟩
  have C2 : Cy meth c (some (.array (.object "java/lang/Object"))) := ⟨B.returns, B.notSynchronized, hxt⟩
  have key : WG G p l e { frames := 1, cells := 1, slots := 30, locals := 60 } s m ([va_rf p0, .int p1, .ref G.2.2.2.2.2.2] : List Value).toArray below meth c 4 0 0 (vx_MQ below (QcT G o hs' tvR) (XCT G o hs') ([va_rf p0, .int p1, .ref G.2.2.2.2.2.2] : List Value).toArray s 1 30 (gA G)) hs [(0, va_rf p0), (1, .int p1), (2, .ref G.2.2.2.2.2.2)] [] 0 := by
    unfold f_J7_copyOf_6403c at h
    refine q_aloadC_n C 2 dJ7_copyOf_6403c_0 rfl ?_
    refine q_ldcM C wc_J7_110 dJ7_copyOf_6403c_1 ?_
    refine q_acmpM C 13 dJ7_copyOf_6403c_3 (by decide) ?_
    refine q_iload_n C 1 dJ7_copyOf_6403c_6 rfl ?_
    refine q_newO C 30 (Nat.le_of_ble_eq_true rfl) wc_J7_2 (Nat.le_of_ble_eq_true rfl) (Nat.le_of_ble_eq_true rfl) dJ7_copyOf_6403c_7 h (fun q1 hs h => ?_)
    refine q_goto C 24 dJ7_copyOf_6403c_10 (by decide) ?_
    refine WG.sub [0, 1] rfl ?_
    exact w_j_J7_copyOf_6403c_24 C C2 _ _ _   h
  rw [lg_entry_eq]
  cases p0 <;> exact key _ _ _ hR va_S.rf ⟨lv_entry _ (n := 4) (Nat.le_of_ble_eq_true rfl), (c1_r (c1_i (c1_a c1_n)))⟩

theorem cd_J7_copyOf_1904c : Cond.code yJ7_copyOf_1904c cJ7_copyOf_1904c 2 (some (.array (.object "java/lang/Object"))) ∈ Tg := Tg_of (i := 732) (by decide +kernel) (by decide +kernel)
theorem ml_J7_86 : Cond.methodLink RJ7 86 ⟨"java/lang/Object", "getClass", "()Ljava/lang/Class;"⟩ ∈ Tg := Tg_of (i := 733) (by decide +kernel) (by decide +kernel)
theorem se_getClass : Cond.selects "[Ljava/lang/Object;" ⟨"java/lang/Object", "getClass", "()Ljava/lang/Class;"⟩ ⟨"java/lang/Object", "getClass", "()Ljava/lang/Class;"⟩ ∈ Tg := Tg_of (i := 1968) (by decide +kernel) (by decide +kernel)
theorem im_getClass : Cond.instanceMethod ⟨"java/lang/Object", "getClass", "()Ljava/lang/Class;"⟩ ∈ Tg := Tg_of (i := 734) (by decide +kernel) (by decide +kernel)
theorem na_getClass : Cond.native ⟨"java/lang/Object", "getClass", "()Ljava/lang/Class;"⟩ ∈ Tg := Tg_of (i := 754) (by decide +kernel) (by decide +kernel)
theorem ml_J7_300 : Cond.methodLink RJ7 300 yJ7_copyOf_6403c ∈ Tg := Tg_of (i := 755) (by decide +kernel) (by decide +kernel)
theorem lk_J7_300 : Lk RJ7 300 yJ7_copyOf_6403c cJ7_copyOf_6403c 4 (some (.array (.object "java/lang/Object"))) 3 := ⟨ml_J7_300, cd_J7_copyOf_6403c, iw_J7, by decide +kernel⟩
theorem sm_J7_copyOf_6403c : Cond.static yJ7_copyOf_6403c ∈ Tg := Tg_of (i := 756) (by decide +kernel) (by decide +kernel)
section M_J7_copyOf_1904c
variable {p : Program} {l : Launch} {e : Env} {s : State} {m : MethodId} {args : Array Value} {below : List Frame} {meth : Method} {c : Code} {G : GG} {o : Except Nat (Option Nat)} {hs' : Hs}
end M_J7_copyOf_1904c
def f_J7_copyOf_1904c (p0 : Option Nat) (p1 : Int32) : OO (Option Nat) :=
    arrO p0 (
    call (f_J7_copyOf_6403c p0 p1) (fun (v1 : Option Nat) =>
    rtn v1) nox)
set_option maxRecDepth 100000 in
set_option maxHeartbeats 4000000 in
theorem m_J7_copyOf_1904c {G : GG} {l : Launch} {p0 : Option Nat} {p1 : Int32} {hs hs' : Hs} {o : Except Nat (Option Nat)} (h : f_J7_copyOf_1904c p0 p1 hs = some (o, hs')) : CT G l yJ7_copyOf_1904c cJ7_copyOf_1904c 2 (some (.array (.object "java/lang/Object"))) 2 83 1 30 [va_rf p0, .int p1] hs o hs' tvR := by
  refine vx_ofW (cc := cJ7_copyOf_1904c) (maxL := 2) (ret := (some (.array (.object "java/lang/Object")))) (by decide +kernel) rfl ?_
  intro p e s m args below meth c s₁ B hml hxt hv
  obtain ⟨hav, hR, hKn⟩ := hv
  subst hav
  have hts := atoms_spec (ws := .code yJ7_copyOf_1904c cJ7_copyOf_1904c 2 (some (.array (.object "java/lang/Object"))) :: Tg) B.pre
  have C : Cx G l p s m _ c RJ7 cJ7_copyOf_1904c 2 := ⟨B.exec, B.bytes, hml, findClass_of_methodNamed B.named, fun w hw => hts w (List.mem_cons_of_mem _ hw), hKn, fun q hq => Nat.le_trans hR.2.2.1 hq⟩
  have C2 : Cy meth c (some (.array (.object "java/lang/Object"))) := ⟨B.returns, B.notSynchronized, hxt⟩
  have key : WG G p l e { frames := 2, cells := 1, slots := 30, locals := 83 } s m ([va_rf p0, .int p1] : List Value).toArray below meth c 2 0 0 (vx_MQ below (QcT G o hs' tvR) (XCT G o hs') ([va_rf p0, .int p1] : List Value).toArray s 1 30 (gA G)) hs [(0, va_rf p0), (1, .int p1)] [] 0 := by
    unfold f_J7_copyOf_1904c at h
    refine q_aload_n C 0 dJ7_copyOf_1904c_0 rfl ?_
    refine q_iload_n C 1 dJ7_copyOf_1904c_1 rfl ?_
    refine q_aload_n C 0 dJ7_copyOf_1904c_2 rfl ?_
    refine q_getC C ml_J7_86 se_getClass im_getClass na_getClass (Nat.le_of_ble_eq_true rfl) (Nat.le_of_ble_eq_true rfl) (by simp only [List.map, cat_rf, cat_i, cat_a]; decide) dJ7_copyOf_1904c_3 h (fun h => ?_)
    refine q_callS C [va_rf p0, .int p1, .ref G.2.2.2.2.2.2] [] (fun o2 hs1 hm => m_J7_copyOf_6403c hm) lk_J7_300 sm_J7_copyOf_6403c ⟨(Nat.le_of_ble_eq_true rfl), (Nat.le_of_ble_eq_true rfl)⟩ ⟨(Nat.le_of_ble_eq_true rfl), (Nat.le_of_ble_eq_true rfl)⟩ rfl rfl (by decide) dJ7_copyOf_1904c_6 h (fun v1 hs h => WG_st (st' := [va_rf v1]) rfl ?_)
    exact q_aret C C2 rfl (Or.inr ⟨_, rfl⟩) (Nat.le_of_ble_eq_true rfl) (Nat.le_of_ble_eq_true rfl) dJ7_copyOf_1904c_9 h
  rw [lg_entry_eq]
  cases p0 <;> exact key _ _ _ hR va_S.rf ⟨lv_entry _ (n := 2) (Nat.le_of_ble_eq_true rfl), (c1_r (c1_i c1_n))⟩

theorem cd_Jx4a65c_grow_92f84 : Cond.code yJx4a65c_grow_92f84 cJx4a65c_grow_92f84 4 (some (.array (.object "java/lang/Object"))) ∈ Tg := Tg_of (i := 721) (by decide +kernel) (by decide +kernel)
theorem ml_Jx4a65c_73 : Cond.methodLink RJx4a65c 73 yJ8_newLength_cabcc ∈ Tg := Tg_of (i := 722) (by decide +kernel) (by decide +kernel)
theorem lk_Jx4a65c_73 : Lk RJx4a65c 73 yJ8_newLength_cabcc cJ8_newLength_cabcc 4 (some .int) 3 := ⟨ml_Jx4a65c_73, cd_J8_newLength_cabcc, iw_J8, by decide +kernel⟩
theorem ml_Jx4a65c_66 : Cond.methodLink RJx4a65c 66 yJ7_copyOf_1904c ∈ Tg := Tg_of (i := 730) (by decide +kernel) (by decide +kernel)
theorem lk_Jx4a65c_66 : Lk RJx4a65c 66 yJ7_copyOf_1904c cJ7_copyOf_1904c 2 (some (.array (.object "java/lang/Object"))) 2 := ⟨ml_Jx4a65c_66, cd_J7_copyOf_1904c, iw_J7, by decide +kernel⟩
theorem sm_J7_copyOf_1904c : Cond.static yJ7_copyOf_1904c ∈ Tg := Tg_of (i := 731) (by decide +kernel) (by decide +kernel)
theorem sm_J8_newLength_cabcc : Cond.static yJ8_newLength_cabcc ∈ Tg := Tg_of (i := 723) (by decide +kernel) (by decide +kernel)
theorem ml_Jx4a65c_79 : Cond.methodLink RJx4a65c 79 Lib.Math.max.name ∈ Tg := Tg_of (i := 767) (by decide +kernel) (by decide +kernel)
theorem wc_Jx4a65c_7 : Cond.classLink RJx4a65c 7 "java/lang/Object" ∈ Tg := Tg_of (i := 768) (by decide +kernel) (by decide +kernel)
section M_Jx4a65c_grow_92f84
variable {p : Program} {l : Launch} {e : Env} {s : State} {m : MethodId} {args : Array Value} {below : List Frame} {meth : Method} {c : Code} {G : GG} {o : Except Nat (Option Nat)} {hs' : Hs}
def j_Jx4a65c_grow_92f84_20 (a0 : Option Nat) (a1 : Int32) (a2 : Int32)   : OO (Option Nat) :=
  call (f_J8_newLength_cabcc a2 (a1 - a2) (a2 >>> ((1 : Int32) &&& 31))) (fun (v4 : Int32) =>
    lets v4 fun (v5 : Int32) =>
    gR a0 2 1 fun v6 =>
    call (f_J7_copyOf_1904c v6 v5) (fun (v7 : Option Nat) =>
    pR a0 2 1 v7 (
    rtn v7)) nox) nox
set_option maxRecDepth 100000 in
set_option maxHeartbeats 4000000 in
theorem w_j_Jx4a65c_grow_92f84_20 (C : Cx G l p s m args c RJx4a65c cJx4a65c_grow_92f84 4) (C2 : Cy meth c (some (.array (.object "java/lang/Object")))) {hs : Hs} (a0 : Option Nat) (a1 : Int32) (a2 : Int32)    (h : j_Jx4a65c_grow_92f84_20 a0 a1 a2 hs = some (o, hs')) : WG G p l e { frames := 3, cells := 1, slots := 30, locals := 104 } s m args below meth c 4 0 0 (vx_MQ below (QcT G o hs' tvR) (XCT G o hs') args s 1 30 (gA G)) hs [(0, va_rf a0), (1, .int a1), (2, .int a2)] [] 20 := by
  unfold j_Jx4a65c_grow_92f84_20 at h
  refine q_iload_n C 2 dJx4a65c_grow_92f84_20 rfl ?_
  refine q_iload_n C 1 dJx4a65c_grow_92f84_21 rfl ?_
  refine q_iload_n C 2 dJx4a65c_grow_92f84_22 rfl ?_
  refine q_isub C dJx4a65c_grow_92f84_23 ?_
  refine q_iload_n C 2 dJx4a65c_grow_92f84_24 rfl ?_
  refine q_iconst C (1 : Int32) dJx4a65c_grow_92f84_25 (by decide) ?_
  refine q_ishr C dJx4a65c_grow_92f84_26 ?_
  refine q_callS C [.int a2, .int (a1 - a2), .int (a2 >>> ((1 : Int32) &&& 31))] [] (fun o2 hs1 hm => m_J8_newLength_cabcc hm) lk_Jx4a65c_73 sm_J8_newLength_cabcc ⟨(Nat.le_of_ble_eq_true rfl), (Nat.le_of_ble_eq_true rfl)⟩ ⟨(Nat.le_of_ble_eq_true rfl), (Nat.le_of_ble_eq_true rfl)⟩ rfl rfl (by decide) dJx4a65c_grow_92f84_27 h (fun v4 hs h => WG_st (st' := [.int v4]) rfl ?_)
  refine q_istore_n C (fun v5 => [(3, .int v5), (0, va_rf a0), (1, .int a1), (2, .int a2)]) dJx4a65c_grow_92f84_30 (by decide) (fun _ => rfl) h (fun v5 h => ?_)
  refine q_aload_n C 1 dJx4a65c_grow_92f84_31 rfl ?_
  refine q_aload_n C 1 dJx4a65c_grow_92f84_32 rfl ?_
  refine q_gR C fl_Jx4a65c_9 dJx4a65c_grow_92f84_33 h (fun v6 h => ?_)
  refine q_iload_n C 0 dJx4a65c_grow_92f84_36 rfl ?_
  refine q_callS C [va_rf v6, .int v5] [va_rf a0] (fun o2 hs1 hm => m_J7_copyOf_1904c hm) lk_Jx4a65c_66 sm_J7_copyOf_1904c ⟨(Nat.le_of_ble_eq_true rfl), (Nat.le_of_ble_eq_true rfl)⟩ ⟨(Nat.le_of_ble_eq_true rfl), (Nat.le_of_ble_eq_true rfl)⟩ rfl rfl (by simp only [List.map, cat_rf, cat_i, cat_a]; decide) dJx4a65c_grow_92f84_37 h (fun v7 hs h => WG_st (st' := [va_rf v7, va_rf a0]) rfl ?_)
  refine q_dupx1 C (cat_rf _) (cat_rf _) dJx4a65c_grow_92f84_40 ?_
  refine q_pR C fw_Jx4a65c_9 (fun z => nomatch z) rfl dJx4a65c_grow_92f84_41 h (fun hs h => ?_)
  exact q_aret C C2 rfl (Or.inr ⟨_, rfl⟩) (Nat.le_of_ble_eq_true rfl) (Nat.le_of_ble_eq_true rfl) dJx4a65c_grow_92f84_44 h
end M_Jx4a65c_grow_92f84
def f_Jx4a65c_grow_92f84 (a0 : Nat) (p1 : Int32) : OO (Option Nat) :=
    gR (some a0) 2 1 fun v1 =>
    alen v1 fun v2 =>
    lets v2 fun (v3 : Int32) =>
    (if 0 < v3 then
    j_Jx4a65c_grow_92f84_20 (some a0) p1 v3
    else
    gR (some a0) 2 1 fun v8 =>
    gE fun (v9 : Option Nat) =>
    (if v8 = v9 then
    nwO ((if (10 : Int32) < p1 then p1 else (10 : Int32))) 30 fun q10 =>
    pR (some a0) 2 1 (some q10) (
    rtn (some q10))
    else
    j_Jx4a65c_grow_92f84_20 (some a0) p1 v3))
set_option maxRecDepth 100000 in
set_option maxHeartbeats 4000000 in
theorem m_Jx4a65c_grow_92f84 {G : GG} {l : Launch} {a0 : Nat} {p1 : Int32} {hs hs' : Hs} {o : Except Nat (Option Nat)} (h : f_Jx4a65c_grow_92f84 a0 p1 hs = some (o, hs')) : CT G l yJx4a65c_grow_92f84 cJx4a65c_grow_92f84 4 (some (.array (.object "java/lang/Object"))) 3 104 1 30 [.ref a0, .int p1] hs o hs' tvR := by
  refine vx_ofW (cc := cJx4a65c_grow_92f84) (maxL := 4) (ret := (some (.array (.object "java/lang/Object")))) (by decide +kernel) rfl ?_
  intro p e s m args below meth c s₁ B hml hxt hv
  obtain ⟨hav, hR, hKn⟩ := hv
  subst hav
  have hts := atoms_spec (ws := .code yJx4a65c_grow_92f84 cJx4a65c_grow_92f84 4 (some (.array (.object "java/lang/Object"))) :: Tg) B.pre
  have C : Cx G l p s m _ c RJx4a65c cJx4a65c_grow_92f84 4 := ⟨B.exec, B.bytes, hml, findClass_of_methodNamed B.named, fun w hw => hts w (List.mem_cons_of_mem _ hw), hKn, fun q hq => Nat.le_trans hR.2.2.1 hq⟩
  have C2 : Cy meth c (some (.array (.object "java/lang/Object"))) := ⟨B.returns, B.notSynchronized, hxt⟩
  have key : WG G p l e { frames := 3, cells := 1, slots := 30, locals := 104 } s m ([.ref a0, .int p1] : List Value).toArray below meth c 4 0 0 (vx_MQ below (QcT G o hs' tvR) (XCT G o hs') ([.ref a0, .int p1] : List Value).toArray s 1 30 (gA G)) hs [(0, va_rf (some a0)), (1, .int p1)] [] 0 := by
    unfold f_Jx4a65c_grow_92f84 at h
    refine q_aload_n C 0 dJx4a65c_grow_92f84_0 rfl ?_
    refine q_gR C fl_Jx4a65c_9 dJx4a65c_grow_92f84_1 h (fun v1 h => ?_)
    refine q_alen C dJx4a65c_grow_92f84_4 h (fun v2 h => ?_)
    refine q_istore_n C (fun v3 => [(2, .int v3), (0, va_rf (some a0)), (1, .int p1)]) dJx4a65c_grow_92f84_5 (by decide) (fun _ => rfl) h (fun v3 h => ?_)
    refine q_iload_n C 0 dJx4a65c_grow_92f84_6 rfl ?_
    refine q_if_gt C 20 dJx4a65c_grow_92f84_7 (by decide) h (fun h => ?_) (fun h => ?_)
    · refine WG.sub [1, 2, 0] rfl ?_
      exact w_j_Jx4a65c_grow_92f84_20 C C2 _ _ _   h
    · refine q_aload_n C 1 dJx4a65c_grow_92f84_10 rfl ?_
      refine q_gR C fl_Jx4a65c_9 dJx4a65c_grow_92f84_11 h (fun v8 h => ?_)
      refine q_gE C ws_Jx4a65c_39 dJx4a65c_grow_92f84_14 h (fun v9 h => ?_)
      refine q_acmp_eq C 45 dJx4a65c_grow_92f84_17 (by decide) h (fun h => ?_) (fun h => ?_)
      · refine q_aload_n C 1 dJx4a65c_grow_92f84_45 rfl ?_
        refine q_bipush C (10 : Int32) dJx4a65c_grow_92f84_46 (by decide) ?_
        refine q_iload_n C 2 dJx4a65c_grow_92f84_48 rfl ?_
        refine q_max C ml_Jx4a65c_79 sm_max iw_math cd_max (Nat.le_of_ble_eq_true rfl) (Nat.le_of_ble_eq_true rfl) (Nat.le_of_ble_eq_true rfl) (Nat.le_of_ble_eq_true rfl) (by simp only [List.map, cat_rf, cat_i, cat_a]; decide) dJx4a65c_grow_92f84_49 ?_
        refine q_newO C 30 (Nat.le_of_ble_eq_true rfl) wc_Jx4a65c_7 (Nat.le_of_ble_eq_true rfl) (Nat.le_of_ble_eq_true rfl) dJx4a65c_grow_92f84_52 h (fun q10 hs h => ?_)
        refine q_dupx1 C (cat_rf _) (cat_rf _) dJx4a65c_grow_92f84_55 ?_
        refine q_pR C fw_Jx4a65c_9 (fun z => nomatch z) rfl dJx4a65c_grow_92f84_56 h (fun hs h => ?_)
        exact q_aret C C2 rfl (Or.inr ⟨_, rfl⟩) (Nat.le_of_ble_eq_true rfl) (Nat.le_of_ble_eq_true rfl) dJx4a65c_grow_92f84_59 h
      · refine WG.sub [1, 2, 0] rfl ?_
        exact w_j_Jx4a65c_grow_92f84_20 C C2 _ _ _   h
  rw [lg_entry_eq]
  exact key _ _ _ hR va_S.rf ⟨lv_entry _ (n := 4) (Nat.le_of_ble_eq_true rfl), (c1_r (c1_i c1_n))⟩

theorem cd_Jx4a65c_grow_d5877 : Cond.code yJx4a65c_grow_d5877 cJx4a65c_grow_d5877 1 (some (.array (.object "java/lang/Object"))) ∈ Tg := Tg_of (i := 717) (by decide +kernel) (by decide +kernel)
theorem ml_Jx4a65c_69 : Cond.methodLink RJx4a65c 69 yJx4a65c_grow_92f84 ∈ Tg := Tg_of (i := 718) (by decide +kernel) (by decide +kernel)
theorem lk_Jx4a65c_69 : Lk RJx4a65c 69 yJx4a65c_grow_92f84 cJx4a65c_grow_92f84 4 (some (.array (.object "java/lang/Object"))) 1 := ⟨ml_Jx4a65c_69, cd_Jx4a65c_grow_92f84, iw_Jx4a65c, by decide +kernel⟩
theorem im_Jx4a65c_grow_92f84 : Cond.instanceMethod yJx4a65c_grow_92f84 ∈ Tg := Tg_of (i := 720) (by decide +kernel) (by decide +kernel)
theorem se_Jx4a65c_Jx4a65c_grow_92f84 : Cond.selects RJx4a65c yJx4a65c_grow_92f84 yJx4a65c_grow_92f84 ∈ Tg := Tg_of (i := 19) (by decide +kernel) (by decide +kernel)
section M_Jx4a65c_grow_d5877
variable {p : Program} {l : Launch} {e : Env} {s : State} {m : MethodId} {args : Array Value} {below : List Frame} {meth : Method} {c : Code} {G : GG} {o : Except Nat (Option Nat)} {hs' : Hs}
end M_Jx4a65c_grow_d5877
def f_Jx4a65c_grow_d5877 (a0 : Nat) : OO (Option Nat) :=
    gI (some a0) 2 2 fun v1 =>
    rcv (some a0) 2 fun r3 => call (f_Jx4a65c_grow_92f84 r3 (v1 + (1 : Int32))) (fun (v2 : Option Nat) =>
    rtn v2) nox
set_option maxRecDepth 100000 in
set_option maxHeartbeats 4000000 in
theorem m_Jx4a65c_grow_d5877 {G : GG} {l : Launch} {a0 : Nat} {hs hs' : Hs} {o : Except Nat (Option Nat)} (h : f_Jx4a65c_grow_d5877 a0 hs = some (o, hs')) : CT G l yJx4a65c_grow_d5877 cJx4a65c_grow_d5877 1 (some (.array (.object "java/lang/Object"))) 4 127 1 30 [.ref a0] hs o hs' tvR := by
  refine vx_ofW (cc := cJx4a65c_grow_d5877) (maxL := 1) (ret := (some (.array (.object "java/lang/Object")))) (by decide +kernel) rfl ?_
  intro p e s m args below meth c s₁ B hml hxt hv
  obtain ⟨hav, hR, hKn⟩ := hv
  subst hav
  have hts := atoms_spec (ws := .code yJx4a65c_grow_d5877 cJx4a65c_grow_d5877 1 (some (.array (.object "java/lang/Object"))) :: Tg) B.pre
  have C : Cx G l p s m _ c RJx4a65c cJx4a65c_grow_d5877 1 := ⟨B.exec, B.bytes, hml, findClass_of_methodNamed B.named, fun w hw => hts w (List.mem_cons_of_mem _ hw), hKn, fun q hq => Nat.le_trans hR.2.2.1 hq⟩
  have C2 : Cy meth c (some (.array (.object "java/lang/Object"))) := ⟨B.returns, B.notSynchronized, hxt⟩
  have key : WG G p l e { frames := 4, cells := 1, slots := 30, locals := 127 } s m ([.ref a0] : List Value).toArray below meth c 1 0 0 (vx_MQ below (QcT G o hs' tvR) (XCT G o hs') ([.ref a0] : List Value).toArray s 1 30 (gA G)) hs [(0, va_rf (some a0))] [] 0 := by
    unfold f_Jx4a65c_grow_d5877 at h
    refine q_aload_n C 0 dJx4a65c_grow_d5877_0 rfl ?_
    refine q_aload_n C 0 dJx4a65c_grow_d5877_1 rfl ?_
    refine q_gI C fl_Jx4a65c_48 dJx4a65c_grow_d5877_2 h (fun v1 h => ?_)
    refine q_iconst C (1 : Int32) dJx4a65c_grow_d5877_5 (by decide) ?_
    refine q_iadd C dJx4a65c_grow_d5877_6 ?_
    refine q_callV C (CN := RJx4a65c) (T := TJx4a65c) (N := 3) [.int (v1 + (1 : Int32))] [] (fun a0 o2 hs1 hm => m_Jx4a65c_grow_92f84 hm) lk_Jx4a65c_69 im_Jx4a65c_grow_92f84 se_Jx4a65c_Jx4a65c_grow_92f84 rfl ⟨(Nat.le_of_ble_eq_true rfl), (Nat.le_of_ble_eq_true rfl)⟩ ⟨(Nat.le_of_ble_eq_true rfl), (Nat.le_of_ble_eq_true rfl)⟩ rfl rfl (by decide) dJx4a65c_grow_d5877_7 h (fun v2 hs h => WG_st (st' := [va_rf v2]) rfl ?_)
    exact q_aret C C2 rfl (Or.inr ⟨_, rfl⟩) (Nat.le_of_ble_eq_true rfl) (Nat.le_of_ble_eq_true rfl) dJx4a65c_grow_d5877_10 h
  rw [lg_entry_eq]
  exact key _ _ _ hR va_S.rf ⟨lv_entry _ (n := 1) (Nat.le_of_ble_eq_true rfl), (c1_r c1_n)⟩

theorem cd_Jx4a65c_add_72be8 : Cond.code yJx4a65c_add_72be8 cJx4a65c_add_72be8 4 none ∈ Tg := Tg_of (i := 713) (by decide +kernel) (by decide +kernel)
theorem fw_Jx4a65c_48 : FldW RJx4a65c 48 2 2 .int false := ⟨RJx4a65c, TJx4a65c, 3, RJx4a65c, rfl, by decide, wf_Jx4a65c_48, (Or.inl rfl), gu_Jx4a65c, tyJx4a65c_ok _ (by decide), ⟨tyJx4a65c, tyJx4a65c_ok⟩, nmJx4a65c, rfl, fun z => nomatch z⟩
theorem ml_Jx4a65c_129 : Cond.methodLink RJx4a65c 129 yJx4a65c_grow_d5877 ∈ Tg := Tg_of (i := 714) (by decide +kernel) (by decide +kernel)
theorem lk_Jx4a65c_129 : Lk RJx4a65c 129 yJx4a65c_grow_d5877 cJx4a65c_grow_d5877 1 (some (.array (.object "java/lang/Object"))) 0 := ⟨ml_Jx4a65c_129, cd_Jx4a65c_grow_d5877, iw_Jx4a65c, by decide +kernel⟩
theorem im_Jx4a65c_grow_d5877 : Cond.instanceMethod yJx4a65c_grow_d5877 ∈ Tg := Tg_of (i := 716) (by decide +kernel) (by decide +kernel)
theorem se_Jx4a65c_Jx4a65c_grow_d5877 : Cond.selects RJx4a65c yJx4a65c_grow_d5877 yJx4a65c_grow_d5877 ∈ Tg := Tg_of (i := 18) (by decide +kernel) (by decide +kernel)
section M_Jx4a65c_add_72be8
variable {p : Program} {l : Launch} {e : Env} {s : State} {m : MethodId} {args : Array Value} {below : List Frame} {meth : Method} {c : Code} {G : GG} {o : Except Nat Unit} {hs' : Hs}
def j_Jx4a65c_add_72be8_11 (a0 : Option Nat) (a1 : Option Nat) (a2 : Option Nat) (a3 : Int32)   : OO Unit :=
  stO [5, 7, 8, 10] a2 a3 a1 (
    pI a0 2 2 (a3 + (1 : Int32)) (
    rtn ()))
set_option maxRecDepth 100000 in
set_option maxHeartbeats 4000000 in
theorem w_j_Jx4a65c_add_72be8_11 (C : Cx G l p s m args c RJx4a65c cJx4a65c_add_72be8 4) (C2 : Cy meth c none) {hs : Hs} (a0 : Option Nat) (a1 : Option Nat) (a2 : Option Nat) (a3 : Int32)    (h : j_Jx4a65c_add_72be8_11 a0 a1 a2 a3 hs = some (o, hs')) : WG G p l e { frames := 5, cells := 1, slots := 30, locals := 147 } s m args below meth c 4 1 30 (vx_MQ below (QcT G o hs' tvV) (XCT G o hs') args s 1 30 (gA G)) hs [(0, va_rf a0), (1, va_rf a1), (2, va_rf a2), (3, .int a3)] [] 11 := by
  unfold j_Jx4a65c_add_72be8_11 at h
  refine q_aload_n C 2 dJx4a65c_add_72be8_11 rfl ?_
  refine q_iload_n C 3 dJx4a65c_add_72be8_12 rfl ?_
  refine q_aload_n C 1 dJx4a65c_add_72be8_13 rfl ?_
  refine q_aastO C (by decide +kernel) dJx4a65c_add_72be8_14 h (fun hs h => ?_)
  refine q_aload_n C 0 dJx4a65c_add_72be8_15 rfl ?_
  refine q_iload_n C 3 dJx4a65c_add_72be8_16 rfl ?_
  refine q_iconst C (1 : Int32) dJx4a65c_add_72be8_17 (by decide) ?_
  refine q_iadd C dJx4a65c_add_72be8_18 ?_
  refine q_pI C fw_Jx4a65c_48 (fun z => nomatch z) dJx4a65c_add_72be8_19 h (fun hs h => ?_)
  exact q_vret C C2 rfl (Nat.le_of_ble_eq_true rfl) (Nat.le_of_ble_eq_true rfl) dJx4a65c_add_72be8_22 h
end M_Jx4a65c_add_72be8
def f_Jx4a65c_add_72be8 (a0 : Nat) (p1 : Option Nat) (p2 : Option Nat) (p3 : Int32) : OO Unit :=
    alen p2 fun v1 =>
    (if ¬ p3 = v1 then
    j_Jx4a65c_add_72be8_11 (some a0) p1 p2 p3
    else
    rcv (some a0) 2 fun r4 => call (f_Jx4a65c_grow_d5877 r4 ) (fun (v2 : Option Nat) =>
    lets v2 fun (v3 : Option Nat) =>
    j_Jx4a65c_add_72be8_11 (some a0) p1 v3 p3) nox)
set_option maxRecDepth 100000 in
set_option maxHeartbeats 4000000 in
theorem m_Jx4a65c_add_72be8 {G : GG} {l : Launch} {a0 : Nat} {p1 : Option Nat} {p2 : Option Nat} {p3 : Int32} {hs hs' : Hs} {o : Except Nat Unit} (h : f_Jx4a65c_add_72be8 a0 p1 p2 p3 hs = some (o, hs')) : CT G l yJx4a65c_add_72be8 cJx4a65c_add_72be8 4 none 5 147 1 30 [.ref a0, va_rf p1, va_rf p2, .int p3] hs o hs' tvV := by
  refine vx_ofW (cc := cJx4a65c_add_72be8) (maxL := 4) (ret := none) (by decide +kernel) rfl ?_
  intro p e s m args below meth c s₁ B hml hxt hv
  obtain ⟨hav, hR, hKn⟩ := hv
  subst hav
  have hts := atoms_spec (ws := .code yJx4a65c_add_72be8 cJx4a65c_add_72be8 4 none :: Tg) B.pre
  have C : Cx G l p s m _ c RJx4a65c cJx4a65c_add_72be8 4 := ⟨B.exec, B.bytes, hml, findClass_of_methodNamed B.named, fun w hw => hts w (List.mem_cons_of_mem _ hw), hKn, fun q hq => Nat.le_trans hR.2.2.1 hq⟩
  have C2 : Cy meth c none := ⟨B.returns, B.notSynchronized, hxt⟩
  have key : WG G p l e { frames := 5, cells := 1, slots := 30, locals := 147 } s m ([.ref a0, va_rf p1, va_rf p2, .int p3] : List Value).toArray below meth c 4 0 0 (vx_MQ below (QcT G o hs' tvV) (XCT G o hs') ([.ref a0, va_rf p1, va_rf p2, .int p3] : List Value).toArray s 1 30 (gA G)) hs [(0, va_rf (some a0)), (1, va_rf p1), (2, va_rf p2), (3, .int p3)] [] 0 := by
    unfold f_Jx4a65c_add_72be8 at h
    refine q_iload_n C 3 dJx4a65c_add_72be8_0 rfl ?_
    refine q_aload_n C 2 dJx4a65c_add_72be8_1 rfl ?_
    refine q_alen C dJx4a65c_add_72be8_2 h (fun v1 h => ?_)
    refine q_icmp_ne C 11 dJx4a65c_add_72be8_3 (by decide) h (fun h => ?_) (fun h => ?_)
    · refine WG.widen (k := 1) (n := 30) (Nat.le_of_ble_eq_true rfl) (Nat.le_of_ble_eq_true rfl) ?_
      exact w_j_Jx4a65c_add_72be8_11 C C2 _ _ _ _   h
    · refine q_aload_n C 0 dJx4a65c_add_72be8_6 rfl ?_
      refine q_callV C (CN := RJx4a65c) (T := TJx4a65c) (N := 3) [] [] (fun a0 o2 hs1 hm => m_Jx4a65c_grow_d5877 hm) lk_Jx4a65c_129 im_Jx4a65c_grow_d5877 se_Jx4a65c_Jx4a65c_grow_d5877 rfl ⟨(Nat.le_of_ble_eq_true rfl), (Nat.le_of_ble_eq_true rfl)⟩ ⟨(Nat.le_of_ble_eq_true rfl), (Nat.le_of_ble_eq_true rfl)⟩ rfl rfl (by decide) dJx4a65c_add_72be8_7 h (fun v2 hs h => WG_st (st' := [va_rf v2]) rfl ?_)
      refine q_astore_n C (fun v3 => [(2, va_rf v3), (0, va_rf (some a0)), (1, va_rf p1), (3, .int p3)]) dJx4a65c_add_72be8_10 (by decide) (fun _ => rfl) h (fun v3 h => ?_)
      refine WG.sub [1, 2, 0, 3] rfl ?_
      exact w_j_Jx4a65c_add_72be8_11 C C2 _ _ _ _   h
  rw [lg_entry_eq]
  cases p1 <;> cases p2 <;> exact key _ _ _ hR va_S.rf ⟨lv_entry _ (n := 4) (Nat.le_of_ble_eq_true rfl), (c1_r (c1_r (c1_r (c1_i c1_n))))⟩

theorem cd_Jx4a65c_add_9ea2d : Cond.code yJx4a65c_add_9ea2d cJx4a65c_add_9ea2d 2 (some .boolean) ∈ Tg := Tg_of (i := 709) (by decide +kernel) (by decide +kernel)
theorem sf_Jx4a65c_0 : Cond.sameField RJx4a65c (TJx4a65c 0).1 (TJx4a65c 0).2.1 (TJx4a65c 0).2.2.1 ∈ Tg := Tg_of (i := 139) (by decide +kernel) (by decide +kernel)
theorem wf_Jx4a65c_63 : Cond.fieldLink RJx4a65c 63 RJx4a65c (TJx4a65c 0).2.1 (TJx4a65c 0).2.2.1 ∈ Tg := Tg_of (i := 138) (by decide +kernel) (by decide +kernel)
theorem fl_Jx4a65c_63 : Fld RJx4a65c 63 2 0 .int := ⟨RJx4a65c, TJx4a65c, 3, RJx4a65c, rfl, by decide, wf_Jx4a65c_63, (Or.inr sf_Jx4a65c_0), gu_Jx4a65c, tyJx4a65c_ok _ (by decide), ⟨tyJx4a65c, tyJx4a65c_ok⟩, nmJx4a65c⟩
theorem fw_Jx4a65c_63 : FldW RJx4a65c 63 2 0 .int false := ⟨RJx4a65c, TJx4a65c, 3, RJx4a65c, rfl, by decide, wf_Jx4a65c_63, (Or.inr sf_Jx4a65c_0), gu_Jx4a65c, tyJx4a65c_ok _ (by decide), ⟨tyJx4a65c, tyJx4a65c_ok⟩, nmJx4a65c, rfl, fun z => nomatch z⟩
theorem ml_Jx4a65c_131 : Cond.methodLink RJx4a65c 131 yJx4a65c_add_72be8 ∈ Tg := Tg_of (i := 710) (by decide +kernel) (by decide +kernel)
theorem lk_Jx4a65c_131 : Lk RJx4a65c 131 yJx4a65c_add_72be8 cJx4a65c_add_72be8 4 none 3 := ⟨ml_Jx4a65c_131, cd_Jx4a65c_add_72be8, iw_Jx4a65c, by decide +kernel⟩
theorem im_Jx4a65c_add_72be8 : Cond.instanceMethod yJx4a65c_add_72be8 ∈ Tg := Tg_of (i := 712) (by decide +kernel) (by decide +kernel)
theorem se_Jx4a65c_Jx4a65c_add_72be8 : Cond.selects RJx4a65c yJx4a65c_add_72be8 yJx4a65c_add_72be8 ∈ Tg := Tg_of (i := 17) (by decide +kernel) (by decide +kernel)
section M_Jx4a65c_add_9ea2d
variable {p : Program} {l : Launch} {e : Env} {s : State} {m : MethodId} {args : Array Value} {below : List Frame} {meth : Method} {c : Code} {G : GG} {o : Except Nat Int32} {hs' : Hs}
end M_Jx4a65c_add_9ea2d
def f_Jx4a65c_add_9ea2d (a0 : Nat) (p1 : Option Nat) : OO Int32 :=
    gI (some a0) 2 0 fun v1 =>
    pI (some a0) 2 0 (v1 + (1 : Int32)) (
    gR (some a0) 2 1 fun v2 =>
    gI (some a0) 2 2 fun v3 =>
    rcv (some a0) 2 fun r5 => call (f_Jx4a65c_add_72be8 r5 p1 v2 v3) (fun (v4 : Unit) =>
    retZ (1 : Int32)) nox)
set_option maxRecDepth 100000 in
set_option maxHeartbeats 4000000 in
theorem m_Jx4a65c_add_9ea2d {G : GG} {l : Launch} {a0 : Nat} {p1 : Option Nat} {hs hs' : Hs} {o : Except Nat Int32} (h : f_Jx4a65c_add_9ea2d a0 p1 hs = some (o, hs')) : CT G l yJx4a65c_add_9ea2d cJx4a65c_add_9ea2d 2 (some .boolean) 6 170 1 30 [.ref a0, va_rf p1] hs o hs' tvI := by
  refine vx_ofW (cc := cJx4a65c_add_9ea2d) (maxL := 2) (ret := (some .boolean)) (by decide +kernel) rfl ?_
  intro p e s m args below meth c s₁ B hml hxt hv
  obtain ⟨hav, hR, hKn⟩ := hv
  subst hav
  have hts := atoms_spec (ws := .code yJx4a65c_add_9ea2d cJx4a65c_add_9ea2d 2 (some .boolean) :: Tg) B.pre
  have C : Cx G l p s m _ c RJx4a65c cJx4a65c_add_9ea2d 2 := ⟨B.exec, B.bytes, hml, findClass_of_methodNamed B.named, fun w hw => hts w (List.mem_cons_of_mem _ hw), hKn, fun q hq => Nat.le_trans hR.2.2.1 hq⟩
  have C2 : Cy meth c (some .boolean) := ⟨B.returns, B.notSynchronized, hxt⟩
  have key : WG G p l e { frames := 6, cells := 1, slots := 30, locals := 170 } s m ([.ref a0, va_rf p1] : List Value).toArray below meth c 2 0 0 (vx_MQ below (QcT G o hs' tvI) (XCT G o hs') ([.ref a0, va_rf p1] : List Value).toArray s 1 30 (gA G)) hs [(0, va_rf (some a0)), (1, va_rf p1)] [] 0 := by
    unfold f_Jx4a65c_add_9ea2d at h
    refine q_aload_n C 0 dJx4a65c_add_9ea2d_0 rfl ?_
    refine q_dup C (cat_rf _) dJx4a65c_add_9ea2d_1 ?_
    refine q_gI C fl_Jx4a65c_63 dJx4a65c_add_9ea2d_2 h (fun v1 h => ?_)
    refine q_iconst C (1 : Int32) dJx4a65c_add_9ea2d_5 (by decide) ?_
    refine q_iadd C dJx4a65c_add_9ea2d_6 ?_
    refine q_pI C fw_Jx4a65c_63 (fun z => nomatch z) dJx4a65c_add_9ea2d_7 h (fun hs h => ?_)
    refine q_aload_n C 0 dJx4a65c_add_9ea2d_10 rfl ?_
    refine q_aload_n C 1 dJx4a65c_add_9ea2d_11 rfl ?_
    refine q_aload_n C 0 dJx4a65c_add_9ea2d_12 rfl ?_
    refine q_gR C fl_Jx4a65c_9 dJx4a65c_add_9ea2d_13 h (fun v2 h => ?_)
    refine q_aload_n C 0 dJx4a65c_add_9ea2d_16 rfl ?_
    refine q_gI C fl_Jx4a65c_48 dJx4a65c_add_9ea2d_17 h (fun v3 h => ?_)
    refine q_callV C (CN := RJx4a65c) (T := TJx4a65c) (N := 3) [va_rf p1, va_rf v2, .int v3] [] (fun a0 o2 hs1 hm => m_Jx4a65c_add_72be8 hm) lk_Jx4a65c_131 im_Jx4a65c_add_72be8 se_Jx4a65c_Jx4a65c_add_72be8 rfl ⟨(Nat.le_of_ble_eq_true rfl), (Nat.le_of_ble_eq_true rfl)⟩ ⟨(Nat.le_of_ble_eq_true rfl), (Nat.le_of_ble_eq_true rfl)⟩ rfl rfl (by decide) dJx4a65c_add_9ea2d_20 h (fun v4 hs h => WG_st (st' := []) rfl ?_)
    refine q_iconst C (1 : Int32) dJx4a65c_add_9ea2d_23 (by decide) ?_
    exact q_zret C C2 rfl (Nat.le_of_ble_eq_true rfl) (Nat.le_of_ble_eq_true rfl) dJx4a65c_add_9ea2d_24 h
  rw [lg_entry_eq]
  cases p1 <;> exact key _ _ _ hR va_S.rf ⟨lv_entry _ (n := 2) (Nat.le_of_ble_eq_true rfl), (c1_r (c1_r c1_n))⟩

theorem cd_X8_addRoom : Cond.code yX8_addRoom cX8_addRoom 5 (some .int) ∈ Tg := Tg_of (i := 583) (by decide +kernel) (by decide +kernel)
theorem ml_X8_56 : Cond.methodLink RX8 56 yX8_isOutside ∈ Tg := Tg_of (i := 584) (by decide +kernel) (by decide +kernel)
theorem lk_X8_56 : Lk RX8 56 yX8_isOutside cX8_isOutside 3 (some .boolean) 3 := ⟨ml_X8_56, cd_X8_isOutside, iw_X8, by decide +kernel⟩
theorem wc_X8_x60 : Cond.classLink RX8 60 "java/lang/IllegalArgumentException" ∈ Tg := Tg_of (i := 587) (by decide +kernel) (by decide +kernel)
theorem iw_x1 : Cond.initialized "java/lang/IllegalArgumentException" ∈ Tg := Tg_of (i := 92) (by decide +kernel) (by decide +kernel)
set_option maxRecDepth 100000 in
theorem at_X8_64 : ThrA RX8 64 1 := ⟨by decide +kernel, by decide +kernel, by decide +kernel, by decide +kernel, by decide +kernel, by decide⟩
theorem fl_X8_19 : Fld RX8 19 11 1 (.object "Termgrid$Table") := ⟨RX8, TX8, 10, RX8, rfl, by decide, wf_X8_19, (Or.inl rfl), gu_X8, tyX8_ok _ (by decide), ⟨tyX8, tyX8_ok⟩, nmX8⟩
theorem wf_X8_67 : Cond.fieldLink RX8 67 RX6 (TX6 0).2.1 (TX6 0).2.2.1 ∈ Tg := Tg_of (i := 156) (by decide +kernel) (by decide +kernel)
theorem fl_X8_67 : Fld RX8 67 9 0 (.object "java/util/ArrayList") := ⟨RX6, TX6, 6, RX6, rfl, by decide, wf_X8_67, (Or.inl rfl), gu_X6, tyX6_ok _ (by decide), ⟨tyX6, tyX6_ok⟩, nmX6⟩
theorem ml_X8_70 : Cond.methodLink RX8 70 yJx4a65c_size_8abf5 ∈ Tg := Tg_of (i := 658) (by decide +kernel) (by decide +kernel)
theorem lk_X8_70 : Lk RX8 70 yJx4a65c_size_8abf5 cJx4a65c_size_8abf5 1 (some .int) 0 := ⟨ml_X8_70, cd_Jx4a65c_size_8abf5, iw_Jx4a65c, by decide +kernel⟩
theorem wc_X8_79 : Cond.classLink RX8 79 RX5 ∈ Tg := Tg_of (i := 675) (by decide +kernel) (by decide +kernel)
theorem wi_X5 : Cond.instantiable RX5 5 ∈ Tg := Tg_of (i := 676) (by decide +kernel) (by decide +kernel)
theorem iw_X5 : Cond.initialized RX5 ∈ Tg := Tg_of (i := 94) (by decide +kernel) (by decide +kernel)
theorem nf_X8_79 : NewC RX8 79 8 [.int 0, .int 0, .int 0, .int 0, .int 0] 5 := ⟨RX5, TX5, tyX5, rfl, wc_X8_79, wi_X5, iw_X5, gu_X5, tyX5_ok, by decide⟩
theorem ml_X8_81 : Cond.methodLink RX8 81 yX5_init ∈ Tg := Tg_of (i := 677) (by decide +kernel) (by decide +kernel)
theorem lk_X8_81 : Lk RX8 81 yX5_init cX5_init 5 none 4 := ⟨ml_X8_81, cd_X5_init, iw_X5, by decide +kernel⟩
theorem ml_X8_84 : Cond.methodLink RX8 84 yJx4a65c_add_9ea2d ∈ Tg := Tg_of (i := 706) (by decide +kernel) (by decide +kernel)
theorem lk_X8_84 : Lk RX8 84 yJx4a65c_add_9ea2d cJx4a65c_add_9ea2d 2 (some .boolean) 1 := ⟨ml_X8_84, cd_Jx4a65c_add_9ea2d, iw_Jx4a65c, by decide +kernel⟩
theorem im_Jx4a65c_add_9ea2d : Cond.instanceMethod yJx4a65c_add_9ea2d ∈ Tg := Tg_of (i := 707) (by decide +kernel) (by decide +kernel)
theorem se_Jx4a65c_Jx4a65c_add_9ea2d : Cond.selects RJx4a65c yJx4a65c_add_9ea2d yJx4a65c_add_9ea2d ∈ Tg := Tg_of (i := 708) (by decide +kernel) (by decide +kernel)
theorem im_X5_init : Cond.instanceMethod yX5_init ∈ Tg := Tg_of (i := 678) (by decide +kernel) (by decide +kernel)
theorem wc_X8_x74 : Cond.classLink RX8 74 "java/lang/IllegalStateException" ∈ Tg := Tg_of (i := 659) (by decide +kernel) (by decide +kernel)
theorem iw_x2 : Cond.initialized "java/lang/IllegalStateException" ∈ Tg := Tg_of (i := 93) (by decide +kernel) (by decide +kernel)
set_option maxRecDepth 100000 in
theorem at_X8_78 : ThrA RX8 78 2 := ⟨by decide +kernel, by decide +kernel, by decide +kernel, by decide +kernel, by decide +kernel, by decide⟩
theorem sm_X8_isOutside : Cond.static yX8_isOutside ∈ Tg := Tg_of (i := 585) (by decide +kernel) (by decide +kernel)
section M_X8_addRoom
variable {p : Program} {l : Launch} {e : Env} {s : State} {m : MethodId} {args : Array Value} {below : List Frame} {meth : Method} {c : Code} {G : GG} {o : Except Nat Int32} {hs' : Hs}
def j_X8_addRoom_28    : OO Int32 :=
  nthrow 1
set_option maxRecDepth 100000 in
set_option maxHeartbeats 4000000 in
theorem w_j_X8_addRoom_28 (C : Cx G l p s m args c RX8 cX8_addRoom 5) (C2 : Cy meth c (some .int)) {hs : Hs}     (h : j_X8_addRoom_28 hs = some (o, hs')) : WG G p l e { frames := 7, cells := 2, slots := 35, locals := 200 } s m args below meth c 5 0 0 (vx_MQ below (QcT G o hs' tvI) (XCT G o hs') args s 2 35 (gA G)) hs [] [] 28 := by
  unfold j_X8_addRoom_28 at h
  exact q_throw C C2 (k := 1) (tx := "house, kind or seats out of range") wc_X8_x60 iw_x1 at_X8_64 (by decide +kernel) (Nat.le_of_ble_eq_true rfl) (Nat.le_of_ble_eq_true rfl) (Nat.le_of_ble_eq_true rfl) (Nat.le_of_ble_eq_true rfl) (Nat.le_of_ble_eq_true rfl) (Nat.le_of_ble_eq_true rfl) (by decide) dX8_addRoom_28 dX8_addRoom_31 (Or.inl ⟨rfl, dX8_addRoom_32⟩) dX8_addRoom_34 dX8_addRoom_37 h
end M_X8_addRoom
def f_X8_addRoom (a0 : Nat) (p1 : Int32) (p2 : Int32) (p3 : Int32) : OO Int32 :=
    call (f_X8_isOutside p1 (0 : Int32) (2 : Int32)) (fun (v1 : Int32) =>
    (if ¬ v1 = 0 then
    j_X8_addRoom_28
    else
    call (f_X8_isOutside p2 (0 : Int32) (3 : Int32)) (fun (v2 : Int32) =>
    (if ¬ v2 = 0 then
    j_X8_addRoom_28
    else
    call (f_X8_isOutside p3 (1 : Int32) (99 : Int32)) (fun (v3 : Int32) =>
    (if v3 = 0 then
    gR (some a0) 11 1 fun v4 =>
    gR v4 9 0 fun v5 =>
    rcv v5 2 fun r14 => call (f_Jx4a65c_size_8abf5 r14 ) (fun (v6 : Int32) =>
    lets v6 fun (v7 : Int32) =>
    (if v7 < (8 : Int32) then
    gR (some a0) 11 1 fun v8 =>
    gR v8 9 0 fun v9 =>
    nw 8 [.int 0, .int 0, .int 0, .int 0, .int 0] fun q10 =>
    call (f_X5_init q10 v7 p1 p2 p3) (fun (v11 : Unit) =>
    rcv v9 2 fun r13 => call (f_Jx4a65c_add_9ea2d r13 (some q10)) (fun (v12 : Int32) =>
    rtn v7) nox) nox
    else
    nthrow 2)) nox
    else
    j_X8_addRoom_28)) nox)) nox)) nox
set_option maxRecDepth 100000 in
set_option maxHeartbeats 4000000 in
theorem m_X8_addRoom {G : GG} {l : Launch} {a0 : Nat} {p1 : Int32} {p2 : Int32} {p3 : Int32} {hs hs' : Hs} {o : Except Nat Int32} (h : f_X8_addRoom a0 p1 p2 p3 hs = some (o, hs')) : CT G l yX8_addRoom cX8_addRoom 5 (some .int) 7 200 2 35 [.ref a0, .int p1, .int p2, .int p3] hs o hs' tvI := by
  refine vx_ofW (cc := cX8_addRoom) (maxL := 5) (ret := (some .int)) (by decide +kernel) rfl ?_
  intro p e s m args below meth c s₁ B hml hxt hv
  obtain ⟨hav, hR, hKn⟩ := hv
  subst hav
  have hts := atoms_spec (ws := .code yX8_addRoom cX8_addRoom 5 (some .int) :: Tg) B.pre
  have C : Cx G l p s m _ c RX8 cX8_addRoom 5 := ⟨B.exec, B.bytes, hml, findClass_of_methodNamed B.named, fun w hw => hts w (List.mem_cons_of_mem _ hw), hKn, fun q hq => Nat.le_trans hR.2.2.1 hq⟩
  have C2 : Cy meth c (some .int) := ⟨B.returns, B.notSynchronized, hxt⟩
  have key : WG G p l e { frames := 7, cells := 2, slots := 35, locals := 200 } s m ([.ref a0, .int p1, .int p2, .int p3] : List Value).toArray below meth c 5 0 0 (vx_MQ below (QcT G o hs' tvI) (XCT G o hs') ([.ref a0, .int p1, .int p2, .int p3] : List Value).toArray s 2 35 (gA G)) hs [(0, va_rf (some a0)), (1, .int p1), (2, .int p2), (3, .int p3)] [] 0 := by
    unfold f_X8_addRoom at h
    refine q_iload_n C 1 dX8_addRoom_0 rfl ?_
    refine q_iconst C (0 : Int32) dX8_addRoom_1 (by decide) ?_
    refine q_iconst C (2 : Int32) dX8_addRoom_2 (by decide) ?_
    refine q_callS C [.int p1, .int (0 : Int32), .int (2 : Int32)] [] (fun o2 hs1 hm => m_X8_isOutside hm) lk_X8_56 sm_X8_isOutside ⟨(Nat.le_of_ble_eq_true rfl), (Nat.le_of_ble_eq_true rfl)⟩ ⟨(Nat.le_of_ble_eq_true rfl), (Nat.le_of_ble_eq_true rfl)⟩ rfl rfl (by decide) dX8_addRoom_3 h (fun v1 hs h => WG_st (st' := [.int v1]) rfl ?_)
    refine q_if_ne C 28 dX8_addRoom_6 (by decide) h (fun h => ?_) (fun h => ?_)
    · refine WG.sub [] rfl ?_
      exact w_j_X8_addRoom_28 C C2    h
    · refine q_iload_n C 2 dX8_addRoom_9 rfl ?_
      refine q_iconst C (0 : Int32) dX8_addRoom_10 (by decide) ?_
      refine q_iconst C (3 : Int32) dX8_addRoom_11 (by decide) ?_
      refine q_callS C [.int p2, .int (0 : Int32), .int (3 : Int32)] [] (fun o2 hs1 hm => m_X8_isOutside hm) lk_X8_56 sm_X8_isOutside ⟨(Nat.le_of_ble_eq_true rfl), (Nat.le_of_ble_eq_true rfl)⟩ ⟨(Nat.le_of_ble_eq_true rfl), (Nat.le_of_ble_eq_true rfl)⟩ rfl rfl (by decide) dX8_addRoom_12 h (fun v2 hs h => WG_st (st' := [.int v2]) rfl ?_)
      refine q_if_ne C 28 dX8_addRoom_15 (by decide) h (fun h => ?_) (fun h => ?_)
      · refine WG.sub [] rfl ?_
        exact w_j_X8_addRoom_28 C C2    h
      · refine q_iload_n C 3 dX8_addRoom_18 rfl ?_
        refine q_iconst C (1 : Int32) dX8_addRoom_19 (by decide) ?_
        refine q_bipush C (99 : Int32) dX8_addRoom_20 (by decide) ?_
        refine q_callS C [.int p3, .int (1 : Int32), .int (99 : Int32)] [] (fun o2 hs1 hm => m_X8_isOutside hm) lk_X8_56 sm_X8_isOutside ⟨(Nat.le_of_ble_eq_true rfl), (Nat.le_of_ble_eq_true rfl)⟩ ⟨(Nat.le_of_ble_eq_true rfl), (Nat.le_of_ble_eq_true rfl)⟩ rfl rfl (by decide) dX8_addRoom_22 h (fun v3 hs h => WG_st (st' := [.int v3]) rfl ?_)
        refine q_if_eq C 38 dX8_addRoom_25 (by decide) h (fun h => ?_) (fun h => ?_)
        · refine q_aload_n C 0 dX8_addRoom_38 rfl ?_
          refine q_gR C fl_X8_19 dX8_addRoom_39 h (fun v4 h => ?_)
          refine q_gR C fl_X8_67 dX8_addRoom_42 h (fun v5 h => ?_)
          refine q_callV C (CN := RJx4a65c) (T := TJx4a65c) (N := 3) [] [] (fun a0 o2 hs1 hm => m_Jx4a65c_size_8abf5 hm) lk_X8_70 im_Jx4a65c_size_8abf5 se_Jx4a65c_Jx4a65c_size_8abf5 rfl ⟨(Nat.le_of_ble_eq_true rfl), (Nat.le_of_ble_eq_true rfl)⟩ ⟨(Nat.le_of_ble_eq_true rfl), (Nat.le_of_ble_eq_true rfl)⟩ rfl rfl (by decide) dX8_addRoom_45 h (fun v6 hs h => WG_st (st' := [.int v6]) rfl ?_)
          refine q_istore C (fun v7 => [(4, .int v7), (0, va_rf (some a0)), (1, .int p1), (2, .int p2), (3, .int p3)]) dX8_addRoom_48 (by decide) (fun _ => rfl) h (fun v7 h => ?_)
          refine q_iload C 0 dX8_addRoom_50 rfl ?_
          refine q_bipush C (8 : Int32) dX8_addRoom_52 (by decide) ?_
          refine q_icmp_lt C 67 dX8_addRoom_54 (by decide) h (fun h => ?_) (fun h => ?_)
          · refine q_aload_n C 1 dX8_addRoom_67 rfl ?_
            refine q_gR C fl_X8_19 dX8_addRoom_68 h (fun v8 h => ?_)
            refine q_gR C fl_X8_67 dX8_addRoom_71 h (fun v9 h => ?_)
            refine q_new C nf_X8_79 (Nat.le_of_ble_eq_true rfl) (Nat.le_of_ble_eq_true rfl) dX8_addRoom_74 h (fun q10 hs h => ?_)
            refine q_dup C (cat_rf _) dX8_addRoom_77 ?_
            refine q_iload C 0 dX8_addRoom_78 rfl ?_
            refine q_iload_n C 2 dX8_addRoom_80 rfl ?_
            refine q_iload_n C 3 dX8_addRoom_81 rfl ?_
            refine q_iload_n C 4 dX8_addRoom_82 rfl ?_
            refine q_callI C [.int v7, .int p1, .int p2, .int p3] [va_rf (some q10), va_rf v9] (fun o2 hs1 hm => m_X5_init hm) lk_X8_81 im_X5_init rfl ⟨(Nat.le_of_ble_eq_true rfl), (Nat.le_of_ble_eq_true rfl)⟩ ⟨(Nat.le_of_ble_eq_true rfl), (Nat.le_of_ble_eq_true rfl)⟩ rfl rfl (by simp only [List.map, cat_rf, cat_i, cat_a]; decide) dX8_addRoom_83 h (fun v11 hs h => WG_st (st' := [va_rf (some q10), va_rf v9]) rfl ?_)
            refine q_callV C (CN := RJx4a65c) (T := TJx4a65c) (N := 3) [va_rf (some q10)] [] (fun a0 o2 hs1 hm => m_Jx4a65c_add_9ea2d hm) lk_X8_84 im_Jx4a65c_add_9ea2d se_Jx4a65c_Jx4a65c_add_9ea2d rfl ⟨(Nat.le_of_ble_eq_true rfl), (Nat.le_of_ble_eq_true rfl)⟩ ⟨(Nat.le_of_ble_eq_true rfl), (Nat.le_of_ble_eq_true rfl)⟩ rfl rfl (by decide) dX8_addRoom_86 h (fun v12 hs h => WG_st (st' := [.int v12]) rfl ?_)
            refine q_pop C rfl dX8_addRoom_89 ?_
            refine q_iload C 0 dX8_addRoom_90 rfl ?_
            exact q_iret C C2 rfl (Nat.le_of_ble_eq_true rfl) (Nat.le_of_ble_eq_true rfl) dX8_addRoom_92 h
          · exact q_throw C C2 (k := 2) (tx := "there are 8 rooms") wc_X8_x74 iw_x2 at_X8_78 (by decide +kernel) (Nat.le_of_ble_eq_true rfl) (Nat.le_of_ble_eq_true rfl) (Nat.le_of_ble_eq_true rfl) (Nat.le_of_ble_eq_true rfl) (Nat.le_of_ble_eq_true rfl) (Nat.le_of_ble_eq_true rfl) (by decide) dX8_addRoom_57 dX8_addRoom_60 (Or.inl ⟨rfl, dX8_addRoom_61⟩) dX8_addRoom_63 dX8_addRoom_66 h
        · refine WG.sub [] rfl ?_
          exact w_j_X8_addRoom_28 C C2    h
  rw [lg_entry_eq]
  exact key _ _ _ hR va_S.rf ⟨lv_entry _ (n := 5) (Nat.le_of_ble_eq_true rfl), (c1_r (c1_i (c1_i (c1_i c1_n))))⟩

theorem cd_X8_slotsOfDays : Cond.code yX8_slotsOfDays cX8_slotsOfDays 3 (some .int) ∈ Tg := Tg_of (i := 782) (by decide +kernel) (by decide +kernel)
theorem ml_X8_172 : Cond.methodLink RX8 172 yX8_has ∈ Tg := Tg_of (i := 783) (by decide +kernel) (by decide +kernel)
theorem lk_X8_172 : Lk RX8 172 yX8_has cX8_has 2 (some .boolean) 2 := ⟨ml_X8_172, cd_X8_has, iw_X8, by decide +kernel⟩
theorem ml_X8_333 : Cond.methodLink RX8 333 yX8_slotsOfDay ∈ Tg := Tg_of (i := 784) (by decide +kernel) (by decide +kernel)
theorem lk_X8_333 : Lk RX8 333 yX8_slotsOfDay cX8_slotsOfDay 1 (some .int) 1 := ⟨ml_X8_333, cd_X8_slotsOfDay, iw_X8, by decide +kernel⟩
section M_X8_slotsOfDays
variable {p : Program} {l : Launch} {e : Env} {s : State} {m : MethodId} {args : Array Value} {below : List Frame} {meth : Method} {c : Code} {G : GG} {o : Except Nat Int32} {hs' : Hs}
def j_X8_slotsOfDays_26 (a0 : Int32) (a2 : Int32) (s0 : Int32) (s1 : Int32) (rec_4 : Int32 → Int32 → OO Int32) : OO Int32 :=
  lets (s1 ||| s0) fun (v4 : Int32) =>
    lets (a2 + (1 : Int32)) fun (v5 : Int32) =>
    rec_4 v4 v5
set_option maxRecDepth 100000 in
set_option maxHeartbeats 4000000 in
theorem w_j_X8_slotsOfDays_26 (C : Cx G l p s m args c RX8 cX8_slotsOfDays 3) (C2 : Cy meth c (some .int)) {hs : Hs} (a0 : Int32) (a2 : Int32) (s0 : Int32) (s1 : Int32) (rec_4 : Int32 → Int32 → OO Int32) (hrec_4 : ∀ (y1 : Int32) (y2 : Int32) hs, rec_4 y1 y2 hs = some (o, hs') → WG G p l e { frames := 1, cells := 0, slots := 0, locals := 21 } s m args below meth c 3 0 0 (vx_MQ below (QcT G o hs' tvI) (XCT G o hs') args s 0 0 (gA G)) hs [(0, .int a0), (1, .int y1), (2, .int y2)] [] 4) (h : j_X8_slotsOfDays_26 a0 a2 s0 s1 rec_4 hs = some (o, hs')) : WG G p l e { frames := 1, cells := 0, slots := 0, locals := 21 } s m args below meth c 3 0 0 (vx_MQ below (QcT G o hs' tvI) (XCT G o hs') args s 0 0 (gA G)) hs [(0, .int a0), (2, .int a2)] [.int s0, .int s1] 26 := by
  unfold j_X8_slotsOfDays_26 at h
  refine q_ior C dX8_slotsOfDays_26 ?_
  refine q_istore_n C (fun v4 => [(1, .int v4), (0, .int a0), (2, .int a2)]) dX8_slotsOfDays_27 (by decide) (fun _ => rfl) h (fun v4 h => ?_)
  refine q_iinc C 2 (1 : Int32) (fun v5 => [(2, .int v5), (1, .int v4), (0, .int a0)]) dX8_slotsOfDays_28 rfl (by decide) (by decide) (fun _ => rfl) h (fun v5 h => ?_)
  refine q_goto C 4 dX8_slotsOfDays_31 (by decide) ?_
  refine WG.sub [2, 1, 0] rfl ?_
  exact hrec_4 _ _ _ h
def L_X8_slotsOfDays_4 (a0 : Int32) (k_4_34 : Int32 → OO Int32) : Nat → Int32 → Int32 → OO Int32
  | 0, _, _ => failO
  | n + 1, x1, x2 =>
    (if (5 : Int32) ≤ x2 then
    k_4_34 x1
    else
    call (f_X8_has a0 x2) (fun (v3 : Int32) =>
    (if v3 = 0 then
    j_X8_slotsOfDays_26 a0 x2 (0 : Int32) x1 (L_X8_slotsOfDays_4 a0 k_4_34 n)
    else
    call (f_X8_slotsOfDay x2) (fun (v6 : Int32) =>
    j_X8_slotsOfDays_26 a0 x2 v6 x1 (L_X8_slotsOfDays_4 a0 k_4_34 n)) nox)) nox)
set_option maxRecDepth 100000 in
set_option maxHeartbeats 4000000 in
theorem w_L_X8_slotsOfDays_4 (C : Cx G l p s m args c RX8 cX8_slotsOfDays 3) (C2 : Cy meth c (some .int)) (a0 : Int32) (k_4_34 : Int32 → OO Int32) (hk_4_34 : ∀ (y1 : Int32) hs, k_4_34 y1 hs = some (o, hs') → WG G p l e { frames := 1, cells := 0, slots := 0, locals := 21 } s m args below meth c 3 0 0 (vx_MQ below (QcT G o hs' tvI) (XCT G o hs') args s 0 0 (gA G)) hs [(1, .int y1)] [] 34) : ∀ (n : Nat) (x1 : Int32) (x2 : Int32) (hs : Hs), L_X8_slotsOfDays_4 a0 k_4_34 n x1 x2 hs = some (o, hs') → WG G p l e { frames := 1, cells := 0, slots := 0, locals := 21 } s m args below meth c 3 0 0 (vx_MQ below (QcT G o hs' tvI) (XCT G o hs') args s 0 0 (gA G)) hs [(0, .int a0), (1, .int x1), (2, .int x2)] [] 4 := by
  intro n
  induction n with
  | zero =>
    intro x1 x2 hs h
    rw [L_X8_slotsOfDays_4] at h
    exact absurd h failO_e
  | succ n hrec_4 =>
    intro x1 x2 hs h
    rw [L_X8_slotsOfDays_4] at h
    refine q_iload_n C 2 dX8_slotsOfDays_4 rfl ?_
    refine q_iconst C (5 : Int32) dX8_slotsOfDays_5 (by decide) ?_
    refine q_icmp_ge C 34 dX8_slotsOfDays_6 (by decide) h (fun h => ?_) (fun h => ?_)
    · refine WG.sub [1] rfl ?_
      exact hk_4_34 _ _ h
    · refine q_iload_n C 1 dX8_slotsOfDays_9 rfl ?_
      refine q_iload_n C 0 dX8_slotsOfDays_10 rfl ?_
      refine q_iload_n C 2 dX8_slotsOfDays_11 rfl ?_
      refine q_callS C [.int a0, .int x2] [.int x1] (fun o2 hs1 hm => m_X8_has hm) lk_X8_172 sm_X8_has ⟨(Nat.le_of_ble_eq_true rfl), (Nat.le_of_ble_eq_true rfl)⟩ ⟨(Nat.le_of_ble_eq_true rfl), (Nat.le_of_ble_eq_true rfl)⟩ rfl rfl (by simp only [List.map, cat_rf, cat_i, cat_a]; decide) dX8_slotsOfDays_12 h (fun v3 hs h => WG_st (st' := [.int v3, .int x1]) rfl ?_)
      refine q_if_eq C 25 dX8_slotsOfDays_15 (by decide) h (fun h => ?_) (fun h => ?_)
      · refine q_iconst C (0 : Int32) dX8_slotsOfDays_25 (by decide) ?_
        refine WG.sub [0, 2] rfl ?_
        exact w_j_X8_slotsOfDays_26 C C2 _ _ _ _ _ hrec_4 h
      · refine q_iload_n C 2 dX8_slotsOfDays_18 rfl ?_
        refine q_callS C [.int x2] [.int x1] (fun o2 hs1 hm => m_X8_slotsOfDay hm) lk_X8_333 sm_X8_slotsOfDay ⟨(Nat.le_of_ble_eq_true rfl), (Nat.le_of_ble_eq_true rfl)⟩ ⟨(Nat.le_of_ble_eq_true rfl), (Nat.le_of_ble_eq_true rfl)⟩ rfl rfl (by simp only [List.map, cat_rf, cat_i, cat_a]; decide) dX8_slotsOfDays_19 h (fun v6 hs h => WG_st (st' := [.int v6, .int x1]) rfl ?_)
        refine q_goto C 26 dX8_slotsOfDays_22 (by decide) ?_
        refine WG.sub [0, 2] rfl ?_
        exact w_j_X8_slotsOfDays_26 C C2 _ _ _ _ _ hrec_4 h
end M_X8_slotsOfDays
def f_X8_slotsOfDays (p0 : Int32) : OO Int32 :=
    lets (0 : Int32) fun (v1 : Int32) =>
    lets (0 : Int32) fun (v2 : Int32) =>
    L_X8_slotsOfDays_4 p0 (fun (v7 : Int32) => rtn v7) 100000 v1 v2
set_option maxRecDepth 100000 in
set_option maxHeartbeats 4000000 in
theorem m_X8_slotsOfDays {G : GG} {l : Launch} {p0 : Int32} {hs hs' : Hs} {o : Except Nat Int32} (h : f_X8_slotsOfDays p0 hs = some (o, hs')) : CT G l yX8_slotsOfDays cX8_slotsOfDays 3 (some .int) 1 21 0 0 [.int p0] hs o hs' tvI := by
  refine vx_ofW (cc := cX8_slotsOfDays) (maxL := 3) (ret := (some .int)) (by decide +kernel) rfl ?_
  intro p e s m args below meth c s₁ B hml hxt hv
  obtain ⟨hav, hR, hKn⟩ := hv
  subst hav
  have hts := atoms_spec (ws := .code yX8_slotsOfDays cX8_slotsOfDays 3 (some .int) :: Tg) B.pre
  have C : Cx G l p s m _ c RX8 cX8_slotsOfDays 3 := ⟨B.exec, B.bytes, hml, findClass_of_methodNamed B.named, fun w hw => hts w (List.mem_cons_of_mem _ hw), hKn, fun q hq => Nat.le_trans hR.2.2.1 hq⟩
  have C2 : Cy meth c (some .int) := ⟨B.returns, B.notSynchronized, hxt⟩
  have key : WG G p l e { frames := 1, cells := 0, slots := 0, locals := 21 } s m ([.int p0] : List Value).toArray below meth c 3 0 0 (vx_MQ below (QcT G o hs' tvI) (XCT G o hs') ([.int p0] : List Value).toArray s 0 0 (gA G)) hs [(0, .int p0)] [] 0 := by
    unfold f_X8_slotsOfDays at h
    refine q_iconst C (0 : Int32) dX8_slotsOfDays_0 (by decide) ?_
    refine q_istore_n C (fun v1 => [(1, .int v1), (0, .int p0)]) dX8_slotsOfDays_1 (by decide) (fun _ => rfl) h (fun v1 h => ?_)
    refine q_iconst C (0 : Int32) dX8_slotsOfDays_2 (by decide) ?_
    refine q_istore_n C (fun v2 => [(2, .int v2), (1, .int v1), (0, .int p0)]) dX8_slotsOfDays_3 (by decide) (fun _ => rfl) h (fun v2 h => ?_)
    refine WG.sub [2, 1, 0] rfl ?_
    refine w_L_X8_slotsOfDays_4 C C2 _ _ ?_ _ _ _ _ h
    · intro v7 hs h
      refine q_iload_n C 0 dX8_slotsOfDays_34 rfl ?_
      exact q_iret C C2 rfl (Nat.le_of_ble_eq_true rfl) (Nat.le_of_ble_eq_true rfl) dX8_slotsOfDays_35 h
  rw [lg_entry_eq]
  exact key _ _ _ hR va_S.rf ⟨lv_entry _ (n := 3) (Nat.le_of_ble_eq_true rfl), (c1_i c1_n)⟩

theorem cd_X8_addTeacher : Cond.code yX8_addTeacher cX8_addTeacher 3 (some .int) ∈ Tg := Tg_of (i := 775) (by decide +kernel) (by decide +kernel)
theorem fl_X8_12 : Fld RX8 12 11 0 (.object "java/util/ArrayList") := ⟨RX8, TX8, 10, RX8, rfl, by decide, wf_X8_12, (Or.inl rfl), gu_X8, tyX8_ok _ (by decide), ⟨tyX8, tyX8_ok⟩, nmX8⟩
theorem wc_X8_92 : Cond.classLink RX8 92 RX7 ∈ Tg := Tg_of (i := 778) (by decide +kernel) (by decide +kernel)
theorem wi_X7 : Cond.instantiable RX7 3 ∈ Tg := Tg_of (i := 779) (by decide +kernel) (by decide +kernel)
theorem iw_X7 : Cond.initialized RX7 ∈ Tg := Tg_of (i := 99) (by decide +kernel) (by decide +kernel)
theorem nf_X8_92 : NewC RX8 92 10 [.null, .int 0, .int 0] 3 := ⟨RX7, TX7, tyX7, rfl, wc_X8_92, wi_X7, iw_X7, gu_X7, tyX7_ok, by decide⟩
theorem ml_X8_94 : Cond.methodLink RX8 94 yX8_slotsOfDays ∈ Tg := Tg_of (i := 780) (by decide +kernel) (by decide +kernel)
theorem lk_X8_94 : Lk RX8 94 yX8_slotsOfDays cX8_slotsOfDays 3 (some .int) 1 := ⟨ml_X8_94, cd_X8_slotsOfDays, iw_X8, by decide +kernel⟩
theorem ml_X8_98 : Cond.methodLink RX8 98 yX7_init ∈ Tg := Tg_of (i := 785) (by decide +kernel) (by decide +kernel)
theorem lk_X8_98 : Lk RX8 98 yX7_init cX7_init 2 none 1 := ⟨ml_X8_98, cd_X7_init, iw_X7, by decide +kernel⟩
theorem im_X7_init : Cond.instanceMethod yX7_init ∈ Tg := Tg_of (i := 786) (by decide +kernel) (by decide +kernel)
theorem sm_X8_slotsOfDays : Cond.static yX8_slotsOfDays ∈ Tg := Tg_of (i := 781) (by decide +kernel) (by decide +kernel)
section M_X8_addTeacher
variable {p : Program} {l : Launch} {e : Env} {s : State} {m : MethodId} {args : Array Value} {below : List Frame} {meth : Method} {c : Code} {G : GG} {o : Except Nat Int32} {hs' : Hs}
end M_X8_addTeacher
def f_X8_addTeacher (a0 : Nat) (p1 : Int32) : OO Int32 :=
    call (f_X8_isOutside p1 (0 : Int32) (31 : Int32)) (fun (v1 : Int32) =>
    (if v1 = 0 then
    gR (some a0) 11 0 fun v2 =>
    rcv v2 2 fun r11 => call (f_Jx4a65c_size_8abf5 r11 ) (fun (v3 : Int32) =>
    lets v3 fun (v4 : Int32) =>
    (if v4 < (8 : Int32) then
    gR (some a0) 11 0 fun v5 =>
    nw 10 [.null, .int 0, .int 0] fun q6 =>
    call (f_X8_slotsOfDays p1) (fun (v7 : Int32) =>
    call (f_X7_init q6 v7) (fun (v8 : Unit) =>
    rcv v5 2 fun r10 => call (f_Jx4a65c_add_9ea2d r10 (some q6)) (fun (v9 : Int32) =>
    rtn v4) nox) nox) nox
    else
    nthrow 2)) nox
    else
    nthrow 1)) nox
set_option maxRecDepth 100000 in
set_option maxHeartbeats 4000000 in
theorem m_X8_addTeacher {G : GG} {l : Launch} {a0 : Nat} {p1 : Int32} {hs hs' : Hs} {o : Except Nat Int32} (h : f_X8_addTeacher a0 p1 hs = some (o, hs')) : CT G l yX8_addTeacher cX8_addTeacher 3 (some .int) 7 200 3 63 [.ref a0, .int p1] hs o hs' tvI := by
  refine vx_ofW (cc := cX8_addTeacher) (maxL := 3) (ret := (some .int)) (by decide +kernel) rfl ?_
  intro p e s m args below meth c s₁ B hml hxt hv
  obtain ⟨hav, hR, hKn⟩ := hv
  subst hav
  have hts := atoms_spec (ws := .code yX8_addTeacher cX8_addTeacher 3 (some .int) :: Tg) B.pre
  have C : Cx G l p s m _ c RX8 cX8_addTeacher 3 := ⟨B.exec, B.bytes, hml, findClass_of_methodNamed B.named, fun w hw => hts w (List.mem_cons_of_mem _ hw), hKn, fun q hq => Nat.le_trans hR.2.2.1 hq⟩
  have C2 : Cy meth c (some .int) := ⟨B.returns, B.notSynchronized, hxt⟩
  have key : WG G p l e { frames := 7, cells := 3, slots := 63, locals := 200 } s m ([.ref a0, .int p1] : List Value).toArray below meth c 3 0 0 (vx_MQ below (QcT G o hs' tvI) (XCT G o hs') ([.ref a0, .int p1] : List Value).toArray s 3 63 (gA G)) hs [(0, va_rf (some a0)), (1, .int p1)] [] 0 := by
    unfold f_X8_addTeacher at h
    refine q_iload_n C 1 dX8_addTeacher_0 rfl ?_
    refine q_iconst C (0 : Int32) dX8_addTeacher_1 (by decide) ?_
    refine q_bipush C (31 : Int32) dX8_addTeacher_2 (by decide) ?_
    refine q_callS C [.int p1, .int (0 : Int32), .int (31 : Int32)] [] (fun o2 hs1 hm => m_X8_isOutside hm) lk_X8_56 sm_X8_isOutside ⟨(Nat.le_of_ble_eq_true rfl), (Nat.le_of_ble_eq_true rfl)⟩ ⟨(Nat.le_of_ble_eq_true rfl), (Nat.le_of_ble_eq_true rfl)⟩ rfl rfl (by decide) dX8_addTeacher_4 h (fun v1 hs h => WG_st (st' := [.int v1]) rfl ?_)
    refine q_if_eq C 20 dX8_addTeacher_7 (by decide) h (fun h => ?_) (fun h => ?_)
    · refine q_aload_n C 0 dX8_addTeacher_20 rfl ?_
      refine q_gR C fl_X8_12 dX8_addTeacher_21 h (fun v2 h => ?_)
      refine q_callV C (CN := RJx4a65c) (T := TJx4a65c) (N := 3) [] [] (fun a0 o2 hs1 hm => m_Jx4a65c_size_8abf5 hm) lk_X8_70 im_Jx4a65c_size_8abf5 se_Jx4a65c_Jx4a65c_size_8abf5 rfl ⟨(Nat.le_of_ble_eq_true rfl), (Nat.le_of_ble_eq_true rfl)⟩ ⟨(Nat.le_of_ble_eq_true rfl), (Nat.le_of_ble_eq_true rfl)⟩ rfl rfl (by decide) dX8_addTeacher_24 h (fun v3 hs h => WG_st (st' := [.int v3]) rfl ?_)
      refine q_istore_n C (fun v4 => [(2, .int v4), (0, va_rf (some a0)), (1, .int p1)]) dX8_addTeacher_27 (by decide) (fun _ => rfl) h (fun v4 h => ?_)
      refine q_iload_n C 0 dX8_addTeacher_28 rfl ?_
      refine q_bipush C (8 : Int32) dX8_addTeacher_29 (by decide) ?_
      refine q_icmp_lt C 44 dX8_addTeacher_31 (by decide) h (fun h => ?_) (fun h => ?_)
      · refine q_aload_n C 1 dX8_addTeacher_44 rfl ?_
        refine q_gR C fl_X8_12 dX8_addTeacher_45 h (fun v5 h => ?_)
        refine q_new C nf_X8_92 (Nat.le_of_ble_eq_true rfl) (Nat.le_of_ble_eq_true rfl) dX8_addTeacher_48 h (fun q6 hs h => ?_)
        refine q_dup C (cat_rf _) dX8_addTeacher_51 ?_
        refine q_iload_n C 2 dX8_addTeacher_52 rfl ?_
        refine q_callS C [.int p1] [va_rf (some q6), va_rf (some q6), va_rf v5] (fun o2 hs1 hm => m_X8_slotsOfDays hm) lk_X8_94 sm_X8_slotsOfDays ⟨(Nat.le_of_ble_eq_true rfl), (Nat.le_of_ble_eq_true rfl)⟩ ⟨(Nat.le_of_ble_eq_true rfl), (Nat.le_of_ble_eq_true rfl)⟩ rfl rfl (by simp only [List.map, cat_rf, cat_i, cat_a]; decide) dX8_addTeacher_53 h (fun v7 hs h => WG_st (st' := [.int v7, va_rf (some q6), va_rf (some q6), va_rf v5]) rfl ?_)
        refine q_callI C [.int v7] [va_rf (some q6), va_rf v5] (fun o2 hs1 hm => m_X7_init hm) lk_X8_98 im_X7_init rfl ⟨(Nat.le_of_ble_eq_true rfl), (Nat.le_of_ble_eq_true rfl)⟩ ⟨(Nat.le_of_ble_eq_true rfl), (Nat.le_of_ble_eq_true rfl)⟩ rfl rfl (by simp only [List.map, cat_rf, cat_i, cat_a]; decide) dX8_addTeacher_56 h (fun v8 hs h => WG_st (st' := [va_rf (some q6), va_rf v5]) rfl ?_)
        refine q_callV C (CN := RJx4a65c) (T := TJx4a65c) (N := 3) [va_rf (some q6)] [] (fun a0 o2 hs1 hm => m_Jx4a65c_add_9ea2d hm) lk_X8_84 im_Jx4a65c_add_9ea2d se_Jx4a65c_Jx4a65c_add_9ea2d rfl ⟨(Nat.le_of_ble_eq_true rfl), (Nat.le_of_ble_eq_true rfl)⟩ ⟨(Nat.le_of_ble_eq_true rfl), (Nat.le_of_ble_eq_true rfl)⟩ rfl rfl (by decide) dX8_addTeacher_59 h (fun v9 hs h => WG_st (st' := [.int v9]) rfl ?_)
        refine q_pop C rfl dX8_addTeacher_62 ?_
        refine q_iload_n C 0 dX8_addTeacher_63 rfl ?_
        exact q_iret C C2 rfl (Nat.le_of_ble_eq_true rfl) (Nat.le_of_ble_eq_true rfl) dX8_addTeacher_64 h
      · exact q_throw C C2 (k := 2) (tx := "there are 8 teachers") wc_X8_x74 iw_x2 at_X8_78 (by decide +kernel) (Nat.le_of_ble_eq_true rfl) (Nat.le_of_ble_eq_true rfl) (Nat.le_of_ble_eq_true rfl) (Nat.le_of_ble_eq_true rfl) (Nat.le_of_ble_eq_true rfl) (Nat.le_of_ble_eq_true rfl) (by decide) dX8_addTeacher_34 dX8_addTeacher_37 (Or.inl ⟨rfl, dX8_addTeacher_38⟩) dX8_addTeacher_40 dX8_addTeacher_43 h
    · exact q_throw C C2 (k := 1) (tx := "days off out of range") wc_X8_x60 iw_x1 at_X8_64 (by decide +kernel) (Nat.le_of_ble_eq_true rfl) (Nat.le_of_ble_eq_true rfl) (Nat.le_of_ble_eq_true rfl) (Nat.le_of_ble_eq_true rfl) (Nat.le_of_ble_eq_true rfl) (Nat.le_of_ble_eq_true rfl) (by decide) dX8_addTeacher_10 dX8_addTeacher_13 (Or.inl ⟨rfl, dX8_addTeacher_14⟩) dX8_addTeacher_16 dX8_addTeacher_19 h
  rw [lg_entry_eq]
  exact key _ _ _ hR va_S.rf ⟨lv_entry _ (n := 3) (Nat.le_of_ble_eq_true rfl), (c1_r (c1_i c1_n))⟩

theorem cd_X8_addGroup : Cond.code yX8_addGroup cX8_addGroup 3 (some .int) ∈ Tg := Tg_of (i := 811) (by decide +kernel) (by decide +kernel)
theorem wf_X8_103 : Cond.fieldLink RX8 103 RX6 (TX6 1).2.1 (TX6 1).2.2.1 ∈ Tg := Tg_of (i := 160) (by decide +kernel) (by decide +kernel)
theorem fl_X8_103 : Fld RX8 103 9 1 (.object "java/util/ArrayList") := ⟨RX6, TX6, 6, RX6, rfl, by decide, wf_X8_103, (Or.inl rfl), gu_X6, tyX6_ok _ (by decide), ⟨tyX6, tyX6_ok⟩, nmX6⟩
theorem wc_X8_108 : Cond.classLink RX8 108 RX2 ∈ Tg := Tg_of (i := 814) (by decide +kernel) (by decide +kernel)
theorem wi_X2 : Cond.instantiable RX2 1 ∈ Tg := Tg_of (i := 815) (by decide +kernel) (by decide +kernel)
theorem iw_X2 : Cond.initialized RX2 ∈ Tg := Tg_of (i := 100) (by decide +kernel) (by decide +kernel)
theorem nf_X8_108 : NewC RX8 108 5 [.int 0] 1 := ⟨RX2, TX2, tyX2, rfl, wc_X8_108, wi_X2, iw_X2, gu_X2, tyX2_ok, by decide⟩
theorem ml_X8_110 : Cond.methodLink RX8 110 yX2_init ∈ Tg := Tg_of (i := 816) (by decide +kernel) (by decide +kernel)
theorem lk_X8_110 : Lk RX8 110 yX2_init cX2_init 2 none 1 := ⟨ml_X8_110, cd_X2_init, iw_X2, by decide +kernel⟩
theorem im_X2_init : Cond.instanceMethod yX2_init ∈ Tg := Tg_of (i := 817) (by decide +kernel) (by decide +kernel)
section M_X8_addGroup
variable {p : Program} {l : Launch} {e : Env} {s : State} {m : MethodId} {args : Array Value} {below : List Frame} {meth : Method} {c : Code} {G : GG} {o : Except Nat Int32} {hs' : Hs}
end M_X8_addGroup
def f_X8_addGroup (a0 : Nat) (p1 : Int32) : OO Int32 :=
    call (f_X8_isOutside p1 (1 : Int32) (99 : Int32)) (fun (v1 : Int32) =>
    (if v1 = 0 then
    gR (some a0) 11 1 fun v2 =>
    gR v2 9 1 fun v3 =>
    rcv v3 2 fun r12 => call (f_Jx4a65c_size_8abf5 r12 ) (fun (v4 : Int32) =>
    lets v4 fun (v5 : Int32) =>
    (if v5 < (8 : Int32) then
    gR (some a0) 11 1 fun v6 =>
    gR v6 9 1 fun v7 =>
    nw 5 [.int 0] fun q8 =>
    call (f_X2_init q8 p1) (fun (v9 : Unit) =>
    rcv v7 2 fun r11 => call (f_Jx4a65c_add_9ea2d r11 (some q8)) (fun (v10 : Int32) =>
    rtn v5) nox) nox
    else
    nthrow 2)) nox
    else
    nthrow 1)) nox
set_option maxRecDepth 100000 in
set_option maxHeartbeats 4000000 in
theorem m_X8_addGroup {G : GG} {l : Launch} {a0 : Nat} {p1 : Int32} {hs hs' : Hs} {o : Except Nat Int32} (h : f_X8_addGroup a0 p1 hs = some (o, hs')) : CT G l yX8_addGroup cX8_addGroup 3 (some .int) 7 200 2 31 [.ref a0, .int p1] hs o hs' tvI := by
  refine vx_ofW (cc := cX8_addGroup) (maxL := 3) (ret := (some .int)) (by decide +kernel) rfl ?_
  intro p e s m args below meth c s₁ B hml hxt hv
  obtain ⟨hav, hR, hKn⟩ := hv
  subst hav
  have hts := atoms_spec (ws := .code yX8_addGroup cX8_addGroup 3 (some .int) :: Tg) B.pre
  have C : Cx G l p s m _ c RX8 cX8_addGroup 3 := ⟨B.exec, B.bytes, hml, findClass_of_methodNamed B.named, fun w hw => hts w (List.mem_cons_of_mem _ hw), hKn, fun q hq => Nat.le_trans hR.2.2.1 hq⟩
  have C2 : Cy meth c (some .int) := ⟨B.returns, B.notSynchronized, hxt⟩
  have key : WG G p l e { frames := 7, cells := 2, slots := 31, locals := 200 } s m ([.ref a0, .int p1] : List Value).toArray below meth c 3 0 0 (vx_MQ below (QcT G o hs' tvI) (XCT G o hs') ([.ref a0, .int p1] : List Value).toArray s 2 31 (gA G)) hs [(0, va_rf (some a0)), (1, .int p1)] [] 0 := by
    unfold f_X8_addGroup at h
    refine q_iload_n C 1 dX8_addGroup_0 rfl ?_
    refine q_iconst C (1 : Int32) dX8_addGroup_1 (by decide) ?_
    refine q_bipush C (99 : Int32) dX8_addGroup_2 (by decide) ?_
    refine q_callS C [.int p1, .int (1 : Int32), .int (99 : Int32)] [] (fun o2 hs1 hm => m_X8_isOutside hm) lk_X8_56 sm_X8_isOutside ⟨(Nat.le_of_ble_eq_true rfl), (Nat.le_of_ble_eq_true rfl)⟩ ⟨(Nat.le_of_ble_eq_true rfl), (Nat.le_of_ble_eq_true rfl)⟩ rfl rfl (by decide) dX8_addGroup_4 h (fun v1 hs h => WG_st (st' := [.int v1]) rfl ?_)
    refine q_if_eq C 20 dX8_addGroup_7 (by decide) h (fun h => ?_) (fun h => ?_)
    · refine q_aload_n C 0 dX8_addGroup_20 rfl ?_
      refine q_gR C fl_X8_19 dX8_addGroup_21 h (fun v2 h => ?_)
      refine q_gR C fl_X8_103 dX8_addGroup_24 h (fun v3 h => ?_)
      refine q_callV C (CN := RJx4a65c) (T := TJx4a65c) (N := 3) [] [] (fun a0 o2 hs1 hm => m_Jx4a65c_size_8abf5 hm) lk_X8_70 im_Jx4a65c_size_8abf5 se_Jx4a65c_Jx4a65c_size_8abf5 rfl ⟨(Nat.le_of_ble_eq_true rfl), (Nat.le_of_ble_eq_true rfl)⟩ ⟨(Nat.le_of_ble_eq_true rfl), (Nat.le_of_ble_eq_true rfl)⟩ rfl rfl (by decide) dX8_addGroup_27 h (fun v4 hs h => WG_st (st' := [.int v4]) rfl ?_)
      refine q_istore_n C (fun v5 => [(2, .int v5), (0, va_rf (some a0)), (1, .int p1)]) dX8_addGroup_30 (by decide) (fun _ => rfl) h (fun v5 h => ?_)
      refine q_iload_n C 0 dX8_addGroup_31 rfl ?_
      refine q_bipush C (8 : Int32) dX8_addGroup_32 (by decide) ?_
      refine q_icmp_lt C 47 dX8_addGroup_34 (by decide) h (fun h => ?_) (fun h => ?_)
      · refine q_aload_n C 1 dX8_addGroup_47 rfl ?_
        refine q_gR C fl_X8_19 dX8_addGroup_48 h (fun v6 h => ?_)
        refine q_gR C fl_X8_103 dX8_addGroup_51 h (fun v7 h => ?_)
        refine q_new C nf_X8_108 (Nat.le_of_ble_eq_true rfl) (Nat.le_of_ble_eq_true rfl) dX8_addGroup_54 h (fun q8 hs h => ?_)
        refine q_dup C (cat_rf _) dX8_addGroup_57 ?_
        refine q_iload_n C 2 dX8_addGroup_58 rfl ?_
        refine q_callI C [.int p1] [va_rf (some q8), va_rf v7] (fun o2 hs1 hm => m_X2_init hm) lk_X8_110 im_X2_init rfl ⟨(Nat.le_of_ble_eq_true rfl), (Nat.le_of_ble_eq_true rfl)⟩ ⟨(Nat.le_of_ble_eq_true rfl), (Nat.le_of_ble_eq_true rfl)⟩ rfl rfl (by simp only [List.map, cat_rf, cat_i, cat_a]; decide) dX8_addGroup_59 h (fun v9 hs h => WG_st (st' := [va_rf (some q8), va_rf v7]) rfl ?_)
        refine q_callV C (CN := RJx4a65c) (T := TJx4a65c) (N := 3) [va_rf (some q8)] [] (fun a0 o2 hs1 hm => m_Jx4a65c_add_9ea2d hm) lk_X8_84 im_Jx4a65c_add_9ea2d se_Jx4a65c_Jx4a65c_add_9ea2d rfl ⟨(Nat.le_of_ble_eq_true rfl), (Nat.le_of_ble_eq_true rfl)⟩ ⟨(Nat.le_of_ble_eq_true rfl), (Nat.le_of_ble_eq_true rfl)⟩ rfl rfl (by decide) dX8_addGroup_62 h (fun v10 hs h => WG_st (st' := [.int v10]) rfl ?_)
        refine q_pop C rfl dX8_addGroup_65 ?_
        refine q_iload_n C 0 dX8_addGroup_66 rfl ?_
        exact q_iret C C2 rfl (Nat.le_of_ble_eq_true rfl) (Nat.le_of_ble_eq_true rfl) dX8_addGroup_67 h
      · exact q_throw C C2 (k := 2) (tx := "there are 8 groups") wc_X8_x74 iw_x2 at_X8_78 (by decide +kernel) (Nat.le_of_ble_eq_true rfl) (Nat.le_of_ble_eq_true rfl) (Nat.le_of_ble_eq_true rfl) (Nat.le_of_ble_eq_true rfl) (Nat.le_of_ble_eq_true rfl) (Nat.le_of_ble_eq_true rfl) (by decide) dX8_addGroup_37 dX8_addGroup_40 (Or.inl ⟨rfl, dX8_addGroup_41⟩) dX8_addGroup_43 dX8_addGroup_46 h
    · exact q_throw C C2 (k := 1) (tx := "pupils out of range") wc_X8_x60 iw_x1 at_X8_64 (by decide +kernel) (Nat.le_of_ble_eq_true rfl) (Nat.le_of_ble_eq_true rfl) (Nat.le_of_ble_eq_true rfl) (Nat.le_of_ble_eq_true rfl) (Nat.le_of_ble_eq_true rfl) (Nat.le_of_ble_eq_true rfl) (by decide) dX8_addGroup_10 dX8_addGroup_13 (Or.inl ⟨rfl, dX8_addGroup_14⟩) dX8_addGroup_16 dX8_addGroup_19 h
  rw [lg_entry_eq]
  exact key _ _ _ hR va_S.rf ⟨lv_entry _ (n := 3) (Nat.le_of_ble_eq_true rfl), (c1_r (c1_i c1_n))⟩

theorem cd_X8_groupNumbered : Cond.code yX8_groupNumbered cX8_groupNumbered 2 (some (.object "Termgrid$Group")) ∈ Tg := Tg_of (i := 860) (by decide +kernel) (by decide +kernel)
theorem wc_X8_x418 : Cond.classLink RX8 418 "java/lang/IndexOutOfBoundsException" ∈ Tg := Tg_of (i := 861) (by decide +kernel) (by decide +kernel)
theorem iw_x0 : Cond.initialized "java/lang/IndexOutOfBoundsException" ∈ Tg := Tg_of (i := 101) (by decide +kernel) (by decide +kernel)
set_option maxRecDepth 100000 in
theorem at_X8_422 : ThrA RX8 422 0 := ⟨by decide +kernel, by decide +kernel, by decide +kernel, by decide +kernel, by decide +kernel, by decide⟩
theorem ml_X8_186 : Cond.methodLink RX8 186 yJx4a65c_get_915e3 ∈ Tg := Tg_of (i := 874) (by decide +kernel) (by decide +kernel)
theorem lk_X8_186 : Lk RX8 186 yJx4a65c_get_915e3 cJx4a65c_get_915e3 2 (some (.object "java/lang/Object")) 1 := ⟨ml_X8_186, cd_Jx4a65c_get_915e3, iw_Jx4a65c, by decide +kernel⟩
section M_X8_groupNumbered
variable {p : Program} {l : Launch} {e : Env} {s : State} {m : MethodId} {args : Array Value} {below : List Frame} {meth : Method} {c : Code} {G : GG} {o : Except Nat (Option Nat)} {hs' : Hs}
def j_X8_groupNumbered_18    : OO (Option Nat) :=
  nthrow 0
set_option maxRecDepth 100000 in
set_option maxHeartbeats 4000000 in
theorem w_j_X8_groupNumbered_18 (C : Cx G l p s m args c RX8 cX8_groupNumbered 2) (C2 : Cy meth c (some (.object "Termgrid$Group"))) {hs : Hs}     (h : j_X8_groupNumbered_18 hs = some (o, hs')) : WG G p l e { frames := 6, cells := 1, slots := 6, locals := 200 } s m args below meth c 2 0 0 (vx_MQ below (QcT G o hs' tvR) (XCT G o hs') args s 1 6 (gA G)) hs [] [] 18 := by
  unfold j_X8_groupNumbered_18 at h
  exact q_throw C C2 (k := 0) (tx := "no such group") wc_X8_x418 iw_x0 at_X8_422 (by decide +kernel) (Nat.le_of_ble_eq_true rfl) (Nat.le_of_ble_eq_true rfl) (Nat.le_of_ble_eq_true rfl) (Nat.le_of_ble_eq_true rfl) (Nat.le_of_ble_eq_true rfl) (Nat.le_of_ble_eq_true rfl) (by decide) dX8_groupNumbered_18 dX8_groupNumbered_21 (Or.inr ⟨rfl, dX8_groupNumbered_22⟩) dX8_groupNumbered_25 dX8_groupNumbered_28 h
end M_X8_groupNumbered
def f_X8_groupNumbered (a0 : Nat) (p1 : Int32) : OO (Option Nat) :=
    (if p1 < 0 then
    j_X8_groupNumbered_18
    else
    gR (some a0) 11 1 fun v1 =>
    gR v1 9 1 fun v2 =>
    rcv v2 2 fun r8 => call (f_Jx4a65c_size_8abf5 r8 ) (fun (v3 : Int32) =>
    (if p1 < v3 then
    gR (some a0) 11 1 fun v4 =>
    gR v4 9 1 fun v5 =>
    rcv v5 2 fun r7 => call (f_Jx4a65c_get_915e3 r7 p1) (fun (v6 : Option Nat) =>
    cst v6 5 (
    rtn v6)) nox
    else
    j_X8_groupNumbered_18)) nox)
set_option maxRecDepth 100000 in
set_option maxHeartbeats 4000000 in
theorem m_X8_groupNumbered {G : GG} {l : Launch} {a0 : Nat} {p1 : Int32} {hs hs' : Hs} {o : Except Nat (Option Nat)} (h : f_X8_groupNumbered a0 p1 hs = some (o, hs')) : CT G l yX8_groupNumbered cX8_groupNumbered 2 (some (.object "Termgrid$Group")) 6 200 1 6 [.ref a0, .int p1] hs o hs' tvR := by
  refine vx_ofW (cc := cX8_groupNumbered) (maxL := 2) (ret := (some (.object "Termgrid$Group"))) (by decide +kernel) rfl ?_
  intro p e s m args below meth c s₁ B hml hxt hv
  obtain ⟨hav, hR, hKn⟩ := hv
  subst hav
  have hts := atoms_spec (ws := .code yX8_groupNumbered cX8_groupNumbered 2 (some (.object "Termgrid$Group")) :: Tg) B.pre
  have C : Cx G l p s m _ c RX8 cX8_groupNumbered 2 := ⟨B.exec, B.bytes, hml, findClass_of_methodNamed B.named, fun w hw => hts w (List.mem_cons_of_mem _ hw), hKn, fun q hq => Nat.le_trans hR.2.2.1 hq⟩
  have C2 : Cy meth c (some (.object "Termgrid$Group")) := ⟨B.returns, B.notSynchronized, hxt⟩
  have key : WG G p l e { frames := 6, cells := 1, slots := 6, locals := 200 } s m ([.ref a0, .int p1] : List Value).toArray below meth c 2 0 0 (vx_MQ below (QcT G o hs' tvR) (XCT G o hs') ([.ref a0, .int p1] : List Value).toArray s 1 6 (gA G)) hs [(0, va_rf (some a0)), (1, .int p1)] [] 0 := by
    unfold f_X8_groupNumbered at h
    refine q_iload_n C 1 dX8_groupNumbered_0 rfl ?_
    refine q_if_lt C 18 dX8_groupNumbered_1 (by decide) h (fun h => ?_) (fun h => ?_)
    · refine WG.sub [] rfl ?_
      exact w_j_X8_groupNumbered_18 C C2    h
    · refine q_iload_n C 1 dX8_groupNumbered_4 rfl ?_
      refine q_aload_n C 0 dX8_groupNumbered_5 rfl ?_
      refine q_gR C fl_X8_19 dX8_groupNumbered_6 h (fun v1 h => ?_)
      refine q_gR C fl_X8_103 dX8_groupNumbered_9 h (fun v2 h => ?_)
      refine q_callV C (CN := RJx4a65c) (T := TJx4a65c) (N := 3) [] [.int p1] (fun a0 o2 hs1 hm => m_Jx4a65c_size_8abf5 hm) lk_X8_70 im_Jx4a65c_size_8abf5 se_Jx4a65c_Jx4a65c_size_8abf5 rfl ⟨(Nat.le_of_ble_eq_true rfl), (Nat.le_of_ble_eq_true rfl)⟩ ⟨(Nat.le_of_ble_eq_true rfl), (Nat.le_of_ble_eq_true rfl)⟩ rfl rfl (by simp only [List.map, cat_rf, cat_i, cat_a]; decide) dX8_groupNumbered_12 h (fun v3 hs h => WG_st (st' := [.int v3, .int p1]) rfl ?_)
      refine q_icmp_lt C 29 dX8_groupNumbered_15 (by decide) h (fun h => ?_) (fun h => ?_)
      · refine q_aload_n C 0 dX8_groupNumbered_29 rfl ?_
        refine q_gR C fl_X8_19 dX8_groupNumbered_30 h (fun v4 h => ?_)
        refine q_gR C fl_X8_103 dX8_groupNumbered_33 h (fun v5 h => ?_)
        refine q_iload_n C 1 dX8_groupNumbered_36 rfl ?_
        refine q_callV C (CN := RJx4a65c) (T := TJx4a65c) (N := 3) [.int p1] [] (fun a0 o2 hs1 hm => m_Jx4a65c_get_915e3 hm) lk_X8_186 im_Jx4a65c_get_915e3 se_Jx4a65c_Jx4a65c_get_915e3 rfl ⟨(Nat.le_of_ble_eq_true rfl), (Nat.le_of_ble_eq_true rfl)⟩ ⟨(Nat.le_of_ble_eq_true rfl), (Nat.le_of_ble_eq_true rfl)⟩ rfl rfl (by decide) dX8_groupNumbered_37 h (fun v6 hs h => WG_st (st' := [va_rf v6]) rfl ?_)
        refine q_castS C (nm := RX2) (T := TX2) (N := 1) rfl wc_X8_108 dX8_groupNumbered_40 h (fun h => ?_)
        exact q_aret C C2 rfl (Or.inl ⟨_, rfl⟩) (Nat.le_of_ble_eq_true rfl) (Nat.le_of_ble_eq_true rfl) dX8_groupNumbered_43 h
      · refine WG.sub [] rfl ?_
        exact w_j_X8_groupNumbered_18 C C2    h
  rw [lg_entry_eq]
  exact key _ _ _ hR va_S.rf ⟨lv_entry _ (n := 2) (Nat.le_of_ble_eq_true rfl), (c1_r (c1_i c1_n))⟩

theorem cd_X8_teacherNumbered : Cond.code yX8_teacherNumbered cX8_teacherNumbered 2 (some (.object "Termgrid$Teacher")) ∈ Tg := Tg_of (i := 878) (by decide +kernel) (by decide +kernel)
section M_X8_teacherNumbered
variable {p : Program} {l : Launch} {e : Env} {s : State} {m : MethodId} {args : Array Value} {below : List Frame} {meth : Method} {c : Code} {G : GG} {o : Except Nat (Option Nat)} {hs' : Hs}
def j_X8_teacherNumbered_15    : OO (Option Nat) :=
  nthrow 0
set_option maxRecDepth 100000 in
set_option maxHeartbeats 4000000 in
theorem w_j_X8_teacherNumbered_15 (C : Cx G l p s m args c RX8 cX8_teacherNumbered 2) (C2 : Cy meth c (some (.object "Termgrid$Teacher"))) {hs : Hs}     (h : j_X8_teacherNumbered_15 hs = some (o, hs')) : WG G p l e { frames := 6, cells := 1, slots := 6, locals := 200 } s m args below meth c 2 0 0 (vx_MQ below (QcT G o hs' tvR) (XCT G o hs') args s 1 6 (gA G)) hs [] [] 15 := by
  unfold j_X8_teacherNumbered_15 at h
  exact q_throw C C2 (k := 0) (tx := "no such teacher") wc_X8_x418 iw_x0 at_X8_422 (by decide +kernel) (Nat.le_of_ble_eq_true rfl) (Nat.le_of_ble_eq_true rfl) (Nat.le_of_ble_eq_true rfl) (Nat.le_of_ble_eq_true rfl) (Nat.le_of_ble_eq_true rfl) (Nat.le_of_ble_eq_true rfl) (by decide) dX8_teacherNumbered_15 dX8_teacherNumbered_18 (Or.inr ⟨rfl, dX8_teacherNumbered_19⟩) dX8_teacherNumbered_22 dX8_teacherNumbered_25 h
end M_X8_teacherNumbered
def f_X8_teacherNumbered (a0 : Nat) (p1 : Int32) : OO (Option Nat) :=
    (if p1 < 0 then
    j_X8_teacherNumbered_15
    else
    gR (some a0) 11 0 fun v1 =>
    rcv v1 2 fun r6 => call (f_Jx4a65c_size_8abf5 r6 ) (fun (v2 : Int32) =>
    (if p1 < v2 then
    gR (some a0) 11 0 fun v3 =>
    rcv v3 2 fun r5 => call (f_Jx4a65c_get_915e3 r5 p1) (fun (v4 : Option Nat) =>
    cst v4 10 (
    rtn v4)) nox
    else
    j_X8_teacherNumbered_15)) nox)
set_option maxRecDepth 100000 in
set_option maxHeartbeats 4000000 in
theorem m_X8_teacherNumbered {G : GG} {l : Launch} {a0 : Nat} {p1 : Int32} {hs hs' : Hs} {o : Except Nat (Option Nat)} (h : f_X8_teacherNumbered a0 p1 hs = some (o, hs')) : CT G l yX8_teacherNumbered cX8_teacherNumbered 2 (some (.object "Termgrid$Teacher")) 6 200 1 6 [.ref a0, .int p1] hs o hs' tvR := by
  refine vx_ofW (cc := cX8_teacherNumbered) (maxL := 2) (ret := (some (.object "Termgrid$Teacher"))) (by decide +kernel) rfl ?_
  intro p e s m args below meth c s₁ B hml hxt hv
  obtain ⟨hav, hR, hKn⟩ := hv
  subst hav
  have hts := atoms_spec (ws := .code yX8_teacherNumbered cX8_teacherNumbered 2 (some (.object "Termgrid$Teacher")) :: Tg) B.pre
  have C : Cx G l p s m _ c RX8 cX8_teacherNumbered 2 := ⟨B.exec, B.bytes, hml, findClass_of_methodNamed B.named, fun w hw => hts w (List.mem_cons_of_mem _ hw), hKn, fun q hq => Nat.le_trans hR.2.2.1 hq⟩
  have C2 : Cy meth c (some (.object "Termgrid$Teacher")) := ⟨B.returns, B.notSynchronized, hxt⟩
  have key : WG G p l e { frames := 6, cells := 1, slots := 6, locals := 200 } s m ([.ref a0, .int p1] : List Value).toArray below meth c 2 0 0 (vx_MQ below (QcT G o hs' tvR) (XCT G o hs') ([.ref a0, .int p1] : List Value).toArray s 1 6 (gA G)) hs [(0, va_rf (some a0)), (1, .int p1)] [] 0 := by
    unfold f_X8_teacherNumbered at h
    refine q_iload_n C 1 dX8_teacherNumbered_0 rfl ?_
    refine q_if_lt C 15 dX8_teacherNumbered_1 (by decide) h (fun h => ?_) (fun h => ?_)
    · refine WG.sub [] rfl ?_
      exact w_j_X8_teacherNumbered_15 C C2    h
    · refine q_iload_n C 1 dX8_teacherNumbered_4 rfl ?_
      refine q_aload_n C 0 dX8_teacherNumbered_5 rfl ?_
      refine q_gR C fl_X8_12 dX8_teacherNumbered_6 h (fun v1 h => ?_)
      refine q_callV C (CN := RJx4a65c) (T := TJx4a65c) (N := 3) [] [.int p1] (fun a0 o2 hs1 hm => m_Jx4a65c_size_8abf5 hm) lk_X8_70 im_Jx4a65c_size_8abf5 se_Jx4a65c_Jx4a65c_size_8abf5 rfl ⟨(Nat.le_of_ble_eq_true rfl), (Nat.le_of_ble_eq_true rfl)⟩ ⟨(Nat.le_of_ble_eq_true rfl), (Nat.le_of_ble_eq_true rfl)⟩ rfl rfl (by simp only [List.map, cat_rf, cat_i, cat_a]; decide) dX8_teacherNumbered_9 h (fun v2 hs h => WG_st (st' := [.int v2, .int p1]) rfl ?_)
      refine q_icmp_lt C 26 dX8_teacherNumbered_12 (by decide) h (fun h => ?_) (fun h => ?_)
      · refine q_aload_n C 0 dX8_teacherNumbered_26 rfl ?_
        refine q_gR C fl_X8_12 dX8_teacherNumbered_27 h (fun v3 h => ?_)
        refine q_iload_n C 1 dX8_teacherNumbered_30 rfl ?_
        refine q_callV C (CN := RJx4a65c) (T := TJx4a65c) (N := 3) [.int p1] [] (fun a0 o2 hs1 hm => m_Jx4a65c_get_915e3 hm) lk_X8_186 im_Jx4a65c_get_915e3 se_Jx4a65c_Jx4a65c_get_915e3 rfl ⟨(Nat.le_of_ble_eq_true rfl), (Nat.le_of_ble_eq_true rfl)⟩ ⟨(Nat.le_of_ble_eq_true rfl), (Nat.le_of_ble_eq_true rfl)⟩ rfl rfl (by decide) dX8_teacherNumbered_31 h (fun v4 hs h => WG_st (st' := [va_rf v4]) rfl ?_)
        refine q_castS C (nm := RX7) (T := TX7) (N := 3) rfl wc_X8_92 dX8_teacherNumbered_34 h (fun h => ?_)
        exact q_aret C C2 rfl (Or.inl ⟨_, rfl⟩) (Nat.le_of_ble_eq_true rfl) (Nat.le_of_ble_eq_true rfl) dX8_teacherNumbered_37 h
      · refine WG.sub [] rfl ?_
        exact w_j_X8_teacherNumbered_15 C C2    h
  rw [lg_entry_eq]
  exact key _ _ _ hR va_S.rf ⟨lv_entry _ (n := 2) (Nat.le_of_ble_eq_true rfl), (c1_r (c1_i c1_n))⟩

theorem cd_X8_addLesson : Cond.code yX8_addLesson cX8_addLesson 9 (some .int) ∈ Tg := Tg_of (i := 856) (by decide +kernel) (by decide +kernel)
theorem ml_X8_111 : Cond.methodLink RX8 111 yX8_groupNumbered ∈ Tg := Tg_of (i := 857) (by decide +kernel) (by decide +kernel)
theorem lk_X8_111 : Lk RX8 111 yX8_groupNumbered cX8_groupNumbered 2 (some (.object "Termgrid$Group")) 1 := ⟨ml_X8_111, cd_X8_groupNumbered, iw_X8, by decide +kernel⟩
theorem ml_X8_115 : Cond.methodLink RX8 115 yX8_teacherNumbered ∈ Tg := Tg_of (i := 875) (by decide +kernel) (by decide +kernel)
theorem lk_X8_115 : Lk RX8 115 yX8_teacherNumbered cX8_teacherNumbered 2 (some (.object "Termgrid$Teacher")) 1 := ⟨ml_X8_115, cd_X8_teacherNumbered, iw_X8, by decide +kernel⟩
theorem wf_X8_121 : Cond.fieldLink RX8 121 RX6 (TX6 2).2.1 (TX6 2).2.2.1 ∈ Tg := Tg_of (i := 165) (by decide +kernel) (by decide +kernel)
theorem fl_X8_121 : Fld RX8 121 9 2 (.object "java/util/ArrayList") := ⟨RX6, TX6, 6, RX6, rfl, by decide, wf_X8_121, (Or.inl rfl), gu_X6, tyX6_ok _ (by decide), ⟨tyX6, tyX6_ok⟩, nmX6⟩
theorem wc_X8_126 : Cond.classLink RX8 126 RX4 ∈ Tg := Tg_of (i := 882) (by decide +kernel) (by decide +kernel)
theorem wi_X4 : Cond.instantiable RX4 18 ∈ Tg := Tg_of (i := 328) (by decide +kernel) (by decide +kernel)
theorem nf_X8_126 : NewC RX8 126 7 [.int 0, .null, .null, .int 0, .int 0, .int 0, .null, .int 0, .int 0, .int 0, .null, .int 0, .int 0, .int 0, .null, .null, .int 0, .null] 18 := ⟨RX4, TX4, tyX4, rfl, wc_X8_126, wi_X4, iw_X4, gu_X4, tyX4_ok, by decide⟩
theorem ml_X8_128 : Cond.methodLink RX8 128 yX4_init ∈ Tg := Tg_of (i := 883) (by decide +kernel) (by decide +kernel)
theorem lk_X8_128 : Lk RX8 128 yX4_init cX4_init 7 none 6 := ⟨ml_X8_128, cd_X4_init, iw_X4, by decide +kernel⟩
theorem im_X4_init : Cond.instanceMethod yX4_init ∈ Tg := Tg_of (i := 884) (by decide +kernel) (by decide +kernel)
theorem im_X8_teacherNumbered : Cond.instanceMethod yX8_teacherNumbered ∈ Tg := Tg_of (i := 877) (by decide +kernel) (by decide +kernel)
theorem se_X8_X8_teacherNumbered : Cond.selects RX8 yX8_teacherNumbered yX8_teacherNumbered ∈ Tg := Tg_of (i := 21) (by decide +kernel) (by decide +kernel)
theorem im_X8_groupNumbered : Cond.instanceMethod yX8_groupNumbered ∈ Tg := Tg_of (i := 859) (by decide +kernel) (by decide +kernel)
theorem se_X8_X8_groupNumbered : Cond.selects RX8 yX8_groupNumbered yX8_groupNumbered ∈ Tg := Tg_of (i := 20) (by decide +kernel) (by decide +kernel)
section M_X8_addLesson
variable {p : Program} {l : Launch} {e : Env} {s : State} {m : MethodId} {args : Array Value} {below : List Frame} {meth : Method} {c : Code} {G : GG} {o : Except Nat Int32} {hs' : Hs}
def j_X8_addLesson_44    : OO Int32 :=
  nthrow 1
set_option maxRecDepth 100000 in
set_option maxHeartbeats 4000000 in
theorem w_j_X8_addLesson_44 (C : Cx G l p s m args c RX8 cX8_addLesson 9) (C2 : Cy meth c (some .int)) {hs : Hs}     (h : j_X8_addLesson_44 hs = some (o, hs')) : WG G p l e { frames := 7, cells := 8, slots := 84, locals := 221 } s m args below meth c 9 2 12 (vx_MQ below (QcT G o hs' tvI) (XCT G o hs') args s 8 84 (gA G)) hs [] [] 44 := by
  unfold j_X8_addLesson_44 at h
  exact q_throw C C2 (k := 1) (tx := "kind, length or course out of range") wc_X8_x60 iw_x1 at_X8_64 (by decide +kernel) (Nat.le_of_ble_eq_true rfl) (Nat.le_of_ble_eq_true rfl) (Nat.le_of_ble_eq_true rfl) (Nat.le_of_ble_eq_true rfl) (Nat.le_of_ble_eq_true rfl) (Nat.le_of_ble_eq_true rfl) (by decide) dX8_addLesson_44 dX8_addLesson_47 (Or.inl ⟨rfl, dX8_addLesson_48⟩) dX8_addLesson_50 dX8_addLesson_53 h
end M_X8_addLesson
def f_X8_addLesson (a0 : Nat) (p1 : Int32) (p2 : Int32) (p3 : Int32) (p4 : Int32) (p5 : Int32) : OO Int32 :=
    rcv (some a0) 11 fun r20 => call (f_X8_groupNumbered r20 p1) (fun (v1 : Option Nat) =>
    lets v1 fun (v2 : Option Nat) =>
    rcv (some a0) 11 fun r19 => call (f_X8_teacherNumbered r19 p2) (fun (v3 : Option Nat) =>
    lets v3 fun (v4 : Option Nat) =>
    call (f_X8_isOutside p3 (0 : Int32) (3 : Int32)) (fun (v5 : Int32) =>
    (if ¬ v5 = 0 then
    j_X8_addLesson_44
    else
    call (f_X8_isOutside p4 (1 : Int32) (3 : Int32)) (fun (v6 : Int32) =>
    (if ¬ v6 = 0 then
    j_X8_addLesson_44
    else
    call (f_X8_isOutside p5 (0 : Int32) (9 : Int32)) (fun (v7 : Int32) =>
    (if v7 = 0 then
    gR (some a0) 11 1 fun v8 =>
    gR v8 9 2 fun v9 =>
    rcv v9 2 fun r18 => call (f_Jx4a65c_size_8abf5 r18 ) (fun (v10 : Int32) =>
    lets v10 fun (v11 : Int32) =>
    (if v11 < (16 : Int32) then
    gR (some a0) 11 1 fun v12 =>
    gR v12 9 2 fun v13 =>
    nw 7 [.int 0, .null, .null, .int 0, .int 0, .int 0, .null, .int 0, .int 0, .int 0, .null, .int 0, .int 0, .int 0, .null, .null, .int 0, .null] fun q14 =>
    call (f_X4_init q14 v11 v2 v4 p3 p4 p5) (fun (v15 : Unit) =>
    rcv v13 2 fun r17 => call (f_Jx4a65c_add_9ea2d r17 (some q14)) (fun (v16 : Int32) =>
    rtn v11) nox) nox
    else
    nthrow 2)) nox
    else
    j_X8_addLesson_44)) nox)) nox)) nox) thr) thr
set_option maxRecDepth 100000 in
set_option maxHeartbeats 4000000 in
theorem m_X8_addLesson {G : GG} {l : Launch} {a0 : Nat} {p1 : Int32} {p2 : Int32} {p3 : Int32} {p4 : Int32} {p5 : Int32} {hs hs' : Hs} {o : Except Nat Int32} (h : f_X8_addLesson a0 p1 p2 p3 p4 p5 hs = some (o, hs')) : CT G l yX8_addLesson cX8_addLesson 9 (some .int) 7 221 8 84 [.ref a0, .int p1, .int p2, .int p3, .int p4, .int p5] hs o hs' tvI := by
  refine vx_ofW (cc := cX8_addLesson) (maxL := 9) (ret := (some .int)) (by decide +kernel) rfl ?_
  intro p e s m args below meth c s₁ B hml hxt hv
  obtain ⟨hav, hR, hKn⟩ := hv
  subst hav
  have hts := atoms_spec (ws := .code yX8_addLesson cX8_addLesson 9 (some .int) :: Tg) B.pre
  have C : Cx G l p s m _ c RX8 cX8_addLesson 9 := ⟨B.exec, B.bytes, hml, findClass_of_methodNamed B.named, fun w hw => hts w (List.mem_cons_of_mem _ hw), hKn, fun q hq => Nat.le_trans hR.2.2.1 hq⟩
  have C2 : Cy meth c (some .int) := ⟨B.returns, B.notSynchronized, hxt⟩
  have key : WG G p l e { frames := 7, cells := 8, slots := 84, locals := 221 } s m ([.ref a0, .int p1, .int p2, .int p3, .int p4, .int p5] : List Value).toArray below meth c 9 0 0 (vx_MQ below (QcT G o hs' tvI) (XCT G o hs') ([.ref a0, .int p1, .int p2, .int p3, .int p4, .int p5] : List Value).toArray s 8 84 (gA G)) hs [(0, va_rf (some a0)), (1, .int p1), (2, .int p2), (3, .int p3), (4, .int p4), (5, .int p5)] [] 0 := by
    unfold f_X8_addLesson at h
    refine q_aload_n C 0 dX8_addLesson_0 rfl ?_
    refine q_iload_n C 1 dX8_addLesson_1 rfl ?_
    refine q_callVX C (CN := RX8) (T := TX8) (N := 10) [.int p1] [] C2 ⟨(Nat.le_of_ble_eq_true rfl), (Nat.le_of_ble_eq_true rfl)⟩ (fun a0 o2 hs1 hm => m_X8_groupNumbered hm) lk_X8_111 im_X8_groupNumbered se_X8_X8_groupNumbered rfl ⟨(Nat.le_of_ble_eq_true rfl), (Nat.le_of_ble_eq_true rfl)⟩ ⟨(Nat.le_of_ble_eq_true rfl), (Nat.le_of_ble_eq_true rfl)⟩ rfl rfl (by decide) dX8_addLesson_2 h (fun v1 hs h => WG_st (st' := [va_rf v1]) rfl ?_)
    refine q_astore C (fun v2 => [(6, va_rf v2), (0, va_rf (some a0)), (1, .int p1), (2, .int p2), (3, .int p3), (4, .int p4), (5, .int p5)]) dX8_addLesson_5 (by decide) (fun _ => rfl) h (fun v2 h => ?_)
    refine q_aload_n C 1 dX8_addLesson_7 rfl ?_
    refine q_iload_n C 3 dX8_addLesson_8 rfl ?_
    refine q_callVX C (CN := RX8) (T := TX8) (N := 10) [.int p2] [] C2 ⟨(Nat.le_of_ble_eq_true rfl), (Nat.le_of_ble_eq_true rfl)⟩ (fun a0 o2 hs1 hm => m_X8_teacherNumbered hm) lk_X8_115 im_X8_teacherNumbered se_X8_X8_teacherNumbered rfl ⟨(Nat.le_of_ble_eq_true rfl), (Nat.le_of_ble_eq_true rfl)⟩ ⟨(Nat.le_of_ble_eq_true rfl), (Nat.le_of_ble_eq_true rfl)⟩ rfl rfl (by decide) dX8_addLesson_9 h (fun v3 hs h => WG_st (st' := [va_rf v3]) rfl ?_)
    refine q_astore C (fun v4 => [(7, va_rf v4), (6, va_rf v2), (0, va_rf (some a0)), (1, .int p1), (2, .int p2), (3, .int p3), (4, .int p4), (5, .int p5)]) dX8_addLesson_12 (by decide) (fun _ => rfl) h (fun v4 h => ?_)
    refine q_iload_n C 5 dX8_addLesson_14 rfl ?_
    refine q_iconst C (0 : Int32) dX8_addLesson_15 (by decide) ?_
    refine q_iconst C (3 : Int32) dX8_addLesson_16 (by decide) ?_
    refine q_callS C [.int p3, .int (0 : Int32), .int (3 : Int32)] [] (fun o2 hs1 hm => m_X8_isOutside hm) lk_X8_56 sm_X8_isOutside ⟨(Nat.le_of_ble_eq_true rfl), (Nat.le_of_ble_eq_true rfl)⟩ ⟨(Nat.le_of_ble_eq_true rfl), (Nat.le_of_ble_eq_true rfl)⟩ rfl rfl (by decide) dX8_addLesson_17 h (fun v5 hs h => WG_st (st' := [.int v5]) rfl ?_)
    refine q_if_ne C 44 dX8_addLesson_20 (by decide) h (fun h => ?_) (fun h => ?_)
    · refine WG.sub [] rfl ?_
      exact w_j_X8_addLesson_44 C C2    h
    · refine q_iload C 6 dX8_addLesson_23 rfl ?_
      refine q_iconst C (1 : Int32) dX8_addLesson_25 (by decide) ?_
      refine q_iconst C (3 : Int32) dX8_addLesson_26 (by decide) ?_
      refine q_callS C [.int p4, .int (1 : Int32), .int (3 : Int32)] [] (fun o2 hs1 hm => m_X8_isOutside hm) lk_X8_56 sm_X8_isOutside ⟨(Nat.le_of_ble_eq_true rfl), (Nat.le_of_ble_eq_true rfl)⟩ ⟨(Nat.le_of_ble_eq_true rfl), (Nat.le_of_ble_eq_true rfl)⟩ rfl rfl (by decide) dX8_addLesson_27 h (fun v6 hs h => WG_st (st' := [.int v6]) rfl ?_)
      refine q_if_ne C 44 dX8_addLesson_30 (by decide) h (fun h => ?_) (fun h => ?_)
      · refine WG.sub [] rfl ?_
        exact w_j_X8_addLesson_44 C C2    h
      · refine q_iload C 7 dX8_addLesson_33 rfl ?_
        refine q_iconst C (0 : Int32) dX8_addLesson_35 (by decide) ?_
        refine q_bipush C (9 : Int32) dX8_addLesson_36 (by decide) ?_
        refine q_callS C [.int p5, .int (0 : Int32), .int (9 : Int32)] [] (fun o2 hs1 hm => m_X8_isOutside hm) lk_X8_56 sm_X8_isOutside ⟨(Nat.le_of_ble_eq_true rfl), (Nat.le_of_ble_eq_true rfl)⟩ ⟨(Nat.le_of_ble_eq_true rfl), (Nat.le_of_ble_eq_true rfl)⟩ rfl rfl (by decide) dX8_addLesson_38 h (fun v7 hs h => WG_st (st' := [.int v7]) rfl ?_)
        refine q_if_eq C 54 dX8_addLesson_41 (by decide) h (fun h => ?_) (fun h => ?_)
        · refine q_aload_n C 2 dX8_addLesson_54 rfl ?_
          refine q_gR C fl_X8_19 dX8_addLesson_55 h (fun v8 h => ?_)
          refine q_gR C fl_X8_121 dX8_addLesson_58 h (fun v9 h => ?_)
          refine q_callV C (CN := RJx4a65c) (T := TJx4a65c) (N := 3) [] [] (fun a0 o2 hs1 hm => m_Jx4a65c_size_8abf5 hm) lk_X8_70 im_Jx4a65c_size_8abf5 se_Jx4a65c_Jx4a65c_size_8abf5 rfl ⟨(Nat.le_of_ble_eq_true rfl), (Nat.le_of_ble_eq_true rfl)⟩ ⟨(Nat.le_of_ble_eq_true rfl), (Nat.le_of_ble_eq_true rfl)⟩ rfl rfl (by decide) dX8_addLesson_61 h (fun v10 hs h => WG_st (st' := [.int v10]) rfl ?_)
          refine q_istore C (fun v11 => [(8, .int v11), (7, va_rf v4), (6, va_rf v2), (0, va_rf (some a0)), (1, .int p1), (2, .int p2), (3, .int p3), (4, .int p4), (5, .int p5)]) dX8_addLesson_64 (by decide) (fun _ => rfl) h (fun v11 h => ?_)
          refine q_iload C 0 dX8_addLesson_66 rfl ?_
          refine q_bipush C (16 : Int32) dX8_addLesson_68 (by decide) ?_
          refine q_icmp_lt C 83 dX8_addLesson_70 (by decide) h (fun h => ?_) (fun h => ?_)
          · refine q_aload_n C 3 dX8_addLesson_83 rfl ?_
            refine q_gR C fl_X8_19 dX8_addLesson_84 h (fun v12 h => ?_)
            refine q_gR C fl_X8_121 dX8_addLesson_87 h (fun v13 h => ?_)
            refine q_new C nf_X8_126 (Nat.le_of_ble_eq_true rfl) (Nat.le_of_ble_eq_true rfl) dX8_addLesson_90 h (fun q14 hs h => ?_)
            refine q_dup C (cat_rf _) dX8_addLesson_93 ?_
            refine q_iload C 0 dX8_addLesson_94 rfl ?_
            refine q_aload C 2 dX8_addLesson_96 rfl ?_
            refine q_aload C 1 dX8_addLesson_98 rfl ?_
            refine q_iload_n C 6 dX8_addLesson_100 rfl ?_
            refine q_iload C 7 dX8_addLesson_101 rfl ?_
            refine q_iload C 8 dX8_addLesson_103 rfl ?_
            refine q_callI C [.int v11, va_rf v2, va_rf v4, .int p3, .int p4, .int p5] [va_rf (some q14), va_rf v13] (fun o2 hs1 hm => m_X4_init hm) lk_X8_128 im_X4_init rfl ⟨(Nat.le_of_ble_eq_true rfl), (Nat.le_of_ble_eq_true rfl)⟩ ⟨(Nat.le_of_ble_eq_true rfl), (Nat.le_of_ble_eq_true rfl)⟩ rfl rfl (by simp only [List.map, cat_rf, cat_i, cat_a]; decide) dX8_addLesson_105 h (fun v15 hs h => WG_st (st' := [va_rf (some q14), va_rf v13]) rfl ?_)
            refine q_callV C (CN := RJx4a65c) (T := TJx4a65c) (N := 3) [va_rf (some q14)] [] (fun a0 o2 hs1 hm => m_Jx4a65c_add_9ea2d hm) lk_X8_84 im_Jx4a65c_add_9ea2d se_Jx4a65c_Jx4a65c_add_9ea2d rfl ⟨(Nat.le_of_ble_eq_true rfl), (Nat.le_of_ble_eq_true rfl)⟩ ⟨(Nat.le_of_ble_eq_true rfl), (Nat.le_of_ble_eq_true rfl)⟩ rfl rfl (by decide) dX8_addLesson_108 h (fun v16 hs h => WG_st (st' := [.int v16]) rfl ?_)
            refine q_pop C rfl dX8_addLesson_111 ?_
            refine q_iload C 0 dX8_addLesson_112 rfl ?_
            exact q_iret C C2 rfl (Nat.le_of_ble_eq_true rfl) (Nat.le_of_ble_eq_true rfl) dX8_addLesson_114 h
          · exact q_throw C C2 (k := 2) (tx := "there are 16 lessons") wc_X8_x74 iw_x2 at_X8_78 (by decide +kernel) (Nat.le_of_ble_eq_true rfl) (Nat.le_of_ble_eq_true rfl) (Nat.le_of_ble_eq_true rfl) (Nat.le_of_ble_eq_true rfl) (Nat.le_of_ble_eq_true rfl) (Nat.le_of_ble_eq_true rfl) (by decide) dX8_addLesson_73 dX8_addLesson_76 (Or.inl ⟨rfl, dX8_addLesson_77⟩) dX8_addLesson_79 dX8_addLesson_82 h
        · refine WG.sub [] rfl ?_
          exact w_j_X8_addLesson_44 C C2    h
  rw [lg_entry_eq]
  exact key _ _ _ hR va_S.rf ⟨lv_entry _ (n := 9) (Nat.le_of_ble_eq_true rfl), (c1_r (c1_i (c1_i (c1_i (c1_i (c1_i c1_n))))))⟩

theorem cd_X8_requireSlot : Cond.code yX8_requireSlot cX8_requireSlot 1 none ∈ Tg := Tg_of (i := 971) (by decide +kernel) (by decide +kernel)
section M_X8_requireSlot
variable {p : Program} {l : Launch} {e : Env} {s : State} {m : MethodId} {args : Array Value} {below : List Frame} {meth : Method} {c : Code} {G : GG} {o : Except Nat Unit} {hs' : Hs}
end M_X8_requireSlot
def f_X8_requireSlot (p0 : Int32) : OO Unit :=
    call (f_X8_isOutside p0 (0 : Int32) (29 : Int32)) (fun (v1 : Int32) =>
    (if v1 = 0 then
    rtn ()
    else
    nthrow 1)) nox
set_option maxRecDepth 100000 in
set_option maxHeartbeats 4000000 in
theorem m_X8_requireSlot {G : GG} {l : Launch} {p0 : Int32} {hs hs' : Hs} {o : Except Nat Unit} (h : f_X8_requireSlot p0 hs = some (o, hs')) : CT G l yX8_requireSlot cX8_requireSlot 1 none 6 200 1 6 [.int p0] hs o hs' tvV := by
  refine vx_ofW (cc := cX8_requireSlot) (maxL := 1) (ret := none) (by decide +kernel) rfl ?_
  intro p e s m args below meth c s₁ B hml hxt hv
  obtain ⟨hav, hR, hKn⟩ := hv
  subst hav
  have hts := atoms_spec (ws := .code yX8_requireSlot cX8_requireSlot 1 none :: Tg) B.pre
  have C : Cx G l p s m _ c RX8 cX8_requireSlot 1 := ⟨B.exec, B.bytes, hml, findClass_of_methodNamed B.named, fun w hw => hts w (List.mem_cons_of_mem _ hw), hKn, fun q hq => Nat.le_trans hR.2.2.1 hq⟩
  have C2 : Cy meth c none := ⟨B.returns, B.notSynchronized, hxt⟩
  have key : WG G p l e { frames := 6, cells := 1, slots := 6, locals := 200 } s m ([.int p0] : List Value).toArray below meth c 1 0 0 (vx_MQ below (QcT G o hs' tvV) (XCT G o hs') ([.int p0] : List Value).toArray s 1 6 (gA G)) hs [(0, .int p0)] [] 0 := by
    unfold f_X8_requireSlot at h
    refine q_iload_n C 0 dX8_requireSlot_0 rfl ?_
    refine q_iconst C (0 : Int32) dX8_requireSlot_1 (by decide) ?_
    refine q_bipush C (29 : Int32) dX8_requireSlot_2 (by decide) ?_
    refine q_callS C [.int p0, .int (0 : Int32), .int (29 : Int32)] [] (fun o2 hs1 hm => m_X8_isOutside hm) lk_X8_56 sm_X8_isOutside ⟨(Nat.le_of_ble_eq_true rfl), (Nat.le_of_ble_eq_true rfl)⟩ ⟨(Nat.le_of_ble_eq_true rfl), (Nat.le_of_ble_eq_true rfl)⟩ rfl rfl (by decide) dX8_requireSlot_4 h (fun v1 hs h => WG_st (st' := [.int v1]) rfl ?_)
    refine q_if_eq C 21 dX8_requireSlot_7 (by decide) h (fun h => ?_) (fun h => ?_)
    · exact q_vret C C2 rfl (Nat.le_of_ble_eq_true rfl) (Nat.le_of_ble_eq_true rfl) dX8_requireSlot_21 h
    · exact q_throw C C2 (k := 1) (tx := "no such slot") wc_X8_x60 iw_x1 at_X8_64 (by decide +kernel) (Nat.le_of_ble_eq_true rfl) (Nat.le_of_ble_eq_true rfl) (Nat.le_of_ble_eq_true rfl) (Nat.le_of_ble_eq_true rfl) (Nat.le_of_ble_eq_true rfl) (Nat.le_of_ble_eq_true rfl) (by decide) dX8_requireSlot_10 dX8_requireSlot_13 (Or.inr ⟨rfl, dX8_requireSlot_14⟩) dX8_requireSlot_17 dX8_requireSlot_20 h
  rw [lg_entry_eq]
  exact key _ _ _ hR va_S.rf ⟨lv_entry _ (n := 1) (Nat.le_of_ble_eq_true rfl), (c1_i c1_n)⟩

