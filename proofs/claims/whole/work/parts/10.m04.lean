theorem cd_X3_mayMove : Cond.code yX3_mayMove cX3_mayMove 4 (some .boolean) ∈ Tg := Tg_of (i := 1276) (by decide +kernel) (by decide +kernel)
theorem wf_X3_76 : Cond.fieldLink RX3 76 RX4 (TX4 6).2.1 (TX4 6).2.2.1 ∈ Tg := Tg_of (i := 909) (by decide +kernel) (by decide +kernel)
theorem fl_X3_76 : Fld RX3 76 7 6 (.object "Termgrid$Room") := ⟨RX4, TX4, 18, RX4, rfl, by decide, wf_X3_76, (Or.inl rfl), gu_X4, tyX4_ok _ (by decide), ⟨tyX4, tyX4_ok⟩, nmX4⟩
theorem ml_X3_80 : Cond.methodLink RX3 80 yX6_isFree ∈ Tg := Tg_of (i := 1277) (by decide +kernel) (by decide +kernel)
theorem lk_X3_80 : Lk RX3 80 yX6_isFree cX6_isFree 2 (some .boolean) 1 := ⟨ml_X3_80, cd_X6_isFree, iw_X6, by decide +kernel⟩
theorem fl_X3_15 : Fld RX3 15 6 1 (.array .int) := ⟨RX3, TX3, 2, RX3, rfl, by decide, wf_X3_15, (Or.inl rfl), gu_X3, tyX3_ok _ (by decide), ⟨tyX3, tyX3_ok⟩, nmX3⟩
theorem wf_X3_84 : Cond.fieldLink RX3 84 RX4 (TX4 0).2.1 (TX4 0).2.2.1 ∈ Tg := Tg_of (i := 890) (by decide +kernel) (by decide +kernel)
theorem fl_X3_84 : Fld RX3 84 7 0 .int := ⟨RX4, TX4, 18, RX4, rfl, by decide, wf_X3_84, (Or.inl rfl), gu_X4, tyX4_ok _ (by decide), ⟨tyX4, tyX4_ok⟩, nmX4⟩
theorem lk_X3_88 : LkN RX3 88 yX8_at "Termgrid" cX8_at 2 (some .int) 2 := ⟨by decide +kernel, cd_X8_at, iw_X8, by decide +kernel⟩
theorem im_X6_isFree : Cond.instanceMethod yX6_isFree ∈ Tg := Tg_of (i := 1101) (by decide +kernel) (by decide +kernel)
theorem se_X6_X6_isFree : Cond.selects RX6 yX6_isFree yX6_isFree ∈ Tg := Tg_of (i := 1102) (by decide +kernel) (by decide +kernel)
section M_X3_mayMove
variable {p : Program} {l : Launch} {e : Env} {s : State} {m : MethodId} {args : Array Value} {below : List Frame} {meth : Method} {c : Code} {G : GG} {o : Except Nat Int32} {hs' : Hs}
end M_X3_mayMove
def f_X3_mayMove (a0 : Nat) (p1 : Option Nat) (p2 : Option Nat) (p3 : Int32) : OO Int32 :=
    gR p2 7 6 fun v1 =>
    (if v1 = none then
    retZ (0 : Int32)
    else
    rcv p1 9 fun r6 => call (f_X6_isFree r6 p2) (fun (v2 : Int32) =>
    (if v2 = 0 then
    retZ (0 : Int32)
    else
    gR (some a0) 6 1 fun v3 =>
    gI p2 7 0 fun v4 =>
    call (f_X8_at v3 v4) (fun (v5 : Int32) =>
    (if (p3 - v5) ≤ (3 : Int32) then
    retZ (0 : Int32)
    else
    retZ (1 : Int32))) nox)) nox)
set_option maxRecDepth 100000 in
set_option maxHeartbeats 4000000 in
theorem m_X3_mayMove {G : GG} {l : Launch} {a0 : Nat} {p1 : Option Nat} {p2 : Option Nat} {p3 : Int32} {hs hs' : Hs} {o : Except Nat Int32} (h : f_X3_mayMove a0 p1 p2 p3 hs = some (o, hs')) : CT G l yX3_mayMove cX3_mayMove 4 (some .boolean) 2 42 0 0 [.ref a0, va_rf p1, va_rf p2, .int p3] hs o hs' tvI := by
  refine vx_ofW (cc := cX3_mayMove) (maxL := 4) (ret := (some .boolean)) (by decide +kernel) rfl ?_
  intro p e s m args below meth c s₁ B hml hxt hv
  obtain ⟨hav, hR, hKn⟩ := hv
  subst hav
  have hts := atoms_spec (ws := .code yX3_mayMove cX3_mayMove 4 (some .boolean) :: Tg) B.pre
  have C : Cx G l p s m _ c RX3 cX3_mayMove 4 := ⟨B.exec, B.bytes, hml, findClass_of_methodNamed B.named, fun w hw => hts w (List.mem_cons_of_mem _ hw), hKn, fun q hq => Nat.le_trans hR.2.2.1 hq⟩
  have C2 : Cy meth c (some .boolean) := ⟨B.returns, B.notSynchronized, hxt⟩
  have key : WG G p l e { frames := 2, cells := 0, slots := 0, locals := 42 } s m ([.ref a0, va_rf p1, va_rf p2, .int p3] : List Value).toArray below meth c 4 0 0 (vx_MQ below (QcT G o hs' tvI) (XCT G o hs') ([.ref a0, va_rf p1, va_rf p2, .int p3] : List Value).toArray s 0 0 (gA G)) hs [(0, va_rf (some a0)), (1, va_rf p1), (2, va_rf p2), (3, .int p3)] [] 0 := by
    unfold f_X3_mayMove at h
    refine q_aload_n C 2 dX3_mayMove_0 rfl ?_
    refine q_gR C fl_X3_76 dX3_mayMove_1 h (fun v1 h => ?_)
    refine q_ifnull C 36 dX3_mayMove_4 (by decide) h (fun h => ?_) (fun h => ?_)
    · refine q_iconst C (0 : Int32) dX3_mayMove_36 (by decide) ?_
      exact q_zret C C2 rfl (Nat.le_of_ble_eq_true rfl) (Nat.le_of_ble_eq_true rfl) dX3_mayMove_37 h
    · refine q_aload_n C 1 dX3_mayMove_7 rfl ?_
      refine q_aload_n C 2 dX3_mayMove_8 rfl ?_
      refine q_callV C (CN := RX6) (T := TX6) (N := 6) [va_rf p2] [] (fun a0 o2 hs1 hm => m_X6_isFree hm) lk_X3_80 im_X6_isFree se_X6_X6_isFree rfl ⟨(Nat.le_of_ble_eq_true rfl), (Nat.le_of_ble_eq_true rfl)⟩ ⟨(Nat.le_of_ble_eq_true rfl), (Nat.le_of_ble_eq_true rfl)⟩ rfl rfl (by decide) dX3_mayMove_9 h (fun v2 hs h => WG_st (st' := [.int v2]) rfl ?_)
      refine q_if_eq C 36 dX3_mayMove_12 (by decide) h (fun h => ?_) (fun h => ?_)
      · refine q_iconst C (0 : Int32) dX3_mayMove_36 (by decide) ?_
        exact q_zret C C2 rfl (Nat.le_of_ble_eq_true rfl) (Nat.le_of_ble_eq_true rfl) dX3_mayMove_37 h
      · refine q_iload_n C 3 dX3_mayMove_15 rfl ?_
        refine q_aload_n C 0 dX3_mayMove_16 rfl ?_
        refine q_gR C fl_X3_15 dX3_mayMove_17 h (fun v3 h => ?_)
        refine q_aload_n C 2 dX3_mayMove_20 rfl ?_
        refine q_gI C fl_X3_84 dX3_mayMove_21 h (fun v4 h => ?_)
        refine q_callSN C [va_rf v3, .int v4] [.int p3] (fun o2 hs1 hm => m_X8_at hm) lk_X3_88 sm_X8_at ⟨(Nat.le_of_ble_eq_true rfl), (Nat.le_of_ble_eq_true rfl)⟩ ⟨(Nat.le_of_ble_eq_true rfl), (Nat.le_of_ble_eq_true rfl)⟩ rfl rfl (by simp only [List.map, cat_rf, cat_i, cat_a]; decide) dX3_mayMove_24 h (fun v5 hs h => WG_st (st' := [.int v5, .int p3]) rfl ?_)
        refine q_isub C dX3_mayMove_27 ?_
        refine q_iconst C (3 : Int32) dX3_mayMove_28 (by decide) ?_
        refine q_icmp_le C 36 dX3_mayMove_29 (by decide) h (fun h => ?_) (fun h => ?_)
        · refine q_iconst C (0 : Int32) dX3_mayMove_36 (by decide) ?_
          exact q_zret C C2 rfl (Nat.le_of_ble_eq_true rfl) (Nat.le_of_ble_eq_true rfl) dX3_mayMove_37 h
        · refine q_iconst C (1 : Int32) dX3_mayMove_32 (by decide) ?_
          refine q_goto C 37 dX3_mayMove_33 (by decide) ?_
          exact q_zret C C2 rfl (Nat.le_of_ble_eq_true rfl) (Nat.le_of_ble_eq_true rfl) dX3_mayMove_37 h
  rw [lg_entry_eq]
  cases p1 <;> cases p2 <;> exact key _ _ _ hR va_S.rf ⟨lv_entry _ (n := 4) (Nat.le_of_ble_eq_true rfl), (c1_r (c1_r (c1_r (c1_i c1_n))))⟩

theorem cd_X4_leaveOutOwnPlace : Cond.code yX4_leaveOutOwnPlace cX4_leaveOutOwnPlace 1 none ∈ Tg := Tg_of (i := 1286) (by decide +kernel) (by decide +kernel)
section M_X4_leaveOutOwnPlace
variable {p : Program} {l : Launch} {e : Env} {s : State} {m : MethodId} {args : Array Value} {below : List Frame} {meth : Method} {c : Code} {G : GG} {o : Except Nat Unit} {hs' : Hs}
end M_X4_leaveOutOwnPlace
def f_X4_leaveOutOwnPlace (a0 : Nat) : OO Unit :=
    gR (some a0) 7 6 fun v1 =>
    (if v1 = none then
    rtn ()
    else
    gR (some a0) 7 6 fun v2 =>
    gI v2 8 0 fun v3 =>
    (if v3 < 0 then
    rtn ()
    else
    gR (some a0) 7 6 fun v4 =>
    gI v4 8 0 fun v5 =>
    gR (some a0) 7 10 fun v6 =>
    alen v6 fun v7 =>
    (if v7 ≤ v5 then
    rtn ()
    else
    gR (some a0) 7 10 fun v8 =>
    gR (some a0) 7 6 fun v9 =>
    gI v9 8 0 fun v10 =>
    ldI 0 v8 v10 fun v11 =>
    gI (some a0) 7 7 fun v12 =>
    stI v8 v10 ((v11 &&& (((((1 : Int32) <<< (v12 &&& 31))) ^^^ (-1 : Int32))))) (
    rtn ()))))
set_option maxRecDepth 100000 in
set_option maxHeartbeats 4000000 in
theorem m_X4_leaveOutOwnPlace {G : GG} {l : Launch} {a0 : Nat} {hs hs' : Hs} {o : Except Nat Unit} (h : f_X4_leaveOutOwnPlace a0 hs = some (o, hs')) : CT G l yX4_leaveOutOwnPlace cX4_leaveOutOwnPlace 1 none 0 0 0 0 [.ref a0] hs o hs' tvV := by
  refine vx_ofW (cc := cX4_leaveOutOwnPlace) (maxL := 1) (ret := none) (by decide +kernel) rfl ?_
  intro p e s m args below meth c s₁ B hml hxt hv
  obtain ⟨hav, hR, hKn⟩ := hv
  subst hav
  have hts := atoms_spec (ws := .code yX4_leaveOutOwnPlace cX4_leaveOutOwnPlace 1 none :: Tg) B.pre
  have C : Cx G l p s m _ c RX4 cX4_leaveOutOwnPlace 1 := ⟨B.exec, B.bytes, hml, findClass_of_methodNamed B.named, fun w hw => hts w (List.mem_cons_of_mem _ hw), hKn, fun q hq => Nat.le_trans hR.2.2.1 hq⟩
  have C2 : Cy meth c none := ⟨B.returns, B.notSynchronized, hxt⟩
  have key : WG G p l e { frames := 0, cells := 0, slots := 0, locals := 0 } s m ([.ref a0] : List Value).toArray below meth c 1 0 0 (vx_MQ below (QcT G o hs' tvV) (XCT G o hs') ([.ref a0] : List Value).toArray s 0 0 (gA G)) hs [(0, va_rf (some a0))] [] 0 := by
    unfold f_X4_leaveOutOwnPlace at h
    refine q_aload_n C 0 dX4_leaveOutOwnPlace_0 rfl ?_
    refine q_gR C fl_X4_56 dX4_leaveOutOwnPlace_1 h (fun v1 h => ?_)
    refine q_ifnull C 55 dX4_leaveOutOwnPlace_4 (by decide) h (fun h => ?_) (fun h => ?_)
    · exact q_vret C C2 rfl (Nat.le_of_ble_eq_true rfl) (Nat.le_of_ble_eq_true rfl) dX4_leaveOutOwnPlace_55 h
    · refine q_aload_n C 0 dX4_leaveOutOwnPlace_7 rfl ?_
      refine q_gR C fl_X4_56 dX4_leaveOutOwnPlace_8 h (fun v2 h => ?_)
      refine q_gI C fl_X4_60 dX4_leaveOutOwnPlace_11 h (fun v3 h => ?_)
      refine q_if_lt C 55 dX4_leaveOutOwnPlace_14 (by decide) h (fun h => ?_) (fun h => ?_)
      · exact q_vret C C2 rfl (Nat.le_of_ble_eq_true rfl) (Nat.le_of_ble_eq_true rfl) dX4_leaveOutOwnPlace_55 h
      · refine q_aload_n C 0 dX4_leaveOutOwnPlace_17 rfl ?_
        refine q_gR C fl_X4_56 dX4_leaveOutOwnPlace_18 h (fun v4 h => ?_)
        refine q_gI C fl_X4_60 dX4_leaveOutOwnPlace_21 h (fun v5 h => ?_)
        refine q_aload_n C 0 dX4_leaveOutOwnPlace_24 rfl ?_
        refine q_gR C fl_X4_15 dX4_leaveOutOwnPlace_25 h (fun v6 h => ?_)
        refine q_alen C dX4_leaveOutOwnPlace_28 h (fun v7 h => ?_)
        refine q_icmp_ge C 55 dX4_leaveOutOwnPlace_29 (by decide) h (fun h => ?_) (fun h => ?_)
        · exact q_vret C C2 rfl (Nat.le_of_ble_eq_true rfl) (Nat.le_of_ble_eq_true rfl) dX4_leaveOutOwnPlace_55 h
        · refine q_aload_n C 0 dX4_leaveOutOwnPlace_32 rfl ?_
          refine q_gR C fl_X4_15 dX4_leaveOutOwnPlace_33 h (fun v8 h => ?_)
          refine q_aload_n C 0 dX4_leaveOutOwnPlace_36 rfl ?_
          refine q_gR C fl_X4_56 dX4_leaveOutOwnPlace_37 h (fun v9 h => ?_)
          refine q_gI C fl_X4_60 dX4_leaveOutOwnPlace_40 h (fun v10 h => ?_)
          refine q_dup2 C rfl (cat_rf _) dX4_leaveOutOwnPlace_43 ?_
          refine q_iald C dX4_leaveOutOwnPlace_44 h (fun v11 h => ?_)
          refine q_iconst C (1 : Int32) dX4_leaveOutOwnPlace_45 (by decide) ?_
          refine q_aload_n C 0 dX4_leaveOutOwnPlace_46 rfl ?_
          refine q_gI C fl_X4_9 dX4_leaveOutOwnPlace_47 h (fun v12 h => ?_)
          refine q_ishl C dX4_leaveOutOwnPlace_50 ?_
          refine q_iconst C (-1 : Int32) dX4_leaveOutOwnPlace_51 (by decide) ?_
          refine q_ixor C dX4_leaveOutOwnPlace_52 ?_
          refine q_iand C dX4_leaveOutOwnPlace_53 ?_
          refine q_iast C dX4_leaveOutOwnPlace_54 h (fun hs h => ?_)
          exact q_vret C C2 rfl (Nat.le_of_ble_eq_true rfl) (Nat.le_of_ble_eq_true rfl) dX4_leaveOutOwnPlace_55 h
  rw [lg_entry_eq]
  exact key _ _ _ hR va_S.rf ⟨lv_entry _ (n := 1) (Nat.le_of_ble_eq_true rfl), (c1_r c1_n)⟩

theorem cd_X6_findCheapestElsewhere : Cond.code yX6_findCheapestElsewhere cX6_findCheapestElsewhere 2 (some .int) ∈ Tg := Tg_of (i := 1282) (by decide +kernel) (by decide +kernel)
theorem ml_X6_174 : Cond.methodLink RX6 174 yX4_leaveOutOwnPlace ∈ Tg := Tg_of (i := 1283) (by decide +kernel) (by decide +kernel)
theorem lk_X6_174 : Lk RX6 174 yX4_leaveOutOwnPlace cX4_leaveOutOwnPlace 1 none 0 := ⟨ml_X6_174, cd_X4_leaveOutOwnPlace, iw_X4, by decide +kernel⟩
theorem im_X4_leaveOutOwnPlace : Cond.instanceMethod yX4_leaveOutOwnPlace ∈ Tg := Tg_of (i := 1284) (by decide +kernel) (by decide +kernel)
theorem se_X4_X4_leaveOutOwnPlace : Cond.selects RX4 yX4_leaveOutOwnPlace yX4_leaveOutOwnPlace ∈ Tg := Tg_of (i := 1285) (by decide +kernel) (by decide +kernel)
section M_X6_findCheapestElsewhere
variable {p : Program} {l : Launch} {e : Env} {s : State} {m : MethodId} {args : Array Value} {below : List Frame} {meth : Method} {c : Code} {G : GG} {o : Except Nat Int32} {hs' : Hs}
end M_X6_findCheapestElsewhere
def f_X6_findCheapestElsewhere (a0 : Nat) (p1 : Option Nat) : OO Int32 :=
    rcv (some a0) 9 fun r6 => call (f_X6_judgePlaces r6 p1) (fun (v1 : Unit) =>
    rcv p1 7 fun r5 => call (f_X4_leaveOutOwnPlace r5 ) (fun (v2 : Unit) =>
    rcv (some a0) 9 fun r4 => call (f_X6_cheapestAmongJudged r4 p1) (fun (v3 : Int32) =>
    rtn v3) nox) nox) nox
set_option maxRecDepth 100000 in
set_option maxHeartbeats 4000000 in
theorem m_X6_findCheapestElsewhere {G : GG} {l : Launch} {a0 : Nat} {p1 : Option Nat} {hs hs' : Hs} {o : Except Nat Int32} (h : f_X6_findCheapestElsewhere a0 p1 hs = some (o, hs')) : CT G l yX6_findCheapestElsewhere cX6_findCheapestElsewhere 2 (some .int) 10 384 0 0 [.ref a0, va_rf p1] hs o hs' tvI := by
  refine vx_ofW (cc := cX6_findCheapestElsewhere) (maxL := 2) (ret := (some .int)) (by decide +kernel) rfl ?_
  intro p e s m args below meth c s₁ B hml hxt hv
  obtain ⟨hav, hR, hKn⟩ := hv
  subst hav
  have hts := atoms_spec (ws := .code yX6_findCheapestElsewhere cX6_findCheapestElsewhere 2 (some .int) :: Tg) B.pre
  have C : Cx G l p s m _ c RX6 cX6_findCheapestElsewhere 2 := ⟨B.exec, B.bytes, hml, findClass_of_methodNamed B.named, fun w hw => hts w (List.mem_cons_of_mem _ hw), hKn, fun q hq => Nat.le_trans hR.2.2.1 hq⟩
  have C2 : Cy meth c (some .int) := ⟨B.returns, B.notSynchronized, hxt⟩
  have key : WG G p l e { frames := 10, cells := 0, slots := 0, locals := 384 } s m ([.ref a0, va_rf p1] : List Value).toArray below meth c 2 0 0 (vx_MQ below (QcT G o hs' tvI) (XCT G o hs') ([.ref a0, va_rf p1] : List Value).toArray s 0 0 (gA G)) hs [(0, va_rf (some a0)), (1, va_rf p1)] [] 0 := by
    unfold f_X6_findCheapestElsewhere at h
    refine q_aload_n C 0 dX6_findCheapestElsewhere_0 rfl ?_
    refine q_aload_n C 1 dX6_findCheapestElsewhere_1 rfl ?_
    refine q_callV C (CN := RX6) (T := TX6) (N := 6) [va_rf p1] [] (fun a0 o2 hs1 hm => m_X6_judgePlaces hm) lk_X6_138 im_X6_judgePlaces se_X6_X6_judgePlaces rfl ⟨(Nat.le_of_ble_eq_true rfl), (Nat.le_of_ble_eq_true rfl)⟩ ⟨(Nat.le_of_ble_eq_true rfl), (Nat.le_of_ble_eq_true rfl)⟩ rfl rfl (by decide) dX6_findCheapestElsewhere_2 h (fun v1 hs h => WG_st (st' := []) rfl ?_)
    refine q_aload_n C 1 dX6_findCheapestElsewhere_5 rfl ?_
    refine q_callV C (CN := RX4) (T := TX4) (N := 18) [] [] (fun a0 o2 hs1 hm => m_X4_leaveOutOwnPlace hm) lk_X6_174 im_X4_leaveOutOwnPlace se_X4_X4_leaveOutOwnPlace rfl ⟨(Nat.le_of_ble_eq_true rfl), (Nat.le_of_ble_eq_true rfl)⟩ ⟨(Nat.le_of_ble_eq_true rfl), (Nat.le_of_ble_eq_true rfl)⟩ rfl rfl (by decide) dX6_findCheapestElsewhere_6 h (fun v2 hs h => WG_st (st' := []) rfl ?_)
    refine q_aload_n C 0 dX6_findCheapestElsewhere_9 rfl ?_
    refine q_aload_n C 1 dX6_findCheapestElsewhere_10 rfl ?_
    refine q_callV C (CN := RX6) (T := TX6) (N := 6) [va_rf p1] [] (fun a0 o2 hs1 hm => m_X6_cheapestAmongJudged hm) lk_X6_171 im_X6_cheapestAmongJudged se_X6_X6_cheapestAmongJudged rfl ⟨(Nat.le_of_ble_eq_true rfl), (Nat.le_of_ble_eq_true rfl)⟩ ⟨(Nat.le_of_ble_eq_true rfl), (Nat.le_of_ble_eq_true rfl)⟩ rfl rfl (by decide) dX6_findCheapestElsewhere_11 h (fun v3 hs h => WG_st (st' := [.int v3]) rfl ?_)
    exact q_iret C C2 rfl (Nat.le_of_ble_eq_true rfl) (Nat.le_of_ble_eq_true rfl) dX6_findCheapestElsewhere_14 h
  rw [lg_entry_eq]
  cases p1 <;> exact key _ _ _ hR va_S.rf ⟨lv_entry _ (n := 2) (Nat.le_of_ble_eq_true rfl), (c1_r (c1_r c1_n))⟩

theorem cd_X6_costFrom : Cond.code yX6_costFrom cX6_costFrom 4 (some .int) ∈ Tg := Tg_of (i := 1235) (by decide +kernel) (by decide +kernel)
theorem ml_X6_194 : Cond.methodLink RX6 194 yX6_costKept ∈ Tg := Tg_of (i := 1236) (by decide +kernel) (by decide +kernel)
theorem lk_X6_194 : Lk RX6 194 yX6_costKept cX6_costKept 3 (some .int) 0 := ⟨ml_X6_194, cd_X6_costKept, iw_X6, by decide +kernel⟩
theorem im_X6_costKept : Cond.instanceMethod yX6_costKept ∈ Tg := Tg_of (i := 465) (by decide +kernel) (by decide +kernel)
theorem se_X6_X6_costKept : Cond.selects RX6 yX6_costKept yX6_costKept ∈ Tg := Tg_of (i := 466) (by decide +kernel) (by decide +kernel)
section M_X6_costFrom
variable {p : Program} {l : Launch} {e : Env} {s : State} {m : MethodId} {args : Array Value} {below : List Frame} {meth : Method} {c : Code} {G : GG} {o : Except Nat Int32} {hs' : Hs}
def j_X6_costFrom_24 (a0 : Option Nat) (a1 : Option Nat) (a2 : Int32) (s0 : Int32) (s1 : Int32)  : OO Int32 :=
  lets (s1 - s0) fun (v5 : Int32) =>
    rcv a0 9 fun r7 => call (f_X6_addedCost r7 a1 a2) (fun (v6 : Int32) =>
    rtn (v5 + v6)) nox
set_option maxRecDepth 100000 in
set_option maxHeartbeats 4000000 in
theorem w_j_X6_costFrom_24 (C : Cx G l p s m args c RX6 cX6_costFrom 4) (C2 : Cy meth c (some .int)) {hs : Hs} (a0 : Option Nat) (a1 : Option Nat) (a2 : Int32) (s0 : Int32) (s1 : Int32)   (h : j_X6_costFrom_24 a0 a1 a2 s0 s1 hs = some (o, hs')) : WG G p l e { frames := 3, cells := 0, slots := 0, locals := 72 } s m args below meth c 4 0 0 (vx_MQ below (QcT G o hs' tvI) (XCT G o hs') args s 0 0 (gA G)) hs [(0, va_rf a0), (1, va_rf a1), (2, .int a2)] [.int s0, .int s1] 24 := by
  unfold j_X6_costFrom_24 at h
  refine q_isub C dX6_costFrom_24 ?_
  refine q_istore_n C (fun v5 => [(3, .int v5), (0, va_rf a0), (1, va_rf a1), (2, .int a2)]) dX6_costFrom_25 (by decide) (fun _ => rfl) h (fun v5 h => ?_)
  refine q_iload_n C 0 dX6_costFrom_26 rfl ?_
  refine q_aload_n C 1 dX6_costFrom_27 rfl ?_
  refine q_aload_n C 2 dX6_costFrom_28 rfl ?_
  refine q_iload_n C 3 dX6_costFrom_29 rfl ?_
  refine q_callV C (CN := RX6) (T := TX6) (N := 6) [va_rf a1, .int a2] [.int v5] (fun a0 o2 hs1 hm => m_X6_addedCost hm) lk_X6_180 im_X6_addedCost se_X6_X6_addedCost rfl ⟨(Nat.le_of_ble_eq_true rfl), (Nat.le_of_ble_eq_true rfl)⟩ ⟨(Nat.le_of_ble_eq_true rfl), (Nat.le_of_ble_eq_true rfl)⟩ rfl rfl (by simp only [List.map, cat_rf, cat_i, cat_a]; decide) dX6_costFrom_30 h (fun v6 hs h => WG_st (st' := [.int v6, .int v5]) rfl ?_)
  refine q_iadd C dX6_costFrom_33 ?_
  exact q_iret C C2 rfl (Nat.le_of_ble_eq_true rfl) (Nat.le_of_ble_eq_true rfl) dX6_costFrom_34 h
end M_X6_costFrom
def f_X6_costFrom (a0 : Nat) (p1 : Option Nat) (p2 : Int32) : OO Int32 :=
    rcv (some a0) 9 fun r9 => call (f_X6_costKept r9 ) (fun (v1 : Int32) =>
    gR p1 7 6 fun v2 =>
    (if ¬ v2 = none then
    gI p1 7 7 fun v3 =>
    rcv (some a0) 9 fun r8 => call (f_X6_addedCost r8 p1 v3) (fun (v4 : Int32) =>
    j_X6_costFrom_24 (some a0) p1 p2 v4 v1) nox
    else
    j_X6_costFrom_24 (some a0) p1 p2 (0 : Int32) v1)) nox
set_option maxRecDepth 100000 in
set_option maxHeartbeats 4000000 in
theorem m_X6_costFrom {G : GG} {l : Launch} {a0 : Nat} {p1 : Option Nat} {p2 : Int32} {hs hs' : Hs} {o : Except Nat Int32} (h : f_X6_costFrom a0 p1 p2 hs = some (o, hs')) : CT G l yX6_costFrom cX6_costFrom 4 (some .int) 3 72 0 0 [.ref a0, va_rf p1, .int p2] hs o hs' tvI := by
  refine vx_ofW (cc := cX6_costFrom) (maxL := 4) (ret := (some .int)) (by decide +kernel) rfl ?_
  intro p e s m args below meth c s₁ B hml hxt hv
  obtain ⟨hav, hR, hKn⟩ := hv
  subst hav
  have hts := atoms_spec (ws := .code yX6_costFrom cX6_costFrom 4 (some .int) :: Tg) B.pre
  have C : Cx G l p s m _ c RX6 cX6_costFrom 4 := ⟨B.exec, B.bytes, hml, findClass_of_methodNamed B.named, fun w hw => hts w (List.mem_cons_of_mem _ hw), hKn, fun q hq => Nat.le_trans hR.2.2.1 hq⟩
  have C2 : Cy meth c (some .int) := ⟨B.returns, B.notSynchronized, hxt⟩
  have key : WG G p l e { frames := 3, cells := 0, slots := 0, locals := 72 } s m ([.ref a0, va_rf p1, .int p2] : List Value).toArray below meth c 4 0 0 (vx_MQ below (QcT G o hs' tvI) (XCT G o hs') ([.ref a0, va_rf p1, .int p2] : List Value).toArray s 0 0 (gA G)) hs [(0, va_rf (some a0)), (1, va_rf p1), (2, .int p2)] [] 0 := by
    unfold f_X6_costFrom at h
    refine q_aload_n C 0 dX6_costFrom_0 rfl ?_
    refine q_callV C (CN := RX6) (T := TX6) (N := 6) [] [] (fun a0 o2 hs1 hm => m_X6_costKept hm) lk_X6_194 im_X6_costKept se_X6_X6_costKept rfl ⟨(Nat.le_of_ble_eq_true rfl), (Nat.le_of_ble_eq_true rfl)⟩ ⟨(Nat.le_of_ble_eq_true rfl), (Nat.le_of_ble_eq_true rfl)⟩ rfl rfl (by decide) dX6_costFrom_1 h (fun v1 hs h => WG_st (st' := [.int v1]) rfl ?_)
    refine q_aload_n C 1 dX6_costFrom_4 rfl ?_
    refine q_gR C fl_X6_31 dX6_costFrom_5 h (fun v2 h => ?_)
    refine q_ifnonnull C 15 dX6_costFrom_8 (by decide) h (fun h => ?_) (fun h => ?_)
    · refine q_aload_n C 0 dX6_costFrom_15 rfl ?_
      refine q_aload_n C 1 dX6_costFrom_16 rfl ?_
      refine q_aload_n C 1 dX6_costFrom_17 rfl ?_
      refine q_gI C fl_X6_37 dX6_costFrom_18 h (fun v3 h => ?_)
      refine q_callV C (CN := RX6) (T := TX6) (N := 6) [va_rf p1, .int v3] [.int v1] (fun a0 o2 hs1 hm => m_X6_addedCost hm) lk_X6_180 im_X6_addedCost se_X6_X6_addedCost rfl ⟨(Nat.le_of_ble_eq_true rfl), (Nat.le_of_ble_eq_true rfl)⟩ ⟨(Nat.le_of_ble_eq_true rfl), (Nat.le_of_ble_eq_true rfl)⟩ rfl rfl (by simp only [List.map, cat_rf, cat_i, cat_a]; decide) dX6_costFrom_21 h (fun v4 hs h => WG_st (st' := [.int v4, .int v1]) rfl ?_)
      exact w_j_X6_costFrom_24 C C2 _ _ _ _ _   h
    · refine q_iconst C (0 : Int32) dX6_costFrom_11 (by decide) ?_
      refine q_goto C 24 dX6_costFrom_12 (by decide) ?_
      exact w_j_X6_costFrom_24 C C2 _ _ _ _ _   h
  rw [lg_entry_eq]
  cases p1 <;> exact key _ _ _ hR va_S.rf ⟨lv_entry _ (n := 4) (Nat.le_of_ble_eq_true rfl), (c1_r (c1_r (c1_i c1_n)))⟩

theorem cd_X3_findMover : Cond.code yX3_findMover cX3_findMover 9 (some (.object "Termgrid$Lesson")) ∈ Tg := Tg_of (i := 1269) (by decide +kernel) (by decide +kernel)
theorem wf_X3_53 : Cond.fieldLink RX3 53 RX6 (TX6 2).2.1 (TX6 2).2.2.1 ∈ Tg := Tg_of (i := 163) (by decide +kernel) (by decide +kernel)
theorem fl_X3_53 : Fld RX3 53 9 2 (.object "java/util/ArrayList") := ⟨RX6, TX6, 6, RX6, rfl, by decide, wf_X3_53, (Or.inl rfl), gu_X6, tyX6_ok _ (by decide), ⟨tyX6, tyX6_ok⟩, nmX6⟩
theorem ml_X3_57 : Cond.methodLink RX3 57 yJx4a65c_size_8abf5 ∈ Tg := Tg_of (i := 1270) (by decide +kernel) (by decide +kernel)
theorem lk_X3_57 : Lk RX3 57 yJx4a65c_size_8abf5 cJx4a65c_size_8abf5 1 (some .int) 0 := ⟨ml_X3_57, cd_Jx4a65c_size_8abf5, iw_Jx4a65c, by decide +kernel⟩
theorem ml_X3_62 : Cond.methodLink RX3 62 yJx4a65c_get_915e3 ∈ Tg := Tg_of (i := 1271) (by decide +kernel) (by decide +kernel)
theorem lk_X3_62 : Lk RX3 62 yJx4a65c_get_915e3 cJx4a65c_get_915e3 2 (some (.object "java/lang/Object")) 1 := ⟨ml_X3_62, cd_Jx4a65c_get_915e3, iw_Jx4a65c, by decide +kernel⟩
theorem wc_X3_66 : Cond.classLink RX3 66 RX4 ∈ Tg := Tg_of (i := 1272) (by decide +kernel) (by decide +kernel)
theorem iw_X3 : Cond.initialized RX3 ∈ Tg := Tg_of (i := 86) (by decide +kernel) (by decide +kernel)
theorem ml_X3_68 : Cond.methodLink RX3 68 yX3_mayMove ∈ Tg := Tg_of (i := 1273) (by decide +kernel) (by decide +kernel)
theorem lk_X3_68 : Lk RX3 68 yX3_mayMove cX3_mayMove 4 (some .boolean) 3 := ⟨ml_X3_68, cd_X3_mayMove, iw_X3, by decide +kernel⟩
theorem ml_X3_72 : Cond.methodLink RX3 72 yX6_costFrom ∈ Tg := Tg_of (i := 1287) (by decide +kernel) (by decide +kernel)
theorem lk_X3_72 : Lk RX3 72 yX6_costFrom cX6_costFrom 4 (some .int) 2 := ⟨ml_X3_72, cd_X6_costFrom, iw_X6, by decide +kernel⟩
theorem im_X6_costFrom : Cond.instanceMethod yX6_costFrom ∈ Tg := Tg_of (i := 1233) (by decide +kernel) (by decide +kernel)
theorem se_X6_X6_costFrom : Cond.selects RX6 yX6_costFrom yX6_costFrom ∈ Tg := Tg_of (i := 1234) (by decide +kernel) (by decide +kernel)
theorem ml_X3_38 : Cond.methodLink RX3 38 yX6_findCheapestElsewhere ∈ Tg := Tg_of (i := 1279) (by decide +kernel) (by decide +kernel)
theorem lk_X3_38 : Lk RX3 38 yX6_findCheapestElsewhere cX6_findCheapestElsewhere 2 (some .int) 1 := ⟨ml_X3_38, cd_X6_findCheapestElsewhere, iw_X6, by decide +kernel⟩
theorem im_X6_findCheapestElsewhere : Cond.instanceMethod yX6_findCheapestElsewhere ∈ Tg := Tg_of (i := 1280) (by decide +kernel) (by decide +kernel)
theorem se_X6_X6_findCheapestElsewhere : Cond.selects RX6 yX6_findCheapestElsewhere yX6_findCheapestElsewhere ∈ Tg := Tg_of (i := 1281) (by decide +kernel) (by decide +kernel)
theorem im_X3_mayMove : Cond.instanceMethod yX3_mayMove ∈ Tg := Tg_of (i := 1275) (by decide +kernel) (by decide +kernel)
theorem se_X3_X3_mayMove : Cond.selects RX3 yX3_mayMove yX3_mayMove ∈ Tg := Tg_of (i := 30) (by decide +kernel) (by decide +kernel)
section M_X3_findMover
variable {p : Program} {l : Launch} {e : Env} {s : State} {m : MethodId} {args : Array Value} {below : List Frame} {meth : Method} {c : Code} {G : GG} {o : Except Nat (Option Nat)} {hs' : Hs}
def j_X3_findMover_94 (a0 : Option Nat) (a1 : Option Nat) (a2 : Int32) (a3 : Option Nat) (a4 : Int32) (a5 : Int32)  (rec_8 : Option Nat → Int32 → Int32 → OO (Option Nat)) : OO (Option Nat) :=
  lets (a5 + (1 : Int32)) fun (v11 : Int32) =>
    rec_8 a3 a4 v11
set_option maxRecDepth 100000 in
set_option maxHeartbeats 4000000 in
theorem w_j_X3_findMover_94 (C : Cx G l p s m args c RX3 cX3_findMover 9) (C2 : Cy meth c (some (.object "Termgrid$Lesson"))) {hs : Hs} (a0 : Option Nat) (a1 : Option Nat) (a2 : Int32) (a3 : Option Nat) (a4 : Int32) (a5 : Int32)  (rec_8 : Option Nat → Int32 → Int32 → OO (Option Nat)) (hrec_8 : ∀ (y3 : Option Nat) (y4 : Int32) (y5 : Int32) hs, rec_8 y3 y4 y5 hs = some (o, hs') → WG G p l e { frames := 11, cells := 0, slots := 0, locals := 405 } s m args below meth c 9 0 0 (vx_MQ below (QcT G o hs' tvR) (XCT G o hs') args s 0 0 (gA G)) hs [(0, va_rf a0), (1, va_rf a1), (2, .int a2), (3, va_rf y3), (4, .int y4), (5, .int y5)] [] 8) (h : j_X3_findMover_94 a0 a1 a2 a3 a4 a5 rec_8 hs = some (o, hs')) : WG G p l e { frames := 11, cells := 0, slots := 0, locals := 405 } s m args below meth c 9 0 0 (vx_MQ below (QcT G o hs' tvR) (XCT G o hs') args s 0 0 (gA G)) hs [(0, va_rf a0), (1, va_rf a1), (2, .int a2), (3, va_rf a3), (4, .int a4), (5, .int a5)] [] 94 := by
  unfold j_X3_findMover_94 at h
  refine q_iinc C 5 (1 : Int32) (fun v11 => [(5, .int v11), (0, va_rf a0), (1, va_rf a1), (2, .int a2), (3, va_rf a3), (4, .int a4)]) dX3_findMover_94 rfl (by decide) (by decide) (fun _ => rfl) h (fun v11 h => ?_)
  refine q_goto C 8 dX3_findMover_97 (by decide) ?_
  refine WG.sub [1, 2, 3, 4, 5, 0] rfl ?_
  exact hrec_8 _ _ _ _ h
def j_X3_findMover_87 (a0 : Option Nat) (a1 : Option Nat) (a2 : Int32) (a5 : Int32) (a6 : Option Nat) (a8 : Int32)  (rec_8 : Option Nat → Int32 → Int32 → OO (Option Nat)) : OO (Option Nat) :=
  lets a6 fun (v14 : Option Nat) =>
    lets a8 fun (v15 : Int32) =>
    j_X3_findMover_94 a0 a1 a2 v14 v15 a5 rec_8
set_option maxRecDepth 100000 in
set_option maxHeartbeats 4000000 in
theorem w_j_X3_findMover_87 (C : Cx G l p s m args c RX3 cX3_findMover 9) (C2 : Cy meth c (some (.object "Termgrid$Lesson"))) {hs : Hs} (a0 : Option Nat) (a1 : Option Nat) (a2 : Int32) (a5 : Int32) (a6 : Option Nat) (a8 : Int32)  (rec_8 : Option Nat → Int32 → Int32 → OO (Option Nat)) (hrec_8 : ∀ (y3 : Option Nat) (y4 : Int32) (y5 : Int32) hs, rec_8 y3 y4 y5 hs = some (o, hs') → WG G p l e { frames := 11, cells := 0, slots := 0, locals := 405 } s m args below meth c 9 0 0 (vx_MQ below (QcT G o hs' tvR) (XCT G o hs') args s 0 0 (gA G)) hs [(0, va_rf a0), (1, va_rf a1), (2, .int a2), (3, va_rf y3), (4, .int y4), (5, .int y5)] [] 8) (h : j_X3_findMover_87 a0 a1 a2 a5 a6 a8 rec_8 hs = some (o, hs')) : WG G p l e { frames := 11, cells := 0, slots := 0, locals := 405 } s m args below meth c 9 0 0 (vx_MQ below (QcT G o hs' tvR) (XCT G o hs') args s 0 0 (gA G)) hs [(0, va_rf a0), (1, va_rf a1), (2, .int a2), (5, .int a5), (6, va_rf a6), (8, .int a8)] [] 87 := by
  unfold j_X3_findMover_87 at h
  refine q_aload C 4 dX3_findMover_87 rfl ?_
  refine q_astore_n C (fun v14 => [(3, va_rf v14), (0, va_rf a0), (1, va_rf a1), (2, .int a2), (5, .int a5), (6, va_rf a6), (8, .int a8)]) dX3_findMover_89 (by decide) (fun _ => rfl) h (fun v14 h => ?_)
  refine q_iload C 6 dX3_findMover_90 rfl ?_
  refine q_istore C (fun v15 => [(4, .int v15), (3, va_rf v14), (0, va_rf a0), (1, va_rf a1), (2, .int a2), (5, .int a5), (6, va_rf a6), (8, .int a8)]) dX3_findMover_92 (by decide) (fun _ => rfl) h (fun v15 h => ?_)
  refine WG.sub [2, 3, 4, 1, 0, 5] rfl ?_
  exact w_j_X3_findMover_94 C C2 _ _ _ _ _ _ _ hrec_8 h
def j_X3_findMover_55 (a0 : Option Nat) (a1 : Option Nat) (a2 : Int32) (a3 : Option Nat) (a4 : Int32) (a5 : Int32) (a6 : Option Nat) (s0 : Int32) (rec_8 : Option Nat → Int32 → Int32 → OO (Option Nat)) : OO (Option Nat) :=
  lets s0 fun (v10 : Int32) =>
    (if v10 = (-1 : Int32) then
    j_X3_findMover_94 a0 a1 a2 a3 a4 a5 rec_8
    else
    dvz (8 : Int32) (
    rcv a1 9 fun r16 => call (f_X6_costFrom r16 a6 (v10 / (8 : Int32))) (fun (v12 : Int32) =>
    lets v12 fun (v13 : Int32) =>
    (if a3 = none then
    j_X3_findMover_87 a0 a1 a2 a5 a6 v13 rec_8
    else
    (if a4 ≤ v13 then
    j_X3_findMover_94 a0 a1 a2 a3 a4 a5 rec_8
    else
    j_X3_findMover_87 a0 a1 a2 a5 a6 v13 rec_8))) nox))
set_option maxRecDepth 100000 in
set_option maxHeartbeats 4000000 in
theorem w_j_X3_findMover_55 (C : Cx G l p s m args c RX3 cX3_findMover 9) (C2 : Cy meth c (some (.object "Termgrid$Lesson"))) {hs : Hs} (a0 : Option Nat) (a1 : Option Nat) (a2 : Int32) (a3 : Option Nat) (a4 : Int32) (a5 : Int32) (a6 : Option Nat) (s0 : Int32) (rec_8 : Option Nat → Int32 → Int32 → OO (Option Nat)) (hrec_8 : ∀ (y3 : Option Nat) (y4 : Int32) (y5 : Int32) hs, rec_8 y3 y4 y5 hs = some (o, hs') → WG G p l e { frames := 11, cells := 0, slots := 0, locals := 405 } s m args below meth c 9 0 0 (vx_MQ below (QcT G o hs' tvR) (XCT G o hs') args s 0 0 (gA G)) hs [(0, va_rf a0), (1, va_rf a1), (2, .int a2), (3, va_rf y3), (4, .int y4), (5, .int y5)] [] 8) (h : j_X3_findMover_55 a0 a1 a2 a3 a4 a5 a6 s0 rec_8 hs = some (o, hs')) : WG G p l e { frames := 11, cells := 0, slots := 0, locals := 405 } s m args below meth c 9 0 0 (vx_MQ below (QcT G o hs' tvR) (XCT G o hs') args s 0 0 (gA G)) hs [(0, va_rf a0), (1, va_rf a1), (2, .int a2), (3, va_rf a3), (4, .int a4), (5, .int a5), (6, va_rf a6)] [.int s0] 55 := by
  unfold j_X3_findMover_55 at h
  refine q_istore C (fun v10 => [(7, .int v10), (0, va_rf a0), (1, va_rf a1), (2, .int a2), (3, va_rf a3), (4, .int a4), (5, .int a5), (6, va_rf a6)]) dX3_findMover_55 (by decide) (fun _ => rfl) h (fun v10 h => ?_)
  refine q_iload C 0 dX3_findMover_57 rfl ?_
  refine q_iconst C (-1 : Int32) dX3_findMover_59 (by decide) ?_
  refine q_icmp_eq C 94 dX3_findMover_60 (by decide) h (fun h => ?_) (fun h => ?_)
  · refine WG.sub [1, 2, 3, 4, 5, 6] rfl ?_
    exact w_j_X3_findMover_94 C C2 _ _ _ _ _ _ _ hrec_8 h
  · refine q_aload_n C 2 dX3_findMover_63 rfl ?_
    refine q_aload C 7 dX3_findMover_64 rfl ?_
    refine q_iload C 0 dX3_findMover_66 rfl ?_
    refine q_bipush C (8 : Int32) dX3_findMover_68 (by decide) ?_
    refine q_idiv C dX3_findMover_70 h (fun h => ?_)
    refine q_callV C (CN := RX6) (T := TX6) (N := 6) [va_rf a6, .int (v10 / (8 : Int32))] [] (fun a0 o2 hs1 hm => m_X6_costFrom hm) lk_X3_72 im_X6_costFrom se_X6_X6_costFrom rfl ⟨(Nat.le_of_ble_eq_true rfl), (Nat.le_of_ble_eq_true rfl)⟩ ⟨(Nat.le_of_ble_eq_true rfl), (Nat.le_of_ble_eq_true rfl)⟩ rfl rfl (by decide) dX3_findMover_71 h (fun v12 hs h => WG_st (st' := [.int v12]) rfl ?_)
    refine q_istore C (fun v13 => [(8, .int v13), (7, .int v10), (0, va_rf a0), (1, va_rf a1), (2, .int a2), (3, va_rf a3), (4, .int a4), (5, .int a5), (6, va_rf a6)]) dX3_findMover_74 (by decide) (fun _ => rfl) h (fun v13 h => ?_)
    refine q_aload_n C 5 dX3_findMover_76 rfl ?_
    refine q_ifnull C 87 dX3_findMover_77 (by decide) h (fun h => ?_) (fun h => ?_)
    · refine WG.sub [2, 3, 4, 7, 8, 0] rfl ?_
      exact w_j_X3_findMover_87 C C2 _ _ _ _ _ _ _ hrec_8 h
    · refine q_iload C 0 dX3_findMover_80 rfl ?_
      refine q_iload C 6 dX3_findMover_82 rfl ?_
      refine q_icmp_ge C 94 dX3_findMover_84 (by decide) h (fun h => ?_) (fun h => ?_)
      · refine WG.sub [2, 3, 4, 5, 6, 7] rfl ?_
        exact w_j_X3_findMover_94 C C2 _ _ _ _ _ _ _ hrec_8 h
      · refine WG.sub [2, 3, 4, 7, 8, 0] rfl ?_
        exact w_j_X3_findMover_87 C C2 _ _ _ _ _ _ _ hrec_8 h
def L_X3_findMover_8 (a0 : Option Nat) (a1 : Option Nat) (a2 : Int32) (k_8_100 : Option Nat → OO (Option Nat)) : Nat → Option Nat → Int32 → Int32 → OO (Option Nat)
  | 0, _, _, _ => failO
  | n + 1, x3, x4, x5 =>
    gR a1 9 2 fun v4 =>
    rcv v4 2 fun r21 => call (f_Jx4a65c_size_8abf5 r21 ) (fun (v5 : Int32) =>
    (if v5 ≤ x5 then
    k_8_100 x3
    else
    gR a1 9 2 fun v6 =>
    rcv v6 2 fun r20 => call (f_Jx4a65c_get_915e3 r20 x5) (fun (v7 : Option Nat) =>
    cst v7 7 (
    lets v7 fun (v8 : Option Nat) =>
    rcv a0 6 fun r19 => call (f_X3_mayMove r19 a1 v8 a2) (fun (v9 : Int32) =>
    (if v9 = 0 then
    j_X3_findMover_55 a0 a1 a2 x3 x4 x5 v8 (-1 : Int32) (L_X3_findMover_8 a0 a1 a2 k_8_100 n)
    else
    rcv a1 9 fun r18 => call (f_X6_findCheapestElsewhere r18 v8) (fun (v17 : Int32) =>
    j_X3_findMover_55 a0 a1 a2 x3 x4 x5 v8 v17 (L_X3_findMover_8 a0 a1 a2 k_8_100 n)) nox)) nox)) nox)) nox
set_option maxRecDepth 100000 in
set_option maxHeartbeats 4000000 in
theorem w_L_X3_findMover_8 (C : Cx G l p s m args c RX3 cX3_findMover 9) (C2 : Cy meth c (some (.object "Termgrid$Lesson"))) (a0 : Option Nat) (a1 : Option Nat) (a2 : Int32) (k_8_100 : Option Nat → OO (Option Nat)) (hk_8_100 : ∀ (y3 : Option Nat) hs, k_8_100 y3 hs = some (o, hs') → WG G p l e { frames := 11, cells := 0, slots := 0, locals := 405 } s m args below meth c 9 0 0 (vx_MQ below (QcT G o hs' tvR) (XCT G o hs') args s 0 0 (gA G)) hs [(3, va_rf y3)] [] 100) : ∀ (n : Nat) (x3 : Option Nat) (x4 : Int32) (x5 : Int32) (hs : Hs), L_X3_findMover_8 a0 a1 a2 k_8_100 n x3 x4 x5 hs = some (o, hs') → WG G p l e { frames := 11, cells := 0, slots := 0, locals := 405 } s m args below meth c 9 0 0 (vx_MQ below (QcT G o hs' tvR) (XCT G o hs') args s 0 0 (gA G)) hs [(0, va_rf a0), (1, va_rf a1), (2, .int a2), (3, va_rf x3), (4, .int x4), (5, .int x5)] [] 8 := by
  intro n
  induction n with
  | zero =>
    intro x3 x4 x5 hs h
    rw [L_X3_findMover_8] at h
    exact absurd h failO_e
  | succ n hrec_8 =>
    intro x3 x4 x5 hs h
    rw [L_X3_findMover_8] at h
    refine q_iload C 5 dX3_findMover_8 rfl ?_
    refine q_aload_n C 1 dX3_findMover_10 rfl ?_
    refine q_gR C fl_X3_53 dX3_findMover_11 h (fun v4 h => ?_)
    refine q_callV C (CN := RJx4a65c) (T := TJx4a65c) (N := 3) [] [.int x5] (fun a0 o2 hs1 hm => m_Jx4a65c_size_8abf5 hm) lk_X3_57 im_Jx4a65c_size_8abf5 se_Jx4a65c_Jx4a65c_size_8abf5 rfl ⟨(Nat.le_of_ble_eq_true rfl), (Nat.le_of_ble_eq_true rfl)⟩ ⟨(Nat.le_of_ble_eq_true rfl), (Nat.le_of_ble_eq_true rfl)⟩ rfl rfl (by simp only [List.map, cat_rf, cat_i, cat_a]; decide) dX3_findMover_14 h (fun v5 hs h => WG_st (st' := [.int v5, .int x5]) rfl ?_)
    refine q_icmp_ge C 100 dX3_findMover_17 (by decide) h (fun h => ?_) (fun h => ?_)
    · refine WG.sub [3] rfl ?_
      exact hk_8_100 _ _ h
    · refine q_aload_n C 1 dX3_findMover_20 rfl ?_
      refine q_gR C fl_X3_53 dX3_findMover_21 h (fun v6 h => ?_)
      refine q_iload C 5 dX3_findMover_24 rfl ?_
      refine q_callV C (CN := RJx4a65c) (T := TJx4a65c) (N := 3) [.int x5] [] (fun a0 o2 hs1 hm => m_Jx4a65c_get_915e3 hm) lk_X3_62 im_Jx4a65c_get_915e3 se_Jx4a65c_Jx4a65c_get_915e3 rfl ⟨(Nat.le_of_ble_eq_true rfl), (Nat.le_of_ble_eq_true rfl)⟩ ⟨(Nat.le_of_ble_eq_true rfl), (Nat.le_of_ble_eq_true rfl)⟩ rfl rfl (by decide) dX3_findMover_26 h (fun v7 hs h => WG_st (st' := [va_rf v7]) rfl ?_)
      refine q_castS C (nm := RX4) (T := TX4) (N := 18) rfl wc_X3_66 dX3_findMover_29 h (fun h => ?_)
      refine q_astore C (fun v8 => [(6, va_rf v8), (0, va_rf a0), (1, va_rf a1), (2, .int a2), (3, va_rf x3), (4, .int x4), (5, .int x5)]) dX3_findMover_32 (by decide) (fun _ => rfl) h (fun v8 h => ?_)
      refine q_aload_n C 1 dX3_findMover_34 rfl ?_
      refine q_aload_n C 2 dX3_findMover_35 rfl ?_
      refine q_aload C 0 dX3_findMover_36 rfl ?_
      refine q_iload_n C 3 dX3_findMover_38 rfl ?_
      refine q_callV C (CN := RX3) (T := TX3) (N := 2) [va_rf a1, va_rf v8, .int a2] [] (fun a0 o2 hs1 hm => m_X3_mayMove hm) lk_X3_68 im_X3_mayMove se_X3_X3_mayMove rfl ⟨(Nat.le_of_ble_eq_true rfl), (Nat.le_of_ble_eq_true rfl)⟩ ⟨(Nat.le_of_ble_eq_true rfl), (Nat.le_of_ble_eq_true rfl)⟩ rfl rfl (by decide) dX3_findMover_39 h (fun v9 hs h => WG_st (st' := [.int v9]) rfl ?_)
      refine q_if_eq C 54 dX3_findMover_42 (by decide) h (fun h => ?_) (fun h => ?_)
      · refine q_iconst C (-1 : Int32) dX3_findMover_54 (by decide) ?_
        refine WG.sub [1, 2, 3, 4, 5, 6, 0] rfl ?_
        exact w_j_X3_findMover_55 C C2 _ _ _ _ _ _ _ _ _ hrec_8 h
      · refine q_aload_n C 2 dX3_findMover_45 rfl ?_
        refine q_aload C 0 dX3_findMover_46 rfl ?_
        refine q_callV C (CN := RX6) (T := TX6) (N := 6) [va_rf v8] [] (fun a0 o2 hs1 hm => m_X6_findCheapestElsewhere hm) lk_X3_38 im_X6_findCheapestElsewhere se_X6_X6_findCheapestElsewhere rfl ⟨(Nat.le_of_ble_eq_true rfl), (Nat.le_of_ble_eq_true rfl)⟩ ⟨(Nat.le_of_ble_eq_true rfl), (Nat.le_of_ble_eq_true rfl)⟩ rfl rfl (by decide) dX3_findMover_48 h (fun v17 hs h => WG_st (st' := [.int v17]) rfl ?_)
        refine q_goto C 55 dX3_findMover_51 (by decide) ?_
        refine WG.sub [1, 2, 3, 4, 5, 6, 0] rfl ?_
        exact w_j_X3_findMover_55 C C2 _ _ _ _ _ _ _ _ _ hrec_8 h
end M_X3_findMover
def f_X3_findMover (a0 : Nat) (p1 : Option Nat) (p2 : Int32) : OO (Option Nat) :=
    lets none fun (v1 : Option Nat) =>
    lets (0 : Int32) fun (v2 : Int32) =>
    lets (0 : Int32) fun (v3 : Int32) =>
    L_X3_findMover_8 (some a0) p1 p2 (fun (v22 : Option Nat) => rtn v22) 100000 v1 v2 v3
set_option maxRecDepth 100000 in
set_option maxHeartbeats 4000000 in
theorem m_X3_findMover {G : GG} {l : Launch} {a0 : Nat} {p1 : Option Nat} {p2 : Int32} {hs hs' : Hs} {o : Except Nat (Option Nat)} (h : f_X3_findMover a0 p1 p2 hs = some (o, hs')) : CT G l yX3_findMover cX3_findMover 9 (some (.object "Termgrid$Lesson")) 11 405 0 0 [.ref a0, va_rf p1, .int p2] hs o hs' tvR := by
  refine vx_ofW (cc := cX3_findMover) (maxL := 9) (ret := (some (.object "Termgrid$Lesson"))) (by decide +kernel) rfl ?_
  intro p e s m args below meth c s₁ B hml hxt hv
  obtain ⟨hav, hR, hKn⟩ := hv
  subst hav
  have hts := atoms_spec (ws := .code yX3_findMover cX3_findMover 9 (some (.object "Termgrid$Lesson")) :: Tg) B.pre
  have C : Cx G l p s m _ c RX3 cX3_findMover 9 := ⟨B.exec, B.bytes, hml, findClass_of_methodNamed B.named, fun w hw => hts w (List.mem_cons_of_mem _ hw), hKn, fun q hq => Nat.le_trans hR.2.2.1 hq⟩
  have C2 : Cy meth c (some (.object "Termgrid$Lesson")) := ⟨B.returns, B.notSynchronized, hxt⟩
  have key : WG G p l e { frames := 11, cells := 0, slots := 0, locals := 405 } s m ([.ref a0, va_rf p1, .int p2] : List Value).toArray below meth c 9 0 0 (vx_MQ below (QcT G o hs' tvR) (XCT G o hs') ([.ref a0, va_rf p1, .int p2] : List Value).toArray s 0 0 (gA G)) hs [(0, va_rf (some a0)), (1, va_rf p1), (2, .int p2)] [] 0 := by
    unfold f_X3_findMover at h
    refine q_null C dX3_findMover_0 ?_
    refine q_astore_n C (fun v1 => [(3, va_rf v1), (0, va_rf (some a0)), (1, va_rf p1), (2, .int p2)]) dX3_findMover_1 (by decide) (fun _ => rfl) h (fun v1 h => ?_)
    refine q_iconst C (0 : Int32) dX3_findMover_2 (by decide) ?_
    refine q_istore C (fun v2 => [(4, .int v2), (3, va_rf v1), (0, va_rf (some a0)), (1, va_rf p1), (2, .int p2)]) dX3_findMover_3 (by decide) (fun _ => rfl) h (fun v2 h => ?_)
    refine q_iconst C (0 : Int32) dX3_findMover_5 (by decide) ?_
    refine q_istore C (fun v3 => [(5, .int v3), (4, .int v2), (3, va_rf v1), (0, va_rf (some a0)), (1, va_rf p1), (2, .int p2)]) dX3_findMover_6 (by decide) (fun _ => rfl) h (fun v3 h => ?_)
    refine WG.sub [3, 4, 5, 2, 1, 0] rfl ?_
    refine w_L_X3_findMover_8 C C2 _ _ _ _ ?_ _ _ _ _ _ h
    · intro v22 hs h
      refine q_aload_n C 0 dX3_findMover_100 rfl ?_
      exact q_aret C C2 rfl (Or.inl ⟨_, rfl⟩) (Nat.le_of_ble_eq_true rfl) (Nat.le_of_ble_eq_true rfl) dX3_findMover_101 h
  rw [lg_entry_eq]
  cases p1 <;> exact key _ _ _ hR va_S.rf ⟨lv_entry _ (n := 9) (Nat.le_of_ble_eq_true rfl), (c1_r (c1_r (c1_i c1_n)))⟩

theorem cd_X3_noteMove : Cond.code yX3_noteMove cX3_noteMove 3 none ∈ Tg := Tg_of (i := 1292) (by decide +kernel) (by decide +kernel)
section M_X3_noteMove
variable {p : Program} {l : Launch} {e : Env} {s : State} {m : MethodId} {args : Array Value} {below : List Frame} {meth : Method} {c : Code} {G : GG} {o : Except Nat Unit} {hs' : Hs}
end M_X3_noteMove
def f_X3_noteMove (a0 : Nat) (p1 : Option Nat) (p2 : Int32) : OO Unit :=
    gI p1 7 0 fun v1 =>
    (if v1 < 0 then
    rtn ()
    else
    gI p1 7 0 fun v2 =>
    gR (some a0) 6 1 fun v3 =>
    alen v3 fun v4 =>
    (if v4 ≤ v2 then
    rtn ()
    else
    gR (some a0) 6 1 fun v5 =>
    gI p1 7 0 fun v6 =>
    stI v5 v6 p2 (
    rtn ())))
set_option maxRecDepth 100000 in
set_option maxHeartbeats 4000000 in
theorem m_X3_noteMove {G : GG} {l : Launch} {a0 : Nat} {p1 : Option Nat} {p2 : Int32} {hs hs' : Hs} {o : Except Nat Unit} (h : f_X3_noteMove a0 p1 p2 hs = some (o, hs')) : CT G l yX3_noteMove cX3_noteMove 3 none 0 0 0 0 [.ref a0, va_rf p1, .int p2] hs o hs' tvV := by
  refine vx_ofW (cc := cX3_noteMove) (maxL := 3) (ret := none) (by decide +kernel) rfl ?_
  intro p e s m args below meth c s₁ B hml hxt hv
  obtain ⟨hav, hR, hKn⟩ := hv
  subst hav
  have hts := atoms_spec (ws := .code yX3_noteMove cX3_noteMove 3 none :: Tg) B.pre
  have C : Cx G l p s m _ c RX3 cX3_noteMove 3 := ⟨B.exec, B.bytes, hml, findClass_of_methodNamed B.named, fun w hw => hts w (List.mem_cons_of_mem _ hw), hKn, fun q hq => Nat.le_trans hR.2.2.1 hq⟩
  have C2 : Cy meth c none := ⟨B.returns, B.notSynchronized, hxt⟩
  have key : WG G p l e { frames := 0, cells := 0, slots := 0, locals := 0 } s m ([.ref a0, va_rf p1, .int p2] : List Value).toArray below meth c 3 0 0 (vx_MQ below (QcT G o hs' tvV) (XCT G o hs') ([.ref a0, va_rf p1, .int p2] : List Value).toArray s 0 0 (gA G)) hs [(0, va_rf (some a0)), (1, va_rf p1), (2, .int p2)] [] 0 := by
    unfold f_X3_noteMove at h
    refine q_aload_n C 1 dX3_noteMove_0 rfl ?_
    refine q_gI C fl_X3_84 dX3_noteMove_1 h (fun v1 h => ?_)
    refine q_if_lt C 29 dX3_noteMove_4 (by decide) h (fun h => ?_) (fun h => ?_)
    · exact q_vret C C2 rfl (Nat.le_of_ble_eq_true rfl) (Nat.le_of_ble_eq_true rfl) dX3_noteMove_29 h
    · refine q_aload_n C 1 dX3_noteMove_7 rfl ?_
      refine q_gI C fl_X3_84 dX3_noteMove_8 h (fun v2 h => ?_)
      refine q_aload_n C 0 dX3_noteMove_11 rfl ?_
      refine q_gR C fl_X3_15 dX3_noteMove_12 h (fun v3 h => ?_)
      refine q_alen C dX3_noteMove_15 h (fun v4 h => ?_)
      refine q_icmp_ge C 29 dX3_noteMove_16 (by decide) h (fun h => ?_) (fun h => ?_)
      · exact q_vret C C2 rfl (Nat.le_of_ble_eq_true rfl) (Nat.le_of_ble_eq_true rfl) dX3_noteMove_29 h
      · refine q_aload_n C 0 dX3_noteMove_19 rfl ?_
        refine q_gR C fl_X3_15 dX3_noteMove_20 h (fun v5 h => ?_)
        refine q_aload_n C 1 dX3_noteMove_23 rfl ?_
        refine q_gI C fl_X3_84 dX3_noteMove_24 h (fun v6 h => ?_)
        refine q_iload_n C 2 dX3_noteMove_27 rfl ?_
        refine q_iast C dX3_noteMove_28 h (fun hs h => ?_)
        exact q_vret C C2 rfl (Nat.le_of_ble_eq_true rfl) (Nat.le_of_ble_eq_true rfl) dX3_noteMove_29 h
  rw [lg_entry_eq]
  cases p1 <;> exact key _ _ _ hR va_S.rf ⟨lv_entry _ (n := 3) (Nat.le_of_ble_eq_true rfl), (c1_r (c1_r (c1_i c1_n)))⟩

theorem cd_X6_takeAll : Cond.code yX6_takeAll cX6_takeAll 3 none ∈ Tg := Tg_of (i := 1301) (by decide +kernel) (by decide +kernel)
theorem ml_X6_93 : Cond.methodLink RX6 93 yX6_take ∈ Tg := Tg_of (i := 1302) (by decide +kernel) (by decide +kernel)
theorem lk_X6_93 : Lk RX6 93 yX6_take cX6_take 2 none 1 := ⟨ml_X6_93, cd_X6_take, iw_X6, by decide +kernel⟩
section M_X6_takeAll
variable {p : Program} {l : Launch} {e : Env} {s : State} {m : MethodId} {args : Array Value} {below : List Frame} {meth : Method} {c : Code} {G : GG} {o : Except Nat Unit} {hs' : Hs}
def j_X6_takeAll_36 (a0 : Option Nat) (a1 : Int32) (a2 : Int32)  (rec_2 : Int32 → OO Unit) : OO Unit :=
  lets (a2 + (1 : Int32)) fun (v5 : Int32) =>
    rec_2 v5
set_option maxRecDepth 100000 in
set_option maxHeartbeats 4000000 in
theorem w_j_X6_takeAll_36 (C : Cx G l p s m args c RX6 cX6_takeAll 3) (C2 : Cy meth c none) {hs : Hs} (a0 : Option Nat) (a1 : Int32) (a2 : Int32)  (rec_2 : Int32 → OO Unit) (hrec_2 : ∀ (y2 : Int32) hs, rec_2 y2 hs = some (o, hs') → WG G p l e { frames := 5, cells := 0, slots := 0, locals := 107 } s m args below meth c 3 0 0 (vx_MQ below (QcT G o hs' tvV) (XCT G o hs') args s 0 0 (gA G)) hs [(0, va_rf a0), (1, .int a1), (2, .int y2)] [] 2) (h : j_X6_takeAll_36 a0 a1 a2 rec_2 hs = some (o, hs')) : WG G p l e { frames := 5, cells := 0, slots := 0, locals := 107 } s m args below meth c 3 0 0 (vx_MQ below (QcT G o hs' tvV) (XCT G o hs') args s 0 0 (gA G)) hs [(0, va_rf a0), (1, .int a1), (2, .int a2)] [] 36 := by
  unfold j_X6_takeAll_36 at h
  refine q_iinc C 2 (1 : Int32) (fun v5 => [(2, .int v5), (0, va_rf a0), (1, .int a1)]) dX6_takeAll_36 rfl (by decide) (by decide) (fun _ => rfl) h (fun v5 h => ?_)
  refine q_goto C 2 dX6_takeAll_39 (by decide) ?_
  refine WG.sub [1, 2, 0] rfl ?_
  exact hrec_2 _ _ h
def L_X6_takeAll_2 (a0 : Option Nat) (a1 : Int32) (k_2_42 : OO Unit) : Nat → Int32 → OO Unit
  | 0, _ => failO
  | n + 1, x2 =>
    gR a0 9 2 fun v2 =>
    rcv v2 2 fun r11 => call (f_Jx4a65c_size_8abf5 r11 ) (fun (v3 : Int32) =>
    (if v3 ≤ x2 then
    k_2_42
    else
    call (f_X8_has a1 x2) (fun (v4 : Int32) =>
    (if v4 = 0 then
    j_X6_takeAll_36 a0 a1 x2 (L_X6_takeAll_2 a0 a1 k_2_42 n)
    else
    gR a0 9 2 fun v6 =>
    rcv v6 2 fun r10 => call (f_Jx4a65c_get_915e3 r10 x2) (fun (v7 : Option Nat) =>
    cst v7 7 (
    rcv a0 9 fun r9 => call (f_X6_take r9 v7) (fun (v8 : Unit) =>
    j_X6_takeAll_36 a0 a1 x2 (L_X6_takeAll_2 a0 a1 k_2_42 n)) nox)) nox)) nox)) nox
set_option maxRecDepth 100000 in
set_option maxHeartbeats 4000000 in
theorem w_L_X6_takeAll_2 (C : Cx G l p s m args c RX6 cX6_takeAll 3) (C2 : Cy meth c none) (a0 : Option Nat) (a1 : Int32) (k_2_42 : OO Unit) (hk_2_42 : ∀ hs, k_2_42  hs = some (o, hs') → WG G p l e { frames := 5, cells := 0, slots := 0, locals := 107 } s m args below meth c 3 0 0 (vx_MQ below (QcT G o hs' tvV) (XCT G o hs') args s 0 0 (gA G)) hs [] [] 42) : ∀ (n : Nat) (x2 : Int32) (hs : Hs), L_X6_takeAll_2 a0 a1 k_2_42 n x2 hs = some (o, hs') → WG G p l e { frames := 5, cells := 0, slots := 0, locals := 107 } s m args below meth c 3 0 0 (vx_MQ below (QcT G o hs' tvV) (XCT G o hs') args s 0 0 (gA G)) hs [(0, va_rf a0), (1, .int a1), (2, .int x2)] [] 2 := by
  intro n
  induction n with
  | zero =>
    intro x2 hs h
    rw [L_X6_takeAll_2] at h
    exact absurd h failO_e
  | succ n hrec_2 =>
    intro x2 hs h
    rw [L_X6_takeAll_2] at h
    refine q_iload_n C 2 dX6_takeAll_2 rfl ?_
    refine q_aload_n C 0 dX6_takeAll_3 rfl ?_
    refine q_gR C fl_X6_21 dX6_takeAll_4 h (fun v2 h => ?_)
    refine q_callV C (CN := RJx4a65c) (T := TJx4a65c) (N := 3) [] [.int x2] (fun a0 o2 hs1 hm => m_Jx4a65c_size_8abf5 hm) lk_X6_52 im_Jx4a65c_size_8abf5 se_Jx4a65c_Jx4a65c_size_8abf5 rfl ⟨(Nat.le_of_ble_eq_true rfl), (Nat.le_of_ble_eq_true rfl)⟩ ⟨(Nat.le_of_ble_eq_true rfl), (Nat.le_of_ble_eq_true rfl)⟩ rfl rfl (by simp only [List.map, cat_rf, cat_i, cat_a]; decide) dX6_takeAll_7 h (fun v3 hs h => WG_st (st' := [.int v3, .int x2]) rfl ?_)
    refine q_icmp_ge C 42 dX6_takeAll_10 (by decide) h (fun h => ?_) (fun h => ?_)
    · refine WG.sub [] rfl ?_
      exact hk_2_42 _ h
    · refine q_iload_n C 1 dX6_takeAll_13 rfl ?_
      refine q_iload_n C 2 dX6_takeAll_14 rfl ?_
      refine q_callSN C [.int a1, .int x2] [] (fun o2 hs1 hm => m_X8_has hm) lk_X6_89 sm_X8_has ⟨(Nat.le_of_ble_eq_true rfl), (Nat.le_of_ble_eq_true rfl)⟩ ⟨(Nat.le_of_ble_eq_true rfl), (Nat.le_of_ble_eq_true rfl)⟩ rfl rfl (by decide) dX6_takeAll_15 h (fun v4 hs h => WG_st (st' := [.int v4]) rfl ?_)
      refine q_if_eq C 36 dX6_takeAll_18 (by decide) h (fun h => ?_) (fun h => ?_)
      · exact w_j_X6_takeAll_36 C C2 _ _ _ _ hrec_2 h
      · refine q_aload_n C 0 dX6_takeAll_21 rfl ?_
        refine q_aload_n C 0 dX6_takeAll_22 rfl ?_
        refine q_gR C fl_X6_21 dX6_takeAll_23 h (fun v6 h => ?_)
        refine q_iload_n C 2 dX6_takeAll_26 rfl ?_
        refine q_callV C (CN := RJx4a65c) (T := TJx4a65c) (N := 3) [.int x2] [va_rf a0] (fun a0 o2 hs1 hm => m_Jx4a65c_get_915e3 hm) lk_X6_56 im_Jx4a65c_get_915e3 se_Jx4a65c_Jx4a65c_get_915e3 rfl ⟨(Nat.le_of_ble_eq_true rfl), (Nat.le_of_ble_eq_true rfl)⟩ ⟨(Nat.le_of_ble_eq_true rfl), (Nat.le_of_ble_eq_true rfl)⟩ rfl rfl (by simp only [List.map, cat_rf, cat_i, cat_a]; decide) dX6_takeAll_27 h (fun v7 hs h => WG_st (st' := [va_rf v7, va_rf a0]) rfl ?_)
        refine q_castS C (nm := RX4) (T := TX4) (N := 18) rfl wc_X6_32 dX6_takeAll_30 h (fun h => ?_)
        refine q_callV C (CN := RX6) (T := TX6) (N := 6) [va_rf v7] [] (fun a0 o2 hs1 hm => m_X6_take hm) lk_X6_93 im_X6_take se_X6_X6_take rfl ⟨(Nat.le_of_ble_eq_true rfl), (Nat.le_of_ble_eq_true rfl)⟩ ⟨(Nat.le_of_ble_eq_true rfl), (Nat.le_of_ble_eq_true rfl)⟩ rfl rfl (by decide) dX6_takeAll_33 h (fun v8 hs h => WG_st (st' := []) rfl ?_)
        exact w_j_X6_takeAll_36 C C2 _ _ _ _ hrec_2 h
end M_X6_takeAll
def f_X6_takeAll (a0 : Nat) (p1 : Int32) : OO Unit :=
    lets (0 : Int32) fun (v1 : Int32) =>
    L_X6_takeAll_2 (some a0) p1 (rtn ()) 100000 v1
set_option maxRecDepth 100000 in
set_option maxHeartbeats 4000000 in
theorem m_X6_takeAll {G : GG} {l : Launch} {a0 : Nat} {p1 : Int32} {hs hs' : Hs} {o : Except Nat Unit} (h : f_X6_takeAll a0 p1 hs = some (o, hs')) : CT G l yX6_takeAll cX6_takeAll 3 none 5 107 0 0 [.ref a0, .int p1] hs o hs' tvV := by
  refine vx_ofW (cc := cX6_takeAll) (maxL := 3) (ret := none) (by decide +kernel) rfl ?_
  intro p e s m args below meth c s₁ B hml hxt hv
  obtain ⟨hav, hR, hKn⟩ := hv
  subst hav
  have hts := atoms_spec (ws := .code yX6_takeAll cX6_takeAll 3 none :: Tg) B.pre
  have C : Cx G l p s m _ c RX6 cX6_takeAll 3 := ⟨B.exec, B.bytes, hml, findClass_of_methodNamed B.named, fun w hw => hts w (List.mem_cons_of_mem _ hw), hKn, fun q hq => Nat.le_trans hR.2.2.1 hq⟩
  have C2 : Cy meth c none := ⟨B.returns, B.notSynchronized, hxt⟩
  have key : WG G p l e { frames := 5, cells := 0, slots := 0, locals := 107 } s m ([.ref a0, .int p1] : List Value).toArray below meth c 3 0 0 (vx_MQ below (QcT G o hs' tvV) (XCT G o hs') ([.ref a0, .int p1] : List Value).toArray s 0 0 (gA G)) hs [(0, va_rf (some a0)), (1, .int p1)] [] 0 := by
    unfold f_X6_takeAll at h
    refine q_iconst C (0 : Int32) dX6_takeAll_0 (by decide) ?_
    refine q_istore_n C (fun v1 => [(2, .int v1), (0, va_rf (some a0)), (1, .int p1)]) dX6_takeAll_1 (by decide) (fun _ => rfl) h (fun v1 h => ?_)
    refine WG.sub [1, 2, 0] rfl ?_
    refine w_L_X6_takeAll_2 C C2 _ _ _ ?_ _ _ _ h
    · intro  hs h
      exact q_vret C C2 rfl (Nat.le_of_ble_eq_true rfl) (Nat.le_of_ble_eq_true rfl) dX6_takeAll_42 h
  rw [lg_entry_eq]
  exact key _ _ _ hR va_S.rf ⟨lv_entry _ (n := 3) (Nat.le_of_ble_eq_true rfl), (c1_r (c1_i c1_n))⟩

theorem cd_X3_becomeBest : Cond.code yX3_becomeBest cX3_becomeBest 4 none ∈ Tg := Tg_of (i := 1296) (by decide +kernel) (by decide +kernel)
theorem ml_X3_92 : Cond.methodLink RX3 92 yX4_placeNow ∈ Tg := Tg_of (i := 1297) (by decide +kernel) (by decide +kernel)
theorem lk_X3_92 : Lk RX3 92 yX4_placeNow cX4_placeNow 1 (some .int) 0 := ⟨ml_X3_92, cd_X4_placeNow, iw_X4, by decide +kernel⟩
theorem fl_X3_9 : Fld RX3 9 6 0 (.array .int) := ⟨RX3, TX3, 2, RX3, rfl, by decide, wf_X3_9, (Or.inl rfl), gu_X3, tyX3_ok _ (by decide), ⟨tyX3, tyX3_ok⟩, nmX3⟩
theorem ml_X3_95 : Cond.methodLink RX3 95 yX6_takeAll ∈ Tg := Tg_of (i := 1298) (by decide +kernel) (by decide +kernel)
theorem lk_X3_95 : Lk RX3 95 yX6_takeAll cX6_takeAll 3 none 1 := ⟨ml_X3_95, cd_X6_takeAll, iw_X6, by decide +kernel⟩
theorem lk_X3_99 : LkN RX3 99 yX8_has "Termgrid" cX8_has 2 (some .boolean) 2 := ⟨by decide +kernel, cd_X8_has, iw_X8, by decide +kernel⟩
theorem ml_X3_42 : Cond.methodLink RX3 42 yX6_putAt ∈ Tg := Tg_of (i := 1288) (by decide +kernel) (by decide +kernel)
theorem lk_X3_42 : Lk RX3 42 yX6_putAt cX6_putAt 4 none 2 := ⟨ml_X3_42, cd_X6_putAt, iw_X6, by decide +kernel⟩
theorem im_X6_takeAll : Cond.instanceMethod yX6_takeAll ∈ Tg := Tg_of (i := 1299) (by decide +kernel) (by decide +kernel)
theorem se_X6_X6_takeAll : Cond.selects RX6 yX6_takeAll yX6_takeAll ∈ Tg := Tg_of (i := 1300) (by decide +kernel) (by decide +kernel)
section M_X3_becomeBest
variable {p : Program} {l : Launch} {e : Env} {s : State} {m : MethodId} {args : Array Value} {below : List Frame} {meth : Method} {c : Code} {G : GG} {o : Except Nat Unit} {hs' : Hs}
def j_X3_becomeBest_48 (a0 : Option Nat) (a1 : Option Nat) (a3 : Int32) (s0 : Int32) (s1 : Int32) (rec_4 : Int32 → Int32 → OO Unit) : OO Unit :=
  lets (s1 ||| s0) fun (v10 : Int32) =>
    lets (a3 + (1 : Int32)) fun (v11 : Int32) =>
    rec_4 v10 v11
set_option maxRecDepth 100000 in
set_option maxHeartbeats 4000000 in
theorem w_j_X3_becomeBest_48 (C : Cx G l p s m args c RX3 cX3_becomeBest 4) (C2 : Cy meth c none) {hs : Hs} (a0 : Option Nat) (a1 : Option Nat) (a3 : Int32) (s0 : Int32) (s1 : Int32) (rec_4 : Int32 → Int32 → OO Unit) (hrec_4 : ∀ (y2 : Int32) (y3 : Int32) hs, rec_4 y2 y3 hs = some (o, hs') → WG G p l e { frames := 6, cells := 0, slots := 0, locals := 132 } s m args below meth c 4 0 0 (vx_MQ below (QcT G o hs' tvV) (XCT G o hs') args s 0 0 (gA G)) hs [(0, va_rf a0), (1, va_rf a1), (2, .int y2), (3, .int y3)] [] 4) (h : j_X3_becomeBest_48 a0 a1 a3 s0 s1 rec_4 hs = some (o, hs')) : WG G p l e { frames := 6, cells := 0, slots := 0, locals := 132 } s m args below meth c 4 0 0 (vx_MQ below (QcT G o hs' tvV) (XCT G o hs') args s 0 0 (gA G)) hs [(0, va_rf a0), (1, va_rf a1), (3, .int a3)] [.int s0, .int s1] 48 := by
  unfold j_X3_becomeBest_48 at h
  refine q_ior C dX3_becomeBest_48 ?_
  refine q_istore_n C (fun v10 => [(2, .int v10), (0, va_rf a0), (1, va_rf a1), (3, .int a3)]) dX3_becomeBest_49 (by decide) (fun _ => rfl) h (fun v10 h => ?_)
  refine q_iinc C 3 (1 : Int32) (fun v11 => [(3, .int v11), (2, .int v10), (0, va_rf a0), (1, va_rf a1)]) dX3_becomeBest_50 rfl (by decide) (by decide) (fun _ => rfl) h (fun v11 h => ?_)
  refine q_goto C 4 dX3_becomeBest_53 (by decide) ?_
  refine WG.sub [2, 3, 1, 0] rfl ?_
  exact hrec_4 _ _ _ h
def L_X3_becomeBest_4 (a0 : Option Nat) (a1 : Option Nat) (k_4_56 : Int32 → OO Unit) : Nat → Int32 → Int32 → OO Unit
  | 0, _, _ => failO
  | n + 1, x2, x3 =>
    gR a1 9 2 fun v3 =>
    rcv v3 2 fun r14 => call (f_Jx4a65c_size_8abf5 r14 ) (fun (v4 : Int32) =>
    (if v4 ≤ x3 then
    k_4_56 x2
    else
    gR a1 9 2 fun v5 =>
    rcv v5 2 fun r13 => call (f_Jx4a65c_get_915e3 r13 x3) (fun (v6 : Option Nat) =>
    cst v6 7 (
    rcv v6 7 fun r12 => call (f_X4_placeNow r12 ) (fun (v7 : Int32) =>
    gR a0 6 0 fun v8 =>
    call (f_X8_at v8 x3) (fun (v9 : Int32) =>
    (if v7 = v9 then
    j_X3_becomeBest_48 a0 a1 x3 (0 : Int32) x2 (L_X3_becomeBest_4 a0 a1 k_4_56 n)
    else
    j_X3_becomeBest_48 a0 a1 x3 (((1 : Int32) <<< (x3 &&& 31))) x2 (L_X3_becomeBest_4 a0 a1 k_4_56 n))) nox) nox)) nox)) nox
set_option maxRecDepth 100000 in
set_option maxHeartbeats 4000000 in
theorem w_L_X3_becomeBest_4 (C : Cx G l p s m args c RX3 cX3_becomeBest 4) (C2 : Cy meth c none) (a0 : Option Nat) (a1 : Option Nat) (k_4_56 : Int32 → OO Unit) (hk_4_56 : ∀ (y2 : Int32) hs, k_4_56 y2 hs = some (o, hs') → WG G p l e { frames := 6, cells := 0, slots := 0, locals := 132 } s m args below meth c 4 0 0 (vx_MQ below (QcT G o hs' tvV) (XCT G o hs') args s 0 0 (gA G)) hs [(0, va_rf a0), (1, va_rf a1), (2, .int y2)] [] 56) : ∀ (n : Nat) (x2 : Int32) (x3 : Int32) (hs : Hs), L_X3_becomeBest_4 a0 a1 k_4_56 n x2 x3 hs = some (o, hs') → WG G p l e { frames := 6, cells := 0, slots := 0, locals := 132 } s m args below meth c 4 0 0 (vx_MQ below (QcT G o hs' tvV) (XCT G o hs') args s 0 0 (gA G)) hs [(0, va_rf a0), (1, va_rf a1), (2, .int x2), (3, .int x3)] [] 4 := by
  intro n
  induction n with
  | zero =>
    intro x2 x3 hs h
    rw [L_X3_becomeBest_4] at h
    exact absurd h failO_e
  | succ n hrec_4 =>
    intro x2 x3 hs h
    rw [L_X3_becomeBest_4] at h
    refine q_iload_n C 3 dX3_becomeBest_4 rfl ?_
    refine q_aload_n C 1 dX3_becomeBest_5 rfl ?_
    refine q_gR C fl_X3_53 dX3_becomeBest_6 h (fun v3 h => ?_)
    refine q_callV C (CN := RJx4a65c) (T := TJx4a65c) (N := 3) [] [.int x3] (fun a0 o2 hs1 hm => m_Jx4a65c_size_8abf5 hm) lk_X3_57 im_Jx4a65c_size_8abf5 se_Jx4a65c_Jx4a65c_size_8abf5 rfl ⟨(Nat.le_of_ble_eq_true rfl), (Nat.le_of_ble_eq_true rfl)⟩ ⟨(Nat.le_of_ble_eq_true rfl), (Nat.le_of_ble_eq_true rfl)⟩ rfl rfl (by simp only [List.map, cat_rf, cat_i, cat_a]; decide) dX3_becomeBest_9 h (fun v4 hs h => WG_st (st' := [.int v4, .int x3]) rfl ?_)
    refine q_icmp_ge C 56 dX3_becomeBest_12 (by decide) h (fun h => ?_) (fun h => ?_)
    · refine WG.sub [0, 1, 2] rfl ?_
      exact hk_4_56 _ _ h
    · refine q_iload_n C 2 dX3_becomeBest_15 rfl ?_
      refine q_aload_n C 1 dX3_becomeBest_16 rfl ?_
      refine q_gR C fl_X3_53 dX3_becomeBest_17 h (fun v5 h => ?_)
      refine q_iload_n C 3 dX3_becomeBest_20 rfl ?_
      refine q_callV C (CN := RJx4a65c) (T := TJx4a65c) (N := 3) [.int x3] [.int x2] (fun a0 o2 hs1 hm => m_Jx4a65c_get_915e3 hm) lk_X3_62 im_Jx4a65c_get_915e3 se_Jx4a65c_Jx4a65c_get_915e3 rfl ⟨(Nat.le_of_ble_eq_true rfl), (Nat.le_of_ble_eq_true rfl)⟩ ⟨(Nat.le_of_ble_eq_true rfl), (Nat.le_of_ble_eq_true rfl)⟩ rfl rfl (by simp only [List.map, cat_rf, cat_i, cat_a]; decide) dX3_becomeBest_21 h (fun v6 hs h => WG_st (st' := [va_rf v6, .int x2]) rfl ?_)
      refine q_castS C (nm := RX4) (T := TX4) (N := 18) rfl wc_X3_66 dX3_becomeBest_24 h (fun h => ?_)
      refine q_callV C (CN := RX4) (T := TX4) (N := 18) [] [.int x2] (fun a0 o2 hs1 hm => m_X4_placeNow hm) lk_X3_92 im_X4_placeNow se_X4_X4_placeNow rfl ⟨(Nat.le_of_ble_eq_true rfl), (Nat.le_of_ble_eq_true rfl)⟩ ⟨(Nat.le_of_ble_eq_true rfl), (Nat.le_of_ble_eq_true rfl)⟩ rfl rfl (by simp only [List.map, cat_rf, cat_i, cat_a]; decide) dX3_becomeBest_27 h (fun v7 hs h => WG_st (st' := [.int v7, .int x2]) rfl ?_)
      refine q_aload_n C 0 dX3_becomeBest_30 rfl ?_
      refine q_gR C fl_X3_9 dX3_becomeBest_31 h (fun v8 h => ?_)
      refine q_iload_n C 3 dX3_becomeBest_34 rfl ?_
      refine q_callSN C [va_rf v8, .int x3] [.int v7, .int x2] (fun o2 hs1 hm => m_X8_at hm) lk_X3_88 sm_X8_at ⟨(Nat.le_of_ble_eq_true rfl), (Nat.le_of_ble_eq_true rfl)⟩ ⟨(Nat.le_of_ble_eq_true rfl), (Nat.le_of_ble_eq_true rfl)⟩ rfl rfl (by simp only [List.map, cat_rf, cat_i, cat_a]; decide) dX3_becomeBest_35 h (fun v9 hs h => WG_st (st' := [.int v9, .int v7, .int x2]) rfl ?_)
      refine q_icmp_eq C 47 dX3_becomeBest_38 (by decide) h (fun h => ?_) (fun h => ?_)
      · refine q_iconst C (0 : Int32) dX3_becomeBest_47 (by decide) ?_
        refine WG.sub [0, 1, 3] rfl ?_
        exact w_j_X3_becomeBest_48 C C2 _ _ _ _ _ _ hrec_4 h
      · refine q_iconst C (1 : Int32) dX3_becomeBest_41 (by decide) ?_
        refine q_iload_n C 3 dX3_becomeBest_42 rfl ?_
        refine q_ishl C dX3_becomeBest_43 ?_
        refine q_goto C 48 dX3_becomeBest_44 (by decide) ?_
        refine WG.sub [0, 1, 3] rfl ?_
        exact w_j_X3_becomeBest_48 C C2 _ _ _ _ _ _ hrec_4 h
def j_X3_becomeBest_105 (a0 : Option Nat) (a1 : Option Nat) (a2 : Int32) (a3 : Int32)  (rec_63 : Int32 → OO Unit) : OO Unit :=
  lets (a3 + (1 : Int32)) fun (v21 : Int32) =>
    rec_63 v21
set_option maxRecDepth 100000 in
set_option maxHeartbeats 4000000 in
theorem w_j_X3_becomeBest_105 (C : Cx G l p s m args c RX3 cX3_becomeBest 4) (C2 : Cy meth c none) {hs : Hs} (a0 : Option Nat) (a1 : Option Nat) (a2 : Int32) (a3 : Int32)  (rec_63 : Int32 → OO Unit) (hrec_63 : ∀ (y3 : Int32) hs, rec_63 y3 hs = some (o, hs') → WG G p l e { frames := 6, cells := 0, slots := 0, locals := 132 } s m args below meth c 4 0 0 (vx_MQ below (QcT G o hs' tvV) (XCT G o hs') args s 0 0 (gA G)) hs [(0, va_rf a0), (1, va_rf a1), (2, .int a2), (3, .int y3)] [] 63) (h : j_X3_becomeBest_105 a0 a1 a2 a3 rec_63 hs = some (o, hs')) : WG G p l e { frames := 6, cells := 0, slots := 0, locals := 132 } s m args below meth c 4 0 0 (vx_MQ below (QcT G o hs' tvV) (XCT G o hs') args s 0 0 (gA G)) hs [(0, va_rf a0), (1, va_rf a1), (2, .int a2), (3, .int a3)] [] 105 := by
  unfold j_X3_becomeBest_105 at h
  refine q_iinc C 3 (1 : Int32) (fun v21 => [(3, .int v21), (0, va_rf a0), (1, va_rf a1), (2, .int a2)]) dX3_becomeBest_105 rfl (by decide) (by decide) (fun _ => rfl) h (fun v21 h => ?_)
  refine q_goto C 63 dX3_becomeBest_108 (by decide) ?_
  refine WG.sub [1, 2, 3, 0] rfl ?_
  exact hrec_63 _ _ h
def L_X3_becomeBest_63 (a0 : Option Nat) (a1 : Option Nat) (a2 : Int32) (k_63_111 : OO Unit) : Nat → Int32 → OO Unit
  | 0, _ => failO
  | n + 1, x3 =>
    gR a1 9 2 fun v18 =>
    rcv v18 2 fun r29 => call (f_Jx4a65c_size_8abf5 r29 ) (fun (v19 : Int32) =>
    (if v19 ≤ x3 then
    k_63_111
    else
    call (f_X8_has a2 x3) (fun (v20 : Int32) =>
    (if v20 = 0 then
    j_X3_becomeBest_105 a0 a1 a2 x3 (L_X3_becomeBest_63 a0 a1 a2 k_63_111 n)
    else
    gR a1 9 2 fun v22 =>
    rcv v22 2 fun r28 => call (f_Jx4a65c_get_915e3 r28 x3) (fun (v23 : Option Nat) =>
    cst v23 7 (
    gR a0 6 0 fun v24 =>
    call (f_X8_at v24 x3) (fun (v25 : Int32) =>
    rcv a1 9 fun r27 => call (f_X6_putAt r27 v23 v25) (fun (v26 : Unit) =>
    j_X3_becomeBest_105 a0 a1 a2 x3 (L_X3_becomeBest_63 a0 a1 a2 k_63_111 n)) nox) nox)) nox)) nox)) nox
set_option maxRecDepth 100000 in
set_option maxHeartbeats 4000000 in
theorem w_L_X3_becomeBest_63 (C : Cx G l p s m args c RX3 cX3_becomeBest 4) (C2 : Cy meth c none) (a0 : Option Nat) (a1 : Option Nat) (a2 : Int32) (k_63_111 : OO Unit) (hk_63_111 : ∀ hs, k_63_111  hs = some (o, hs') → WG G p l e { frames := 6, cells := 0, slots := 0, locals := 132 } s m args below meth c 4 0 0 (vx_MQ below (QcT G o hs' tvV) (XCT G o hs') args s 0 0 (gA G)) hs [] [] 111) : ∀ (n : Nat) (x3 : Int32) (hs : Hs), L_X3_becomeBest_63 a0 a1 a2 k_63_111 n x3 hs = some (o, hs') → WG G p l e { frames := 6, cells := 0, slots := 0, locals := 132 } s m args below meth c 4 0 0 (vx_MQ below (QcT G o hs' tvV) (XCT G o hs') args s 0 0 (gA G)) hs [(0, va_rf a0), (1, va_rf a1), (2, .int a2), (3, .int x3)] [] 63 := by
  intro n
  induction n with
  | zero =>
    intro x3 hs h
    rw [L_X3_becomeBest_63] at h
    exact absurd h failO_e
  | succ n hrec_63 =>
    intro x3 hs h
    rw [L_X3_becomeBest_63] at h
    refine q_iload_n C 3 dX3_becomeBest_63 rfl ?_
    refine q_aload_n C 1 dX3_becomeBest_64 rfl ?_
    refine q_gR C fl_X3_53 dX3_becomeBest_65 h (fun v18 h => ?_)
    refine q_callV C (CN := RJx4a65c) (T := TJx4a65c) (N := 3) [] [.int x3] (fun a0 o2 hs1 hm => m_Jx4a65c_size_8abf5 hm) lk_X3_57 im_Jx4a65c_size_8abf5 se_Jx4a65c_Jx4a65c_size_8abf5 rfl ⟨(Nat.le_of_ble_eq_true rfl), (Nat.le_of_ble_eq_true rfl)⟩ ⟨(Nat.le_of_ble_eq_true rfl), (Nat.le_of_ble_eq_true rfl)⟩ rfl rfl (by simp only [List.map, cat_rf, cat_i, cat_a]; decide) dX3_becomeBest_68 h (fun v19 hs h => WG_st (st' := [.int v19, .int x3]) rfl ?_)
    refine q_icmp_ge C 111 dX3_becomeBest_71 (by decide) h (fun h => ?_) (fun h => ?_)
    · refine WG.sub [] rfl ?_
      exact hk_63_111 _ h
    · refine q_iload_n C 2 dX3_becomeBest_74 rfl ?_
      refine q_iload_n C 3 dX3_becomeBest_75 rfl ?_
      refine q_callSN C [.int a2, .int x3] [] (fun o2 hs1 hm => m_X8_has hm) lk_X3_99 sm_X8_has ⟨(Nat.le_of_ble_eq_true rfl), (Nat.le_of_ble_eq_true rfl)⟩ ⟨(Nat.le_of_ble_eq_true rfl), (Nat.le_of_ble_eq_true rfl)⟩ rfl rfl (by decide) dX3_becomeBest_76 h (fun v20 hs h => WG_st (st' := [.int v20]) rfl ?_)
      refine q_if_eq C 105 dX3_becomeBest_79 (by decide) h (fun h => ?_) (fun h => ?_)
      · exact w_j_X3_becomeBest_105 C C2 _ _ _ _ _ hrec_63 h
      · refine q_aload_n C 1 dX3_becomeBest_82 rfl ?_
        refine q_aload_n C 1 dX3_becomeBest_83 rfl ?_
        refine q_gR C fl_X3_53 dX3_becomeBest_84 h (fun v22 h => ?_)
        refine q_iload_n C 3 dX3_becomeBest_87 rfl ?_
        refine q_callV C (CN := RJx4a65c) (T := TJx4a65c) (N := 3) [.int x3] [va_rf a1] (fun a0 o2 hs1 hm => m_Jx4a65c_get_915e3 hm) lk_X3_62 im_Jx4a65c_get_915e3 se_Jx4a65c_Jx4a65c_get_915e3 rfl ⟨(Nat.le_of_ble_eq_true rfl), (Nat.le_of_ble_eq_true rfl)⟩ ⟨(Nat.le_of_ble_eq_true rfl), (Nat.le_of_ble_eq_true rfl)⟩ rfl rfl (by simp only [List.map, cat_rf, cat_i, cat_a]; decide) dX3_becomeBest_88 h (fun v23 hs h => WG_st (st' := [va_rf v23, va_rf a1]) rfl ?_)
        refine q_castS C (nm := RX4) (T := TX4) (N := 18) rfl wc_X3_66 dX3_becomeBest_91 h (fun h => ?_)
        refine q_aload_n C 0 dX3_becomeBest_94 rfl ?_
        refine q_gR C fl_X3_9 dX3_becomeBest_95 h (fun v24 h => ?_)
        refine q_iload_n C 3 dX3_becomeBest_98 rfl ?_
        refine q_callSN C [va_rf v24, .int x3] [va_rf v23, va_rf a1] (fun o2 hs1 hm => m_X8_at hm) lk_X3_88 sm_X8_at ⟨(Nat.le_of_ble_eq_true rfl), (Nat.le_of_ble_eq_true rfl)⟩ ⟨(Nat.le_of_ble_eq_true rfl), (Nat.le_of_ble_eq_true rfl)⟩ rfl rfl (by simp only [List.map, cat_rf, cat_i, cat_a]; decide) dX3_becomeBest_99 h (fun v25 hs h => WG_st (st' := [.int v25, va_rf v23, va_rf a1]) rfl ?_)
        refine q_callV C (CN := RX6) (T := TX6) (N := 6) [va_rf v23, .int v25] [] (fun a0 o2 hs1 hm => m_X6_putAt hm) lk_X3_42 im_X6_putAt se_X6_X6_putAt rfl ⟨(Nat.le_of_ble_eq_true rfl), (Nat.le_of_ble_eq_true rfl)⟩ ⟨(Nat.le_of_ble_eq_true rfl), (Nat.le_of_ble_eq_true rfl)⟩ rfl rfl (by decide) dX3_becomeBest_102 h (fun v26 hs h => WG_st (st' := []) rfl ?_)
        exact w_j_X3_becomeBest_105 C C2 _ _ _ _ _ hrec_63 h
end M_X3_becomeBest
def f_X3_becomeBest (a0 : Nat) (p1 : Option Nat) : OO Unit :=
    lets (0 : Int32) fun (v1 : Int32) =>
    lets (0 : Int32) fun (v2 : Int32) =>
    L_X3_becomeBest_4 (some a0) p1 (fun (v15 : Int32) => rcv p1 9 fun r30 => call (f_X6_takeAll r30 v15) (fun (v16 : Unit) =>
    lets (0 : Int32) fun (v17 : Int32) =>
    L_X3_becomeBest_63 (some a0) p1 v15 (rtn ()) 100000 v17) nox) 100000 v1 v2
set_option maxRecDepth 100000 in
set_option maxHeartbeats 4000000 in
theorem m_X3_becomeBest {G : GG} {l : Launch} {a0 : Nat} {p1 : Option Nat} {hs hs' : Hs} {o : Except Nat Unit} (h : f_X3_becomeBest a0 p1 hs = some (o, hs')) : CT G l yX3_becomeBest cX3_becomeBest 4 none 6 132 0 0 [.ref a0, va_rf p1] hs o hs' tvV := by
  refine vx_ofW (cc := cX3_becomeBest) (maxL := 4) (ret := none) (by decide +kernel) rfl ?_
  intro p e s m args below meth c s₁ B hml hxt hv
  obtain ⟨hav, hR, hKn⟩ := hv
  subst hav
  have hts := atoms_spec (ws := .code yX3_becomeBest cX3_becomeBest 4 none :: Tg) B.pre
  have C : Cx G l p s m _ c RX3 cX3_becomeBest 4 := ⟨B.exec, B.bytes, hml, findClass_of_methodNamed B.named, fun w hw => hts w (List.mem_cons_of_mem _ hw), hKn, fun q hq => Nat.le_trans hR.2.2.1 hq⟩
  have C2 : Cy meth c none := ⟨B.returns, B.notSynchronized, hxt⟩
  have key : WG G p l e { frames := 6, cells := 0, slots := 0, locals := 132 } s m ([.ref a0, va_rf p1] : List Value).toArray below meth c 4 0 0 (vx_MQ below (QcT G o hs' tvV) (XCT G o hs') ([.ref a0, va_rf p1] : List Value).toArray s 0 0 (gA G)) hs [(0, va_rf (some a0)), (1, va_rf p1)] [] 0 := by
    unfold f_X3_becomeBest at h
    refine q_iconst C (0 : Int32) dX3_becomeBest_0 (by decide) ?_
    refine q_istore_n C (fun v1 => [(2, .int v1), (0, va_rf (some a0)), (1, va_rf p1)]) dX3_becomeBest_1 (by decide) (fun _ => rfl) h (fun v1 h => ?_)
    refine q_iconst C (0 : Int32) dX3_becomeBest_2 (by decide) ?_
    refine q_istore_n C (fun v2 => [(3, .int v2), (2, .int v1), (0, va_rf (some a0)), (1, va_rf p1)]) dX3_becomeBest_3 (by decide) (fun _ => rfl) h (fun v2 h => ?_)
    refine WG.sub [2, 3, 1, 0] rfl ?_
    refine w_L_X3_becomeBest_4 C C2 _ _ _ ?_ _ _ _ _ h
    · intro v15 hs h
      refine q_aload_n C 1 dX3_becomeBest_56 rfl ?_
      refine q_iload_n C 2 dX3_becomeBest_57 rfl ?_
      refine q_callV C (CN := RX6) (T := TX6) (N := 6) [.int v15] [] (fun a0 o2 hs1 hm => m_X6_takeAll hm) lk_X3_95 im_X6_takeAll se_X6_X6_takeAll rfl ⟨(Nat.le_of_ble_eq_true rfl), (Nat.le_of_ble_eq_true rfl)⟩ ⟨(Nat.le_of_ble_eq_true rfl), (Nat.le_of_ble_eq_true rfl)⟩ rfl rfl (by decide) dX3_becomeBest_58 h (fun v16 hs h => WG_st (st' := []) rfl ?_)
      refine q_iconst C (0 : Int32) dX3_becomeBest_61 (by decide) ?_
      refine q_istore_n C (fun v17 => [(3, .int v17), (0, va_rf (some a0)), (1, va_rf p1), (2, .int v15)]) dX3_becomeBest_62 (by decide) (fun _ => rfl) h (fun v17 h => ?_)
      refine WG.sub [1, 2, 3, 0] rfl ?_
      refine w_L_X3_becomeBest_63 C C2 _ _ _ _ ?_ _ _ _ h
      · intro  hs h
        exact q_vret C C2 rfl (Nat.le_of_ble_eq_true rfl) (Nat.le_of_ble_eq_true rfl) dX3_becomeBest_111 h
  rw [lg_entry_eq]
  cases p1 <;> exact key _ _ _ hR va_S.rf ⟨lv_entry _ (n := 4) (Nat.le_of_ble_eq_true rfl), (c1_r (c1_r c1_n))⟩

theorem cd_X3_improveTable : Cond.code yX3_improveTable cX3_improveTable 6 none ∈ Tg := Tg_of (i := 1257) (by decide +kernel) (by decide +kernel)
theorem ml_X3_18 : Cond.methodLink RX3 18 yJ7_fill_53178 ∈ Tg := Tg_of (i := 1258) (by decide +kernel) (by decide +kernel)
theorem lk_X3_18 : Lk RX3 18 yJ7_fill_53178 cJ7_fill_53178 4 none 2 := ⟨ml_X3_18, cd_J7_fill_53178, iw_J7, by decide +kernel⟩
theorem ml_X3_24 : Cond.methodLink RX3 24 yX6_copyPlaces ∈ Tg := Tg_of (i := 1259) (by decide +kernel) (by decide +kernel)
theorem lk_X3_24 : Lk RX3 24 yX6_copyPlaces cX6_copyPlaces 3 none 1 := ⟨ml_X3_24, cd_X6_copyPlaces, iw_X6, by decide +kernel⟩
theorem ml_X3_30 : Cond.methodLink RX3 30 yX6_costKept ∈ Tg := Tg_of (i := 1265) (by decide +kernel) (by decide +kernel)
theorem lk_X3_30 : Lk RX3 30 yX6_costKept cX6_costKept 3 (some .int) 0 := ⟨ml_X3_30, cd_X6_costKept, iw_X6, by decide +kernel⟩
theorem ml_X3_34 : Cond.methodLink RX3 34 yX3_findMover ∈ Tg := Tg_of (i := 1266) (by decide +kernel) (by decide +kernel)
theorem lk_X3_34 : Lk RX3 34 yX3_findMover cX3_findMover 9 (some (.object "Termgrid$Lesson")) 2 := ⟨ml_X3_34, cd_X3_findMover, iw_X3, by decide +kernel⟩
theorem ml_X3_46 : Cond.methodLink RX3 46 yX3_noteMove ∈ Tg := Tg_of (i := 1289) (by decide +kernel) (by decide +kernel)
theorem lk_X3_46 : Lk RX3 46 yX3_noteMove cX3_noteMove 3 none 2 := ⟨ml_X3_46, cd_X3_noteMove, iw_X3, by decide +kernel⟩
theorem im_X6_copyPlaces : Cond.instanceMethod yX6_copyPlaces ∈ Tg := Tg_of (i := 1260) (by decide +kernel) (by decide +kernel)
theorem se_X6_X6_copyPlaces : Cond.selects RX6 yX6_copyPlaces yX6_copyPlaces ∈ Tg := Tg_of (i := 1261) (by decide +kernel) (by decide +kernel)
theorem im_X3_noteMove : Cond.instanceMethod yX3_noteMove ∈ Tg := Tg_of (i := 1291) (by decide +kernel) (by decide +kernel)
theorem se_X3_X3_noteMove : Cond.selects RX3 yX3_noteMove yX3_noteMove ∈ Tg := Tg_of (i := 31) (by decide +kernel) (by decide +kernel)
theorem im_X3_findMover : Cond.instanceMethod yX3_findMover ∈ Tg := Tg_of (i := 1268) (by decide +kernel) (by decide +kernel)
theorem se_X3_X3_findMover : Cond.selects RX3 yX3_findMover yX3_findMover ∈ Tg := Tg_of (i := 29) (by decide +kernel) (by decide +kernel)
theorem ml_X3_49 : Cond.methodLink RX3 49 yX3_becomeBest ∈ Tg := Tg_of (i := 1293) (by decide +kernel) (by decide +kernel)
theorem lk_X3_49 : Lk RX3 49 yX3_becomeBest cX3_becomeBest 4 none 1 := ⟨ml_X3_49, cd_X3_becomeBest, iw_X3, by decide +kernel⟩
theorem im_X3_becomeBest : Cond.instanceMethod yX3_becomeBest ∈ Tg := Tg_of (i := 1295) (by decide +kernel) (by decide +kernel)
theorem se_X3_X3_becomeBest : Cond.selects RX3 yX3_becomeBest yX3_becomeBest ∈ Tg := Tg_of (i := 32) (by decide +kernel) (by decide +kernel)
section M_X3_improveTable
variable {p : Program} {l : Launch} {e : Env} {s : State} {m : MethodId} {args : Array Value} {below : List Frame} {meth : Method} {c : Code} {G : GG} {o : Except Nat Unit} {hs' : Hs}
def j_X3_improveTable_90 (a0 : Option Nat) (a1 : Option Nat) (a2 : Int32) (a3 : Int32) (a4 : Int32)  (rec_26 : Int32 → Int32 → OO Unit) : OO Unit :=
  lets (a4 + (1 : Int32)) fun (v14 : Int32) =>
    rec_26 a3 v14
set_option maxRecDepth 100000 in
set_option maxHeartbeats 4000000 in
theorem w_j_X3_improveTable_90 (C : Cx G l p s m args c RX3 cX3_improveTable 6) (C2 : Cy meth c none) {hs : Hs} (a0 : Option Nat) (a1 : Option Nat) (a2 : Int32) (a3 : Int32) (a4 : Int32)  (rec_26 : Int32 → Int32 → OO Unit) (hrec_26 : ∀ (y3 : Int32) (y4 : Int32) hs, rec_26 y3 y4 hs = some (o, hs') → WG G p l e { frames := 12, cells := 0, slots := 0, locals := 433 } s m args below meth c 6 0 0 (vx_MQ below (QcT G o hs' tvV) (XCT G o hs') args s 0 0 (gA G)) hs [(0, va_rf a0), (1, va_rf a1), (2, .int a2), (3, .int y3), (4, .int y4)] [] 26) (h : j_X3_improveTable_90 a0 a1 a2 a3 a4 rec_26 hs = some (o, hs')) : WG G p l e { frames := 12, cells := 0, slots := 0, locals := 433 } s m args below meth c 6 0 0 (vx_MQ below (QcT G o hs' tvV) (XCT G o hs') args s 0 0 (gA G)) hs [(0, va_rf a0), (1, va_rf a1), (2, .int a2), (3, .int a3), (4, .int a4)] [] 90 := by
  unfold j_X3_improveTable_90 at h
  refine q_iinc C 4 (1 : Int32) (fun v14 => [(4, .int v14), (0, va_rf a0), (1, va_rf a1), (2, .int a2), (3, .int a3)]) dX3_improveTable_90 rfl (by decide) (by decide) (fun _ => rfl) h (fun v14 h => ?_)
  refine q_goto C 26 dX3_improveTable_93 (by decide) ?_
  refine WG.sub [1, 2, 3, 4, 0] rfl ?_
  exact hrec_26 _ _ _ h
def L_X3_improveTable_26 (a0 : Option Nat) (a1 : Option Nat) (a2 : Int32) (k_26_46 : OO Unit) (k_26_96 : OO Unit) : Nat → Int32 → Int32 → OO Unit
  | 0, _, _ => failO
  | n + 1, x3, x4 =>
    (if a2 ≤ x4 then
    k_26_96
    else
    rcv a0 6 fun r25 => call (f_X3_findMover r25 a1 x4) (fun (v8 : Option Nat) =>
    lets v8 fun (v9 : Option Nat) =>
    (if ¬ v9 = none then
    rcv a1 9 fun r24 => call (f_X6_findCheapestElsewhere r24 v9) (fun (v10 : Int32) =>
    rcv a1 9 fun r23 => call (f_X6_putAt r23 v9 v10) (fun (v11 : Unit) =>
    rcv a0 6 fun r22 => call (f_X3_noteMove r22 v9 x4) (fun (v12 : Unit) =>
    rcv a1 9 fun r21 => call (f_X6_costKept r21 ) (fun (v13 : Int32) =>
    (if x3 ≤ v13 then
    j_X3_improveTable_90 a0 a1 a2 x3 x4 (L_X3_improveTable_26 a0 a1 a2 k_26_46 k_26_96 n)
    else
    rcv a1 9 fun r20 => call (f_X6_costKept r20 ) (fun (v15 : Int32) =>
    lets v15 fun (v16 : Int32) =>
    gR a0 6 0 fun v17 =>
    rcv a1 9 fun r19 => call (f_X6_copyPlaces r19 v17) (fun (v18 : Unit) =>
    j_X3_improveTable_90 a0 a1 a2 v16 x4 (L_X3_improveTable_26 a0 a1 a2 k_26_46 k_26_96 n)) nox) nox)) nox) nox) nox) nox
    else
    k_26_46)) nox)
set_option maxRecDepth 100000 in
set_option maxHeartbeats 4000000 in
theorem w_L_X3_improveTable_26 (C : Cx G l p s m args c RX3 cX3_improveTable 6) (C2 : Cy meth c none) (a0 : Option Nat) (a1 : Option Nat) (a2 : Int32) (k_26_46 : OO Unit) (k_26_96 : OO Unit) (hk_26_46 : ∀ hs, k_26_46  hs = some (o, hs') → WG G p l e { frames := 12, cells := 0, slots := 0, locals := 433 } s m args below meth c 6 0 0 (vx_MQ below (QcT G o hs' tvV) (XCT G o hs') args s 0 0 (gA G)) hs [(0, va_rf a0), (1, va_rf a1)] [] 46) (hk_26_96 : ∀ hs, k_26_96  hs = some (o, hs') → WG G p l e { frames := 12, cells := 0, slots := 0, locals := 433 } s m args below meth c 6 0 0 (vx_MQ below (QcT G o hs' tvV) (XCT G o hs') args s 0 0 (gA G)) hs [(0, va_rf a0), (1, va_rf a1)] [] 96) : ∀ (n : Nat) (x3 : Int32) (x4 : Int32) (hs : Hs), L_X3_improveTable_26 a0 a1 a2 k_26_46 k_26_96 n x3 x4 hs = some (o, hs') → WG G p l e { frames := 12, cells := 0, slots := 0, locals := 433 } s m args below meth c 6 0 0 (vx_MQ below (QcT G o hs' tvV) (XCT G o hs') args s 0 0 (gA G)) hs [(0, va_rf a0), (1, va_rf a1), (2, .int a2), (3, .int x3), (4, .int x4)] [] 26 := by
  intro n
  induction n with
  | zero =>
    intro x3 x4 hs h
    rw [L_X3_improveTable_26] at h
    exact absurd h failO_e
  | succ n hrec_26 =>
    intro x3 x4 hs h
    rw [L_X3_improveTable_26] at h
    refine q_iload C 4 dX3_improveTable_26 rfl ?_
    refine q_iload_n C 2 dX3_improveTable_28 rfl ?_
    refine q_icmp_ge C 96 dX3_improveTable_29 (by decide) h (fun h => ?_) (fun h => ?_)
    · refine WG.sub [0, 1] rfl ?_
      exact hk_26_96 _ h
    · refine q_aload_n C 0 dX3_improveTable_32 rfl ?_
      refine q_aload_n C 1 dX3_improveTable_33 rfl ?_
      refine q_iload C 4 dX3_improveTable_34 rfl ?_
      refine q_callV C (CN := RX3) (T := TX3) (N := 2) [va_rf a1, .int x4] [] (fun a0 o2 hs1 hm => m_X3_findMover hm) lk_X3_34 im_X3_findMover se_X3_X3_findMover rfl ⟨(Nat.le_of_ble_eq_true rfl), (Nat.le_of_ble_eq_true rfl)⟩ ⟨(Nat.le_of_ble_eq_true rfl), (Nat.le_of_ble_eq_true rfl)⟩ rfl rfl (by decide) dX3_improveTable_36 h (fun v8 hs h => WG_st (st' := [va_rf v8]) rfl ?_)
      refine q_astore C (fun v9 => [(5, va_rf v9), (0, va_rf a0), (1, va_rf a1), (2, .int a2), (3, .int x3), (4, .int x4)]) dX3_improveTable_39 (by decide) (fun _ => rfl) h (fun v9 h => ?_)
      refine q_aload C 0 dX3_improveTable_41 rfl ?_
      refine q_ifnonnull C 49 dX3_improveTable_43 (by decide) h (fun h => ?_) (fun h => ?_)
      · refine q_aload_n C 2 dX3_improveTable_49 rfl ?_
        refine q_aload C 0 dX3_improveTable_50 rfl ?_
        refine q_aload_n C 2 dX3_improveTable_52 rfl ?_
        refine q_aload C 0 dX3_improveTable_53 rfl ?_
        refine q_callV C (CN := RX6) (T := TX6) (N := 6) [va_rf v9] [va_rf v9, va_rf a1] (fun a0 o2 hs1 hm => m_X6_findCheapestElsewhere hm) lk_X3_38 im_X6_findCheapestElsewhere se_X6_X6_findCheapestElsewhere rfl ⟨(Nat.le_of_ble_eq_true rfl), (Nat.le_of_ble_eq_true rfl)⟩ ⟨(Nat.le_of_ble_eq_true rfl), (Nat.le_of_ble_eq_true rfl)⟩ rfl rfl (by simp only [List.map, cat_rf, cat_i, cat_a]; decide) dX3_improveTable_55 h (fun v10 hs h => WG_st (st' := [.int v10, va_rf v9, va_rf a1]) rfl ?_)
        refine q_callV C (CN := RX6) (T := TX6) (N := 6) [va_rf v9, .int v10] [] (fun a0 o2 hs1 hm => m_X6_putAt hm) lk_X3_42 im_X6_putAt se_X6_X6_putAt rfl ⟨(Nat.le_of_ble_eq_true rfl), (Nat.le_of_ble_eq_true rfl)⟩ ⟨(Nat.le_of_ble_eq_true rfl), (Nat.le_of_ble_eq_true rfl)⟩ rfl rfl (by decide) dX3_improveTable_58 h (fun v11 hs h => WG_st (st' := []) rfl ?_)
        refine q_aload_n C 1 dX3_improveTable_61 rfl ?_
        refine q_aload C 0 dX3_improveTable_62 rfl ?_
        refine q_iload C 5 dX3_improveTable_64 rfl ?_
        refine q_callV C (CN := RX3) (T := TX3) (N := 2) [va_rf v9, .int x4] [] (fun a0 o2 hs1 hm => m_X3_noteMove hm) lk_X3_46 im_X3_noteMove se_X3_X3_noteMove rfl ⟨(Nat.le_of_ble_eq_true rfl), (Nat.le_of_ble_eq_true rfl)⟩ ⟨(Nat.le_of_ble_eq_true rfl), (Nat.le_of_ble_eq_true rfl)⟩ rfl rfl (by decide) dX3_improveTable_66 h (fun v12 hs h => WG_st (st' := []) rfl ?_)
        refine q_aload_n C 2 dX3_improveTable_69 rfl ?_
        refine q_callV C (CN := RX6) (T := TX6) (N := 6) [] [] (fun a0 o2 hs1 hm => m_X6_costKept hm) lk_X3_30 im_X6_costKept se_X6_X6_costKept rfl ⟨(Nat.le_of_ble_eq_true rfl), (Nat.le_of_ble_eq_true rfl)⟩ ⟨(Nat.le_of_ble_eq_true rfl), (Nat.le_of_ble_eq_true rfl)⟩ rfl rfl (by decide) dX3_improveTable_70 h (fun v13 hs h => WG_st (st' := [.int v13]) rfl ?_)
        refine q_iload_n C 4 dX3_improveTable_73 rfl ?_
        refine q_icmp_ge C 90 dX3_improveTable_74 (by decide) h (fun h => ?_) (fun h => ?_)
        · refine WG.sub [1, 2, 3, 4, 5] rfl ?_
          exact w_j_X3_improveTable_90 C C2 _ _ _ _ _ _ hrec_26 h
        · refine q_aload_n C 2 dX3_improveTable_77 rfl ?_
          refine q_callV C (CN := RX6) (T := TX6) (N := 6) [] [] (fun a0 o2 hs1 hm => m_X6_costKept hm) lk_X3_30 im_X6_costKept se_X6_X6_costKept rfl ⟨(Nat.le_of_ble_eq_true rfl), (Nat.le_of_ble_eq_true rfl)⟩ ⟨(Nat.le_of_ble_eq_true rfl), (Nat.le_of_ble_eq_true rfl)⟩ rfl rfl (by decide) dX3_improveTable_78 h (fun v15 hs h => WG_st (st' := [.int v15]) rfl ?_)
          refine q_istore_n C (fun v16 => [(3, .int v16), (5, va_rf v9), (0, va_rf a0), (1, va_rf a1), (2, .int a2), (4, .int x4)]) dX3_improveTable_81 (by decide) (fun _ => rfl) h (fun v16 h => ?_)
          refine q_aload_n C 3 dX3_improveTable_82 rfl ?_
          refine q_aload_n C 2 dX3_improveTable_83 rfl ?_
          refine q_gR C fl_X3_9 dX3_improveTable_84 h (fun v17 h => ?_)
          refine q_callV C (CN := RX6) (T := TX6) (N := 6) [va_rf v17] [] (fun a0 o2 hs1 hm => m_X6_copyPlaces hm) lk_X3_24 im_X6_copyPlaces se_X6_X6_copyPlaces rfl ⟨(Nat.le_of_ble_eq_true rfl), (Nat.le_of_ble_eq_true rfl)⟩ ⟨(Nat.le_of_ble_eq_true rfl), (Nat.le_of_ble_eq_true rfl)⟩ rfl rfl (by decide) dX3_improveTable_87 h (fun v18 hs h => WG_st (st' := []) rfl ?_)
          refine WG.sub [2, 3, 4, 0, 5] rfl ?_
          exact w_j_X3_improveTable_90 C C2 _ _ _ _ _ _ hrec_26 h
      · refine WG.sub [1, 2] rfl ?_
        exact hk_26_46 _ h
def j_X3_improveTable_96 (a0 : Option Nat) (a1 : Option Nat)   : OO Unit :=
  rcv a0 6 fun r27 => call (f_X3_becomeBest r27 a1) (fun (v26 : Unit) =>
    rtn ()) nox
set_option maxRecDepth 100000 in
set_option maxHeartbeats 4000000 in
theorem w_j_X3_improveTable_96 (C : Cx G l p s m args c RX3 cX3_improveTable 6) (C2 : Cy meth c none) {hs : Hs} (a0 : Option Nat) (a1 : Option Nat)    (h : j_X3_improveTable_96 a0 a1 hs = some (o, hs')) : WG G p l e { frames := 12, cells := 0, slots := 0, locals := 433 } s m args below meth c 6 0 0 (vx_MQ below (QcT G o hs' tvV) (XCT G o hs') args s 0 0 (gA G)) hs [(0, va_rf a0), (1, va_rf a1)] [] 96 := by
  unfold j_X3_improveTable_96 at h
  refine q_aload_n C 0 dX3_improveTable_96 rfl ?_
  refine q_aload_n C 1 dX3_improveTable_97 rfl ?_
  refine q_callV C (CN := RX3) (T := TX3) (N := 2) [va_rf a1] [] (fun a0 o2 hs1 hm => m_X3_becomeBest hm) lk_X3_49 im_X3_becomeBest se_X3_X3_becomeBest rfl ⟨(Nat.le_of_ble_eq_true rfl), (Nat.le_of_ble_eq_true rfl)⟩ ⟨(Nat.le_of_ble_eq_true rfl), (Nat.le_of_ble_eq_true rfl)⟩ rfl rfl (by decide) dX3_improveTable_98 h (fun v26 hs h => WG_st (st' := []) rfl ?_)
  exact q_vret C C2 rfl (Nat.le_of_ble_eq_true rfl) (Nat.le_of_ble_eq_true rfl) dX3_improveTable_101 h
end M_X3_improveTable
def f_X3_improveTable (a0 : Nat) (p1 : Option Nat) (p2 : Int32) : OO Unit :=
    gR (some a0) 6 1 fun v1 =>
    call (f_J7_fill_53178 v1 (-1000 : Int32)) (fun (v2 : Unit) =>
    gR (some a0) 6 0 fun v3 =>
    rcv p1 9 fun r29 => call (f_X6_copyPlaces r29 v3) (fun (v4 : Unit) =>
    rcv p1 9 fun r28 => call (f_X6_costKept r28 ) (fun (v5 : Int32) =>
    lets v5 fun (v6 : Int32) =>
    lets (0 : Int32) fun (v7 : Int32) =>
    L_X3_improveTable_26 (some a0) p1 p2 (j_X3_improveTable_96 (some a0) p1) (j_X3_improveTable_96 (some a0) p1) 100000 v6 v7) nox) nox) nox
set_option maxRecDepth 100000 in
set_option maxHeartbeats 4000000 in
theorem m_X3_improveTable {G : GG} {l : Launch} {a0 : Nat} {p1 : Option Nat} {p2 : Int32} {hs hs' : Hs} {o : Except Nat Unit} (h : f_X3_improveTable a0 p1 p2 hs = some (o, hs')) : CT G l yX3_improveTable cX3_improveTable 6 none 12 433 0 0 [.ref a0, va_rf p1, .int p2] hs o hs' tvV := by
  refine vx_ofW (cc := cX3_improveTable) (maxL := 6) (ret := none) (by decide +kernel) rfl ?_
  intro p e s m args below meth c s₁ B hml hxt hv
  obtain ⟨hav, hR, hKn⟩ := hv
  subst hav
  have hts := atoms_spec (ws := .code yX3_improveTable cX3_improveTable 6 none :: Tg) B.pre
  have C : Cx G l p s m _ c RX3 cX3_improveTable 6 := ⟨B.exec, B.bytes, hml, findClass_of_methodNamed B.named, fun w hw => hts w (List.mem_cons_of_mem _ hw), hKn, fun q hq => Nat.le_trans hR.2.2.1 hq⟩
  have C2 : Cy meth c none := ⟨B.returns, B.notSynchronized, hxt⟩
  have key : WG G p l e { frames := 12, cells := 0, slots := 0, locals := 433 } s m ([.ref a0, va_rf p1, .int p2] : List Value).toArray below meth c 6 0 0 (vx_MQ below (QcT G o hs' tvV) (XCT G o hs') ([.ref a0, va_rf p1, .int p2] : List Value).toArray s 0 0 (gA G)) hs [(0, va_rf (some a0)), (1, va_rf p1), (2, .int p2)] [] 0 := by
    unfold f_X3_improveTable at h
    refine q_aload_n C 0 dX3_improveTable_0 rfl ?_
    refine q_gR C fl_X3_15 dX3_improveTable_1 h (fun v1 h => ?_)
    refine q_sipush C (-1000 : Int32) dX3_improveTable_4 (by decide) ?_
    refine q_callS C [va_rf v1, .int (-1000 : Int32)] [] (fun o2 hs1 hm => m_J7_fill_53178 hm) lk_X3_18 sm_J7_fill_53178 ⟨(Nat.le_of_ble_eq_true rfl), (Nat.le_of_ble_eq_true rfl)⟩ ⟨(Nat.le_of_ble_eq_true rfl), (Nat.le_of_ble_eq_true rfl)⟩ rfl rfl (by decide) dX3_improveTable_7 h (fun v2 hs h => WG_st (st' := []) rfl ?_)
    refine q_aload_n C 1 dX3_improveTable_10 rfl ?_
    refine q_aload_n C 0 dX3_improveTable_11 rfl ?_
    refine q_gR C fl_X3_9 dX3_improveTable_12 h (fun v3 h => ?_)
    refine q_callV C (CN := RX6) (T := TX6) (N := 6) [va_rf v3] [] (fun a0 o2 hs1 hm => m_X6_copyPlaces hm) lk_X3_24 im_X6_copyPlaces se_X6_X6_copyPlaces rfl ⟨(Nat.le_of_ble_eq_true rfl), (Nat.le_of_ble_eq_true rfl)⟩ ⟨(Nat.le_of_ble_eq_true rfl), (Nat.le_of_ble_eq_true rfl)⟩ rfl rfl (by decide) dX3_improveTable_15 h (fun v4 hs h => WG_st (st' := []) rfl ?_)
    refine q_aload_n C 1 dX3_improveTable_18 rfl ?_
    refine q_callV C (CN := RX6) (T := TX6) (N := 6) [] [] (fun a0 o2 hs1 hm => m_X6_costKept hm) lk_X3_30 im_X6_costKept se_X6_X6_costKept rfl ⟨(Nat.le_of_ble_eq_true rfl), (Nat.le_of_ble_eq_true rfl)⟩ ⟨(Nat.le_of_ble_eq_true rfl), (Nat.le_of_ble_eq_true rfl)⟩ rfl rfl (by decide) dX3_improveTable_19 h (fun v5 hs h => WG_st (st' := [.int v5]) rfl ?_)
    refine q_istore_n C (fun v6 => [(3, .int v6), (0, va_rf (some a0)), (1, va_rf p1), (2, .int p2)]) dX3_improveTable_22 (by decide) (fun _ => rfl) h (fun v6 h => ?_)
    refine q_iconst C (0 : Int32) dX3_improveTable_23 (by decide) ?_
    refine q_istore C (fun v7 => [(4, .int v7), (3, .int v6), (0, va_rf (some a0)), (1, va_rf p1), (2, .int p2)]) dX3_improveTable_24 (by decide) (fun _ => rfl) h (fun v7 h => ?_)
    refine WG.sub [2, 3, 4, 1, 0] rfl ?_
    refine w_L_X3_improveTable_26 C C2 _ _ _ _ _ ?_ ?_ _ _ _ _ h
    · intro  hs h
      refine q_goto C 96 dX3_improveTable_46 (by decide) ?_
      exact w_j_X3_improveTable_96 C C2 _ _   h
    · intro  hs h
      exact w_j_X3_improveTable_96 C C2 _ _   h
  rw [lg_entry_eq]
  cases p1 <;> exact key _ _ _ hR va_S.rf ⟨lv_entry _ (n := 6) (Nat.le_of_ble_eq_true rfl), (c1_r (c1_r (c1_i c1_n)))⟩

theorem cd_X4_init : Cond.code yX4_init cX4_init 7 none ∈ Tg := Tg_of (i := 885) (by decide +kernel) (by decide +kernel)
theorem fw_X4_9 : FldW RX4 9 7 7 .int false := ⟨RX4, TX4, 18, RX4, rfl, by decide, wf_X4_9, (Or.inl rfl), gu_X4, tyX4_ok _ (by decide), ⟨tyX4, tyX4_ok⟩, nmX4, rfl, fun z => nomatch z⟩
theorem fw_X4_15 : FldW RX4 15 7 10 (.array .int) true := ⟨RX4, TX4, 18, RX4, rfl, by decide, wf_X4_15, (Or.inl rfl), gu_X4, tyX4_ok _ (by decide), ⟨tyX4, tyX4_ok⟩, nmX4, rfl, fun _ => rfl⟩
theorem fw_X4_19 : FldW RX4 19 7 14 (.array .int) true := ⟨RX4, TX4, 18, RX4, rfl, by decide, wf_X4_19, (Or.inl rfl), gu_X4, tyX4_ok _ (by decide), ⟨tyX4, tyX4_ok⟩, nmX4, rfl, fun _ => rfl⟩
theorem fw_X4_22 : FldW RX4 22 7 15 (.array .int) true := ⟨RX4, TX4, 18, RX4, rfl, by decide, wf_X4_22, (Or.inl rfl), gu_X4, tyX4_ok _ (by decide), ⟨tyX4, tyX4_ok⟩, nmX4, rfl, fun _ => rfl⟩
theorem fw_X4_25 : FldW RX4 25 7 17 (.array .int) true := ⟨RX4, TX4, 18, RX4, rfl, by decide, wf_X4_25, (Or.inl rfl), gu_X4, tyX4_ok _ (by decide), ⟨tyX4, tyX4_ok⟩, nmX4, rfl, fun _ => rfl⟩
theorem wf_X4_28 : Cond.fieldLink RX4 28 RX4 (TX4 0).2.1 (TX4 0).2.2.1 ∈ Tg := Tg_of (i := 887) (by decide +kernel) (by decide +kernel)
theorem fw_X4_28 : FldW RX4 28 7 0 .int true := ⟨RX4, TX4, 18, RX4, rfl, by decide, wf_X4_28, (Or.inl rfl), gu_X4, tyX4_ok _ (by decide), ⟨tyX4, tyX4_ok⟩, nmX4, rfl, fun _ => rfl⟩
theorem fw_X4_31 : FldW RX4 31 7 1 (.object "Termgrid$Group") true := ⟨RX4, TX4, 18, RX4, rfl, by decide, wf_X4_31, (Or.inl rfl), gu_X4, tyX4_ok _ (by decide), ⟨tyX4, tyX4_ok⟩, nmX4, rfl, fun _ => rfl⟩
theorem fw_X4_35 : FldW RX4 35 7 2 (.object "Termgrid$Teacher") true := ⟨RX4, TX4, 18, RX4, rfl, by decide, wf_X4_35, (Or.inl rfl), gu_X4, tyX4_ok _ (by decide), ⟨tyX4, tyX4_ok⟩, nmX4, rfl, fun _ => rfl⟩
theorem fw_X4_39 : FldW RX4 39 7 3 .int true := ⟨RX4, TX4, 18, RX4, rfl, by decide, wf_X4_39, (Or.inl rfl), gu_X4, tyX4_ok _ (by decide), ⟨tyX4, tyX4_ok⟩, nmX4, rfl, fun _ => rfl⟩
theorem fw_X4_42 : FldW RX4 42 7 4 .int true := ⟨RX4, TX4, 18, RX4, rfl, by decide, wf_X4_42, (Or.inl rfl), gu_X4, tyX4_ok _ (by decide), ⟨tyX4, tyX4_ok⟩, nmX4, rfl, fun _ => rfl⟩
theorem fw_X4_45 : FldW RX4 45 7 5 .int true := ⟨RX4, TX4, 18, RX4, rfl, by decide, wf_X4_45, (Or.inl rfl), gu_X4, tyX4_ok _ (by decide), ⟨tyX4, tyX4_ok⟩, nmX4, rfl, fun _ => rfl⟩
theorem fw_X4_53 : FldW RX4 53 7 9 .int true := ⟨RX4, TX4, 18, RX4, rfl, by decide, wf_X4_53, (Or.inl rfl), gu_X4, tyX4_ok _ (by decide), ⟨tyX4, tyX4_ok⟩, nmX4, rfl, fun _ => rfl⟩
theorem mo_X4_3 : Cond.methodLink RX4 3 Lib.objectInit ∈ Tg := Tg_of (i := 886) (by decide +kernel) (by decide +kernel)
section M_X4_init
variable {p : Program} {l : Launch} {e : Env} {s : State} {m : MethodId} {args : Array Value} {below : List Frame} {meth : Method} {c : Code} {G : GG} {o : Except Nat Unit} {hs' : Hs}
end M_X4_init
def f_X4_init (a0 : Nat) (p1 : Int32) (p2 : Option Nat) (p3 : Option Nat) (p4 : Int32) (p5 : Int32) (p6 : Int32) : OO Unit :=
    pI (some a0) 7 7 (-1 : Int32) (
    nwI 0 (8 : Int32) 8 fun q1 =>
    pR (some a0) 7 10 (some q1) (
    nwI 0 (8 : Int32) 8 fun q2 =>
    pR (some a0) 7 14 (some q2) (
    nwI 0 (3 : Int32) 3 fun q3 =>
    pR (some a0) 7 15 (some q3) (
    nwI 0 (5 : Int32) 5 fun q4 =>
    pR (some a0) 7 17 (some q4) (
    pI (some a0) 7 0 p1 (
    pR (some a0) 7 1 p2 (
    pR (some a0) 7 2 p3 (
    pI (some a0) 7 3 p4 (
    pI (some a0) 7 4 p5 (
    pI (some a0) 7 5 p6 (
    call (f_X8_slotsThatMeet (545392672 : Int32) (p5 - (1 : Int32))) (fun (v5 : Int32) =>
    pI (some a0) 7 9 v5 (
    rtn ())) nox)))))))))))
set_option maxRecDepth 100000 in
set_option maxHeartbeats 4000000 in
theorem m_X4_init {G : GG} {l : Launch} {a0 : Nat} {p1 : Int32} {p2 : Option Nat} {p3 : Option Nat} {p4 : Int32} {p5 : Int32} {p6 : Int32} {hs hs' : Hs} {o : Except Nat Unit} (h : f_X4_init a0 p1 p2 p3 p4 p5 p6 hs = some (o, hs')) : CT G l yX4_init cX4_init 7 none 1 24 4 24 [.ref a0, .int p1, va_rf p2, va_rf p3, .int p4, .int p5, .int p6] hs o hs' tvV := by
  refine vx_ofW (cc := cX4_init) (maxL := 7) (ret := none) (by decide +kernel) rfl ?_
  intro p e s m args below meth c s₁ B hml hxt hv
  obtain ⟨hav, hR, hKn⟩ := hv
  subst hav
  have hts := atoms_spec (ws := .code yX4_init cX4_init 7 none :: Tg) B.pre
  have C : Cx G l p s m _ c RX4 cX4_init 7 := ⟨B.exec, B.bytes, hml, findClass_of_methodNamed B.named, fun w hw => hts w (List.mem_cons_of_mem _ hw), hKn, fun q hq => Nat.le_trans hR.2.2.1 hq⟩
  have C2 : Cy meth c none := ⟨B.returns, B.notSynchronized, hxt⟩
  have hin : meth.name = "<init>" := (name_of_methodNamed B.named B.method).1
  have key : WG G p l e { frames := 1, cells := 4, slots := 24, locals := 24 } s m ([.ref a0, .int p1, va_rf p2, va_rf p3, .int p4, .int p5, .int p6] : List Value).toArray below meth c 7 0 0 (vx_MQ below (QcT G o hs' tvV) (XCT G o hs') ([.ref a0, .int p1, va_rf p2, va_rf p3, .int p4, .int p5, .int p6] : List Value).toArray s 4 24 (gA G)) hs [(0, va_rf (some a0)), (1, .int p1), (2, va_rf p2), (3, va_rf p3), (4, .int p4), (5, .int p5), (6, .int p6)] [] 0 := by
    unfold f_X4_init at h
    refine q_aload_n C 0 dX4_init_0 rfl ?_
    refine q_objInit C rfl mo_X4_3 im_objInit cd_objInit (Nat.le_of_ble_eq_true rfl) (Nat.le_of_ble_eq_true rfl) (by decide) dX4_init_1 ?_
    refine q_aload_n C 0 dX4_init_4 rfl ?_
    refine q_iconst C (-1 : Int32) dX4_init_5 (by decide) ?_
    refine q_pI C fw_X4_9 (fun z => nomatch z) dX4_init_6 h (fun hs h => ?_)
    refine q_aload_n C 0 dX4_init_9 rfl ?_
    refine q_bipush C (8 : Int32) dX4_init_10 (by decide) ?_
    refine q_newI C 8 (Nat.le_of_ble_eq_true rfl) ac_0 (Nat.le_of_ble_eq_true rfl) (Nat.le_of_ble_eq_true rfl) dX4_init_12 h (fun q1 hs h => ?_)
    refine q_pR C fw_X4_15 (fun _ => hin) rfl dX4_init_14 h (fun hs h => ?_)
    refine q_aload_n C 0 dX4_init_17 rfl ?_
    refine q_bipush C (8 : Int32) dX4_init_18 (by decide) ?_
    refine q_newI C 8 (Nat.le_of_ble_eq_true rfl) ac_0 (Nat.le_of_ble_eq_true rfl) (Nat.le_of_ble_eq_true rfl) dX4_init_20 h (fun q2 hs h => ?_)
    refine q_pR C fw_X4_19 (fun _ => hin) rfl dX4_init_22 h (fun hs h => ?_)
    refine q_aload_n C 0 dX4_init_25 rfl ?_
    refine q_iconst C (3 : Int32) dX4_init_26 (by decide) ?_
    refine q_newI C 3 (Nat.le_of_ble_eq_true rfl) ac_0 (Nat.le_of_ble_eq_true rfl) (Nat.le_of_ble_eq_true rfl) dX4_init_27 h (fun q3 hs h => ?_)
    refine q_pR C fw_X4_22 (fun _ => hin) rfl dX4_init_29 h (fun hs h => ?_)
    refine q_aload_n C 0 dX4_init_32 rfl ?_
    refine q_iconst C (5 : Int32) dX4_init_33 (by decide) ?_
    refine q_newI C 5 (Nat.le_of_ble_eq_true rfl) ac_0 (Nat.le_of_ble_eq_true rfl) (Nat.le_of_ble_eq_true rfl) dX4_init_34 h (fun q4 hs h => ?_)
    refine q_pR C fw_X4_25 (fun _ => hin) rfl dX4_init_36 h (fun hs h => ?_)
    refine q_aload_n C 0 dX4_init_39 rfl ?_
    refine q_iload_n C 1 dX4_init_40 rfl ?_
    refine q_pI C fw_X4_28 (fun _ => hin) dX4_init_41 h (fun hs h => ?_)
    refine q_aload_n C 0 dX4_init_44 rfl ?_
    refine q_aload_n C 2 dX4_init_45 rfl ?_
    refine q_pR C fw_X4_31 (fun _ => hin) rfl dX4_init_46 h (fun hs h => ?_)
    refine q_aload_n C 0 dX4_init_49 rfl ?_
    refine q_aload_n C 3 dX4_init_50 rfl ?_
    refine q_pR C fw_X4_35 (fun _ => hin) rfl dX4_init_51 h (fun hs h => ?_)
    refine q_aload_n C 0 dX4_init_54 rfl ?_
    refine q_iload C 4 dX4_init_55 rfl ?_
    refine q_pI C fw_X4_39 (fun _ => hin) dX4_init_57 h (fun hs h => ?_)
    refine q_aload_n C 0 dX4_init_60 rfl ?_
    refine q_iload C 5 dX4_init_61 rfl ?_
    refine q_pI C fw_X4_42 (fun _ => hin) dX4_init_63 h (fun hs h => ?_)
    refine q_aload_n C 0 dX4_init_66 rfl ?_
    refine q_iload C 6 dX4_init_67 rfl ?_
    refine q_pI C fw_X4_45 (fun _ => hin) dX4_init_69 h (fun hs h => ?_)
    refine q_aload_n C 0 dX4_init_72 rfl ?_
    refine q_ldc C kc_X4_48 dX4_init_73 ?_
    refine q_iload C 5 dX4_init_75 rfl ?_
    refine q_iconst C (1 : Int32) dX4_init_77 (by decide) ?_
    refine q_isub C dX4_init_78 ?_
    refine q_callSN C [.int (545392672 : Int32), .int (p5 - (1 : Int32))] [va_rf (some a0)] (fun o2 hs1 hm => m_X8_slotsThatMeet hm) lk_X4_49 sm_X8_slotsThatMeet ⟨(Nat.le_of_ble_eq_true rfl), (Nat.le_of_ble_eq_true rfl)⟩ ⟨(Nat.le_of_ble_eq_true rfl), (Nat.le_of_ble_eq_true rfl)⟩ rfl rfl (by simp only [List.map, cat_rf, cat_i, cat_a]; decide) dX4_init_79 h (fun v5 hs h => WG_st (st' := [.int v5, va_rf (some a0)]) rfl ?_)
    refine q_pI C fw_X4_53 (fun _ => hin) dX4_init_82 h (fun hs h => ?_)
    exact q_vret C C2 rfl (Nat.le_of_ble_eq_true rfl) (Nat.le_of_ble_eq_true rfl) dX4_init_85 h
  rw [lg_entry_eq]
  cases p2 <;> cases p3 <;> exact key _ _ _ hR va_S.rf ⟨lv_entry _ (n := 7) (Nat.le_of_ble_eq_true rfl), (c1_r (c1_i (c1_r (c1_r (c1_i (c1_i (c1_i c1_n)))))))⟩

theorem cd_X4_isOn : Cond.code yX4_isOn cX4_isOn 2 (some .boolean) ∈ Tg := Tg_of (i := 515) (by decide +kernel) (by decide +kernel)
section M_X4_isOn
variable {p : Program} {l : Launch} {e : Env} {s : State} {m : MethodId} {args : Array Value} {below : List Frame} {meth : Method} {c : Code} {G : GG} {o : Except Nat Int32} {hs' : Hs}
end M_X4_isOn
def f_X4_isOn (a0 : Nat) (p1 : Int32) : OO Int32 :=
    gR (some a0) 7 6 fun v1 =>
    (if v1 = none then
    retZ (0 : Int32)
    else
    gI (some a0) 7 7 fun v2 =>
    dvz (6 : Int32) (
    (if ¬ (v2 / (6 : Int32)) = p1 then
    retZ (0 : Int32)
    else
    retZ (1 : Int32))))
set_option maxRecDepth 100000 in
set_option maxHeartbeats 4000000 in
theorem m_X4_isOn {G : GG} {l : Launch} {a0 : Nat} {p1 : Int32} {hs hs' : Hs} {o : Except Nat Int32} (h : f_X4_isOn a0 p1 hs = some (o, hs')) : CT G l yX4_isOn cX4_isOn 2 (some .boolean) 0 0 0 0 [.ref a0, .int p1] hs o hs' tvI := by
  refine vx_ofW (cc := cX4_isOn) (maxL := 2) (ret := (some .boolean)) (by decide +kernel) rfl ?_
  intro p e s m args below meth c s₁ B hml hxt hv
  obtain ⟨hav, hR, hKn⟩ := hv
  subst hav
  have hts := atoms_spec (ws := .code yX4_isOn cX4_isOn 2 (some .boolean) :: Tg) B.pre
  have C : Cx G l p s m _ c RX4 cX4_isOn 2 := ⟨B.exec, B.bytes, hml, findClass_of_methodNamed B.named, fun w hw => hts w (List.mem_cons_of_mem _ hw), hKn, fun q hq => Nat.le_trans hR.2.2.1 hq⟩
  have C2 : Cy meth c (some .boolean) := ⟨B.returns, B.notSynchronized, hxt⟩
  have key : WG G p l e { frames := 0, cells := 0, slots := 0, locals := 0 } s m ([.ref a0, .int p1] : List Value).toArray below meth c 2 0 0 (vx_MQ below (QcT G o hs' tvI) (XCT G o hs') ([.ref a0, .int p1] : List Value).toArray s 0 0 (gA G)) hs [(0, va_rf (some a0)), (1, .int p1)] [] 0 := by
    unfold f_X4_isOn at h
    refine q_aload_n C 0 dX4_isOn_0 rfl ?_
    refine q_gR C fl_X4_56 dX4_isOn_1 h (fun v1 h => ?_)
    refine q_ifnull C 22 dX4_isOn_4 (by decide) h (fun h => ?_) (fun h => ?_)
    · refine q_iconst C (0 : Int32) dX4_isOn_22 (by decide) ?_
      exact q_zret C C2 rfl (Nat.le_of_ble_eq_true rfl) (Nat.le_of_ble_eq_true rfl) dX4_isOn_23 h
    · refine q_aload_n C 0 dX4_isOn_7 rfl ?_
      refine q_gI C fl_X4_9 dX4_isOn_8 h (fun v2 h => ?_)
      refine q_bipush C (6 : Int32) dX4_isOn_11 (by decide) ?_
      refine q_idiv C dX4_isOn_13 h (fun h => ?_)
      refine q_iload_n C 1 dX4_isOn_14 rfl ?_
      refine q_icmp_ne C 22 dX4_isOn_15 (by decide) h (fun h => ?_) (fun h => ?_)
      · refine q_iconst C (0 : Int32) dX4_isOn_22 (by decide) ?_
        exact q_zret C C2 rfl (Nat.le_of_ble_eq_true rfl) (Nat.le_of_ble_eq_true rfl) dX4_isOn_23 h
      · refine q_iconst C (1 : Int32) dX4_isOn_18 (by decide) ?_
        refine q_goto C 23 dX4_isOn_19 (by decide) ?_
        exact q_zret C C2 rfl (Nat.le_of_ble_eq_true rfl) (Nat.le_of_ble_eq_true rfl) dX4_isOn_23 h
  rw [lg_entry_eq]
  exact key _ _ _ hR va_S.rf ⟨lv_entry _ (n := 2) (Nat.le_of_ble_eq_true rfl), (c1_r (c1_i c1_n))⟩

theorem cd_X4_hoursNow : Cond.code yX4_hoursNow cX4_hoursNow 1 (some .int) ∈ Tg := Tg_of (i := 489) (by decide +kernel) (by decide +kernel)
section M_X4_hoursNow
variable {p : Program} {l : Launch} {e : Env} {s : State} {m : MethodId} {args : Array Value} {below : List Frame} {meth : Method} {c : Code} {G : GG} {o : Except Nat Int32} {hs' : Hs}
end M_X4_hoursNow
def f_X4_hoursNow (a0 : Nat) : OO Int32 :=
    gR (some a0) 7 6 fun v1 =>
    (if ¬ v1 = none then
    gI (some a0) 7 7 fun v2 =>
    rcv (some a0) 7 fun r4 => call (f_X4_hoursFrom r4 v2) (fun (v3 : Int32) =>
    rtn v3) nox
    else
    rtn (0 : Int32))
set_option maxRecDepth 100000 in
set_option maxHeartbeats 4000000 in
theorem m_X4_hoursNow {G : GG} {l : Launch} {a0 : Nat} {hs hs' : Hs} {o : Except Nat Int32} (h : f_X4_hoursNow a0 hs = some (o, hs')) : CT G l yX4_hoursNow cX4_hoursNow 1 (some .int) 1 21 0 0 [.ref a0] hs o hs' tvI := by
  refine vx_ofW (cc := cX4_hoursNow) (maxL := 1) (ret := (some .int)) (by decide +kernel) rfl ?_
  intro p e s m args below meth c s₁ B hml hxt hv
  obtain ⟨hav, hR, hKn⟩ := hv
  subst hav
  have hts := atoms_spec (ws := .code yX4_hoursNow cX4_hoursNow 1 (some .int) :: Tg) B.pre
  have C : Cx G l p s m _ c RX4 cX4_hoursNow 1 := ⟨B.exec, B.bytes, hml, findClass_of_methodNamed B.named, fun w hw => hts w (List.mem_cons_of_mem _ hw), hKn, fun q hq => Nat.le_trans hR.2.2.1 hq⟩
  have C2 : Cy meth c (some .int) := ⟨B.returns, B.notSynchronized, hxt⟩
  have key : WG G p l e { frames := 1, cells := 0, slots := 0, locals := 21 } s m ([.ref a0] : List Value).toArray below meth c 1 0 0 (vx_MQ below (QcT G o hs' tvI) (XCT G o hs') ([.ref a0] : List Value).toArray s 0 0 (gA G)) hs [(0, va_rf (some a0))] [] 0 := by
    unfold f_X4_hoursNow at h
    refine q_aload_n C 0 dX4_hoursNow_0 rfl ?_
    refine q_gR C fl_X4_56 dX4_hoursNow_1 h (fun v1 h => ?_)
    refine q_ifnonnull C 11 dX4_hoursNow_4 (by decide) h (fun h => ?_) (fun h => ?_)
    · refine q_aload_n C 0 dX4_hoursNow_11 rfl ?_
      refine q_aload_n C 0 dX4_hoursNow_12 rfl ?_
      refine q_gI C fl_X4_9 dX4_hoursNow_13 h (fun v2 h => ?_)
      refine q_callV C (CN := RX4) (T := TX4) (N := 18) [.int v2] [] (fun a0 o2 hs1 hm => m_X4_hoursFrom hm) lk_X4_63 im_X4_hoursFrom se_X4_X4_hoursFrom rfl ⟨(Nat.le_of_ble_eq_true rfl), (Nat.le_of_ble_eq_true rfl)⟩ ⟨(Nat.le_of_ble_eq_true rfl), (Nat.le_of_ble_eq_true rfl)⟩ rfl rfl (by decide) dX4_hoursNow_16 h (fun v3 hs h => WG_st (st' := [.int v3]) rfl ?_)
      exact q_iret C C2 rfl (Nat.le_of_ble_eq_true rfl) (Nat.le_of_ble_eq_true rfl) dX4_hoursNow_19 h
    · refine q_iconst C (0 : Int32) dX4_hoursNow_7 (by decide) ?_
      refine q_goto C 19 dX4_hoursNow_8 (by decide) ?_
      exact q_iret C C2 rfl (Nat.le_of_ble_eq_true rfl) (Nat.le_of_ble_eq_true rfl) dX4_hoursNow_19 h
  rw [lg_entry_eq]
  exact key _ _ _ hR va_S.rf ⟨lv_entry _ (n := 1) (Nat.le_of_ble_eq_true rfl), (c1_r c1_n)⟩

theorem cd_X4_lettersAt : Cond.code yX4_lettersAt cX4_lettersAt 5 (some .int) ∈ Tg := Tg_of (i := 535) (by decide +kernel) (by decide +kernel)
section M_X4_lettersAt
variable {p : Program} {l : Launch} {e : Env} {s : State} {m : MethodId} {args : Array Value} {below : List Frame} {meth : Method} {c : Code} {G : GG} {o : Except Nat Int32} {hs' : Hs}
def j_X4_lettersAt_38 (a0 : Option Nat) (a1 : Int32) (a2 : Option Nat) (a4 : Int32) (s0 : Int32) (s1 : Int32) (rec_5 : Int32 → Int32 → OO Int32) : OO Int32 :=
  lets (s1 ||| s0) fun (v5 : Int32) =>
    lets (a4 + (1 : Int32)) fun (v6 : Int32) =>
    rec_5 v5 v6
set_option maxRecDepth 100000 in
set_option maxHeartbeats 4000000 in
theorem w_j_X4_lettersAt_38 (C : Cx G l p s m args c RX4 cX4_lettersAt 5) (C2 : Cy meth c (some .int)) {hs : Hs} (a0 : Option Nat) (a1 : Int32) (a2 : Option Nat) (a4 : Int32) (s0 : Int32) (s1 : Int32) (rec_5 : Int32 → Int32 → OO Int32) (hrec_5 : ∀ (y3 : Int32) (y4 : Int32) hs, rec_5 y3 y4 hs = some (o, hs') → WG G p l e { frames := 8, cells := 0, slots := 0, locals := 340 } s m args below meth c 5 0 0 (vx_MQ below (QcT G o hs' tvI) (XCT G o hs') args s 0 0 (gA G)) hs [(0, va_rf a0), (1, .int a1), (2, va_rf a2), (3, .int y3), (4, .int y4)] [] 5) (h : j_X4_lettersAt_38 a0 a1 a2 a4 s0 s1 rec_5 hs = some (o, hs')) : WG G p l e { frames := 8, cells := 0, slots := 0, locals := 340 } s m args below meth c 5 0 0 (vx_MQ below (QcT G o hs' tvI) (XCT G o hs') args s 0 0 (gA G)) hs [(0, va_rf a0), (1, .int a1), (2, va_rf a2), (4, .int a4)] [.int s0, .int s1] 38 := by
  unfold j_X4_lettersAt_38 at h
  refine q_ior C dX4_lettersAt_38 ?_
  refine q_istore_n C (fun v5 => [(3, .int v5), (0, va_rf a0), (1, .int a1), (2, va_rf a2), (4, .int a4)]) dX4_lettersAt_39 (by decide) (fun _ => rfl) h (fun v5 h => ?_)
  refine q_iinc C 4 (1 : Int32) (fun v6 => [(4, .int v6), (3, .int v5), (0, va_rf a0), (1, .int a1), (2, va_rf a2)]) dX4_lettersAt_40 rfl (by decide) (by decide) (fun _ => rfl) h (fun v6 h => ?_)
  refine q_goto C 5 dX4_lettersAt_43 (by decide) ?_
  refine WG.sub [2, 3, 4, 1, 0] rfl ?_
  exact hrec_5 _ _ _ h
def L_X4_lettersAt_5 (a0 : Option Nat) (a1 : Int32) (a2 : Option Nat) (k_5_46 : Int32 → OO Int32) : Nat → Int32 → Int32 → OO Int32
  | 0, _, _ => failO
  | n + 1, x3, x4 =>
    (if (10 : Int32) ≤ x4 then
    k_5_46 x3
    else
    rcv a0 7 fun r7 => call (f_X4_barredBy r7 x4 a2) (fun (v3 : Int32) =>
    call (f_X8_has v3 a1) (fun (v4 : Int32) =>
    (if v4 = 0 then
    j_X4_lettersAt_38 a0 a1 a2 x4 (0 : Int32) x3 (L_X4_lettersAt_5 a0 a1 a2 k_5_46 n)
    else
    j_X4_lettersAt_38 a0 a1 a2 x4 (((1 : Int32) <<< (x4 &&& 31))) x3 (L_X4_lettersAt_5 a0 a1 a2 k_5_46 n))) nox) nox)
set_option maxRecDepth 100000 in
set_option maxHeartbeats 4000000 in
theorem w_L_X4_lettersAt_5 (C : Cx G l p s m args c RX4 cX4_lettersAt 5) (C2 : Cy meth c (some .int)) (a0 : Option Nat) (a1 : Int32) (a2 : Option Nat) (k_5_46 : Int32 → OO Int32) (hk_5_46 : ∀ (y3 : Int32) hs, k_5_46 y3 hs = some (o, hs') → WG G p l e { frames := 8, cells := 0, slots := 0, locals := 340 } s m args below meth c 5 0 0 (vx_MQ below (QcT G o hs' tvI) (XCT G o hs') args s 0 0 (gA G)) hs [(3, .int y3)] [] 46) : ∀ (n : Nat) (x3 : Int32) (x4 : Int32) (hs : Hs), L_X4_lettersAt_5 a0 a1 a2 k_5_46 n x3 x4 hs = some (o, hs') → WG G p l e { frames := 8, cells := 0, slots := 0, locals := 340 } s m args below meth c 5 0 0 (vx_MQ below (QcT G o hs' tvI) (XCT G o hs') args s 0 0 (gA G)) hs [(0, va_rf a0), (1, .int a1), (2, va_rf a2), (3, .int x3), (4, .int x4)] [] 5 := by
  intro n
  induction n with
  | zero =>
    intro x3 x4 hs h
    rw [L_X4_lettersAt_5] at h
    exact absurd h failO_e
  | succ n hrec_5 =>
    intro x3 x4 hs h
    rw [L_X4_lettersAt_5] at h
    refine q_iload C 4 dX4_lettersAt_5 rfl ?_
    refine q_ldcS C (tx := "hpokscrtgv") (by decide) rfl dX4_lettersAt_7 ?_
    refine q_strlen C ml_X4_133 ⟨(Nat.le_of_ble_eq_true rfl), (Nat.le_of_ble_eq_true rfl)⟩ ⟨(Nat.le_of_ble_eq_true rfl), (Nat.le_of_ble_eq_true rfl)⟩ (by simp only [List.map, cat_rf, cat_i, cat_a]; decide) dX4_lettersAt_9 ?_
    refine q_icmp_ge C 46 dX4_lettersAt_12 (by decide) h (fun h => ?_) (fun h => ?_)
    · refine WG.sub [3] rfl ?_
      exact hk_5_46 _ _ h
    · refine q_iload_n C 3 dX4_lettersAt_15 rfl ?_
      refine q_aload_n C 0 dX4_lettersAt_16 rfl ?_
      refine q_iload C 4 dX4_lettersAt_17 rfl ?_
      refine q_aload_n C 2 dX4_lettersAt_19 rfl ?_
      refine q_callV C (CN := RX4) (T := TX4) (N := 18) [.int x4, va_rf a2] [.int x3] (fun a0 o2 hs1 hm => m_X4_barredBy hm) lk_X4_127 im_X4_barredBy se_X4_X4_barredBy rfl ⟨(Nat.le_of_ble_eq_true rfl), (Nat.le_of_ble_eq_true rfl)⟩ ⟨(Nat.le_of_ble_eq_true rfl), (Nat.le_of_ble_eq_true rfl)⟩ rfl rfl (by simp only [List.map, cat_rf, cat_i, cat_a]; decide) dX4_lettersAt_20 h (fun v3 hs h => WG_st (st' := [.int v3, .int x3]) rfl ?_)
      refine q_iload_n C 1 dX4_lettersAt_23 rfl ?_
      refine q_callSN C [.int v3, .int a1] [.int x3] (fun o2 hs1 hm => m_X8_has hm) lk_X4_138 sm_X8_has ⟨(Nat.le_of_ble_eq_true rfl), (Nat.le_of_ble_eq_true rfl)⟩ ⟨(Nat.le_of_ble_eq_true rfl), (Nat.le_of_ble_eq_true rfl)⟩ rfl rfl (by simp only [List.map, cat_rf, cat_i, cat_a]; decide) dX4_lettersAt_24 h (fun v4 hs h => WG_st (st' := [.int v4, .int x3]) rfl ?_)
      refine q_if_eq C 37 dX4_lettersAt_27 (by decide) h (fun h => ?_) (fun h => ?_)
      · refine q_iconst C (0 : Int32) dX4_lettersAt_37 (by decide) ?_
        refine WG.sub [0, 1, 2, 4] rfl ?_
        exact w_j_X4_lettersAt_38 C C2 _ _ _ _ _ _ _ hrec_5 h
      · refine q_iconst C (1 : Int32) dX4_lettersAt_30 (by decide) ?_
        refine q_iload C 4 dX4_lettersAt_31 rfl ?_
        refine q_ishl C dX4_lettersAt_33 ?_
        refine q_goto C 38 dX4_lettersAt_34 (by decide) ?_
        refine WG.sub [0, 1, 2, 4] rfl ?_
        exact w_j_X4_lettersAt_38 C C2 _ _ _ _ _ _ _ hrec_5 h
end M_X4_lettersAt
def f_X4_lettersAt (a0 : Nat) (p1 : Int32) (p2 : Option Nat) : OO Int32 :=
    lets (0 : Int32) fun (v1 : Int32) =>
    lets (0 : Int32) fun (v2 : Int32) =>
    L_X4_lettersAt_5 (some a0) p1 p2 (fun (v8 : Int32) => rtn v8) 100000 v1 v2
set_option maxRecDepth 100000 in
set_option maxHeartbeats 4000000 in
theorem m_X4_lettersAt {G : GG} {l : Launch} {a0 : Nat} {p1 : Int32} {p2 : Option Nat} {hs hs' : Hs} {o : Except Nat Int32} (h : f_X4_lettersAt a0 p1 p2 hs = some (o, hs')) : CT G l yX4_lettersAt cX4_lettersAt 5 (some .int) 8 340 0 0 [.ref a0, .int p1, va_rf p2] hs o hs' tvI := by
  refine vx_ofW (cc := cX4_lettersAt) (maxL := 5) (ret := (some .int)) (by decide +kernel) rfl ?_
  intro p e s m args below meth c s₁ B hml hxt hv
  obtain ⟨hav, hR, hKn⟩ := hv
  subst hav
  have hts := atoms_spec (ws := .code yX4_lettersAt cX4_lettersAt 5 (some .int) :: Tg) B.pre
  have C : Cx G l p s m _ c RX4 cX4_lettersAt 5 := ⟨B.exec, B.bytes, hml, findClass_of_methodNamed B.named, fun w hw => hts w (List.mem_cons_of_mem _ hw), hKn, fun q hq => Nat.le_trans hR.2.2.1 hq⟩
  have C2 : Cy meth c (some .int) := ⟨B.returns, B.notSynchronized, hxt⟩
  have key : WG G p l e { frames := 8, cells := 0, slots := 0, locals := 340 } s m ([.ref a0, .int p1, va_rf p2] : List Value).toArray below meth c 5 0 0 (vx_MQ below (QcT G o hs' tvI) (XCT G o hs') ([.ref a0, .int p1, va_rf p2] : List Value).toArray s 0 0 (gA G)) hs [(0, va_rf (some a0)), (1, .int p1), (2, va_rf p2)] [] 0 := by
    unfold f_X4_lettersAt at h
    refine q_iconst C (0 : Int32) dX4_lettersAt_0 (by decide) ?_
    refine q_istore_n C (fun v1 => [(3, .int v1), (0, va_rf (some a0)), (1, .int p1), (2, va_rf p2)]) dX4_lettersAt_1 (by decide) (fun _ => rfl) h (fun v1 h => ?_)
    refine q_iconst C (0 : Int32) dX4_lettersAt_2 (by decide) ?_
    refine q_istore C (fun v2 => [(4, .int v2), (3, .int v1), (0, va_rf (some a0)), (1, .int p1), (2, va_rf p2)]) dX4_lettersAt_3 (by decide) (fun _ => rfl) h (fun v2 h => ?_)
    refine WG.sub [2, 3, 4, 1, 0] rfl ?_
    refine w_L_X4_lettersAt_5 C C2 _ _ _ _ ?_ _ _ _ _ h
    · intro v8 hs h
      refine q_iload_n C 0 dX4_lettersAt_46 rfl ?_
      exact q_iret C C2 rfl (Nat.le_of_ble_eq_true rfl) (Nat.le_of_ble_eq_true rfl) dX4_lettersAt_47 h
  rw [lg_entry_eq]
  cases p2 <;> exact key _ _ _ hR va_S.rf ⟨lv_entry _ (n := 5) (Nat.le_of_ble_eq_true rfl), (c1_r (c1_i (c1_r c1_n)))⟩

