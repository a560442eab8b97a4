theorem cd_X4_forgetOthers : Cond.code yX4_forgetOthers cX4_forgetOthers 2 none ∈ Tg := Tg_of (i := 306) (by decide +kernel) (by decide +kernel)
theorem wf_X4_67 : Cond.fieldLink RX4 67 RX4 (TX4 11).2.1 (TX4 11).2.2.1 ∈ Tg := Tg_of (i := 918) (by decide +kernel) (by decide +kernel)
theorem fw_X4_67 : FldW RX4 67 7 11 .int false := ⟨RX4, TX4, 18, RX4, rfl, by decide, wf_X4_67, (Or.inl rfl), gu_X4, tyX4_ok _ (by decide), ⟨tyX4, tyX4_ok⟩, nmX4, rfl, fun z => nomatch z⟩
theorem wf_X4_70 : Cond.fieldLink RX4 70 RX4 (TX4 12).2.1 (TX4 12).2.2.1 ∈ Tg := Tg_of (i := 919) (by decide +kernel) (by decide +kernel)
theorem fw_X4_70 : FldW RX4 70 7 12 .int false := ⟨RX4, TX4, 18, RX4, rfl, by decide, wf_X4_70, (Or.inl rfl), gu_X4, tyX4_ok _ (by decide), ⟨tyX4, tyX4_ok⟩, nmX4, rfl, fun z => nomatch z⟩
theorem wf_X4_73 : Cond.fieldLink RX4 73 RX4 (TX4 13).2.1 (TX4 13).2.2.1 ∈ Tg := Tg_of (i := 920) (by decide +kernel) (by decide +kernel)
theorem fw_X4_73 : FldW RX4 73 7 13 .int false := ⟨RX4, TX4, 18, RX4, rfl, by decide, wf_X4_73, (Or.inl rfl), gu_X4, tyX4_ok _ (by decide), ⟨tyX4, tyX4_ok⟩, nmX4, rfl, fun z => nomatch z⟩
theorem wf_X4_19 : Cond.fieldLink RX4 19 RX4 (TX4 14).2.1 (TX4 14).2.2.1 ∈ Tg := Tg_of (i := 921) (by decide +kernel) (by decide +kernel)
theorem fl_X4_19 : Fld RX4 19 7 14 (.array .int) := ⟨RX4, TX4, 18, RX4, rfl, by decide, wf_X4_19, (Or.inl rfl), gu_X4, tyX4_ok _ (by decide), ⟨tyX4, tyX4_ok⟩, nmX4⟩
theorem ml_X4_76 : Cond.methodLink RX4 76 yJ7_fill_53178 ∈ Tg := Tg_of (i := 307) (by decide +kernel) (by decide +kernel)
theorem lk_X4_76 : Lk RX4 76 yJ7_fill_53178 cJ7_fill_53178 4 none 2 := ⟨ml_X4_76, cd_J7_fill_53178, iw_J7, by decide +kernel⟩
theorem wf_X4_22 : Cond.fieldLink RX4 22 RX4 (TX4 15).2.1 (TX4 15).2.2.1 ∈ Tg := Tg_of (i := 922) (by decide +kernel) (by decide +kernel)
theorem fl_X4_22 : Fld RX4 22 7 15 (.array .int) := ⟨RX4, TX4, 18, RX4, rfl, by decide, wf_X4_22, (Or.inl rfl), gu_X4, tyX4_ok _ (by decide), ⟨tyX4, tyX4_ok⟩, nmX4⟩
theorem wf_X4_82 : Cond.fieldLink RX4 82 RX4 (TX4 16).2.1 (TX4 16).2.2.1 ∈ Tg := Tg_of (i := 923) (by decide +kernel) (by decide +kernel)
theorem fw_X4_82 : FldW RX4 82 7 16 .int false := ⟨RX4, TX4, 18, RX4, rfl, by decide, wf_X4_82, (Or.inl rfl), gu_X4, tyX4_ok _ (by decide), ⟨tyX4, tyX4_ok⟩, nmX4, rfl, fun z => nomatch z⟩
theorem wf_X4_25 : Cond.fieldLink RX4 25 RX4 (TX4 17).2.1 (TX4 17).2.2.1 ∈ Tg := Tg_of (i := 924) (by decide +kernel) (by decide +kernel)
theorem fl_X4_25 : Fld RX4 25 7 17 (.array .int) := ⟨RX4, TX4, 18, RX4, rfl, by decide, wf_X4_25, (Or.inl rfl), gu_X4, tyX4_ok _ (by decide), ⟨tyX4, tyX4_ok⟩, nmX4⟩
section M_X4_forgetOthers
variable {p : Program} {l : Launch} {e : Env} {s : State} {m : MethodId} {args : Array Value} {below : List Frame} {meth : Method} {c : Code} {G : GG} {o : Except Nat Unit} {hs' : Hs}
end M_X4_forgetOthers
def f_X4_forgetOthers (a0 : Nat) (p1 : Int32) : OO Unit :=
    pI (some a0) 7 11 (((((1 : Int32) <<< (((6 : Int32) * p1) &&& 31))) - (1 : Int32))) (
    pI (some a0) 7 12 (0 : Int32) (
    pI (some a0) 7 13 (0 : Int32) (
    gR (some a0) 7 14 fun v1 =>
    call (f_J7_fill_53178 v1 (0 : Int32)) (fun (v2 : Unit) =>
    gR (some a0) 7 15 fun v3 =>
    call (f_J7_fill_53178 v3 (0 : Int32)) (fun (v4 : Unit) =>
    pI (some a0) 7 16 (0 : Int32) (
    gR (some a0) 7 17 fun v5 =>
    call (f_J7_fill_53178 v5 (0 : Int32)) (fun (v6 : Unit) =>
    rtn ()) nox)) nox) nox)))
set_option maxRecDepth 100000 in
set_option maxHeartbeats 4000000 in
theorem m_X4_forgetOthers {G : GG} {l : Launch} {a0 : Nat} {p1 : Int32} {hs hs' : Hs} {o : Except Nat Unit} (h : f_X4_forgetOthers a0 p1 hs = some (o, hs')) : CT G l yX4_forgetOthers cX4_forgetOthers 2 none 1 23 0 0 [.ref a0, .int p1] hs o hs' tvV := by
  refine vx_ofW (cc := cX4_forgetOthers) (maxL := 2) (ret := none) (by decide +kernel) rfl ?_
  intro p e s m args below meth c s₁ B hml hxt hv
  obtain ⟨hav, hR, hKn⟩ := hv
  subst hav
  have hts := atoms_spec (ws := .code yX4_forgetOthers cX4_forgetOthers 2 none :: Tg) B.pre
  have C : Cx G l p s m _ c RX4 cX4_forgetOthers 2 := ⟨B.exec, B.bytes, hml, findClass_of_methodNamed B.named, fun w hw => hts w (List.mem_cons_of_mem _ hw), hKn, fun q hq => Nat.le_trans hR.2.2.1 hq⟩
  have C2 : Cy meth c none := ⟨B.returns, B.notSynchronized, hxt⟩
  have key : WG G p l e { frames := 1, cells := 0, slots := 0, locals := 23 } s m ([.ref a0, .int p1] : List Value).toArray below meth c 2 0 0 (vx_MQ below (QcT G o hs' tvV) (XCT G o hs') ([.ref a0, .int p1] : List Value).toArray s 0 0 (gA G)) hs [(0, va_rf (some a0)), (1, .int p1)] [] 0 := by
    unfold f_X4_forgetOthers at h
    refine q_aload_n C 0 dX4_forgetOthers_0 rfl ?_
    refine q_iconst C (1 : Int32) dX4_forgetOthers_1 (by decide) ?_
    refine q_bipush C (6 : Int32) dX4_forgetOthers_2 (by decide) ?_
    refine q_iload_n C 1 dX4_forgetOthers_4 rfl ?_
    refine q_imul C dX4_forgetOthers_5 ?_
    refine q_ishl C dX4_forgetOthers_6 ?_
    refine q_iconst C (1 : Int32) dX4_forgetOthers_7 (by decide) ?_
    refine q_isub C dX4_forgetOthers_8 ?_
    refine q_pI C fw_X4_67 (fun z => nomatch z) dX4_forgetOthers_9 h (fun hs h => ?_)
    refine q_aload_n C 0 dX4_forgetOthers_12 rfl ?_
    refine q_iconst C (0 : Int32) dX4_forgetOthers_13 (by decide) ?_
    refine q_pI C fw_X4_70 (fun z => nomatch z) dX4_forgetOthers_14 h (fun hs h => ?_)
    refine q_aload_n C 0 dX4_forgetOthers_17 rfl ?_
    refine q_iconst C (0 : Int32) dX4_forgetOthers_18 (by decide) ?_
    refine q_pI C fw_X4_73 (fun z => nomatch z) dX4_forgetOthers_19 h (fun hs h => ?_)
    refine q_aload_n C 0 dX4_forgetOthers_22 rfl ?_
    refine q_gR C fl_X4_19 dX4_forgetOthers_23 h (fun v1 h => ?_)
    refine q_iconst C (0 : Int32) dX4_forgetOthers_26 (by decide) ?_
    refine q_callS C [va_rf v1, .int (0 : Int32)] [] (fun o2 hs1 hm => m_J7_fill_53178 hm) lk_X4_76 sm_J7_fill_53178 ⟨(Nat.le_of_ble_eq_true rfl), (Nat.le_of_ble_eq_true rfl)⟩ ⟨(Nat.le_of_ble_eq_true rfl), (Nat.le_of_ble_eq_true rfl)⟩ rfl rfl (by decide) dX4_forgetOthers_27 h (fun v2 hs h => WG_st (st' := []) rfl ?_)
    refine q_aload_n C 0 dX4_forgetOthers_30 rfl ?_
    refine q_gR C fl_X4_22 dX4_forgetOthers_31 h (fun v3 h => ?_)
    refine q_iconst C (0 : Int32) dX4_forgetOthers_34 (by decide) ?_
    refine q_callS C [va_rf v3, .int (0 : Int32)] [] (fun o2 hs1 hm => m_J7_fill_53178 hm) lk_X4_76 sm_J7_fill_53178 ⟨(Nat.le_of_ble_eq_true rfl), (Nat.le_of_ble_eq_true rfl)⟩ ⟨(Nat.le_of_ble_eq_true rfl), (Nat.le_of_ble_eq_true rfl)⟩ rfl rfl (by decide) dX4_forgetOthers_35 h (fun v4 hs h => WG_st (st' := []) rfl ?_)
    refine q_aload_n C 0 dX4_forgetOthers_38 rfl ?_
    refine q_iconst C (0 : Int32) dX4_forgetOthers_39 (by decide) ?_
    refine q_pI C fw_X4_82 (fun z => nomatch z) dX4_forgetOthers_40 h (fun hs h => ?_)
    refine q_aload_n C 0 dX4_forgetOthers_43 rfl ?_
    refine q_gR C fl_X4_25 dX4_forgetOthers_44 h (fun v5 h => ?_)
    refine q_iconst C (0 : Int32) dX4_forgetOthers_47 (by decide) ?_
    refine q_callS C [va_rf v5, .int (0 : Int32)] [] (fun o2 hs1 hm => m_J7_fill_53178 hm) lk_X4_76 sm_J7_fill_53178 ⟨(Nat.le_of_ble_eq_true rfl), (Nat.le_of_ble_eq_true rfl)⟩ ⟨(Nat.le_of_ble_eq_true rfl), (Nat.le_of_ble_eq_true rfl)⟩ rfl rfl (by decide) dX4_forgetOthers_48 h (fun v6 hs h => WG_st (st' := []) rfl ?_)
    exact q_vret C C2 rfl (Nat.le_of_ble_eq_true rfl) (Nat.le_of_ble_eq_true rfl) dX4_forgetOthers_51 h
  rw [lg_entry_eq]
  exact key _ _ _ hR va_S.rf ⟨lv_entry _ (n := 2) (Nat.le_of_ble_eq_true rfl), (c1_r (c1_i c1_n))⟩

theorem cd_X4_hoursFrom : Cond.code yX4_hoursFrom cX4_hoursFrom 2 (some .int) ∈ Tg := Tg_of (i := 317) (by decide +kernel) (by decide +kernel)
theorem wf_X4_42 : Cond.fieldLink RX4 42 RX4 (TX4 4).2.1 (TX4 4).2.2.1 ∈ Tg := Tg_of (i := 902) (by decide +kernel) (by decide +kernel)
theorem fl_X4_42 : Fld RX4 42 7 4 .int := ⟨RX4, TX4, 18, RX4, rfl, by decide, wf_X4_42, (Or.inl rfl), gu_X4, tyX4_ok _ (by decide), ⟨tyX4, tyX4_ok⟩, nmX4⟩
section M_X4_hoursFrom
variable {p : Program} {l : Launch} {e : Env} {s : State} {m : MethodId} {args : Array Value} {below : List Frame} {meth : Method} {c : Code} {G : GG} {o : Except Nat Int32} {hs' : Hs}
end M_X4_hoursFrom
def f_X4_hoursFrom (a0 : Nat) (p1 : Int32) : OO Int32 :=
    gI (some a0) 7 4 fun v1 =>
    dvz (6 : Int32) (
    rtn (((((((((1 : Int32) <<< (v1 &&& 31))) - (1 : Int32))) <<< (p1 &&& 31))) &&& (((63 : Int32) <<< ((p1 - (irem p1 (6 : Int32))) &&& 31))))))
set_option maxRecDepth 100000 in
set_option maxHeartbeats 4000000 in
theorem m_X4_hoursFrom {G : GG} {l : Launch} {a0 : Nat} {p1 : Int32} {hs hs' : Hs} {o : Except Nat Int32} (h : f_X4_hoursFrom a0 p1 hs = some (o, hs')) : CT G l yX4_hoursFrom cX4_hoursFrom 2 (some .int) 0 0 0 0 [.ref a0, .int p1] hs o hs' tvI := by
  refine vx_ofW (cc := cX4_hoursFrom) (maxL := 2) (ret := (some .int)) (by decide +kernel) rfl ?_
  intro p e s m args below meth c s₁ B hml hxt hv
  obtain ⟨hav, hR, hKn⟩ := hv
  subst hav
  have hts := atoms_spec (ws := .code yX4_hoursFrom cX4_hoursFrom 2 (some .int) :: Tg) B.pre
  have C : Cx G l p s m _ c RX4 cX4_hoursFrom 2 := ⟨B.exec, B.bytes, hml, findClass_of_methodNamed B.named, fun w hw => hts w (List.mem_cons_of_mem _ hw), hKn, fun q hq => Nat.le_trans hR.2.2.1 hq⟩
  have C2 : Cy meth c (some .int) := ⟨B.returns, B.notSynchronized, hxt⟩
  have key : WG G p l e { frames := 0, cells := 0, slots := 0, locals := 0 } s m ([.ref a0, .int p1] : List Value).toArray below meth c 2 0 0 (vx_MQ below (QcT G o hs' tvI) (XCT G o hs') ([.ref a0, .int p1] : List Value).toArray s 0 0 (gA G)) hs [(0, va_rf (some a0)), (1, .int p1)] [] 0 := by
    unfold f_X4_hoursFrom at h
    refine q_iconst C (1 : Int32) dX4_hoursFrom_0 (by decide) ?_
    refine q_aload_n C 0 dX4_hoursFrom_1 rfl ?_
    refine q_gI C fl_X4_42 dX4_hoursFrom_2 h (fun v1 h => ?_)
    refine q_ishl C dX4_hoursFrom_5 ?_
    refine q_iconst C (1 : Int32) dX4_hoursFrom_6 (by decide) ?_
    refine q_isub C dX4_hoursFrom_7 ?_
    refine q_iload_n C 1 dX4_hoursFrom_8 rfl ?_
    refine q_ishl C dX4_hoursFrom_9 ?_
    refine q_bipush C (63 : Int32) dX4_hoursFrom_10 (by decide) ?_
    refine q_iload_n C 1 dX4_hoursFrom_12 rfl ?_
    refine q_iload_n C 1 dX4_hoursFrom_13 rfl ?_
    refine q_bipush C (6 : Int32) dX4_hoursFrom_14 (by decide) ?_
    refine q_irem C dX4_hoursFrom_16 h (fun h => ?_)
    refine q_isub C dX4_hoursFrom_17 ?_
    refine q_ishl C dX4_hoursFrom_18 ?_
    refine q_iand C dX4_hoursFrom_19 ?_
    exact q_iret C C2 rfl (Nat.le_of_ble_eq_true rfl) (Nat.le_of_ble_eq_true rfl) dX4_hoursFrom_20 h
  rw [lg_entry_eq]
  exact key _ _ _ hR va_S.rf ⟨lv_entry _ (n := 2) (Nat.le_of_ble_eq_true rfl), (c1_r (c1_i c1_n))⟩

theorem cd_X8_slotsThatMeet : Cond.code yX8_slotsThatMeet cX8_slotsThatMeet 5 (some .int) ∈ Tg := Tg_of (i := 320) (by decide +kernel) (by decide +kernel)
theorem kc_X8_444 : Cond.constant RX8 444 (-17043522) ∈ Tg := Tg_of (i := 321) (by decide +kernel) (by decide +kernel)
section M_X8_slotsThatMeet
variable {p : Program} {l : Launch} {e : Env} {s : State} {m : MethodId} {args : Array Value} {below : List Frame} {meth : Method} {c : Code} {G : GG} {o : Except Nat Int32} {hs' : Hs}
def L_X8_slotsThatMeet_7 (a1 : Int32) (k_7_31 : Int32 → OO Int32) : Nat → Int32 → Int32 → Int32 → OO Int32
  | 0, _, _, _ => failO
  | n + 1, x2, x3, x4 =>
    (if a1 ≤ x4 then
    k_7_31 x2
    else
    lets (x2 ||| x3) fun (v4 : Int32) =>
    lets ((ushr (x3 &&& (-17043522 : Int32)) (1 : Int32))) fun (v5 : Int32) =>
    lets (x4 + (1 : Int32)) fun (v6 : Int32) =>
    (L_X8_slotsThatMeet_7 a1 k_7_31 n) v4 v5 v6)
set_option maxRecDepth 100000 in
set_option maxHeartbeats 4000000 in
theorem w_L_X8_slotsThatMeet_7 (C : Cx G l p s m args c RX8 cX8_slotsThatMeet 5) (C2 : Cy meth c (some .int)) (a1 : Int32) (k_7_31 : Int32 → OO Int32) (hk_7_31 : ∀ (y2 : Int32) hs, k_7_31 y2 hs = some (o, hs') → WG G p l e { frames := 0, cells := 0, slots := 0, locals := 0 } s m args below meth c 5 0 0 (vx_MQ below (QcT G o hs' tvI) (XCT G o hs') args s 0 0 (gA G)) hs [(2, .int y2)] [] 31) : ∀ (n : Nat) (x2 : Int32) (x3 : Int32) (x4 : Int32) (hs : Hs), L_X8_slotsThatMeet_7 a1 k_7_31 n x2 x3 x4 hs = some (o, hs') → WG G p l e { frames := 0, cells := 0, slots := 0, locals := 0 } s m args below meth c 5 0 0 (vx_MQ below (QcT G o hs' tvI) (XCT G o hs') args s 0 0 (gA G)) hs [(1, .int a1), (2, .int x2), (3, .int x3), (4, .int x4)] [] 7 := by
  intro n
  induction n with
  | zero =>
    intro x2 x3 x4 hs h
    rw [L_X8_slotsThatMeet_7] at h
    exact absurd h failO_e
  | succ n hrec_7 =>
    intro x2 x3 x4 hs h
    rw [L_X8_slotsThatMeet_7] at h
    refine q_iload C 3 dX8_slotsThatMeet_7 rfl ?_
    refine q_iload_n C 0 dX8_slotsThatMeet_9 rfl ?_
    refine q_icmp_ge C 31 dX8_slotsThatMeet_10 (by decide) h (fun h => ?_) (fun h => ?_)
    · refine WG.sub [1] rfl ?_
      exact hk_7_31 _ _ h
    · refine q_iload_n C 1 dX8_slotsThatMeet_13 rfl ?_
      refine q_iload_n C 2 dX8_slotsThatMeet_14 rfl ?_
      refine q_ior C dX8_slotsThatMeet_15 ?_
      refine q_istore_n C (fun v4 => [(2, .int v4), (1, .int a1), (3, .int x3), (4, .int x4)]) dX8_slotsThatMeet_16 (by decide) (fun _ => rfl) h (fun v4 h => ?_)
      refine q_iload_n C 2 dX8_slotsThatMeet_17 rfl ?_
      refine q_ldcw C kc_X8_444 dX8_slotsThatMeet_18 ?_
      refine q_iand C dX8_slotsThatMeet_21 ?_
      refine q_iconst C (1 : Int32) dX8_slotsThatMeet_22 (by decide) ?_
      refine q_iushr C dX8_slotsThatMeet_23 ?_
      refine q_istore_n C (fun v5 => [(3, .int v5), (2, .int v4), (1, .int a1), (4, .int x4)]) dX8_slotsThatMeet_24 (by decide) (fun _ => rfl) h (fun v5 h => ?_)
      refine q_iinc C 3 (1 : Int32) (fun v6 => [(4, .int v6), (3, .int v5), (2, .int v4), (1, .int a1)]) dX8_slotsThatMeet_25 rfl (by decide) (by decide) (fun _ => rfl) h (fun v6 h => ?_)
      refine q_goto C 7 dX8_slotsThatMeet_28 (by decide) ?_
      refine WG.sub [3, 2, 1, 0] rfl ?_
      exact hrec_7 _ _ _ _ h
end M_X8_slotsThatMeet
def f_X8_slotsThatMeet (p0 : Int32) (p1 : Int32) : OO Int32 :=
    lets (0 : Int32) fun (v1 : Int32) =>
    lets p0 fun (v2 : Int32) =>
    lets (0 : Int32) fun (v3 : Int32) =>
    L_X8_slotsThatMeet_7 p1 (fun (v7 : Int32) => rtn v7) 100000 v1 v2 v3
set_option maxRecDepth 100000 in
set_option maxHeartbeats 4000000 in
theorem m_X8_slotsThatMeet {G : GG} {l : Launch} {p0 : Int32} {p1 : Int32} {hs hs' : Hs} {o : Except Nat Int32} (h : f_X8_slotsThatMeet p0 p1 hs = some (o, hs')) : CT G l yX8_slotsThatMeet cX8_slotsThatMeet 5 (some .int) 0 0 0 0 [.int p0, .int p1] hs o hs' tvI := by
  refine vx_ofW (cc := cX8_slotsThatMeet) (maxL := 5) (ret := (some .int)) (by decide +kernel) rfl ?_
  intro p e s m args below meth c s₁ B hml hxt hv
  obtain ⟨hav, hR, hKn⟩ := hv
  subst hav
  have hts := atoms_spec (ws := .code yX8_slotsThatMeet cX8_slotsThatMeet 5 (some .int) :: Tg) B.pre
  have C : Cx G l p s m _ c RX8 cX8_slotsThatMeet 5 := ⟨B.exec, B.bytes, hml, findClass_of_methodNamed B.named, fun w hw => hts w (List.mem_cons_of_mem _ hw), hKn, fun q hq => Nat.le_trans hR.2.2.1 hq⟩
  have C2 : Cy meth c (some .int) := ⟨B.returns, B.notSynchronized, hxt⟩
  have key : WG G p l e { frames := 0, cells := 0, slots := 0, locals := 0 } s m ([.int p0, .int p1] : List Value).toArray below meth c 5 0 0 (vx_MQ below (QcT G o hs' tvI) (XCT G o hs') ([.int p0, .int p1] : List Value).toArray s 0 0 (gA G)) hs [(0, .int p0), (1, .int p1)] [] 0 := by
    unfold f_X8_slotsThatMeet at h
    refine q_iconst C (0 : Int32) dX8_slotsThatMeet_0 (by decide) ?_
    refine q_istore_n C (fun v1 => [(2, .int v1), (0, .int p0), (1, .int p1)]) dX8_slotsThatMeet_1 (by decide) (fun _ => rfl) h (fun v1 h => ?_)
    refine q_iload_n C 1 dX8_slotsThatMeet_2 rfl ?_
    refine q_istore_n C (fun v2 => [(3, .int v2), (2, .int v1), (0, .int p0), (1, .int p1)]) dX8_slotsThatMeet_3 (by decide) (fun _ => rfl) h (fun v2 h => ?_)
    refine q_iconst C (0 : Int32) dX8_slotsThatMeet_4 (by decide) ?_
    refine q_istore C (fun v3 => [(4, .int v3), (3, .int v2), (2, .int v1), (0, .int p0), (1, .int p1)]) dX8_slotsThatMeet_5 (by decide) (fun _ => rfl) h (fun v3 h => ?_)
    refine WG.sub [4, 2, 1, 0] rfl ?_
    refine w_L_X8_slotsThatMeet_7 C C2 _ _ ?_ _ _ _ _ _ h
    · intro v7 hs h
      refine q_iload_n C 0 dX8_slotsThatMeet_31 rfl ?_
      exact q_iret C C2 rfl (Nat.le_of_ble_eq_true rfl) (Nat.le_of_ble_eq_true rfl) dX8_slotsThatMeet_32 h
  rw [lg_entry_eq]
  exact key _ _ _ hR va_S.rf ⟨lv_entry _ (n := 5) (Nat.le_of_ble_eq_true rfl), (c1_i (c1_i c1_n))⟩

theorem cd_X8_addSlots : Cond.code yX8_addSlots cX8_addSlots 3 none ∈ Tg := Tg_of (i := 324) (by decide +kernel) (by decide +kernel)
section M_X8_addSlots
variable {p : Program} {l : Launch} {e : Env} {s : State} {m : MethodId} {args : Array Value} {below : List Frame} {meth : Method} {c : Code} {G : GG} {o : Except Nat Unit} {hs' : Hs}
end M_X8_addSlots
def f_X8_addSlots (p0 : Option Nat) (p1 : Int32) (p2 : Int32) : OO Unit :=
    (if p1 < 0 then
    rtn ()
    else
    alen p0 fun v1 =>
    (if v1 ≤ p1 then
    rtn ()
    else
    ldI 0 p0 p1 fun v2 =>
    stI p0 p1 (v2 ||| p2) (
    rtn ())))
set_option maxRecDepth 100000 in
set_option maxHeartbeats 4000000 in
theorem m_X8_addSlots {G : GG} {l : Launch} {p0 : Option Nat} {p1 : Int32} {p2 : Int32} {hs hs' : Hs} {o : Except Nat Unit} (h : f_X8_addSlots p0 p1 p2 hs = some (o, hs')) : CT G l yX8_addSlots cX8_addSlots 3 none 0 0 0 0 [va_rf p0, .int p1, .int p2] hs o hs' tvV := by
  refine vx_ofW (cc := cX8_addSlots) (maxL := 3) (ret := none) (by decide +kernel) rfl ?_
  intro p e s m args below meth c s₁ B hml hxt hv
  obtain ⟨hav, hR, hKn⟩ := hv
  subst hav
  have hts := atoms_spec (ws := .code yX8_addSlots cX8_addSlots 3 none :: Tg) B.pre
  have C : Cx G l p s m _ c RX8 cX8_addSlots 3 := ⟨B.exec, B.bytes, hml, findClass_of_methodNamed B.named, fun w hw => hts w (List.mem_cons_of_mem _ hw), hKn, fun q hq => Nat.le_trans hR.2.2.1 hq⟩
  have C2 : Cy meth c none := ⟨B.returns, B.notSynchronized, hxt⟩
  have key : WG G p l e { frames := 0, cells := 0, slots := 0, locals := 0 } s m ([va_rf p0, .int p1, .int p2] : List Value).toArray below meth c 3 0 0 (vx_MQ below (QcT G o hs' tvV) (XCT G o hs') ([va_rf p0, .int p1, .int p2] : List Value).toArray s 0 0 (gA G)) hs [(0, va_rf p0), (1, .int p1), (2, .int p2)] [] 0 := by
    unfold f_X8_addSlots at h
    refine q_iload_n C 1 dX8_addSlots_0 rfl ?_
    refine q_if_lt C 17 dX8_addSlots_1 (by decide) h (fun h => ?_) (fun h => ?_)
    · exact q_vret C C2 rfl (Nat.le_of_ble_eq_true rfl) (Nat.le_of_ble_eq_true rfl) dX8_addSlots_17 h
    · refine q_iload_n C 1 dX8_addSlots_4 rfl ?_
      refine q_aload_n C 0 dX8_addSlots_5 rfl ?_
      refine q_alen C dX8_addSlots_6 h (fun v1 h => ?_)
      refine q_icmp_ge C 17 dX8_addSlots_7 (by decide) h (fun h => ?_) (fun h => ?_)
      · exact q_vret C C2 rfl (Nat.le_of_ble_eq_true rfl) (Nat.le_of_ble_eq_true rfl) dX8_addSlots_17 h
      · refine q_aload_n C 0 dX8_addSlots_10 rfl ?_
        refine q_iload_n C 1 dX8_addSlots_11 rfl ?_
        refine q_dup2 C rfl (cat_rf _) dX8_addSlots_12 ?_
        refine q_iald C dX8_addSlots_13 h (fun v2 h => ?_)
        refine q_iload_n C 2 dX8_addSlots_14 rfl ?_
        refine q_ior C dX8_addSlots_15 ?_
        refine q_iast C dX8_addSlots_16 h (fun hs h => ?_)
        exact q_vret C C2 rfl (Nat.le_of_ble_eq_true rfl) (Nat.le_of_ble_eq_true rfl) dX8_addSlots_17 h
  rw [lg_entry_eq]
  cases p0 <;> exact key _ _ _ hR va_S.rf ⟨lv_entry _ (n := 3) (Nat.le_of_ble_eq_true rfl), (c1_r (c1_i (c1_i c1_n)))⟩

theorem cd_X4_countMate : Cond.code yX4_countMate cX4_countMate 3 none ∈ Tg := Tg_of (i := 329) (by decide +kernel) (by decide +kernel)
theorem wf_X4_9 : Cond.fieldLink RX4 9 RX4 (TX4 7).2.1 (TX4 7).2.2.1 ∈ Tg := Tg_of (i := 911) (by decide +kernel) (by decide +kernel)
theorem fl_X4_9 : Fld RX4 9 7 7 .int := ⟨RX4, TX4, 18, RX4, rfl, by decide, wf_X4_9, (Or.inl rfl), gu_X4, tyX4_ok _ (by decide), ⟨tyX4, tyX4_ok⟩, nmX4⟩
theorem wf_X4_45 : Cond.fieldLink RX4 45 RX4 (TX4 5).2.1 (TX4 5).2.2.1 ∈ Tg := Tg_of (i := 905) (by decide +kernel) (by decide +kernel)
theorem fl_X4_45 : Fld RX4 45 7 5 .int := ⟨RX4, TX4, 18, RX4, rfl, by decide, wf_X4_45, (Or.inl rfl), gu_X4, tyX4_ok _ (by decide), ⟨tyX4, tyX4_ok⟩, nmX4⟩
section M_X4_countMate
variable {p : Program} {l : Launch} {e : Env} {s : State} {m : MethodId} {args : Array Value} {below : List Frame} {meth : Method} {c : Code} {G : GG} {o : Except Nat Unit} {hs' : Hs}
end M_X4_countMate
def f_X4_countMate (a0 : Nat) (p1 : Option Nat) : OO Unit :=
    gI p1 7 7 fun v1 =>
    dvz (6 : Int32) (
    lets (v1 / (6 : Int32)) fun (v2 : Int32) =>
    gI p1 7 5 fun v3 =>
    gI (some a0) 7 5 fun v4 =>
    (if ¬ v3 = v4 then
    rtn ()
    else
    (if v2 < 0 then
    rtn ()
    else
    gR (some a0) 7 17 fun v5 =>
    alen v5 fun v6 =>
    (if v6 ≤ v2 then
    rtn ()
    else
    gR (some a0) 7 17 fun v7 =>
    ldI 0 v7 v2 fun v8 =>
    stI v7 v2 (v8 + (1 : Int32)) (
    rtn ())))))
set_option maxRecDepth 100000 in
set_option maxHeartbeats 4000000 in
theorem m_X4_countMate {G : GG} {l : Launch} {a0 : Nat} {p1 : Option Nat} {hs hs' : Hs} {o : Except Nat Unit} (h : f_X4_countMate a0 p1 hs = some (o, hs')) : CT G l yX4_countMate cX4_countMate 3 none 0 0 0 0 [.ref a0, va_rf p1] hs o hs' tvV := by
  refine vx_ofW (cc := cX4_countMate) (maxL := 3) (ret := none) (by decide +kernel) rfl ?_
  intro p e s m args below meth c s₁ B hml hxt hv
  obtain ⟨hav, hR, hKn⟩ := hv
  subst hav
  have hts := atoms_spec (ws := .code yX4_countMate cX4_countMate 3 none :: Tg) B.pre
  have C : Cx G l p s m _ c RX4 cX4_countMate 3 := ⟨B.exec, B.bytes, hml, findClass_of_methodNamed B.named, fun w hw => hts w (List.mem_cons_of_mem _ hw), hKn, fun q hq => Nat.le_trans hR.2.2.1 hq⟩
  have C2 : Cy meth c none := ⟨B.returns, B.notSynchronized, hxt⟩
  have key : WG G p l e { frames := 0, cells := 0, slots := 0, locals := 0 } s m ([.ref a0, va_rf p1] : List Value).toArray below meth c 3 0 0 (vx_MQ below (QcT G o hs' tvV) (XCT G o hs') ([.ref a0, va_rf p1] : List Value).toArray s 0 0 (gA G)) hs [(0, va_rf (some a0)), (1, va_rf p1)] [] 0 := by
    unfold f_X4_countMate at h
    refine q_aload_n C 1 dX4_countMate_0 rfl ?_
    refine q_gI C fl_X4_9 dX4_countMate_1 h (fun v1 h => ?_)
    refine q_bipush C (6 : Int32) dX4_countMate_4 (by decide) ?_
    refine q_idiv C dX4_countMate_6 h (fun h => ?_)
    refine q_istore_n C (fun v2 => [(2, .int v2), (0, va_rf (some a0)), (1, va_rf p1)]) dX4_countMate_7 (by decide) (fun _ => rfl) h (fun v2 h => ?_)
    refine q_aload_n C 2 dX4_countMate_8 rfl ?_
    refine q_gI C fl_X4_45 dX4_countMate_9 h (fun v3 h => ?_)
    refine q_aload_n C 1 dX4_countMate_12 rfl ?_
    refine q_gI C fl_X4_45 dX4_countMate_13 h (fun v4 h => ?_)
    refine q_icmp_ne C 42 dX4_countMate_16 (by decide) h (fun h => ?_) (fun h => ?_)
    · exact q_vret C C2 rfl (Nat.le_of_ble_eq_true rfl) (Nat.le_of_ble_eq_true rfl) dX4_countMate_42 h
    · refine q_iload_n C 0 dX4_countMate_19 rfl ?_
      refine q_if_lt C 42 dX4_countMate_20 (by decide) h (fun h => ?_) (fun h => ?_)
      · exact q_vret C C2 rfl (Nat.le_of_ble_eq_true rfl) (Nat.le_of_ble_eq_true rfl) dX4_countMate_42 h
      · refine q_iload_n C 0 dX4_countMate_23 rfl ?_
        refine q_aload_n C 1 dX4_countMate_24 rfl ?_
        refine q_gR C fl_X4_25 dX4_countMate_25 h (fun v5 h => ?_)
        refine q_alen C dX4_countMate_28 h (fun v6 h => ?_)
        refine q_icmp_ge C 42 dX4_countMate_29 (by decide) h (fun h => ?_) (fun h => ?_)
        · exact q_vret C C2 rfl (Nat.le_of_ble_eq_true rfl) (Nat.le_of_ble_eq_true rfl) dX4_countMate_42 h
        · refine q_aload_n C 1 dX4_countMate_32 rfl ?_
          refine q_gR C fl_X4_25 dX4_countMate_33 h (fun v7 h => ?_)
          refine q_iload_n C 0 dX4_countMate_36 rfl ?_
          refine q_dup2 C rfl (cat_rf _) dX4_countMate_37 ?_
          refine q_iald C dX4_countMate_38 h (fun v8 h => ?_)
          refine q_iconst C (1 : Int32) dX4_countMate_39 (by decide) ?_
          refine q_iadd C dX4_countMate_40 ?_
          refine q_iast C dX4_countMate_41 h (fun hs h => ?_)
          exact q_vret C C2 rfl (Nat.le_of_ble_eq_true rfl) (Nat.le_of_ble_eq_true rfl) dX4_countMate_42 h
  rw [lg_entry_eq]
  cases p1 <;> exact key _ _ _ hR va_S.rf ⟨lv_entry _ (n := 3) (Nat.le_of_ble_eq_true rfl), (c1_r (c1_r c1_n))⟩

theorem cd_X4_slotsTouching : Cond.code yX4_slotsTouching cX4_slotsTouching 5 (some .int) ∈ Tg := Tg_of (i := 333) (by decide +kernel) (by decide +kernel)
section M_X4_slotsTouching
variable {p : Program} {l : Launch} {e : Env} {s : State} {m : MethodId} {args : Array Value} {below : List Frame} {meth : Method} {c : Code} {G : GG} {o : Except Nat Int32} {hs' : Hs}
def j_X4_slotsTouching_34 (a0 : Option Nat) (a1 : Option Nat) (a2 : Int32) (s0 : Int32)  : OO Int32 :=
  lets s0 fun (v4 : Int32) =>
    gI a0 7 4 fun v5 =>
    (if a2 < v5 then
    lets (0 : Int32) fun (v6 : Int32) =>
    rtn (v4 ||| v6)
    else
    gI a1 7 7 fun v7 =>
    gI a0 7 4 fun v8 =>
    lets (((1 : Int32) <<< ((v7 - v8) &&& 31))) fun (v9 : Int32) =>
    rtn (v4 ||| v9))
set_option maxRecDepth 100000 in
set_option maxHeartbeats 4000000 in
theorem w_j_X4_slotsTouching_34 (C : Cx G l p s m args c RX4 cX4_slotsTouching 5) (C2 : Cy meth c (some .int)) {hs : Hs} (a0 : Option Nat) (a1 : Option Nat) (a2 : Int32) (s0 : Int32)   (h : j_X4_slotsTouching_34 a0 a1 a2 s0 hs = some (o, hs')) : WG G p l e { frames := 0, cells := 0, slots := 0, locals := 0 } s m args below meth c 5 0 0 (vx_MQ below (QcT G o hs' tvI) (XCT G o hs') args s 0 0 (gA G)) hs [(0, va_rf a0), (1, va_rf a1), (2, .int a2)] [.int s0] 34 := by
  unfold j_X4_slotsTouching_34 at h
  refine q_istore_n C (fun v4 => [(3, .int v4), (0, va_rf a0), (1, va_rf a1), (2, .int a2)]) dX4_slotsTouching_34 (by decide) (fun _ => rfl) h (fun v4 h => ?_)
  refine q_iload_n C 3 dX4_slotsTouching_35 rfl ?_
  refine q_aload_n C 1 dX4_slotsTouching_36 rfl ?_
  refine q_gI C fl_X4_42 dX4_slotsTouching_37 h (fun v5 h => ?_)
  refine q_icmp_lt C 57 dX4_slotsTouching_40 (by decide) h (fun h => ?_) (fun h => ?_)
  · refine q_iconst C (0 : Int32) dX4_slotsTouching_57 (by decide) ?_
    refine q_istore C (fun v6 => [(4, .int v6), (3, .int v4), (0, va_rf a0), (1, va_rf a1), (2, .int a2)]) dX4_slotsTouching_58 (by decide) (fun _ => rfl) h (fun v6 h => ?_)
    refine q_iload_n C 1 dX4_slotsTouching_60 rfl ?_
    refine q_iload C 0 dX4_slotsTouching_61 rfl ?_
    refine q_ior C dX4_slotsTouching_63 ?_
    exact q_iret C C2 rfl (Nat.le_of_ble_eq_true rfl) (Nat.le_of_ble_eq_true rfl) dX4_slotsTouching_64 h
  · refine q_iconst C (1 : Int32) dX4_slotsTouching_43 (by decide) ?_
    refine q_aload_n C 2 dX4_slotsTouching_44 rfl ?_
    refine q_gI C fl_X4_9 dX4_slotsTouching_45 h (fun v7 h => ?_)
    refine q_aload_n C 1 dX4_slotsTouching_48 rfl ?_
    refine q_gI C fl_X4_42 dX4_slotsTouching_49 h (fun v8 h => ?_)
    refine q_isub C dX4_slotsTouching_52 ?_
    refine q_ishl C dX4_slotsTouching_53 ?_
    refine q_goto C 58 dX4_slotsTouching_54 (by decide) ?_
    refine q_istore C (fun v9 => [(4, .int v9), (3, .int v4), (0, va_rf a0), (1, va_rf a1), (2, .int a2)]) dX4_slotsTouching_58 (by decide) (fun _ => rfl) h (fun v9 h => ?_)
    refine q_iload_n C 1 dX4_slotsTouching_60 rfl ?_
    refine q_iload C 0 dX4_slotsTouching_61 rfl ?_
    refine q_ior C dX4_slotsTouching_63 ?_
    exact q_iret C C2 rfl (Nat.le_of_ble_eq_true rfl) (Nat.le_of_ble_eq_true rfl) dX4_slotsTouching_64 h
end M_X4_slotsTouching
def f_X4_slotsTouching (a0 : Nat) (p1 : Option Nat) : OO Int32 :=
    gI p1 7 7 fun v1 =>
    dvz (6 : Int32) (
    lets (irem v1 (6 : Int32)) fun (v2 : Int32) =>
    gI p1 7 4 fun v3 =>
    (if (6 : Int32) ≤ (v2 + v3) then
    j_X4_slotsTouching_34 (some a0) p1 v2 (0 : Int32)
    else
    gI p1 7 7 fun v10 =>
    gI p1 7 4 fun v11 =>
    j_X4_slotsTouching_34 (some a0) p1 v2 (((1 : Int32) <<< ((v10 + v11) &&& 31)))))
set_option maxRecDepth 100000 in
set_option maxHeartbeats 4000000 in
theorem m_X4_slotsTouching {G : GG} {l : Launch} {a0 : Nat} {p1 : Option Nat} {hs hs' : Hs} {o : Except Nat Int32} (h : f_X4_slotsTouching a0 p1 hs = some (o, hs')) : CT G l yX4_slotsTouching cX4_slotsTouching 5 (some .int) 0 0 0 0 [.ref a0, va_rf p1] hs o hs' tvI := by
  refine vx_ofW (cc := cX4_slotsTouching) (maxL := 5) (ret := (some .int)) (by decide +kernel) rfl ?_
  intro p e s m args below meth c s₁ B hml hxt hv
  obtain ⟨hav, hR, hKn⟩ := hv
  subst hav
  have hts := atoms_spec (ws := .code yX4_slotsTouching cX4_slotsTouching 5 (some .int) :: Tg) B.pre
  have C : Cx G l p s m _ c RX4 cX4_slotsTouching 5 := ⟨B.exec, B.bytes, hml, findClass_of_methodNamed B.named, fun w hw => hts w (List.mem_cons_of_mem _ hw), hKn, fun q hq => Nat.le_trans hR.2.2.1 hq⟩
  have C2 : Cy meth c (some .int) := ⟨B.returns, B.notSynchronized, hxt⟩
  have key : WG G p l e { frames := 0, cells := 0, slots := 0, locals := 0 } s m ([.ref a0, va_rf p1] : List Value).toArray below meth c 5 0 0 (vx_MQ below (QcT G o hs' tvI) (XCT G o hs') ([.ref a0, va_rf p1] : List Value).toArray s 0 0 (gA G)) hs [(0, va_rf (some a0)), (1, va_rf p1)] [] 0 := by
    unfold f_X4_slotsTouching at h
    refine q_aload_n C 1 dX4_slotsTouching_0 rfl ?_
    refine q_gI C fl_X4_9 dX4_slotsTouching_1 h (fun v1 h => ?_)
    refine q_bipush C (6 : Int32) dX4_slotsTouching_4 (by decide) ?_
    refine q_irem C dX4_slotsTouching_6 h (fun h => ?_)
    refine q_istore_n C (fun v2 => [(2, .int v2), (0, va_rf (some a0)), (1, va_rf p1)]) dX4_slotsTouching_7 (by decide) (fun _ => rfl) h (fun v2 h => ?_)
    refine q_iload_n C 0 dX4_slotsTouching_8 rfl ?_
    refine q_aload_n C 2 dX4_slotsTouching_9 rfl ?_
    refine q_gI C fl_X4_42 dX4_slotsTouching_10 h (fun v3 h => ?_)
    refine q_iadd C dX4_slotsTouching_13 ?_
    refine q_bipush C (6 : Int32) dX4_slotsTouching_14 (by decide) ?_
    refine q_icmp_ge C 33 dX4_slotsTouching_16 (by decide) h (fun h => ?_) (fun h => ?_)
    · refine q_iconst C (0 : Int32) dX4_slotsTouching_33 (by decide) ?_
      refine WG.sub [1, 2, 0] rfl ?_
      exact w_j_X4_slotsTouching_34 C C2 _ _ _ _   h
    · refine q_iconst C (1 : Int32) dX4_slotsTouching_19 (by decide) ?_
      refine q_aload_n C 2 dX4_slotsTouching_20 rfl ?_
      refine q_gI C fl_X4_9 dX4_slotsTouching_21 h (fun v10 h => ?_)
      refine q_aload_n C 2 dX4_slotsTouching_24 rfl ?_
      refine q_gI C fl_X4_42 dX4_slotsTouching_25 h (fun v11 h => ?_)
      refine q_iadd C dX4_slotsTouching_28 ?_
      refine q_ishl C dX4_slotsTouching_29 ?_
      refine q_goto C 34 dX4_slotsTouching_30 (by decide) ?_
      refine WG.sub [1, 2, 0] rfl ?_
      exact w_j_X4_slotsTouching_34 C C2 _ _ _ _   h
  rw [lg_entry_eq]
  cases p1 <;> exact key _ _ _ hR va_S.rf ⟨lv_entry _ (n := 5) (Nat.le_of_ble_eq_true rfl), (c1_r (c1_r c1_n))⟩

theorem cd_X4_addWay : Cond.code yX4_addWay cX4_addWay 4 none ∈ Tg := Tg_of (i := 337) (by decide +kernel) (by decide +kernel)
section M_X4_addWay
variable {p : Program} {l : Launch} {e : Env} {s : State} {m : MethodId} {args : Array Value} {below : List Frame} {meth : Method} {c : Code} {G : GG} {o : Except Nat Unit} {hs' : Hs}
def j_X4_addWay_28 (a0 : Option Nat) (a1 : Int32) (a2 : Int32) (a3 : Int32) (s0 : Int32) (s1 : Int32) (s2 : Int32) (s3 : Option Nat) (rec_2 : Int32 → OO Unit) : OO Unit :=
  stI s3 s2 (s1 ||| s0) (
    lets (a3 + (1 : Int32)) fun (v6 : Int32) =>
    rec_2 v6)
set_option maxRecDepth 100000 in
set_option maxHeartbeats 4000000 in
theorem w_j_X4_addWay_28 (C : Cx G l p s m args c RX4 cX4_addWay 4) (C2 : Cy meth c none) {hs : Hs} (a0 : Option Nat) (a1 : Int32) (a2 : Int32) (a3 : Int32) (s0 : Int32) (s1 : Int32) (s2 : Int32) (s3 : Option Nat) (rec_2 : Int32 → OO Unit) (hrec_2 : ∀ (y3 : Int32) hs, rec_2 y3 hs = some (o, hs') → WG G p l e { frames := 0, cells := 0, slots := 0, locals := 0 } s m args below meth c 4 0 0 (vx_MQ below (QcT G o hs' tvV) (XCT G o hs') args s 0 0 (gA G)) hs [(0, va_rf a0), (1, .int a1), (2, .int a2), (3, .int y3)] [] 2) (h : j_X4_addWay_28 a0 a1 a2 a3 s0 s1 s2 s3 rec_2 hs = some (o, hs')) : WG G p l e { frames := 0, cells := 0, slots := 0, locals := 0 } s m args below meth c 4 0 0 (vx_MQ below (QcT G o hs' tvV) (XCT G o hs') args s 0 0 (gA G)) hs [(0, va_rf a0), (1, .int a1), (2, .int a2), (3, .int a3)] [.int s0, .int s1, .int s2, va_rf s3] 28 := by
  unfold j_X4_addWay_28 at h
  refine q_ior C dX4_addWay_28 ?_
  refine q_iast C dX4_addWay_29 h (fun hs h => ?_)
  refine q_iinc C 3 (1 : Int32) (fun v6 => [(3, .int v6), (0, va_rf a0), (1, .int a1), (2, .int a2)]) dX4_addWay_30 rfl (by decide) (by decide) (fun _ => rfl) h (fun v6 h => ?_)
  refine q_goto C 2 dX4_addWay_33 (by decide) ?_
  refine WG.sub [1, 2, 3, 0] rfl ?_
  exact hrec_2 _ _ h
def L_X4_addWay_2 (a0 : Option Nat) (a1 : Int32) (a2 : Int32) (k_2_36 : OO Unit) : Nat → Int32 → OO Unit
  | 0, _ => failO
  | n + 1, x3 =>
    gR a0 7 15 fun v2 =>
    alen v2 fun v3 =>
    (if v3 ≤ x3 then
    k_2_36
    else
    gR a0 7 15 fun v4 =>
    ldI 0 v4 x3 fun v5 =>
    (if ¬ x3 = a1 then
    j_X4_addWay_28 a0 a1 a2 x3 a2 v5 x3 v4 (L_X4_addWay_2 a0 a1 a2 k_2_36 n)
    else
    j_X4_addWay_28 a0 a1 a2 x3 (0 : Int32) v5 x3 v4 (L_X4_addWay_2 a0 a1 a2 k_2_36 n)))
set_option maxRecDepth 100000 in
set_option maxHeartbeats 4000000 in
theorem w_L_X4_addWay_2 (C : Cx G l p s m args c RX4 cX4_addWay 4) (C2 : Cy meth c none) (a0 : Option Nat) (a1 : Int32) (a2 : Int32) (k_2_36 : OO Unit) (hk_2_36 : ∀ hs, k_2_36  hs = some (o, hs') → WG G p l e { frames := 0, cells := 0, slots := 0, locals := 0 } s m args below meth c 4 0 0 (vx_MQ below (QcT G o hs' tvV) (XCT G o hs') args s 0 0 (gA G)) hs [] [] 36) : ∀ (n : Nat) (x3 : Int32) (hs : Hs), L_X4_addWay_2 a0 a1 a2 k_2_36 n x3 hs = some (o, hs') → WG G p l e { frames := 0, cells := 0, slots := 0, locals := 0 } s m args below meth c 4 0 0 (vx_MQ below (QcT G o hs' tvV) (XCT G o hs') args s 0 0 (gA G)) hs [(0, va_rf a0), (1, .int a1), (2, .int a2), (3, .int x3)] [] 2 := by
  intro n
  induction n with
  | zero =>
    intro x3 hs h
    rw [L_X4_addWay_2] at h
    exact absurd h failO_e
  | succ n hrec_2 =>
    intro x3 hs h
    rw [L_X4_addWay_2] at h
    refine q_iload_n C 3 dX4_addWay_2 rfl ?_
    refine q_aload_n C 0 dX4_addWay_3 rfl ?_
    refine q_gR C fl_X4_22 dX4_addWay_4 h (fun v2 h => ?_)
    refine q_alen C dX4_addWay_7 h (fun v3 h => ?_)
    refine q_icmp_ge C 36 dX4_addWay_8 (by decide) h (fun h => ?_) (fun h => ?_)
    · refine WG.sub [] rfl ?_
      exact hk_2_36 _ h
    · refine q_aload_n C 0 dX4_addWay_11 rfl ?_
      refine q_gR C fl_X4_22 dX4_addWay_12 h (fun v4 h => ?_)
      refine q_iload_n C 3 dX4_addWay_15 rfl ?_
      refine q_dup2 C rfl (cat_rf _) dX4_addWay_16 ?_
      refine q_iald C dX4_addWay_17 h (fun v5 h => ?_)
      refine q_iload_n C 3 dX4_addWay_18 rfl ?_
      refine q_iload_n C 1 dX4_addWay_19 rfl ?_
      refine q_icmp_ne C 27 dX4_addWay_20 (by decide) h (fun h => ?_) (fun h => ?_)
      · refine q_iload_n C 2 dX4_addWay_27 rfl ?_
        exact w_j_X4_addWay_28 C C2 _ _ _ _ _ _ _ _ _ hrec_2 h
      · refine q_iconst C (0 : Int32) dX4_addWay_23 (by decide) ?_
        refine q_goto C 28 dX4_addWay_24 (by decide) ?_
        exact w_j_X4_addWay_28 C C2 _ _ _ _ _ _ _ _ _ hrec_2 h
end M_X4_addWay
def f_X4_addWay (a0 : Nat) (p1 : Int32) (p2 : Int32) : OO Unit :=
    lets (0 : Int32) fun (v1 : Int32) =>
    L_X4_addWay_2 (some a0) p1 p2 (rtn ()) 100000 v1
set_option maxRecDepth 100000 in
set_option maxHeartbeats 4000000 in
theorem m_X4_addWay {G : GG} {l : Launch} {a0 : Nat} {p1 : Int32} {p2 : Int32} {hs hs' : Hs} {o : Except Nat Unit} (h : f_X4_addWay a0 p1 p2 hs = some (o, hs')) : CT G l yX4_addWay cX4_addWay 4 none 0 0 0 0 [.ref a0, .int p1, .int p2] hs o hs' tvV := by
  refine vx_ofW (cc := cX4_addWay) (maxL := 4) (ret := none) (by decide +kernel) rfl ?_
  intro p e s m args below meth c s₁ B hml hxt hv
  obtain ⟨hav, hR, hKn⟩ := hv
  subst hav
  have hts := atoms_spec (ws := .code yX4_addWay cX4_addWay 4 none :: Tg) B.pre
  have C : Cx G l p s m _ c RX4 cX4_addWay 4 := ⟨B.exec, B.bytes, hml, findClass_of_methodNamed B.named, fun w hw => hts w (List.mem_cons_of_mem _ hw), hKn, fun q hq => Nat.le_trans hR.2.2.1 hq⟩
  have C2 : Cy meth c none := ⟨B.returns, B.notSynchronized, hxt⟩
  have key : WG G p l e { frames := 0, cells := 0, slots := 0, locals := 0 } s m ([.ref a0, .int p1, .int p2] : List Value).toArray below meth c 4 0 0 (vx_MQ below (QcT G o hs' tvV) (XCT G o hs') ([.ref a0, .int p1, .int p2] : List Value).toArray s 0 0 (gA G)) hs [(0, va_rf (some a0)), (1, .int p1), (2, .int p2)] [] 0 := by
    unfold f_X4_addWay at h
    refine q_iconst C (0 : Int32) dX4_addWay_0 (by decide) ?_
    refine q_istore_n C (fun v1 => [(3, .int v1), (0, va_rf (some a0)), (1, .int p1), (2, .int p2)]) dX4_addWay_1 (by decide) (fun _ => rfl) h (fun v1 h => ?_)
    refine WG.sub [1, 2, 3, 0] rfl ?_
    refine w_L_X4_addWay_2 C C2 _ _ _ _ ?_ _ _ _ h
    · intro  hs h
      exact q_vret C C2 rfl (Nat.le_of_ble_eq_true rfl) (Nat.le_of_ble_eq_true rfl) dX4_addWay_36 h
  rw [lg_entry_eq]
  exact key _ _ _ hR va_S.rf ⟨lv_entry _ (n := 4) (Nat.le_of_ble_eq_true rfl), (c1_r (c1_i (c1_i c1_n)))⟩

theorem cd_X4_see : Cond.code yX4_see cX4_see 5 none ∈ Tg := Tg_of (i := 313) (by decide +kernel) (by decide +kernel)
theorem wf_X4_56 : Cond.fieldLink RX4 56 RX4 (TX4 6).2.1 (TX4 6).2.2.1 ∈ Tg := Tg_of (i := 908) (by decide +kernel) (by decide +kernel)
theorem fl_X4_56 : Fld RX4 56 7 6 (.object "Termgrid$Room") := ⟨RX4, TX4, 18, RX4, rfl, by decide, wf_X4_56, (Or.inl rfl), gu_X4, tyX4_ok _ (by decide), ⟨tyX4, tyX4_ok⟩, nmX4⟩
theorem iw_X4 : Cond.initialized RX4 ∈ Tg := Tg_of (i := 106) (by decide +kernel) (by decide +kernel)
theorem ml_X4_63 : Cond.methodLink RX4 63 yX4_hoursFrom ∈ Tg := Tg_of (i := 314) (by decide +kernel) (by decide +kernel)
theorem lk_X4_63 : Lk RX4 63 yX4_hoursFrom cX4_hoursFrom 2 (some .int) 1 := ⟨ml_X4_63, cd_X4_hoursFrom, iw_X4, by decide +kernel⟩
theorem lk_X4_49 : LkN RX4 49 yX8_slotsThatMeet "Termgrid" cX8_slotsThatMeet 5 (some .int) 2 := ⟨by decide +kernel, cd_X8_slotsThatMeet, iw_X8, by decide +kernel⟩
theorem wf_X4_60 : Cond.fieldLink RX4 60 RX5 (TX5 0).2.1 (TX5 0).2.2.1 ∈ Tg := Tg_of (i := 682) (by decide +kernel) (by decide +kernel)
theorem fl_X4_60 : Fld RX4 60 8 0 .int := ⟨RX5, TX5, 5, RX5, rfl, by decide, wf_X4_60, (Or.inl rfl), gu_X5, tyX5_ok _ (by decide), ⟨tyX5, tyX5_ok⟩, nmX5⟩
theorem lk_X4_85 : LkN RX4 85 yX8_addSlots "Termgrid" cX8_addSlots 3 none 3 := ⟨by decide +kernel, cd_X8_addSlots, iw_X8, by decide +kernel⟩
theorem wf_X4_35 : Cond.fieldLink RX4 35 RX4 (TX4 2).2.1 (TX4 2).2.2.1 ∈ Tg := Tg_of (i := 897) (by decide +kernel) (by decide +kernel)
theorem fl_X4_35 : Fld RX4 35 7 2 (.object "Termgrid$Teacher") := ⟨RX4, TX4, 18, RX4, rfl, by decide, wf_X4_35, (Or.inl rfl), gu_X4, tyX4_ok _ (by decide), ⟨tyX4, tyX4_ok⟩, nmX4⟩
theorem wf_X4_31 : Cond.fieldLink RX4 31 RX4 (TX4 1).2.1 (TX4 1).2.2.1 ∈ Tg := Tg_of (i := 893) (by decide +kernel) (by decide +kernel)
theorem fl_X4_31 : Fld RX4 31 7 1 (.object "Termgrid$Group") := ⟨RX4, TX4, 18, RX4, rfl, by decide, wf_X4_31, (Or.inl rfl), gu_X4, tyX4_ok _ (by decide), ⟨tyX4, tyX4_ok⟩, nmX4⟩
theorem wf_X4_93 : Cond.fieldLink RX4 93 RX5 (TX5 1).2.1 (TX5 1).2.2.1 ∈ Tg := Tg_of (i := 684) (by decide +kernel) (by decide +kernel)
theorem fl_X4_93 : Fld RX4 93 8 1 .int := ⟨RX5, TX5, 5, RX5, rfl, by decide, wf_X4_93, (Or.inl rfl), gu_X5, tyX5_ok _ (by decide), ⟨tyX5, tyX5_ok⟩, nmX5⟩
theorem ml_X4_96 : Cond.methodLink RX4 96 yX4_slotsTouching ∈ Tg := Tg_of (i := 330) (by decide +kernel) (by decide +kernel)
theorem lk_X4_96 : Lk RX4 96 yX4_slotsTouching cX4_slotsTouching 5 (some .int) 1 := ⟨ml_X4_96, cd_X4_slotsTouching, iw_X4, by decide +kernel⟩
theorem ml_X4_100 : Cond.methodLink RX4 100 yX4_addWay ∈ Tg := Tg_of (i := 334) (by decide +kernel) (by decide +kernel)
theorem lk_X4_100 : Lk RX4 100 yX4_addWay cX4_addWay 4 none 2 := ⟨ml_X4_100, cd_X4_addWay, iw_X4, by decide +kernel⟩
theorem im_X4_addWay : Cond.instanceMethod yX4_addWay ∈ Tg := Tg_of (i := 336) (by decide +kernel) (by decide +kernel)
theorem se_X4_X4_addWay : Cond.selects RX4 yX4_addWay yX4_addWay ∈ Tg := Tg_of (i := 2) (by decide +kernel) (by decide +kernel)
theorem im_X4_slotsTouching : Cond.instanceMethod yX4_slotsTouching ∈ Tg := Tg_of (i := 332) (by decide +kernel) (by decide +kernel)
theorem se_X4_X4_slotsTouching : Cond.selects RX4 yX4_slotsTouching yX4_slotsTouching ∈ Tg := Tg_of (i := 1) (by decide +kernel) (by decide +kernel)
theorem fl_X4_73 : Fld RX4 73 7 13 .int := ⟨RX4, TX4, 18, RX4, rfl, by decide, wf_X4_73, (Or.inl rfl), gu_X4, tyX4_ok _ (by decide), ⟨tyX4, tyX4_ok⟩, nmX4⟩
theorem fl_X4_82 : Fld RX4 82 7 16 .int := ⟨RX4, TX4, 18, RX4, rfl, by decide, wf_X4_82, (Or.inl rfl), gu_X4, tyX4_ok _ (by decide), ⟨tyX4, tyX4_ok⟩, nmX4⟩
theorem ml_X4_89 : Cond.methodLink RX4 89 yX4_countMate ∈ Tg := Tg_of (i := 325) (by decide +kernel) (by decide +kernel)
theorem lk_X4_89 : Lk RX4 89 yX4_countMate cX4_countMate 3 none 1 := ⟨ml_X4_89, cd_X4_countMate, iw_X4, by decide +kernel⟩
theorem im_X4_countMate : Cond.instanceMethod yX4_countMate ∈ Tg := Tg_of (i := 327) (by decide +kernel) (by decide +kernel)
theorem se_X4_X4_countMate : Cond.selects RX4 yX4_countMate yX4_countMate ∈ Tg := Tg_of (i := 0) (by decide +kernel) (by decide +kernel)
theorem fl_X4_70 : Fld RX4 70 7 12 .int := ⟨RX4, TX4, 18, RX4, rfl, by decide, wf_X4_70, (Or.inl rfl), gu_X4, tyX4_ok _ (by decide), ⟨tyX4, tyX4_ok⟩, nmX4⟩
theorem sm_X8_addSlots : Cond.static yX8_addSlots ∈ Tg := Tg_of (i := 323) (by decide +kernel) (by decide +kernel)
theorem sm_X8_slotsThatMeet : Cond.static yX8_slotsThatMeet ∈ Tg := Tg_of (i := 319) (by decide +kernel) (by decide +kernel)
theorem im_X4_hoursFrom : Cond.instanceMethod yX4_hoursFrom ∈ Tg := Tg_of (i := 315) (by decide +kernel) (by decide +kernel)
theorem se_X4_X4_hoursFrom : Cond.selects RX4 yX4_hoursFrom yX4_hoursFrom ∈ Tg := Tg_of (i := 316) (by decide +kernel) (by decide +kernel)
section M_X4_see
variable {p : Program} {l : Launch} {e : Env} {s : State} {m : MethodId} {args : Array Value} {below : List Frame} {meth : Method} {c : Code} {G : GG} {o : Except Nat Unit} {hs' : Hs}
def j_X4_see_128 (a0 : Option Nat) (a1 : Option Nat) (a2 : Option Nat)   : OO Unit :=
  gI a2 8 1 fun v18 =>
    rcv a0 7 fun r22 => call (f_X4_slotsTouching r22 a1) (fun (v19 : Int32) =>
    rcv a0 7 fun r21 => call (f_X4_addWay r21 v18 v19) (fun (v20 : Unit) =>
    rtn ()) nox) nox
set_option maxRecDepth 100000 in
set_option maxHeartbeats 4000000 in
theorem w_j_X4_see_128 (C : Cx G l p s m args c RX4 cX4_see 5) (C2 : Cy meth c none) {hs : Hs} (a0 : Option Nat) (a1 : Option Nat) (a2 : Option Nat)    (h : j_X4_see_128 a0 a1 a2 hs = some (o, hs')) : WG G p l e { frames := 1, cells := 0, slots := 0, locals := 24 } s m args below meth c 5 0 0 (vx_MQ below (QcT G o hs' tvV) (XCT G o hs') args s 0 0 (gA G)) hs [(0, va_rf a0), (1, va_rf a1), (2, va_rf a2)] [] 128 := by
  unfold j_X4_see_128 at h
  refine q_aload_n C 0 dX4_see_128 rfl ?_
  refine q_aload_n C 2 dX4_see_129 rfl ?_
  refine q_gI C fl_X4_93 dX4_see_130 h (fun v18 h => ?_)
  refine q_aload_n C 0 dX4_see_133 rfl ?_
  refine q_aload_n C 1 dX4_see_134 rfl ?_
  refine q_callV C (CN := RX4) (T := TX4) (N := 18) [va_rf a1] [.int v18, va_rf a0] (fun a0 o2 hs1 hm => m_X4_slotsTouching hm) lk_X4_96 im_X4_slotsTouching se_X4_X4_slotsTouching rfl ⟨(Nat.le_of_ble_eq_true rfl), (Nat.le_of_ble_eq_true rfl)⟩ ⟨(Nat.le_of_ble_eq_true rfl), (Nat.le_of_ble_eq_true rfl)⟩ rfl rfl (by simp only [List.map, cat_rf, cat_i, cat_a]; decide) dX4_see_135 h (fun v19 hs h => WG_st (st' := [.int v19, .int v18, va_rf a0]) rfl ?_)
  refine q_callV C (CN := RX4) (T := TX4) (N := 18) [.int v18, .int v19] [] (fun a0 o2 hs1 hm => m_X4_addWay hm) lk_X4_100 im_X4_addWay se_X4_X4_addWay rfl ⟨(Nat.le_of_ble_eq_true rfl), (Nat.le_of_ble_eq_true rfl)⟩ ⟨(Nat.le_of_ble_eq_true rfl), (Nat.le_of_ble_eq_true rfl)⟩ rfl rfl (by decide) dX4_see_138 h (fun v20 hs h => WG_st (st' := []) rfl ?_)
  exact q_vret C C2 rfl (Nat.le_of_ble_eq_true rfl) (Nat.le_of_ble_eq_true rfl) dX4_see_141 h
def j_X4_see_106 (a0 : Option Nat) (a1 : Option Nat) (a2 : Option Nat)   : OO Unit :=
  gR a1 7 2 fun v16 =>
    gR a0 7 2 fun v17 =>
    (if v16 = v17 then
    j_X4_see_128 a0 a1 a2
    else
    gR a1 7 1 fun v23 =>
    gR a0 7 1 fun v24 =>
    (if ¬ v23 = v24 then
    rtn ()
    else
    j_X4_see_128 a0 a1 a2))
set_option maxRecDepth 100000 in
set_option maxHeartbeats 4000000 in
theorem w_j_X4_see_106 (C : Cx G l p s m args c RX4 cX4_see 5) (C2 : Cy meth c none) {hs : Hs} (a0 : Option Nat) (a1 : Option Nat) (a2 : Option Nat)    (h : j_X4_see_106 a0 a1 a2 hs = some (o, hs')) : WG G p l e { frames := 1, cells := 0, slots := 0, locals := 24 } s m args below meth c 5 0 0 (vx_MQ below (QcT G o hs' tvV) (XCT G o hs') args s 0 0 (gA G)) hs [(0, va_rf a0), (1, va_rf a1), (2, va_rf a2)] [] 106 := by
  unfold j_X4_see_106 at h
  refine q_aload_n C 1 dX4_see_106 rfl ?_
  refine q_gR C fl_X4_35 dX4_see_107 h (fun v16 h => ?_)
  refine q_aload_n C 0 dX4_see_110 rfl ?_
  refine q_gR C fl_X4_35 dX4_see_111 h (fun v17 h => ?_)
  refine q_acmp_eq C 128 dX4_see_114 (by decide) h (fun h => ?_) (fun h => ?_)
  · exact w_j_X4_see_128 C C2 _ _ _   h
  · refine q_aload_n C 1 dX4_see_117 rfl ?_
    refine q_gR C fl_X4_31 dX4_see_118 h (fun v23 h => ?_)
    refine q_aload_n C 0 dX4_see_121 rfl ?_
    refine q_gR C fl_X4_31 dX4_see_122 h (fun v24 h => ?_)
    refine q_acmp_ne C 141 dX4_see_125 (by decide) h (fun h => ?_) (fun h => ?_)
    · exact q_vret C C2 rfl (Nat.le_of_ble_eq_true rfl) (Nat.le_of_ble_eq_true rfl) dX4_see_141 h
    · exact w_j_X4_see_128 C C2 _ _ _   h
def j_X4_see_69 (a0 : Option Nat) (a1 : Option Nat) (a2 : Option Nat) (a3 : Int32) (a4 : Int32)   : OO Unit :=
  gR a1 7 1 fun v14 =>
    gR a0 7 1 fun v15 =>
    (if ¬ v14 = v15 then
    j_X4_see_106 a0 a1 a2
    else
    gI a0 7 13 fun v25 =>
    pI a0 7 13 (v25 ||| a4) (
    gI a0 7 16 fun v26 =>
    pI a0 7 16 (v26 ||| a3) (
    rcv a0 7 fun r28 => call (f_X4_countMate r28 a1) (fun (v27 : Unit) =>
    j_X4_see_106 a0 a1 a2) nox)))
set_option maxRecDepth 100000 in
set_option maxHeartbeats 4000000 in
theorem w_j_X4_see_69 (C : Cx G l p s m args c RX4 cX4_see 5) (C2 : Cy meth c none) {hs : Hs} (a0 : Option Nat) (a1 : Option Nat) (a2 : Option Nat) (a3 : Int32) (a4 : Int32)    (h : j_X4_see_69 a0 a1 a2 a3 a4 hs = some (o, hs')) : WG G p l e { frames := 1, cells := 0, slots := 0, locals := 24 } s m args below meth c 5 0 0 (vx_MQ below (QcT G o hs' tvV) (XCT G o hs') args s 0 0 (gA G)) hs [(0, va_rf a0), (1, va_rf a1), (2, va_rf a2), (3, .int a3), (4, .int a4)] [] 69 := by
  unfold j_X4_see_69 at h
  refine q_aload_n C 1 dX4_see_69 rfl ?_
  refine q_gR C fl_X4_31 dX4_see_70 h (fun v14 h => ?_)
  refine q_aload_n C 0 dX4_see_73 rfl ?_
  refine q_gR C fl_X4_31 dX4_see_74 h (fun v15 h => ?_)
  refine q_acmp_ne C 106 dX4_see_77 (by decide) h (fun h => ?_) (fun h => ?_)
  · refine WG.sub [0, 1, 2] rfl ?_
    exact w_j_X4_see_106 C C2 _ _ _   h
  · refine q_aload_n C 0 dX4_see_80 rfl ?_
    refine q_dup C (cat_rf _) dX4_see_81 ?_
    refine q_gI C fl_X4_73 dX4_see_82 h (fun v25 h => ?_)
    refine q_iload C 4 dX4_see_85 rfl ?_
    refine q_ior C dX4_see_87 ?_
    refine q_pI C fw_X4_73 (fun z => nomatch z) dX4_see_88 h (fun hs h => ?_)
    refine q_aload_n C 0 dX4_see_91 rfl ?_
    refine q_dup C (cat_rf _) dX4_see_92 ?_
    refine q_gI C fl_X4_82 dX4_see_93 h (fun v26 h => ?_)
    refine q_iload_n C 3 dX4_see_96 rfl ?_
    refine q_ior C dX4_see_97 ?_
    refine q_pI C fw_X4_82 (fun z => nomatch z) dX4_see_98 h (fun hs h => ?_)
    refine q_aload_n C 0 dX4_see_101 rfl ?_
    refine q_aload_n C 1 dX4_see_102 rfl ?_
    refine q_callV C (CN := RX4) (T := TX4) (N := 18) [va_rf a1] [] (fun a0 o2 hs1 hm => m_X4_countMate hm) lk_X4_89 im_X4_countMate se_X4_X4_countMate rfl ⟨(Nat.le_of_ble_eq_true rfl), (Nat.le_of_ble_eq_true rfl)⟩ ⟨(Nat.le_of_ble_eq_true rfl), (Nat.le_of_ble_eq_true rfl)⟩ rfl rfl (by decide) dX4_see_103 h (fun v27 hs h => WG_st (st' := []) rfl ?_)
    refine WG.sub [0, 1, 2] rfl ?_
    exact w_j_X4_see_106 C C2 _ _ _   h
end M_X4_see
def f_X4_see (a0 : Nat) (p1 : Option Nat) : OO Unit :=
    gR p1 7 6 fun v1 =>
    lets v1 fun (v2 : Option Nat) =>
    (if p1 = (some a0) then
    rtn ()
    else
    (if ¬ v2 = none then
    gI p1 7 7 fun v3 =>
    rcv p1 7 fun r30 => call (f_X4_hoursFrom r30 v3) (fun (v4 : Int32) =>
    lets v4 fun (v5 : Int32) =>
    gI (some a0) 7 4 fun v6 =>
    call (f_X8_slotsThatMeet v5 v6) (fun (v7 : Int32) =>
    lets v7 fun (v8 : Int32) =>
    gR (some a0) 7 14 fun v9 =>
    gI v2 8 0 fun v10 =>
    call (f_X8_addSlots v9 v10 v8) (fun (v11 : Unit) =>
    gR p1 7 2 fun v12 =>
    gR (some a0) 7 2 fun v13 =>
    (if ¬ v12 = v13 then
    j_X4_see_69 (some a0) p1 v2 v5 v8
    else
    gI (some a0) 7 12 fun v29 =>
    pI (some a0) 7 12 (v29 ||| v8) (
    j_X4_see_69 (some a0) p1 v2 v5 v8))) nox) nox) nox
    else
    rtn ()))
set_option maxRecDepth 100000 in
set_option maxHeartbeats 4000000 in
theorem m_X4_see {G : GG} {l : Launch} {a0 : Nat} {p1 : Option Nat} {hs hs' : Hs} {o : Except Nat Unit} (h : f_X4_see a0 p1 hs = some (o, hs')) : CT G l yX4_see cX4_see 5 none 1 24 0 0 [.ref a0, va_rf p1] hs o hs' tvV := by
  refine vx_ofW (cc := cX4_see) (maxL := 5) (ret := none) (by decide +kernel) rfl ?_
  intro p e s m args below meth c s₁ B hml hxt hv
  obtain ⟨hav, hR, hKn⟩ := hv
  subst hav
  have hts := atoms_spec (ws := .code yX4_see cX4_see 5 none :: Tg) B.pre
  have C : Cx G l p s m _ c RX4 cX4_see 5 := ⟨B.exec, B.bytes, hml, findClass_of_methodNamed B.named, fun w hw => hts w (List.mem_cons_of_mem _ hw), hKn, fun q hq => Nat.le_trans hR.2.2.1 hq⟩
  have C2 : Cy meth c none := ⟨B.returns, B.notSynchronized, hxt⟩
  have key : WG G p l e { frames := 1, cells := 0, slots := 0, locals := 24 } s m ([.ref a0, va_rf p1] : List Value).toArray below meth c 5 0 0 (vx_MQ below (QcT G o hs' tvV) (XCT G o hs') ([.ref a0, va_rf p1] : List Value).toArray s 0 0 (gA G)) hs [(0, va_rf (some a0)), (1, va_rf p1)] [] 0 := by
    unfold f_X4_see at h
    refine q_aload_n C 1 dX4_see_0 rfl ?_
    refine q_gR C fl_X4_56 dX4_see_1 h (fun v1 h => ?_)
    refine q_astore_n C (fun v2 => [(2, va_rf v2), (0, va_rf (some a0)), (1, va_rf p1)]) dX4_see_4 (by decide) (fun _ => rfl) h (fun v2 h => ?_)
    refine q_aload_n C 2 dX4_see_5 rfl ?_
    refine q_aload_n C 1 dX4_see_6 rfl ?_
    refine q_acmp_eq C 14 dX4_see_7 (by decide) h (fun h => ?_) (fun h => ?_)
    · exact q_vret C C2 rfl (Nat.le_of_ble_eq_true rfl) (Nat.le_of_ble_eq_true rfl) dX4_see_14 h
    · refine q_aload_n C 0 dX4_see_10 rfl ?_
      refine q_ifnonnull C 15 dX4_see_11 (by decide) h (fun h => ?_) (fun h => ?_)
      · refine q_aload_n C 2 dX4_see_15 rfl ?_
        refine q_aload_n C 2 dX4_see_16 rfl ?_
        refine q_gI C fl_X4_9 dX4_see_17 h (fun v3 h => ?_)
        refine q_callV C (CN := RX4) (T := TX4) (N := 18) [.int v3] [] (fun a0 o2 hs1 hm => m_X4_hoursFrom hm) lk_X4_63 im_X4_hoursFrom se_X4_X4_hoursFrom rfl ⟨(Nat.le_of_ble_eq_true rfl), (Nat.le_of_ble_eq_true rfl)⟩ ⟨(Nat.le_of_ble_eq_true rfl), (Nat.le_of_ble_eq_true rfl)⟩ rfl rfl (by decide) dX4_see_20 h (fun v4 hs h => WG_st (st' := [.int v4]) rfl ?_)
        refine q_istore_n C (fun v5 => [(3, .int v5), (2, va_rf v2), (0, va_rf (some a0)), (1, va_rf p1)]) dX4_see_23 (by decide) (fun _ => rfl) h (fun v5 h => ?_)
        refine q_iload_n C 0 dX4_see_24 rfl ?_
        refine q_aload_n C 2 dX4_see_25 rfl ?_
        refine q_gI C fl_X4_42 dX4_see_26 h (fun v6 h => ?_)
        refine q_callSN C [.int v5, .int v6] [] (fun o2 hs1 hm => m_X8_slotsThatMeet hm) lk_X4_49 sm_X8_slotsThatMeet ⟨(Nat.le_of_ble_eq_true rfl), (Nat.le_of_ble_eq_true rfl)⟩ ⟨(Nat.le_of_ble_eq_true rfl), (Nat.le_of_ble_eq_true rfl)⟩ rfl rfl (by decide) dX4_see_29 h (fun v7 hs h => WG_st (st' := [.int v7]) rfl ?_)
        refine q_istore C (fun v8 => [(4, .int v8), (3, .int v5), (2, va_rf v2), (0, va_rf (some a0)), (1, va_rf p1)]) dX4_see_32 (by decide) (fun _ => rfl) h (fun v8 h => ?_)
        refine q_aload_n C 3 dX4_see_34 rfl ?_
        refine q_gR C fl_X4_19 dX4_see_35 h (fun v9 h => ?_)
        refine q_aload_n C 2 dX4_see_38 rfl ?_
        refine q_gI C fl_X4_60 dX4_see_39 h (fun v10 h => ?_)
        refine q_iload C 0 dX4_see_42 rfl ?_
        refine q_callSN C [va_rf v9, .int v10, .int v8] [] (fun o2 hs1 hm => m_X8_addSlots hm) lk_X4_85 sm_X8_addSlots ⟨(Nat.le_of_ble_eq_true rfl), (Nat.le_of_ble_eq_true rfl)⟩ ⟨(Nat.le_of_ble_eq_true rfl), (Nat.le_of_ble_eq_true rfl)⟩ rfl rfl (by decide) dX4_see_44 h (fun v11 hs h => WG_st (st' := []) rfl ?_)
        refine q_aload_n C 4 dX4_see_47 rfl ?_
        refine q_gR C fl_X4_35 dX4_see_48 h (fun v12 h => ?_)
        refine q_aload_n C 3 dX4_see_51 rfl ?_
        refine q_gR C fl_X4_35 dX4_see_52 h (fun v13 h => ?_)
        refine q_acmp_ne C 69 dX4_see_55 (by decide) h (fun h => ?_) (fun h => ?_)
        · refine WG.sub [3, 4, 2, 1, 0] rfl ?_
          exact w_j_X4_see_69 C C2 _ _ _ _ _   h
        · refine q_aload_n C 3 dX4_see_58 rfl ?_
          refine q_dup C (cat_rf _) dX4_see_59 ?_
          refine q_gI C fl_X4_70 dX4_see_60 h (fun v29 h => ?_)
          refine q_iload C 0 dX4_see_63 rfl ?_
          refine q_ior C dX4_see_65 ?_
          refine q_pI C fw_X4_70 (fun z => nomatch z) dX4_see_66 h (fun hs h => ?_)
          refine WG.sub [3, 4, 2, 1, 0] rfl ?_
          exact w_j_X4_see_69 C C2 _ _ _ _ _   h
      · exact q_vret C C2 rfl (Nat.le_of_ble_eq_true rfl) (Nat.le_of_ble_eq_true rfl) dX4_see_14 h
  rw [lg_entry_eq]
  cases p1 <;> exact key _ _ _ hR va_S.rf ⟨lv_entry _ (n := 5) (Nat.le_of_ble_eq_true rfl), (c1_r (c1_r c1_n))⟩

theorem cd_X6_lookAround : Cond.code yX6_lookAround cX6_lookAround 3 none ∈ Tg := Tg_of (i := 302) (by decide +kernel) (by decide +kernel)
theorem wf_X6_41 : Cond.fieldLink RX6 41 RX6 (TX6 5).2.1 (TX6 5).2.2.1 ∈ Tg := Tg_of (i := 170) (by decide +kernel) (by decide +kernel)
theorem fl_X6_41 : Fld RX6 41 9 5 .int := ⟨RX6, TX6, 6, RX6, rfl, by decide, wf_X6_41, (Or.inl rfl), gu_X6, tyX6_ok _ (by decide), ⟨tyX6, tyX6_ok⟩, nmX6⟩
theorem ml_X6_60 : Cond.methodLink RX6 60 yX4_forgetOthers ∈ Tg := Tg_of (i := 303) (by decide +kernel) (by decide +kernel)
theorem lk_X6_60 : Lk RX6 60 yX4_forgetOthers cX4_forgetOthers 2 none 1 := ⟨ml_X6_60, cd_X4_forgetOthers, iw_X4, by decide +kernel⟩
theorem ml_X6_64 : Cond.methodLink RX6 64 yX4_see ∈ Tg := Tg_of (i := 310) (by decide +kernel) (by decide +kernel)
theorem lk_X6_64 : Lk RX6 64 yX4_see cX4_see 5 none 1 := ⟨ml_X6_64, cd_X4_see, iw_X4, by decide +kernel⟩
theorem im_X4_see : Cond.instanceMethod yX4_see ∈ Tg := Tg_of (i := 311) (by decide +kernel) (by decide +kernel)
theorem se_X4_X4_see : Cond.selects RX4 yX4_see yX4_see ∈ Tg := Tg_of (i := 312) (by decide +kernel) (by decide +kernel)
theorem im_X4_forgetOthers : Cond.instanceMethod yX4_forgetOthers ∈ Tg := Tg_of (i := 304) (by decide +kernel) (by decide +kernel)
theorem se_X4_X4_forgetOthers : Cond.selects RX4 yX4_forgetOthers yX4_forgetOthers ∈ Tg := Tg_of (i := 305) (by decide +kernel) (by decide +kernel)
section M_X6_lookAround
variable {p : Program} {l : Launch} {e : Env} {s : State} {m : MethodId} {args : Array Value} {below : List Frame} {meth : Method} {c : Code} {G : GG} {o : Except Nat Unit} {hs' : Hs}
def L_X6_lookAround_10 (a0 : Option Nat) (a1 : Option Nat) (k_10_42 : OO Unit) : Nat → Int32 → OO Unit
  | 0, _ => failO
  | n + 1, x2 =>
    gR a0 9 2 fun v4 =>
    rcv v4 2 fun r12 => call (f_Jx4a65c_size_8abf5 r12 ) (fun (v5 : Int32) =>
    (if v5 ≤ x2 then
    k_10_42
    else
    gR a0 9 2 fun v6 =>
    rcv v6 2 fun r11 => call (f_Jx4a65c_get_915e3 r11 x2) (fun (v7 : Option Nat) =>
    cst v7 7 (
    rcv a1 7 fun r10 => call (f_X4_see r10 v7) (fun (v8 : Unit) =>
    lets (x2 + (1 : Int32)) fun (v9 : Int32) =>
    (L_X6_lookAround_10 a0 a1 k_10_42 n) v9) nox)) nox)) nox
set_option maxRecDepth 100000 in
set_option maxHeartbeats 4000000 in
theorem w_L_X6_lookAround_10 (C : Cx G l p s m args c RX6 cX6_lookAround 3) (C2 : Cy meth c none) (a0 : Option Nat) (a1 : Option Nat) (k_10_42 : OO Unit) (hk_10_42 : ∀ hs, k_10_42  hs = some (o, hs') → WG G p l e { frames := 3, cells := 0, slots := 0, locals := 64 } s m args below meth c 3 0 0 (vx_MQ below (QcT G o hs' tvV) (XCT G o hs') args s 0 0 (gA G)) hs [] [] 42) : ∀ (n : Nat) (x2 : Int32) (hs : Hs), L_X6_lookAround_10 a0 a1 k_10_42 n x2 hs = some (o, hs') → WG G p l e { frames := 3, cells := 0, slots := 0, locals := 64 } s m args below meth c 3 0 0 (vx_MQ below (QcT G o hs' tvV) (XCT G o hs') args s 0 0 (gA G)) hs [(0, va_rf a0), (1, va_rf a1), (2, .int x2)] [] 10 := by
  intro n
  induction n with
  | zero =>
    intro x2 hs h
    rw [L_X6_lookAround_10] at h
    exact absurd h failO_e
  | succ n hrec_10 =>
    intro x2 hs h
    rw [L_X6_lookAround_10] at h
    refine q_iload_n C 2 dX6_lookAround_10 rfl ?_
    refine q_aload_n C 0 dX6_lookAround_11 rfl ?_
    refine q_gR C fl_X6_21 dX6_lookAround_12 h (fun v4 h => ?_)
    refine q_callV C (CN := RJx4a65c) (T := TJx4a65c) (N := 3) [] [.int x2] (fun a0 o2 hs1 hm => m_Jx4a65c_size_8abf5 hm) lk_X6_52 im_Jx4a65c_size_8abf5 se_Jx4a65c_Jx4a65c_size_8abf5 rfl ⟨(Nat.le_of_ble_eq_true rfl), (Nat.le_of_ble_eq_true rfl)⟩ ⟨(Nat.le_of_ble_eq_true rfl), (Nat.le_of_ble_eq_true rfl)⟩ rfl rfl (by simp only [List.map, cat_rf, cat_i, cat_a]; decide) dX6_lookAround_15 h (fun v5 hs h => WG_st (st' := [.int v5, .int x2]) rfl ?_)
    refine q_icmp_ge C 42 dX6_lookAround_18 (by decide) h (fun h => ?_) (fun h => ?_)
    · refine WG.sub [] rfl ?_
      exact hk_10_42 _ h
    · refine q_aload_n C 1 dX6_lookAround_21 rfl ?_
      refine q_aload_n C 0 dX6_lookAround_22 rfl ?_
      refine q_gR C fl_X6_21 dX6_lookAround_23 h (fun v6 h => ?_)
      refine q_iload_n C 2 dX6_lookAround_26 rfl ?_
      refine q_callV C (CN := RJx4a65c) (T := TJx4a65c) (N := 3) [.int x2] [va_rf a1] (fun a0 o2 hs1 hm => m_Jx4a65c_get_915e3 hm) lk_X6_56 im_Jx4a65c_get_915e3 se_Jx4a65c_Jx4a65c_get_915e3 rfl ⟨(Nat.le_of_ble_eq_true rfl), (Nat.le_of_ble_eq_true rfl)⟩ ⟨(Nat.le_of_ble_eq_true rfl), (Nat.le_of_ble_eq_true rfl)⟩ rfl rfl (by simp only [List.map, cat_rf, cat_i, cat_a]; decide) dX6_lookAround_27 h (fun v7 hs h => WG_st (st' := [va_rf v7, va_rf a1]) rfl ?_)
      refine q_castS C (nm := RX4) (T := TX4) (N := 18) rfl wc_X6_32 dX6_lookAround_30 h (fun h => ?_)
      refine q_callV C (CN := RX4) (T := TX4) (N := 18) [va_rf v7] [] (fun a0 o2 hs1 hm => m_X4_see hm) lk_X6_64 im_X4_see se_X4_X4_see rfl ⟨(Nat.le_of_ble_eq_true rfl), (Nat.le_of_ble_eq_true rfl)⟩ ⟨(Nat.le_of_ble_eq_true rfl), (Nat.le_of_ble_eq_true rfl)⟩ rfl rfl (by decide) dX6_lookAround_33 h (fun v8 hs h => WG_st (st' := []) rfl ?_)
      refine q_iinc C 2 (1 : Int32) (fun v9 => [(2, .int v9), (0, va_rf a0), (1, va_rf a1)]) dX6_lookAround_36 rfl (by decide) (by decide) (fun _ => rfl) h (fun v9 h => ?_)
      refine q_goto C 10 dX6_lookAround_39 (by decide) ?_
      refine WG.sub [1, 2, 0] rfl ?_
      exact hrec_10 _ _ h
end M_X6_lookAround
def f_X6_lookAround (a0 : Nat) (p1 : Option Nat) : OO Unit :=
    gI (some a0) 9 5 fun v1 =>
    rcv p1 7 fun r13 => call (f_X4_forgetOthers r13 v1) (fun (v2 : Unit) =>
    lets (0 : Int32) fun (v3 : Int32) =>
    L_X6_lookAround_10 (some a0) p1 (rtn ()) 100000 v3) nox
set_option maxRecDepth 100000 in
set_option maxHeartbeats 4000000 in
theorem m_X6_lookAround {G : GG} {l : Launch} {a0 : Nat} {p1 : Option Nat} {hs hs' : Hs} {o : Except Nat Unit} (h : f_X6_lookAround a0 p1 hs = some (o, hs')) : CT G l yX6_lookAround cX6_lookAround 3 none 3 64 0 0 [.ref a0, va_rf p1] hs o hs' tvV := by
  refine vx_ofW (cc := cX6_lookAround) (maxL := 3) (ret := none) (by decide +kernel) rfl ?_
  intro p e s m args below meth c s₁ B hml hxt hv
  obtain ⟨hav, hR, hKn⟩ := hv
  subst hav
  have hts := atoms_spec (ws := .code yX6_lookAround cX6_lookAround 3 none :: Tg) B.pre
  have C : Cx G l p s m _ c RX6 cX6_lookAround 3 := ⟨B.exec, B.bytes, hml, findClass_of_methodNamed B.named, fun w hw => hts w (List.mem_cons_of_mem _ hw), hKn, fun q hq => Nat.le_trans hR.2.2.1 hq⟩
  have C2 : Cy meth c none := ⟨B.returns, B.notSynchronized, hxt⟩
  have key : WG G p l e { frames := 3, cells := 0, slots := 0, locals := 64 } s m ([.ref a0, va_rf p1] : List Value).toArray below meth c 3 0 0 (vx_MQ below (QcT G o hs' tvV) (XCT G o hs') ([.ref a0, va_rf p1] : List Value).toArray s 0 0 (gA G)) hs [(0, va_rf (some a0)), (1, va_rf p1)] [] 0 := by
    unfold f_X6_lookAround at h
    refine q_aload_n C 1 dX6_lookAround_0 rfl ?_
    refine q_aload_n C 0 dX6_lookAround_1 rfl ?_
    refine q_gI C fl_X6_41 dX6_lookAround_2 h (fun v1 h => ?_)
    refine q_callV C (CN := RX4) (T := TX4) (N := 18) [.int v1] [] (fun a0 o2 hs1 hm => m_X4_forgetOthers hm) lk_X6_60 im_X4_forgetOthers se_X4_X4_forgetOthers rfl ⟨(Nat.le_of_ble_eq_true rfl), (Nat.le_of_ble_eq_true rfl)⟩ ⟨(Nat.le_of_ble_eq_true rfl), (Nat.le_of_ble_eq_true rfl)⟩ rfl rfl (by decide) dX6_lookAround_5 h (fun v2 hs h => WG_st (st' := []) rfl ?_)
    refine q_iconst C (0 : Int32) dX6_lookAround_8 (by decide) ?_
    refine q_istore_n C (fun v3 => [(2, .int v3), (0, va_rf (some a0)), (1, va_rf p1)]) dX6_lookAround_9 (by decide) (fun _ => rfl) h (fun v3 h => ?_)
    refine WG.sub [1, 2, 0] rfl ?_
    refine w_L_X6_lookAround_10 C C2 _ _ _ ?_ _ _ _ h
    · intro  hs h
      exact q_vret C C2 rfl (Nat.le_of_ble_eq_true rfl) (Nat.le_of_ble_eq_true rfl) dX6_lookAround_42 h
  rw [lg_entry_eq]
  cases p1 <;> exact key _ _ _ hR va_S.rf ⟨lv_entry _ (n := 3) (Nat.le_of_ble_eq_true rfl), (c1_r (c1_r c1_n))⟩

theorem cd_X8_at : Cond.code yX8_at cX8_at 2 (some .int) ∈ Tg := Tg_of (i := 363) (by decide +kernel) (by decide +kernel)
section M_X8_at
variable {p : Program} {l : Launch} {e : Env} {s : State} {m : MethodId} {args : Array Value} {below : List Frame} {meth : Method} {c : Code} {G : GG} {o : Except Nat Int32} {hs' : Hs}
end M_X8_at
def f_X8_at (p0 : Option Nat) (p1 : Int32) : OO Int32 :=
    (if p1 < 0 then
    rtn (0 : Int32)
    else
    alen p0 fun v1 =>
    (if v1 ≤ p1 then
    rtn (0 : Int32)
    else
    ldI 0 p0 p1 fun v2 =>
    rtn v2))
set_option maxRecDepth 100000 in
set_option maxHeartbeats 4000000 in
theorem m_X8_at {G : GG} {l : Launch} {p0 : Option Nat} {p1 : Int32} {hs hs' : Hs} {o : Except Nat Int32} (h : f_X8_at p0 p1 hs = some (o, hs')) : CT G l yX8_at cX8_at 2 (some .int) 0 0 0 0 [va_rf p0, .int p1] hs o hs' tvI := by
  refine vx_ofW (cc := cX8_at) (maxL := 2) (ret := (some .int)) (by decide +kernel) rfl ?_
  intro p e s m args below meth c s₁ B hml hxt hv
  obtain ⟨hav, hR, hKn⟩ := hv
  subst hav
  have hts := atoms_spec (ws := .code yX8_at cX8_at 2 (some .int) :: Tg) B.pre
  have C : Cx G l p s m _ c RX8 cX8_at 2 := ⟨B.exec, B.bytes, hml, findClass_of_methodNamed B.named, fun w hw => hts w (List.mem_cons_of_mem _ hw), hKn, fun q hq => Nat.le_trans hR.2.2.1 hq⟩
  have C2 : Cy meth c (some .int) := ⟨B.returns, B.notSynchronized, hxt⟩
  have key : WG G p l e { frames := 0, cells := 0, slots := 0, locals := 0 } s m ([va_rf p0, .int p1] : List Value).toArray below meth c 2 0 0 (vx_MQ below (QcT G o hs' tvI) (XCT G o hs') ([va_rf p0, .int p1] : List Value).toArray s 0 0 (gA G)) hs [(0, va_rf p0), (1, .int p1)] [] 0 := by
    unfold f_X8_at at h
    refine q_iload_n C 1 dX8_at_0 rfl ?_
    refine q_if_lt C 16 dX8_at_1 (by decide) h (fun h => ?_) (fun h => ?_)
    · refine q_iconst C (0 : Int32) dX8_at_16 (by decide) ?_
      exact q_iret C C2 rfl (Nat.le_of_ble_eq_true rfl) (Nat.le_of_ble_eq_true rfl) dX8_at_17 h
    · refine q_iload_n C 1 dX8_at_4 rfl ?_
      refine q_aload_n C 0 dX8_at_5 rfl ?_
      refine q_alen C dX8_at_6 h (fun v1 h => ?_)
      refine q_icmp_ge C 16 dX8_at_7 (by decide) h (fun h => ?_) (fun h => ?_)
      · refine q_iconst C (0 : Int32) dX8_at_16 (by decide) ?_
        exact q_iret C C2 rfl (Nat.le_of_ble_eq_true rfl) (Nat.le_of_ble_eq_true rfl) dX8_at_17 h
      · refine q_aload_n C 0 dX8_at_10 rfl ?_
        refine q_iload_n C 1 dX8_at_11 rfl ?_
        refine q_iald C dX8_at_12 h (fun v2 h => ?_)
        refine q_goto C 17 dX8_at_13 (by decide) ?_
        exact q_iret C C2 rfl (Nat.le_of_ble_eq_true rfl) (Nat.le_of_ble_eq_true rfl) dX8_at_17 h
  rw [lg_entry_eq]
  cases p0 <;> exact key _ _ _ hR va_S.rf ⟨lv_entry _ (n := 2) (Nat.le_of_ble_eq_true rfl), (c1_r (c1_i c1_n))⟩

theorem cd_X4_barredBy : Cond.code yX4_barredBy cX4_barredBy 3 (some .int) ∈ Tg := Tg_of (i := 360) (by decide +kernel) (by decide +kernel)
theorem lk_X4_123 : LkN RX4 123 yX8_at "Termgrid" cX8_at 2 (some .int) 2 := ⟨by decide +kernel, cd_X8_at, iw_X8, by decide +kernel⟩
theorem sm_X8_at : Cond.static yX8_at ∈ Tg := Tg_of (i := 362) (by decide +kernel) (by decide +kernel)
theorem wf_X4_119 : Cond.fieldLink RX4 119 RX5 (TX5 4).2.1 (TX5 4).2.2.1 ∈ Tg := Tg_of (i := 693) (by decide +kernel) (by decide +kernel)
theorem fl_X4_119 : Fld RX4 119 8 4 .boolean := ⟨RX5, TX5, 5, RX5, rfl, by decide, wf_X4_119, (Or.inl rfl), gu_X5, tyX5_ok _ (by decide), ⟨tyX5, tyX5_ok⟩, nmX5⟩
theorem kc_X4_110 : Cond.constant RX4 110 (1073741823) ∈ Tg := Tg_of (i := 343) (by decide +kernel) (by decide +kernel)
theorem wf_X4_111 : Cond.fieldLink RX4 111 RX5 (TX5 3).2.1 (TX5 3).2.2.1 ∈ Tg := Tg_of (i := 690) (by decide +kernel) (by decide +kernel)
theorem fl_X4_111 : Fld RX4 111 8 3 .int := ⟨RX5, TX5, 5, RX5, rfl, by decide, wf_X4_111, (Or.inl rfl), gu_X5, tyX5_ok _ (by decide), ⟨tyX5, tyX5_ok⟩, nmX5⟩
theorem wf_X4_114 : Cond.fieldLink RX4 114 RX2 (TX2 0).2.1 (TX2 0).2.2.1 ∈ Tg := Tg_of (i := 822) (by decide +kernel) (by decide +kernel)
theorem fl_X4_114 : Fld RX4 114 5 0 .int := ⟨RX2, TX2, 1, RX2, rfl, by decide, wf_X4_114, (Or.inl rfl), gu_X2, tyX2_ok _ (by decide), ⟨tyX2, tyX2_ok⟩, nmX2⟩
theorem wf_X4_109 : Cond.fieldLink RX4 109 RX5 (TX5 2).2.1 (TX5 2).2.2.1 ∈ Tg := Tg_of (i := 687) (by decide +kernel) (by decide +kernel)
theorem fl_X4_109 : Fld RX4 109 8 2 .int := ⟨RX5, TX5, 5, RX5, rfl, by decide, wf_X4_109, (Or.inl rfl), gu_X5, tyX5_ok _ (by decide), ⟨tyX5, tyX5_ok⟩, nmX5⟩
theorem wf_X4_39 : Cond.fieldLink RX4 39 RX4 (TX4 3).2.1 (TX4 3).2.2.1 ∈ Tg := Tg_of (i := 900) (by decide +kernel) (by decide +kernel)
theorem fl_X4_39 : Fld RX4 39 7 3 .int := ⟨RX4, TX4, 18, RX4, rfl, by decide, wf_X4_39, (Or.inl rfl), gu_X4, tyX4_ok _ (by decide), ⟨tyX4, tyX4_ok⟩, nmX4⟩
theorem wf_X4_104 : Cond.fieldLink RX4 104 RX7 (TX7 1).2.1 (TX7 1).2.2.1 ∈ Tg := Tg_of (i := 793) (by decide +kernel) (by decide +kernel)
set_option maxRecDepth 100000 in
theorem gu_X7 : ∀ w ∈ u_ws RX7 TX7 3, w ∈ Tg := by decide +kernel
theorem fl_X4_104 : Fld RX4 104 10 1 .int := ⟨RX7, TX7, 3, RX7, rfl, by decide, wf_X4_104, (Or.inl rfl), gu_X7, tyX7_ok _ (by decide), ⟨tyX7, tyX7_ok⟩, nmX7⟩
theorem fl_X4_67 : Fld RX4 67 7 11 .int := ⟨RX4, TX4, 18, RX4, rfl, by decide, wf_X4_67, (Or.inl rfl), gu_X4, tyX4_ok _ (by decide), ⟨tyX4, tyX4_ok⟩, nmX4⟩
theorem wf_X4_53 : Cond.fieldLink RX4 53 RX4 (TX4 9).2.1 (TX4 9).2.2.1 ∈ Tg := Tg_of (i := 916) (by decide +kernel) (by decide +kernel)
theorem fl_X4_53 : Fld RX4 53 7 9 .int := ⟨RX4, TX4, 18, RX4, rfl, by decide, wf_X4_53, (Or.inl rfl), gu_X4, tyX4_ok _ (by decide), ⟨tyX4, tyX4_ok⟩, nmX4⟩
section M_X4_barredBy
variable {p : Program} {l : Launch} {e : Env} {s : State} {m : MethodId} {args : Array Value} {below : List Frame} {meth : Method} {c : Code} {G : GG} {o : Except Nat Int32} {hs' : Hs}
end M_X4_barredBy
def f_X4_barredBy (a0 : Nat) (p1 : Int32) (p2 : Option Nat) : OO Int32 :=
    (if p1 = (0 : Int32) then
    gI (some a0) 7 9 fun v18 =>
    rtn v18
    else
    (if p1 = (1 : Int32) then
    gI (some a0) 7 11 fun v17 =>
    rtn v17
    else
    (if p1 = (2 : Int32) then
    gR (some a0) 7 2 fun v15 =>
    gI v15 10 1 fun v16 =>
    rtn v16
    else
    (if p1 = (3 : Int32) then
    gI p2 8 2 fun v13 =>
    gI (some a0) 7 3 fun v14 =>
    (if v13 = v14 then
    rtn (0 : Int32)
    else
    rtn (1073741823 : Int32))
    else
    (if p1 = (4 : Int32) then
    gI p2 8 3 fun v10 =>
    gR (some a0) 7 1 fun v11 =>
    gI v11 5 0 fun v12 =>
    (if v12 ≤ v10 then
    rtn (0 : Int32)
    else
    rtn (1073741823 : Int32))
    else
    (if p1 = (5 : Int32) then
    gI p2 8 4 fun v9 =>
    (if v9 = 0 then
    rtn (1073741823 : Int32)
    else
    rtn (0 : Int32))
    else
    (if p1 = (6 : Int32) then
    gR (some a0) 7 14 fun v6 =>
    gI p2 8 0 fun v7 =>
    call (f_X8_at v6 v7) (fun (v8 : Int32) =>
    rtn v8) nox
    else
    (if p1 = (7 : Int32) then
    gI (some a0) 7 12 fun v5 =>
    rtn v5
    else
    (if p1 = (8 : Int32) then
    gI (some a0) 7 13 fun v4 =>
    rtn v4
    else
    (if p1 = (9 : Int32) then
    gR (some a0) 7 15 fun v1 =>
    gI p2 8 1 fun v2 =>
    call (f_X8_at v1 v2) (fun (v3 : Int32) =>
    rtn v3) nox
    else
    rtn (0 : Int32)))))))))))
set_option maxRecDepth 100000 in
set_option maxHeartbeats 4000000 in
theorem m_X4_barredBy {G : GG} {l : Launch} {a0 : Nat} {p1 : Int32} {p2 : Option Nat} {hs hs' : Hs} {o : Except Nat Int32} (h : f_X4_barredBy a0 p1 p2 hs = some (o, hs')) : CT G l yX4_barredBy cX4_barredBy 3 (some .int) 1 21 0 0 [.ref a0, .int p1, va_rf p2] hs o hs' tvI := by
  refine vx_ofW (cc := cX4_barredBy) (maxL := 3) (ret := (some .int)) (by decide +kernel) rfl ?_
  intro p e s m args below meth c s₁ B hml hxt hv
  obtain ⟨hav, hR, hKn⟩ := hv
  subst hav
  have hts := atoms_spec (ws := .code yX4_barredBy cX4_barredBy 3 (some .int) :: Tg) B.pre
  have C : Cx G l p s m _ c RX4 cX4_barredBy 3 := ⟨B.exec, B.bytes, hml, findClass_of_methodNamed B.named, fun w hw => hts w (List.mem_cons_of_mem _ hw), hKn, fun q hq => Nat.le_trans hR.2.2.1 hq⟩
  have C2 : Cy meth c (some .int) := ⟨B.returns, B.notSynchronized, hxt⟩
  have key : WG G p l e { frames := 1, cells := 0, slots := 0, locals := 21 } s m ([.ref a0, .int p1, va_rf p2] : List Value).toArray below meth c 3 0 0 (vx_MQ below (QcT G o hs' tvI) (XCT G o hs') ([.ref a0, .int p1, va_rf p2] : List Value).toArray s 0 0 (gA G)) hs [(0, va_rf (some a0)), (1, .int p1), (2, va_rf p2)] [] 0 := by
    unfold f_X4_barredBy at h
    refine q_iload_n C 1 dX4_barredBy_0 rfl ?_
    refine q_case h (fun c0 h => ?_) (fun c0 h => ?_)
    · refine q_tswI C (off := 55) 56 dX4_barredBy_1 c0 (by decide) (by decide) (by decide) (by decide) ?_
      refine q_aload_n C 0 dX4_barredBy_56 rfl ?_
      refine q_gI C fl_X4_53 dX4_barredBy_57 h (fun v18 h => ?_)
      exact q_iret C C2 rfl (Nat.le_of_ble_eq_true rfl) (Nat.le_of_ble_eq_true rfl) dX4_barredBy_60 h
    · refine q_case h (fun c1 h => ?_) (fun c1 h => ?_)
      · refine q_tswI C (off := 60) 61 dX4_barredBy_1 c1 (by decide) (by decide) (by decide) (by decide) ?_
        refine q_aload_n C 0 dX4_barredBy_61 rfl ?_
        refine q_gI C fl_X4_67 dX4_barredBy_62 h (fun v17 h => ?_)
        exact q_iret C C2 rfl (Nat.le_of_ble_eq_true rfl) (Nat.le_of_ble_eq_true rfl) dX4_barredBy_65 h
      · refine q_case h (fun c2 h => ?_) (fun c2 h => ?_)
        · refine q_tswI C (off := 65) 66 dX4_barredBy_1 c2 (by decide) (by decide) (by decide) (by decide) ?_
          refine q_aload_n C 0 dX4_barredBy_66 rfl ?_
          refine q_gR C fl_X4_35 dX4_barredBy_67 h (fun v15 h => ?_)
          refine q_gI C fl_X4_104 dX4_barredBy_70 h (fun v16 h => ?_)
          exact q_iret C C2 rfl (Nat.le_of_ble_eq_true rfl) (Nat.le_of_ble_eq_true rfl) dX4_barredBy_73 h
        · refine q_case h (fun c3 h => ?_) (fun c3 h => ?_)
          · refine q_tswI C (off := 73) 74 dX4_barredBy_1 c3 (by decide) (by decide) (by decide) (by decide) ?_
            refine q_aload_n C 2 dX4_barredBy_74 rfl ?_
            refine q_gI C fl_X4_109 dX4_barredBy_75 h (fun v13 h => ?_)
            refine q_aload_n C 0 dX4_barredBy_78 rfl ?_
            refine q_gI C fl_X4_39 dX4_barredBy_79 h (fun v14 h => ?_)
            refine q_icmp_eq C 90 dX4_barredBy_82 (by decide) h (fun h => ?_) (fun h => ?_)
            · refine q_iconst C (0 : Int32) dX4_barredBy_90 (by decide) ?_
              exact q_iret C C2 rfl (Nat.le_of_ble_eq_true rfl) (Nat.le_of_ble_eq_true rfl) dX4_barredBy_91 h
            · refine q_ldc C kc_X4_110 dX4_barredBy_85 ?_
              refine q_goto C 91 dX4_barredBy_87 (by decide) ?_
              exact q_iret C C2 rfl (Nat.le_of_ble_eq_true rfl) (Nat.le_of_ble_eq_true rfl) dX4_barredBy_91 h
          · refine q_case h (fun c4 h => ?_) (fun c4 h => ?_)
            · refine q_tswI C (off := 91) 92 dX4_barredBy_1 c4 (by decide) (by decide) (by decide) (by decide) ?_
              refine q_aload_n C 2 dX4_barredBy_92 rfl ?_
              refine q_gI C fl_X4_111 dX4_barredBy_93 h (fun v10 h => ?_)
              refine q_aload_n C 0 dX4_barredBy_96 rfl ?_
              refine q_gR C fl_X4_31 dX4_barredBy_97 h (fun v11 h => ?_)
              refine q_gI C fl_X4_114 dX4_barredBy_100 h (fun v12 h => ?_)
              refine q_icmp_ge C 111 dX4_barredBy_103 (by decide) h (fun h => ?_) (fun h => ?_)
              · refine q_iconst C (0 : Int32) dX4_barredBy_111 (by decide) ?_
                exact q_iret C C2 rfl (Nat.le_of_ble_eq_true rfl) (Nat.le_of_ble_eq_true rfl) dX4_barredBy_112 h
              · refine q_ldc C kc_X4_110 dX4_barredBy_106 ?_
                refine q_goto C 112 dX4_barredBy_108 (by decide) ?_
                exact q_iret C C2 rfl (Nat.le_of_ble_eq_true rfl) (Nat.le_of_ble_eq_true rfl) dX4_barredBy_112 h
            · refine q_case h (fun c5 h => ?_) (fun c5 h => ?_)
              · refine q_tswI C (off := 112) 113 dX4_barredBy_1 c5 (by decide) (by decide) (by decide) (by decide) ?_
                refine q_aload_n C 2 dX4_barredBy_113 rfl ?_
                refine q_gI C fl_X4_119 dX4_barredBy_114 h (fun v9 h => ?_)
                refine q_if_eq C 124 dX4_barredBy_117 (by decide) h (fun h => ?_) (fun h => ?_)
                · refine q_ldc C kc_X4_110 dX4_barredBy_124 ?_
                  exact q_iret C C2 rfl (Nat.le_of_ble_eq_true rfl) (Nat.le_of_ble_eq_true rfl) dX4_barredBy_126 h
                · refine q_iconst C (0 : Int32) dX4_barredBy_120 (by decide) ?_
                  refine q_goto C 126 dX4_barredBy_121 (by decide) ?_
                  exact q_iret C C2 rfl (Nat.le_of_ble_eq_true rfl) (Nat.le_of_ble_eq_true rfl) dX4_barredBy_126 h
              · refine q_case h (fun c6 h => ?_) (fun c6 h => ?_)
                · refine q_tswI C (off := 126) 127 dX4_barredBy_1 c6 (by decide) (by decide) (by decide) (by decide) ?_
                  refine q_aload_n C 0 dX4_barredBy_127 rfl ?_
                  refine q_gR C fl_X4_19 dX4_barredBy_128 h (fun v6 h => ?_)
                  refine q_aload_n C 2 dX4_barredBy_131 rfl ?_
                  refine q_gI C fl_X4_60 dX4_barredBy_132 h (fun v7 h => ?_)
                  refine q_callSN C [va_rf v6, .int v7] [] (fun o2 hs1 hm => m_X8_at hm) lk_X4_123 sm_X8_at ⟨(Nat.le_of_ble_eq_true rfl), (Nat.le_of_ble_eq_true rfl)⟩ ⟨(Nat.le_of_ble_eq_true rfl), (Nat.le_of_ble_eq_true rfl)⟩ rfl rfl (by decide) dX4_barredBy_135 h (fun v8 hs h => WG_st (st' := [.int v8]) rfl ?_)
                  exact q_iret C C2 rfl (Nat.le_of_ble_eq_true rfl) (Nat.le_of_ble_eq_true rfl) dX4_barredBy_138 h
                · refine q_case h (fun c7 h => ?_) (fun c7 h => ?_)
                  · refine q_tswI C (off := 138) 139 dX4_barredBy_1 c7 (by decide) (by decide) (by decide) (by decide) ?_
                    refine q_aload_n C 0 dX4_barredBy_139 rfl ?_
                    refine q_gI C fl_X4_70 dX4_barredBy_140 h (fun v5 h => ?_)
                    exact q_iret C C2 rfl (Nat.le_of_ble_eq_true rfl) (Nat.le_of_ble_eq_true rfl) dX4_barredBy_143 h
                  · refine q_case h (fun c8 h => ?_) (fun c8 h => ?_)
                    · refine q_tswI C (off := 143) 144 dX4_barredBy_1 c8 (by decide) (by decide) (by decide) (by decide) ?_
                      refine q_aload_n C 0 dX4_barredBy_144 rfl ?_
                      refine q_gI C fl_X4_73 dX4_barredBy_145 h (fun v4 h => ?_)
                      exact q_iret C C2 rfl (Nat.le_of_ble_eq_true rfl) (Nat.le_of_ble_eq_true rfl) dX4_barredBy_148 h
                    · refine q_case h (fun c9 h => ?_) (fun c9 h => ?_)
                      · refine q_tswI C (off := 148) 149 dX4_barredBy_1 c9 (by decide) (by decide) (by decide) (by decide) ?_
                        refine q_aload_n C 0 dX4_barredBy_149 rfl ?_
                        refine q_gR C fl_X4_22 dX4_barredBy_150 h (fun v1 h => ?_)
                        refine q_aload_n C 2 dX4_barredBy_153 rfl ?_
                        refine q_gI C fl_X4_93 dX4_barredBy_154 h (fun v2 h => ?_)
                        refine q_callSN C [va_rf v1, .int v2] [] (fun o2 hs1 hm => m_X8_at hm) lk_X4_123 sm_X8_at ⟨(Nat.le_of_ble_eq_true rfl), (Nat.le_of_ble_eq_true rfl)⟩ ⟨(Nat.le_of_ble_eq_true rfl), (Nat.le_of_ble_eq_true rfl)⟩ rfl rfl (by decide) dX4_barredBy_157 h (fun v3 hs h => WG_st (st' := [.int v3]) rfl ?_)
                        exact q_iret C C2 rfl (Nat.le_of_ble_eq_true rfl) (Nat.le_of_ble_eq_true rfl) dX4_barredBy_160 h
                      · refine q_tswO C 161 dX4_barredBy_1 (by have z0 := tsw_ne (k := 0) (by decide) c0; have z1 := tsw_ne (k := 1) (by decide) c1; have z2 := tsw_ne (k := 2) (by decide) c2; have z3 := tsw_ne (k := 3) (by decide) c3; have z4 := tsw_ne (k := 4) (by decide) c4; have z5 := tsw_ne (k := 5) (by decide) c5; have z6 := tsw_ne (k := 6) (by decide) c6; have z7 := tsw_ne (k := 7) (by decide) c7; have z8 := tsw_ne (k := 8) (by decide) c8; have z9 := tsw_ne (k := 9) (by decide) c9; omega) (by decide) ?_
                        refine q_iconst C (0 : Int32) dX4_barredBy_161 (by decide) ?_
                        exact q_iret C C2 rfl (Nat.le_of_ble_eq_true rfl) (Nat.le_of_ble_eq_true rfl) dX4_barredBy_162 h
  rw [lg_entry_eq]
  cases p2 <;> exact key _ _ _ hR va_S.rf ⟨lv_entry _ (n := 3) (Nat.le_of_ble_eq_true rfl), (c1_r (c1_i (c1_r c1_n)))⟩

theorem cd_X4_findPossibleSlots : Cond.code yX4_findPossibleSlots cX4_findPossibleSlots 4 none ∈ Tg := Tg_of (i := 341) (by decide +kernel) (by decide +kernel)
theorem wf_X4_15 : Cond.fieldLink RX4 15 RX4 (TX4 10).2.1 (TX4 10).2.2.1 ∈ Tg := Tg_of (i := 917) (by decide +kernel) (by decide +kernel)
theorem fl_X4_15 : Fld RX4 15 7 10 (.array .int) := ⟨RX4, TX4, 18, RX4, rfl, by decide, wf_X4_15, (Or.inl rfl), gu_X4, tyX4_ok _ (by decide), ⟨tyX4, tyX4_ok⟩, nmX4⟩
theorem ml_X4_142 : Cond.methodLink RX4 142 yJx4a65c_size_8abf5 ∈ Tg := Tg_of (i := 342) (by decide +kernel) (by decide +kernel)
theorem lk_X4_142 : Lk RX4 142 yJx4a65c_size_8abf5 cJx4a65c_size_8abf5 1 (some .int) 0 := ⟨ml_X4_142, cd_Jx4a65c_size_8abf5, iw_Jx4a65c, by decide +kernel⟩
theorem ml_X4_147 : Cond.methodLink RX4 147 yJx4a65c_get_915e3 ∈ Tg := Tg_of (i := 355) (by decide +kernel) (by decide +kernel)
theorem lk_X4_147 : Lk RX4 147 yJx4a65c_get_915e3 cJx4a65c_get_915e3 2 (some (.object "java/lang/Object")) 1 := ⟨ml_X4_147, cd_Jx4a65c_get_915e3, iw_Jx4a65c, by decide +kernel⟩
theorem wc_X4_61 : Cond.classLink RX4 61 RX5 ∈ Tg := Tg_of (i := 356) (by decide +kernel) (by decide +kernel)
theorem ml_X4_127 : Cond.methodLink RX4 127 yX4_barredBy ∈ Tg := Tg_of (i := 357) (by decide +kernel) (by decide +kernel)
theorem lk_X4_127 : Lk RX4 127 yX4_barredBy cX4_barredBy 3 (some .int) 2 := ⟨ml_X4_127, cd_X4_barredBy, iw_X4, by decide +kernel⟩
theorem im_X4_barredBy : Cond.instanceMethod yX4_barredBy ∈ Tg := Tg_of (i := 358) (by decide +kernel) (by decide +kernel)
theorem se_X4_X4_barredBy : Cond.selects RX4 yX4_barredBy yX4_barredBy ∈ Tg := Tg_of (i := 359) (by decide +kernel) (by decide +kernel)
theorem ml_X4_133 : Cond.methodLink RX4 133 yJ0_length_8abf5 ∈ Tg := Tg_of (i := 345) (by decide +kernel) (by decide +kernel)
section M_X4_findPossibleSlots
variable {p : Program} {l : Launch} {e : Env} {s : State} {m : MethodId} {args : Array Value} {below : List Frame} {meth : Method} {c : Code} {G : GG} {o : Except Nat Unit} {hs' : Hs}
def L_X4_findPossibleSlots_37 (a0 : Option Nat) (a1 : Option Nat) (a2 : Int32) (k_37_76 : OO Unit) : Nat → Int32 → OO Unit
  | 0, _ => failO
  | n + 1, x3 =>
    (if (10 : Int32) ≤ x3 then
    k_37_76
    else
    gR a0 7 10 fun v9 =>
    ldI 0 v9 a2 fun v10 =>
    rcv a1 2 fun r15 => call (f_Jx4a65c_get_915e3 r15 a2) (fun (v11 : Option Nat) =>
    cst v11 8 (
    rcv a0 7 fun r14 => call (f_X4_barredBy r14 x3 v11) (fun (v12 : Int32) =>
    stI v9 a2 (v10 &&& (v12 ^^^ (-1 : Int32))) (
    lets (x3 + (1 : Int32)) fun (v13 : Int32) =>
    (L_X4_findPossibleSlots_37 a0 a1 a2 k_37_76 n) v13)) nox)) nox)
set_option maxRecDepth 100000 in
set_option maxHeartbeats 4000000 in
theorem w_L_X4_findPossibleSlots_37 (C : Cx G l p s m args c RX4 cX4_findPossibleSlots 4) (C2 : Cy meth c none) (a0 : Option Nat) (a1 : Option Nat) (a2 : Int32) (k_37_76 : OO Unit) (hk_37_76 : ∀ hs, k_37_76  hs = some (o, hs') → WG G p l e { frames := 8, cells := 0, slots := 0, locals := 340 } s m args below meth c 4 0 0 (vx_MQ below (QcT G o hs' tvV) (XCT G o hs') args s 0 0 (gA G)) hs [(0, va_rf a0), (1, va_rf a1), (2, .int a2)] [] 76) : ∀ (n : Nat) (x3 : Int32) (hs : Hs), L_X4_findPossibleSlots_37 a0 a1 a2 k_37_76 n x3 hs = some (o, hs') → WG G p l e { frames := 8, cells := 0, slots := 0, locals := 340 } s m args below meth c 4 0 0 (vx_MQ below (QcT G o hs' tvV) (XCT G o hs') args s 0 0 (gA G)) hs [(0, va_rf a0), (1, va_rf a1), (2, .int a2), (3, .int x3)] [] 37 := by
  intro n
  induction n with
  | zero =>
    intro x3 hs h
    rw [L_X4_findPossibleSlots_37] at h
    exact absurd h failO_e
  | succ n hrec_37 =>
    intro x3 hs h
    rw [L_X4_findPossibleSlots_37] at h
    refine q_iload_n C 3 dX4_findPossibleSlots_37 rfl ?_
    refine q_ldcS C (tx := "hpokscrtgv") (by decide) rfl dX4_findPossibleSlots_38 ?_
    refine q_strlen C ml_X4_133 ⟨(Nat.le_of_ble_eq_true rfl), (Nat.le_of_ble_eq_true rfl)⟩ ⟨(Nat.le_of_ble_eq_true rfl), (Nat.le_of_ble_eq_true rfl)⟩ (by simp only [List.map, cat_rf, cat_i, cat_a]; decide) dX4_findPossibleSlots_40 ?_
    refine q_icmp_ge C 76 dX4_findPossibleSlots_43 (by decide) h (fun h => ?_) (fun h => ?_)
    · refine WG.sub [0, 1, 2] rfl ?_
      exact hk_37_76 _ h
    · refine q_aload_n C 0 dX4_findPossibleSlots_46 rfl ?_
      refine q_gR C fl_X4_15 dX4_findPossibleSlots_47 h (fun v9 h => ?_)
      refine q_iload_n C 2 dX4_findPossibleSlots_50 rfl ?_
      refine q_dup2 C rfl (cat_rf _) dX4_findPossibleSlots_51 ?_
      refine q_iald C dX4_findPossibleSlots_52 h (fun v10 h => ?_)
      refine q_aload_n C 0 dX4_findPossibleSlots_53 rfl ?_
      refine q_iload_n C 3 dX4_findPossibleSlots_54 rfl ?_
      refine q_aload_n C 1 dX4_findPossibleSlots_55 rfl ?_
      refine q_iload_n C 2 dX4_findPossibleSlots_56 rfl ?_
      refine q_callV C (CN := RJx4a65c) (T := TJx4a65c) (N := 3) [.int a2] [.int x3, va_rf a0, .int v10, .int a2, va_rf v9] (fun a0 o2 hs1 hm => m_Jx4a65c_get_915e3 hm) lk_X4_147 im_Jx4a65c_get_915e3 se_Jx4a65c_Jx4a65c_get_915e3 rfl ⟨(Nat.le_of_ble_eq_true rfl), (Nat.le_of_ble_eq_true rfl)⟩ ⟨(Nat.le_of_ble_eq_true rfl), (Nat.le_of_ble_eq_true rfl)⟩ rfl rfl (by simp only [List.map, cat_rf, cat_i, cat_a]; decide) dX4_findPossibleSlots_57 h (fun v11 hs h => WG_st (st' := [va_rf v11, .int x3, va_rf a0, .int v10, .int a2, va_rf v9]) rfl ?_)
      refine q_castS C (nm := RX5) (T := TX5) (N := 5) rfl wc_X4_61 dX4_findPossibleSlots_60 h (fun h => ?_)
      refine q_callV C (CN := RX4) (T := TX4) (N := 18) [.int x3, va_rf v11] [.int v10, .int a2, va_rf v9] (fun a0 o2 hs1 hm => m_X4_barredBy hm) lk_X4_127 im_X4_barredBy se_X4_X4_barredBy rfl ⟨(Nat.le_of_ble_eq_true rfl), (Nat.le_of_ble_eq_true rfl)⟩ ⟨(Nat.le_of_ble_eq_true rfl), (Nat.le_of_ble_eq_true rfl)⟩ rfl rfl (by simp only [List.map, cat_rf, cat_i, cat_a]; decide) dX4_findPossibleSlots_63 h (fun v12 hs h => WG_st (st' := [.int v12, .int v10, .int a2, va_rf v9]) rfl ?_)
      refine q_iconst C (-1 : Int32) dX4_findPossibleSlots_66 (by decide) ?_
      refine q_ixor C dX4_findPossibleSlots_67 ?_
      refine q_iand C dX4_findPossibleSlots_68 ?_
      refine q_iast C dX4_findPossibleSlots_69 h (fun hs h => ?_)
      refine q_iinc C 3 (1 : Int32) (fun v13 => [(3, .int v13), (0, va_rf a0), (1, va_rf a1), (2, .int a2)]) dX4_findPossibleSlots_70 rfl (by decide) (by decide) (fun _ => rfl) h (fun v13 h => ?_)
      refine q_goto C 37 dX4_findPossibleSlots_73 (by decide) ?_
      refine WG.sub [1, 2, 3, 0] rfl ?_
      exact hrec_37 _ _ h
def L_X4_findPossibleSlots_10 (a0 : Option Nat) (a1 : Option Nat) (k_10_82 : OO Unit) : Nat → Int32 → OO Unit
  | 0, _ => failO
  | n + 1, x2 =>
    rcv a1 2 fun r17 => call (f_Jx4a65c_size_8abf5 r17 ) (fun (v4 : Int32) =>
    (if v4 ≤ x2 then
    k_10_82
    else
    gR a0 7 10 fun v5 =>
    alen v5 fun v6 =>
    (if v6 ≤ x2 then
    k_10_82
    else
    gR a0 7 10 fun v7 =>
    stI v7 x2 (1073741823 : Int32) (
    lets (0 : Int32) fun (v8 : Int32) =>
    L_X4_findPossibleSlots_37 a0 a1 x2 (lets (x2 + (1 : Int32)) fun (v16 : Int32) =>
    (L_X4_findPossibleSlots_10 a0 a1 k_10_82 n) v16) 100000 v8)))) nox
set_option maxRecDepth 100000 in
set_option maxHeartbeats 4000000 in
theorem w_L_X4_findPossibleSlots_10 (C : Cx G l p s m args c RX4 cX4_findPossibleSlots 4) (C2 : Cy meth c none) (a0 : Option Nat) (a1 : Option Nat) (k_10_82 : OO Unit) (hk_10_82 : ∀ hs, k_10_82  hs = some (o, hs') → WG G p l e { frames := 8, cells := 0, slots := 0, locals := 340 } s m args below meth c 4 0 0 (vx_MQ below (QcT G o hs' tvV) (XCT G o hs') args s 0 0 (gA G)) hs [] [] 82) : ∀ (n : Nat) (x2 : Int32) (hs : Hs), L_X4_findPossibleSlots_10 a0 a1 k_10_82 n x2 hs = some (o, hs') → WG G p l e { frames := 8, cells := 0, slots := 0, locals := 340 } s m args below meth c 4 0 0 (vx_MQ below (QcT G o hs' tvV) (XCT G o hs') args s 0 0 (gA G)) hs [(0, va_rf a0), (1, va_rf a1), (2, .int x2)] [] 10 := by
  intro n
  induction n with
  | zero =>
    intro x2 hs h
    rw [L_X4_findPossibleSlots_10] at h
    exact absurd h failO_e
  | succ n hrec_10 =>
    intro x2 hs h
    rw [L_X4_findPossibleSlots_10] at h
    refine q_iload_n C 2 dX4_findPossibleSlots_10 rfl ?_
    refine q_aload_n C 1 dX4_findPossibleSlots_11 rfl ?_
    refine q_callV C (CN := RJx4a65c) (T := TJx4a65c) (N := 3) [] [.int x2] (fun a0 o2 hs1 hm => m_Jx4a65c_size_8abf5 hm) lk_X4_142 im_Jx4a65c_size_8abf5 se_Jx4a65c_Jx4a65c_size_8abf5 rfl ⟨(Nat.le_of_ble_eq_true rfl), (Nat.le_of_ble_eq_true rfl)⟩ ⟨(Nat.le_of_ble_eq_true rfl), (Nat.le_of_ble_eq_true rfl)⟩ rfl rfl (by simp only [List.map, cat_rf, cat_i, cat_a]; decide) dX4_findPossibleSlots_12 h (fun v4 hs h => WG_st (st' := [.int v4, .int x2]) rfl ?_)
    refine q_icmp_ge C 82 dX4_findPossibleSlots_15 (by decide) h (fun h => ?_) (fun h => ?_)
    · refine WG.sub [] rfl ?_
      exact hk_10_82 _ h
    · refine q_iload_n C 2 dX4_findPossibleSlots_18 rfl ?_
      refine q_aload_n C 0 dX4_findPossibleSlots_19 rfl ?_
      refine q_gR C fl_X4_15 dX4_findPossibleSlots_20 h (fun v5 h => ?_)
      refine q_alen C dX4_findPossibleSlots_23 h (fun v6 h => ?_)
      refine q_icmp_ge C 82 dX4_findPossibleSlots_24 (by decide) h (fun h => ?_) (fun h => ?_)
      · refine WG.sub [] rfl ?_
        exact hk_10_82 _ h
      · refine q_aload_n C 0 dX4_findPossibleSlots_27 rfl ?_
        refine q_gR C fl_X4_15 dX4_findPossibleSlots_28 h (fun v7 h => ?_)
        refine q_iload_n C 2 dX4_findPossibleSlots_31 rfl ?_
        refine q_ldc C kc_X4_110 dX4_findPossibleSlots_32 ?_
        refine q_iast C dX4_findPossibleSlots_34 h (fun hs h => ?_)
        refine q_iconst C (0 : Int32) dX4_findPossibleSlots_35 (by decide) ?_
        refine q_istore_n C (fun v8 => [(3, .int v8), (0, va_rf a0), (1, va_rf a1), (2, .int x2)]) dX4_findPossibleSlots_36 (by decide) (fun _ => rfl) h (fun v8 h => ?_)
        refine WG.sub [1, 2, 3, 0] rfl ?_
        refine w_L_X4_findPossibleSlots_37 C C2 _ _ _ _ ?_ _ _ _ h
        · intro  hs h
          refine q_iinc C 2 (1 : Int32) (fun v16 => [(2, .int v16), (0, va_rf a0), (1, va_rf a1)]) dX4_findPossibleSlots_76 rfl (by decide) (by decide) (fun _ => rfl) h (fun v16 h => ?_)
          refine q_goto C 10 dX4_findPossibleSlots_79 (by decide) ?_
          refine WG.sub [1, 2, 0] rfl ?_
          exact hrec_10 _ _ h
end M_X4_findPossibleSlots
def f_X4_findPossibleSlots (a0 : Nat) (p1 : Option Nat) : OO Unit :=
    gR (some a0) 7 10 fun v1 =>
    call (f_J7_fill_53178 v1 (0 : Int32)) (fun (v2 : Unit) =>
    lets (0 : Int32) fun (v3 : Int32) =>
    L_X4_findPossibleSlots_10 (some a0) p1 (rtn ()) 100000 v3) nox
set_option maxRecDepth 100000 in
set_option maxHeartbeats 4000000 in
theorem m_X4_findPossibleSlots {G : GG} {l : Launch} {a0 : Nat} {p1 : Option Nat} {hs hs' : Hs} {o : Except Nat Unit} (h : f_X4_findPossibleSlots a0 p1 hs = some (o, hs')) : CT G l yX4_findPossibleSlots cX4_findPossibleSlots 4 none 8 340 0 0 [.ref a0, va_rf p1] hs o hs' tvV := by
  refine vx_ofW (cc := cX4_findPossibleSlots) (maxL := 4) (ret := none) (by decide +kernel) rfl ?_
  intro p e s m args below meth c s₁ B hml hxt hv
  obtain ⟨hav, hR, hKn⟩ := hv
  subst hav
  have hts := atoms_spec (ws := .code yX4_findPossibleSlots cX4_findPossibleSlots 4 none :: Tg) B.pre
  have C : Cx G l p s m _ c RX4 cX4_findPossibleSlots 4 := ⟨B.exec, B.bytes, hml, findClass_of_methodNamed B.named, fun w hw => hts w (List.mem_cons_of_mem _ hw), hKn, fun q hq => Nat.le_trans hR.2.2.1 hq⟩
  have C2 : Cy meth c none := ⟨B.returns, B.notSynchronized, hxt⟩
  have key : WG G p l e { frames := 8, cells := 0, slots := 0, locals := 340 } s m ([.ref a0, va_rf p1] : List Value).toArray below meth c 4 0 0 (vx_MQ below (QcT G o hs' tvV) (XCT G o hs') ([.ref a0, va_rf p1] : List Value).toArray s 0 0 (gA G)) hs [(0, va_rf (some a0)), (1, va_rf p1)] [] 0 := by
    unfold f_X4_findPossibleSlots at h
    refine q_aload_n C 0 dX4_findPossibleSlots_0 rfl ?_
    refine q_gR C fl_X4_15 dX4_findPossibleSlots_1 h (fun v1 h => ?_)
    refine q_iconst C (0 : Int32) dX4_findPossibleSlots_4 (by decide) ?_
    refine q_callS C [va_rf v1, .int (0 : Int32)] [] (fun o2 hs1 hm => m_J7_fill_53178 hm) lk_X4_76 sm_J7_fill_53178 ⟨(Nat.le_of_ble_eq_true rfl), (Nat.le_of_ble_eq_true rfl)⟩ ⟨(Nat.le_of_ble_eq_true rfl), (Nat.le_of_ble_eq_true rfl)⟩ rfl rfl (by decide) dX4_findPossibleSlots_5 h (fun v2 hs h => WG_st (st' := []) rfl ?_)
    refine q_iconst C (0 : Int32) dX4_findPossibleSlots_8 (by decide) ?_
    refine q_istore_n C (fun v3 => [(2, .int v3), (0, va_rf (some a0)), (1, va_rf p1)]) dX4_findPossibleSlots_9 (by decide) (fun _ => rfl) h (fun v3 h => ?_)
    refine WG.sub [1, 2, 0] rfl ?_
    refine w_L_X4_findPossibleSlots_10 C C2 _ _ _ ?_ _ _ _ h
    · intro  hs h
      exact q_vret C C2 rfl (Nat.le_of_ble_eq_true rfl) (Nat.le_of_ble_eq_true rfl) dX4_findPossibleSlots_82 h
  rw [lg_entry_eq]
  cases p1 <;> exact key _ _ _ hR va_S.rf ⟨lv_entry _ (n := 4) (Nat.le_of_ble_eq_true rfl), (c1_r (c1_r c1_n))⟩

theorem cd_X6_judgePlaces : Cond.code yX6_judgePlaces cX6_judgePlaces 2 none ∈ Tg := Tg_of (i := 298) (by decide +kernel) (by decide +kernel)
theorem iw_X6 : Cond.initialized RX6 ∈ Tg := Tg_of (i := 84) (by decide +kernel) (by decide +kernel)
theorem ml_X6_68 : Cond.methodLink RX6 68 yX6_lookAround ∈ Tg := Tg_of (i := 299) (by decide +kernel) (by decide +kernel)
theorem lk_X6_68 : Lk RX6 68 yX6_lookAround cX6_lookAround 3 none 1 := ⟨ml_X6_68, cd_X6_lookAround, iw_X6, by decide +kernel⟩
theorem wf_X6_12 : Cond.fieldLink RX6 12 RX6 (TX6 0).2.1 (TX6 0).2.2.1 ∈ Tg := Tg_of (i := 155) (by decide +kernel) (by decide +kernel)
theorem fl_X6_12 : Fld RX6 12 9 0 (.object "java/util/ArrayList") := ⟨RX6, TX6, 6, RX6, rfl, by decide, wf_X6_12, (Or.inl rfl), gu_X6, tyX6_ok _ (by decide), ⟨tyX6, tyX6_ok⟩, nmX6⟩
theorem ml_X6_71 : Cond.methodLink RX6 71 yX4_findPossibleSlots ∈ Tg := Tg_of (i := 338) (by decide +kernel) (by decide +kernel)
theorem lk_X6_71 : Lk RX6 71 yX4_findPossibleSlots cX4_findPossibleSlots 4 none 1 := ⟨ml_X6_71, cd_X4_findPossibleSlots, iw_X4, by decide +kernel⟩
theorem im_X4_findPossibleSlots : Cond.instanceMethod yX4_findPossibleSlots ∈ Tg := Tg_of (i := 339) (by decide +kernel) (by decide +kernel)
theorem se_X4_X4_findPossibleSlots : Cond.selects RX4 yX4_findPossibleSlots yX4_findPossibleSlots ∈ Tg := Tg_of (i := 340) (by decide +kernel) (by decide +kernel)
theorem im_X6_lookAround : Cond.instanceMethod yX6_lookAround ∈ Tg := Tg_of (i := 300) (by decide +kernel) (by decide +kernel)
theorem se_X6_X6_lookAround : Cond.selects RX6 yX6_lookAround yX6_lookAround ∈ Tg := Tg_of (i := 301) (by decide +kernel) (by decide +kernel)
section M_X6_judgePlaces
variable {p : Program} {l : Launch} {e : Env} {s : State} {m : MethodId} {args : Array Value} {below : List Frame} {meth : Method} {c : Code} {G : GG} {o : Except Nat Unit} {hs' : Hs}
end M_X6_judgePlaces
def f_X6_judgePlaces (a0 : Nat) (p1 : Option Nat) : OO Unit :=
    rcv (some a0) 9 fun r5 => call (f_X6_lookAround r5 p1) (fun (v1 : Unit) =>
    gR (some a0) 9 0 fun v2 =>
    rcv p1 7 fun r4 => call (f_X4_findPossibleSlots r4 v2) (fun (v3 : Unit) =>
    rtn ()) nox) nox
set_option maxRecDepth 100000 in
set_option maxHeartbeats 4000000 in
theorem m_X6_judgePlaces {G : GG} {l : Launch} {a0 : Nat} {p1 : Option Nat} {hs hs' : Hs} {o : Except Nat Unit} (h : f_X6_judgePlaces a0 p1 hs = some (o, hs')) : CT G l yX6_judgePlaces cX6_judgePlaces 2 none 9 363 0 0 [.ref a0, va_rf p1] hs o hs' tvV := by
  refine vx_ofW (cc := cX6_judgePlaces) (maxL := 2) (ret := none) (by decide +kernel) rfl ?_
  intro p e s m args below meth c s₁ B hml hxt hv
  obtain ⟨hav, hR, hKn⟩ := hv
  subst hav
  have hts := atoms_spec (ws := .code yX6_judgePlaces cX6_judgePlaces 2 none :: Tg) B.pre
  have C : Cx G l p s m _ c RX6 cX6_judgePlaces 2 := ⟨B.exec, B.bytes, hml, findClass_of_methodNamed B.named, fun w hw => hts w (List.mem_cons_of_mem _ hw), hKn, fun q hq => Nat.le_trans hR.2.2.1 hq⟩
  have C2 : Cy meth c none := ⟨B.returns, B.notSynchronized, hxt⟩
  have key : WG G p l e { frames := 9, cells := 0, slots := 0, locals := 363 } s m ([.ref a0, va_rf p1] : List Value).toArray below meth c 2 0 0 (vx_MQ below (QcT G o hs' tvV) (XCT G o hs') ([.ref a0, va_rf p1] : List Value).toArray s 0 0 (gA G)) hs [(0, va_rf (some a0)), (1, va_rf p1)] [] 0 := by
    unfold f_X6_judgePlaces at h
    refine q_aload_n C 0 dX6_judgePlaces_0 rfl ?_
    refine q_aload_n C 1 dX6_judgePlaces_1 rfl ?_
    refine q_callV C (CN := RX6) (T := TX6) (N := 6) [va_rf p1] [] (fun a0 o2 hs1 hm => m_X6_lookAround hm) lk_X6_68 im_X6_lookAround se_X6_X6_lookAround rfl ⟨(Nat.le_of_ble_eq_true rfl), (Nat.le_of_ble_eq_true rfl)⟩ ⟨(Nat.le_of_ble_eq_true rfl), (Nat.le_of_ble_eq_true rfl)⟩ rfl rfl (by decide) dX6_judgePlaces_2 h (fun v1 hs h => WG_st (st' := []) rfl ?_)
    refine q_aload_n C 1 dX6_judgePlaces_5 rfl ?_
    refine q_aload_n C 0 dX6_judgePlaces_6 rfl ?_
    refine q_gR C fl_X6_12 dX6_judgePlaces_7 h (fun v2 h => ?_)
    refine q_callV C (CN := RX4) (T := TX4) (N := 18) [va_rf v2] [] (fun a0 o2 hs1 hm => m_X4_findPossibleSlots hm) lk_X6_71 im_X4_findPossibleSlots se_X4_X4_findPossibleSlots rfl ⟨(Nat.le_of_ble_eq_true rfl), (Nat.le_of_ble_eq_true rfl)⟩ ⟨(Nat.le_of_ble_eq_true rfl), (Nat.le_of_ble_eq_true rfl)⟩ rfl rfl (by decide) dX6_judgePlaces_10 h (fun v3 hs h => WG_st (st' := []) rfl ?_)
    exact q_vret C C2 rfl (Nat.le_of_ble_eq_true rfl) (Nat.le_of_ble_eq_true rfl) dX6_judgePlaces_13 h
  rw [lg_entry_eq]
  cases p1 <;> exact key _ _ _ hR va_S.rf ⟨lv_entry _ (n := 2) (Nat.le_of_ble_eq_true rfl), (c1_r (c1_r c1_n))⟩

theorem cd_J6_bitCount_0f7a4 : Cond.code yJ6_bitCount_0f7a4 cJ6_bitCount_0f7a4 1 (some .int) ∈ Tg := Tg_of (i := 370) (by decide +kernel) (by decide +kernel)
theorem kc_J6_265 : Cond.constant RJ6 265 (1431655765) ∈ Tg := Tg_of (i := 371) (by decide +kernel) (by decide +kernel)
theorem kc_J6_266 : Cond.constant RJ6 266 (858993459) ∈ Tg := Tg_of (i := 372) (by decide +kernel) (by decide +kernel)
theorem kc_J6_267 : Cond.constant RJ6 267 (252645135) ∈ Tg := Tg_of (i := 373) (by decide +kernel) (by decide +kernel)
section M_J6_bitCount_0f7a4
variable {p : Program} {l : Launch} {e : Env} {s : State} {m : MethodId} {args : Array Value} {below : List Frame} {meth : Method} {c : Code} {G : GG} {o : Except Nat Int32} {hs' : Hs}
end M_J6_bitCount_0f7a4
def f_J6_bitCount_0f7a4 (p0 : Int32) : OO Int32 :=
    lets ((p0 - (((ushr p0 (1 : Int32)) &&& (1431655765 : Int32))))) fun (v1 : Int32) =>
    lets (((v1 &&& (858993459 : Int32)) + (((ushr v1 (2 : Int32)) &&& (858993459 : Int32))))) fun (v2 : Int32) =>
    lets (((v2 + (ushr v2 (4 : Int32))) &&& (252645135 : Int32))) fun (v3 : Int32) =>
    lets (v3 + (ushr v3 (8 : Int32))) fun (v4 : Int32) =>
    lets (v4 + (ushr v4 (16 : Int32))) fun (v5 : Int32) =>
    rtn (v5 &&& (63 : Int32))
set_option maxRecDepth 100000 in
set_option maxHeartbeats 4000000 in
theorem m_J6_bitCount_0f7a4 {G : GG} {l : Launch} {p0 : Int32} {hs hs' : Hs} {o : Except Nat Int32} (h : f_J6_bitCount_0f7a4 p0 hs = some (o, hs')) : CT G l yJ6_bitCount_0f7a4 cJ6_bitCount_0f7a4 1 (some .int) 0 0 0 0 [.int p0] hs o hs' tvI := by
  refine vx_ofW (cc := cJ6_bitCount_0f7a4) (maxL := 1) (ret := (some .int)) (by decide +kernel) rfl ?_
  intro p e s m args below meth c s₁ B hml hxt hv
  obtain ⟨hav, hR, hKn⟩ := hv
  subst hav
  have hts := atoms_spec (ws := .code yJ6_bitCount_0f7a4 cJ6_bitCount_0f7a4 1 (some .int) :: Tg) B.pre
  have C : Cx G l p s m _ c RJ6 cJ6_bitCount_0f7a4 1 := ⟨B.exec, B.bytes, hml, findClass_of_methodNamed B.named, fun w hw => hts w (List.mem_cons_of_mem _ hw), hKn, fun q hq => Nat.le_trans hR.2.2.1 hq⟩
  have C2 : Cy meth c (some .int) := ⟨B.returns, B.notSynchronized, hxt⟩
  have key : WG G p l e { frames := 0, cells := 0, slots := 0, locals := 0 } s m ([.int p0] : List Value).toArray below meth c 1 0 0 (vx_MQ below (QcT G o hs' tvI) (XCT G o hs') ([.int p0] : List Value).toArray s 0 0 (gA G)) hs [(0, .int p0)] [] 0 := by
    unfold f_J6_bitCount_0f7a4 at h
    refine q_iload_n C 0 dJ6_bitCount_0f7a4_0 rfl ?_
    refine q_iload_n C 0 dJ6_bitCount_0f7a4_1 rfl ?_
    refine q_iconst C (1 : Int32) dJ6_bitCount_0f7a4_2 (by decide) ?_
    refine q_iushr C dJ6_bitCount_0f7a4_3 ?_
    refine q_ldcw C kc_J6_265 dJ6_bitCount_0f7a4_4 ?_
    refine q_iand C dJ6_bitCount_0f7a4_7 ?_
    refine q_isub C dJ6_bitCount_0f7a4_8 ?_
    refine q_istore_n C (fun v1 => [(0, .int v1)]) dJ6_bitCount_0f7a4_9 (by decide) (fun _ => rfl) h (fun v1 h => ?_)
    refine q_iload_n C 0 dJ6_bitCount_0f7a4_10 rfl ?_
    refine q_ldcw C kc_J6_266 dJ6_bitCount_0f7a4_11 ?_
    refine q_iand C dJ6_bitCount_0f7a4_14 ?_
    refine q_iload_n C 0 dJ6_bitCount_0f7a4_15 rfl ?_
    refine q_iconst C (2 : Int32) dJ6_bitCount_0f7a4_16 (by decide) ?_
    refine q_iushr C dJ6_bitCount_0f7a4_17 ?_
    refine q_ldcw C kc_J6_266 dJ6_bitCount_0f7a4_18 ?_
    refine q_iand C dJ6_bitCount_0f7a4_21 ?_
    refine q_iadd C dJ6_bitCount_0f7a4_22 ?_
    refine q_istore_n C (fun v2 => [(0, .int v2)]) dJ6_bitCount_0f7a4_23 (by decide) (fun _ => rfl) h (fun v2 h => ?_)
    refine q_iload_n C 0 dJ6_bitCount_0f7a4_24 rfl ?_
    refine q_iload_n C 0 dJ6_bitCount_0f7a4_25 rfl ?_
    refine q_iconst C (4 : Int32) dJ6_bitCount_0f7a4_26 (by decide) ?_
    refine q_iushr C dJ6_bitCount_0f7a4_27 ?_
    refine q_iadd C dJ6_bitCount_0f7a4_28 ?_
    refine q_ldcw C kc_J6_267 dJ6_bitCount_0f7a4_29 ?_
    refine q_iand C dJ6_bitCount_0f7a4_32 ?_
    refine q_istore_n C (fun v3 => [(0, .int v3)]) dJ6_bitCount_0f7a4_33 (by decide) (fun _ => rfl) h (fun v3 h => ?_)
    refine q_iload_n C 0 dJ6_bitCount_0f7a4_34 rfl ?_
    refine q_iload_n C 0 dJ6_bitCount_0f7a4_35 rfl ?_
    refine q_bipush C (8 : Int32) dJ6_bitCount_0f7a4_36 (by decide) ?_
    refine q_iushr C dJ6_bitCount_0f7a4_38 ?_
    refine q_iadd C dJ6_bitCount_0f7a4_39 ?_
    refine q_istore_n C (fun v4 => [(0, .int v4)]) dJ6_bitCount_0f7a4_40 (by decide) (fun _ => rfl) h (fun v4 h => ?_)
    refine q_iload_n C 0 dJ6_bitCount_0f7a4_41 rfl ?_
    refine q_iload_n C 0 dJ6_bitCount_0f7a4_42 rfl ?_
    refine q_bipush C (16 : Int32) dJ6_bitCount_0f7a4_43 (by decide) ?_
    refine q_iushr C dJ6_bitCount_0f7a4_45 ?_
    refine q_iadd C dJ6_bitCount_0f7a4_46 ?_
    refine q_istore_n C (fun v5 => [(0, .int v5)]) dJ6_bitCount_0f7a4_47 (by decide) (fun _ => rfl) h (fun v5 h => ?_)
    refine q_iload_n C 0 dJ6_bitCount_0f7a4_48 rfl ?_
    refine q_bipush C (63 : Int32) dJ6_bitCount_0f7a4_49 (by decide) ?_
    refine q_iand C dJ6_bitCount_0f7a4_51 ?_
    exact q_iret C C2 rfl (Nat.le_of_ble_eq_true rfl) (Nat.le_of_ble_eq_true rfl) dJ6_bitCount_0f7a4_52 h
  rw [lg_entry_eq]
  exact key _ _ _ hR va_S.rf ⟨lv_entry _ (n := 1) (Nat.le_of_ble_eq_true rfl), (c1_i c1_n)⟩

theorem cd_X4_countPossiblePlaces : Cond.code yX4_countPossiblePlaces cX4_countPossiblePlaces 3 (some .int) ∈ Tg := Tg_of (i := 367) (by decide +kernel) (by decide +kernel)
theorem iw_J6 : Cond.initialized RJ6 ∈ Tg := Tg_of (i := 110) (by decide +kernel) (by decide +kernel)
theorem ml_X4_151 : Cond.methodLink RX4 151 yJ6_bitCount_0f7a4 ∈ Tg := Tg_of (i := 368) (by decide +kernel) (by decide +kernel)
theorem lk_X4_151 : Lk RX4 151 yJ6_bitCount_0f7a4 cJ6_bitCount_0f7a4 1 (some .int) 1 := ⟨ml_X4_151, cd_J6_bitCount_0f7a4, iw_J6, by decide +kernel⟩
theorem sm_J6_bitCount_0f7a4 : Cond.static yJ6_bitCount_0f7a4 ∈ Tg := Tg_of (i := 369) (by decide +kernel) (by decide +kernel)
section M_X4_countPossiblePlaces
variable {p : Program} {l : Launch} {e : Env} {s : State} {m : MethodId} {args : Array Value} {below : List Frame} {meth : Method} {c : Code} {G : GG} {o : Except Nat Int32} {hs' : Hs}
def L_X4_countPossiblePlaces_4 (a0 : Option Nat) (k_4_31 : Int32 → OO Int32) : Nat → Int32 → Int32 → OO Int32
  | 0, _, _ => failO
  | n + 1, x1, x2 =>
    gR a0 7 10 fun v3 =>
    alen v3 fun v4 =>
    (if v4 ≤ x2 then
    k_4_31 x1
    else
    gR a0 7 10 fun v5 =>
    ldI 0 v5 x2 fun v6 =>
    call (f_J6_bitCount_0f7a4 v6) (fun (v7 : Int32) =>
    lets (x1 + v7) fun (v8 : Int32) =>
    lets (x2 + (1 : Int32)) fun (v9 : Int32) =>
    (L_X4_countPossiblePlaces_4 a0 k_4_31 n) v8 v9) nox)
set_option maxRecDepth 100000 in
set_option maxHeartbeats 4000000 in
theorem w_L_X4_countPossiblePlaces_4 (C : Cx G l p s m args c RX4 cX4_countPossiblePlaces 3) (C2 : Cy meth c (some .int)) (a0 : Option Nat) (k_4_31 : Int32 → OO Int32) (hk_4_31 : ∀ (y1 : Int32) hs, k_4_31 y1 hs = some (o, hs') → WG G p l e { frames := 1, cells := 0, slots := 0, locals := 20 } s m args below meth c 3 0 0 (vx_MQ below (QcT G o hs' tvI) (XCT G o hs') args s 0 0 (gA G)) hs [(1, .int y1)] [] 31) : ∀ (n : Nat) (x1 : Int32) (x2 : Int32) (hs : Hs), L_X4_countPossiblePlaces_4 a0 k_4_31 n x1 x2 hs = some (o, hs') → WG G p l e { frames := 1, cells := 0, slots := 0, locals := 20 } s m args below meth c 3 0 0 (vx_MQ below (QcT G o hs' tvI) (XCT G o hs') args s 0 0 (gA G)) hs [(0, va_rf a0), (1, .int x1), (2, .int x2)] [] 4 := by
  intro n
  induction n with
  | zero =>
    intro x1 x2 hs h
    rw [L_X4_countPossiblePlaces_4] at h
    exact absurd h failO_e
  | succ n hrec_4 =>
    intro x1 x2 hs h
    rw [L_X4_countPossiblePlaces_4] at h
    refine q_iload_n C 2 dX4_countPossiblePlaces_4 rfl ?_
    refine q_aload_n C 0 dX4_countPossiblePlaces_5 rfl ?_
    refine q_gR C fl_X4_15 dX4_countPossiblePlaces_6 h (fun v3 h => ?_)
    refine q_alen C dX4_countPossiblePlaces_9 h (fun v4 h => ?_)
    refine q_icmp_ge C 31 dX4_countPossiblePlaces_10 (by decide) h (fun h => ?_) (fun h => ?_)
    · refine WG.sub [1] rfl ?_
      exact hk_4_31 _ _ h
    · refine q_iload_n C 1 dX4_countPossiblePlaces_13 rfl ?_
      refine q_aload_n C 0 dX4_countPossiblePlaces_14 rfl ?_
      refine q_gR C fl_X4_15 dX4_countPossiblePlaces_15 h (fun v5 h => ?_)
      refine q_iload_n C 2 dX4_countPossiblePlaces_18 rfl ?_
      refine q_iald C dX4_countPossiblePlaces_19 h (fun v6 h => ?_)
      refine q_callS C [.int v6] [.int x1] (fun o2 hs1 hm => m_J6_bitCount_0f7a4 hm) lk_X4_151 sm_J6_bitCount_0f7a4 ⟨(Nat.le_of_ble_eq_true rfl), (Nat.le_of_ble_eq_true rfl)⟩ ⟨(Nat.le_of_ble_eq_true rfl), (Nat.le_of_ble_eq_true rfl)⟩ rfl rfl (by simp only [List.map, cat_rf, cat_i, cat_a]; decide) dX4_countPossiblePlaces_20 h (fun v7 hs h => WG_st (st' := [.int v7, .int x1]) rfl ?_)
      refine q_iadd C dX4_countPossiblePlaces_23 ?_
      refine q_istore_n C (fun v8 => [(1, .int v8), (0, va_rf a0), (2, .int x2)]) dX4_countPossiblePlaces_24 (by decide) (fun _ => rfl) h (fun v8 h => ?_)
      refine q_iinc C 2 (1 : Int32) (fun v9 => [(2, .int v9), (1, .int v8), (0, va_rf a0)]) dX4_countPossiblePlaces_25 rfl (by decide) (by decide) (fun _ => rfl) h (fun v9 h => ?_)
      refine q_goto C 4 dX4_countPossiblePlaces_28 (by decide) ?_
      refine WG.sub [2, 1, 0] rfl ?_
      exact hrec_4 _ _ _ h
end M_X4_countPossiblePlaces
def f_X4_countPossiblePlaces (a0 : Nat) : OO Int32 :=
    lets (0 : Int32) fun (v1 : Int32) =>
    lets (0 : Int32) fun (v2 : Int32) =>
    L_X4_countPossiblePlaces_4 (some a0) (fun (v10 : Int32) => rtn v10) 100000 v1 v2
set_option maxRecDepth 100000 in
set_option maxHeartbeats 4000000 in
theorem m_X4_countPossiblePlaces {G : GG} {l : Launch} {a0 : Nat} {hs hs' : Hs} {o : Except Nat Int32} (h : f_X4_countPossiblePlaces a0 hs = some (o, hs')) : CT G l yX4_countPossiblePlaces cX4_countPossiblePlaces 3 (some .int) 1 20 0 0 [.ref a0] hs o hs' tvI := by
  refine vx_ofW (cc := cX4_countPossiblePlaces) (maxL := 3) (ret := (some .int)) (by decide +kernel) rfl ?_
  intro p e s m args below meth c s₁ B hml hxt hv
  obtain ⟨hav, hR, hKn⟩ := hv
  subst hav
  have hts := atoms_spec (ws := .code yX4_countPossiblePlaces cX4_countPossiblePlaces 3 (some .int) :: Tg) B.pre
  have C : Cx G l p s m _ c RX4 cX4_countPossiblePlaces 3 := ⟨B.exec, B.bytes, hml, findClass_of_methodNamed B.named, fun w hw => hts w (List.mem_cons_of_mem _ hw), hKn, fun q hq => Nat.le_trans hR.2.2.1 hq⟩
  have C2 : Cy meth c (some .int) := ⟨B.returns, B.notSynchronized, hxt⟩
  have key : WG G p l e { frames := 1, cells := 0, slots := 0, locals := 20 } s m ([.ref a0] : List Value).toArray below meth c 3 0 0 (vx_MQ below (QcT G o hs' tvI) (XCT G o hs') ([.ref a0] : List Value).toArray s 0 0 (gA G)) hs [(0, va_rf (some a0))] [] 0 := by
    unfold f_X4_countPossiblePlaces at h
    refine q_iconst C (0 : Int32) dX4_countPossiblePlaces_0 (by decide) ?_
    refine q_istore_n C (fun v1 => [(1, .int v1), (0, va_rf (some a0))]) dX4_countPossiblePlaces_1 (by decide) (fun _ => rfl) h (fun v1 h => ?_)
    refine q_iconst C (0 : Int32) dX4_countPossiblePlaces_2 (by decide) ?_
    refine q_istore_n C (fun v2 => [(2, .int v2), (1, .int v1), (0, va_rf (some a0))]) dX4_countPossiblePlaces_3 (by decide) (fun _ => rfl) h (fun v2 h => ?_)
    refine WG.sub [2, 1, 0] rfl ?_
    refine w_L_X4_countPossiblePlaces_4 C C2 _ _ ?_ _ _ _ _ h
    · intro v10 hs h
      refine q_iload_n C 0 dX4_countPossiblePlaces_31 rfl ?_
      exact q_iret C C2 rfl (Nat.le_of_ble_eq_true rfl) (Nat.le_of_ble_eq_true rfl) dX4_countPossiblePlaces_32 h
  rw [lg_entry_eq]
  exact key _ _ _ hR va_S.rf ⟨lv_entry _ (n := 3) (Nat.le_of_ble_eq_true rfl), (c1_r c1_n)⟩

