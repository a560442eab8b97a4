theorem cd_X8_isSound : Cond.code yX8_isSound cX8_isSound 2 (some .boolean) ∈ Tg := Tg_of (i := 544) (by decide +kernel) (by decide +kernel)
theorem ml_X8_409 : Cond.methodLink RX8 409 yX8_cost ∈ Tg := Tg_of (i := 545) (by decide +kernel) (by decide +kernel)
theorem lk_X8_409 : Lk RX8 409 yX8_cost cX8_cost 1 (some .int) 0 := ⟨ml_X8_409, cd_X8_cost, iw_X8, by decide +kernel⟩
theorem ml_X8_412 : Cond.methodLink RX8 412 yX8_costAnew ∈ Tg := Tg_of (i := 546) (by decide +kernel) (by decide +kernel)
theorem lk_X8_412 : Lk RX8 412 yX8_costAnew cX8_costAnew 3 (some .int) 0 := ⟨ml_X8_412, cd_X8_costAnew, iw_X8, by decide +kernel⟩
theorem ml_X8_415 : Cond.methodLink RX8 415 yX8_breaks ∈ Tg := Tg_of (i := 547) (by decide +kernel) (by decide +kernel)
theorem lk_X8_415 : Lk RX8 415 yX8_breaks cX8_breaks 1 (some .int) 0 := ⟨ml_X8_415, cd_X8_breaks, iw_X8, by decide +kernel⟩
theorem im_X8_breaks : Cond.instanceMethod yX8_breaks ∈ Tg := Tg_of (i := 517) (by decide +kernel) (by decide +kernel)
theorem se_X8_X8_breaks : Cond.selects RX8 yX8_breaks yX8_breaks ∈ Tg := Tg_of (i := 518) (by decide +kernel) (by decide +kernel)
theorem im_X8_costAnew : Cond.instanceMethod yX8_costAnew ∈ Tg := Tg_of (i := 470) (by decide +kernel) (by decide +kernel)
theorem se_X8_X8_costAnew : Cond.selects RX8 yX8_costAnew yX8_costAnew ∈ Tg := Tg_of (i := 471) (by decide +kernel) (by decide +kernel)
theorem im_X8_cost : Cond.instanceMethod yX8_cost ∈ Tg := Tg_of (i := 461) (by decide +kernel) (by decide +kernel)
theorem se_X8_X8_cost : Cond.selects RX8 yX8_cost yX8_cost ∈ Tg := Tg_of (i := 462) (by decide +kernel) (by decide +kernel)
section M_X8_isSound
variable {p : Program} {l : Launch} {e : Env} {s : State} {m : MethodId} {args : Array Value} {below : List Frame} {meth : Method} {c : Code} {G : GG} {o : Except Nat Int32} {hs' : Hs}
def L_X8_isSound_22 (a0 : Option Nat) (k_22_54 : OO Int32) (k_22_62 : OO Int32) : Nat → Int32 → OO Int32
  | 0, _ => failO
  | n + 1, x1 =>
    (if (4 : Int32) ≤ x1 then
    k_22_62
    else
    gR a0 11 4 fun v5 =>
    gR a0 11 1 fun v6 =>
    rcv v5 3 fun r13 => call (f_X0_lackByGiving r13 v6 x1) (fun (v7 : Int32) =>
    gR a0 11 4 fun v8 =>
    gR a0 11 1 fun v9 =>
    rcv v8 3 fun r12 => call (f_X0_lackByNumbers r12 v9 x1) (fun (v10 : Int32) =>
    (if v7 = v10 then
    lets (x1 + (1 : Int32)) fun (v11 : Int32) =>
    (L_X8_isSound_22 a0 k_22_54 k_22_62 n) v11
    else
    k_22_54)) nox) nox)
set_option maxRecDepth 100000 in
set_option maxHeartbeats 4000000 in
theorem w_L_X8_isSound_22 (C : Cx G l p s m args c RX8 cX8_isSound 2) (C2 : Cy meth c (some .boolean)) (a0 : Option Nat) (k_22_54 : OO Int32) (k_22_62 : OO Int32) (hk_22_54 : ∀ hs, k_22_54  hs = some (o, hs') → WG G p l e { frames := 12, cells := 0, slots := 0, locals := 428 } s m args below meth c 2 0 0 (vx_MQ below (QcT G o hs' tvI) (XCT G o hs') args s 0 0 (gA G)) hs [] [] 54) (hk_22_62 : ∀ hs, k_22_62  hs = some (o, hs') → WG G p l e { frames := 12, cells := 0, slots := 0, locals := 428 } s m args below meth c 2 0 0 (vx_MQ below (QcT G o hs' tvI) (XCT G o hs') args s 0 0 (gA G)) hs [] [] 62) : ∀ (n : Nat) (x1 : Int32) (hs : Hs), L_X8_isSound_22 a0 k_22_54 k_22_62 n x1 hs = some (o, hs') → WG G p l e { frames := 12, cells := 0, slots := 0, locals := 428 } s m args below meth c 2 0 0 (vx_MQ below (QcT G o hs' tvI) (XCT G o hs') args s 0 0 (gA G)) hs [(0, va_rf a0), (1, .int x1)] [] 22 := by
  intro n
  induction n with
  | zero =>
    intro x1 hs h
    rw [L_X8_isSound_22] at h
    exact absurd h failO_e
  | succ n hrec_22 =>
    intro x1 hs h
    rw [L_X8_isSound_22] at h
    refine q_iload_n C 1 dX8_isSound_22 rfl ?_
    refine q_iconst C (4 : Int32) dX8_isSound_23 (by decide) ?_
    refine q_icmp_ge C 62 dX8_isSound_24 (by decide) h (fun h => ?_) (fun h => ?_)
    · refine WG.sub [] rfl ?_
      exact hk_22_62 _ h
    · refine q_aload_n C 0 dX8_isSound_27 rfl ?_
      refine q_gR C fl_X8_40 dX8_isSound_28 h (fun v5 h => ?_)
      refine q_aload_n C 0 dX8_isSound_31 rfl ?_
      refine q_gR C fl_X8_19 dX8_isSound_32 h (fun v6 h => ?_)
      refine q_iload_n C 1 dX8_isSound_35 rfl ?_
      refine q_callV C (CN := RX0) (T := TX0) (N := 1) [va_rf v6, .int x1] [] (fun a0 o2 hs1 hm => m_X0_lackByGiving hm) lk_X8_318 im_X0_lackByGiving se_X0_X0_lackByGiving rfl ⟨(Nat.le_of_ble_eq_true rfl), (Nat.le_of_ble_eq_true rfl)⟩ ⟨(Nat.le_of_ble_eq_true rfl), (Nat.le_of_ble_eq_true rfl)⟩ rfl rfl (by decide) dX8_isSound_36 h (fun v7 hs h => WG_st (st' := [.int v7]) rfl ?_)
      refine q_aload_n C 0 dX8_isSound_39 rfl ?_
      refine q_gR C fl_X8_40 dX8_isSound_40 h (fun v8 h => ?_)
      refine q_aload_n C 0 dX8_isSound_43 rfl ?_
      refine q_gR C fl_X8_19 dX8_isSound_44 h (fun v9 h => ?_)
      refine q_iload_n C 1 dX8_isSound_47 rfl ?_
      refine q_callV C (CN := RX0) (T := TX0) (N := 1) [va_rf v9, .int x1] [.int v7] (fun a0 o2 hs1 hm => m_X0_lackByNumbers hm) lk_X8_322 im_X0_lackByNumbers se_X0_X0_lackByNumbers rfl ⟨(Nat.le_of_ble_eq_true rfl), (Nat.le_of_ble_eq_true rfl)⟩ ⟨(Nat.le_of_ble_eq_true rfl), (Nat.le_of_ble_eq_true rfl)⟩ rfl rfl (by simp only [List.map, cat_rf, cat_i, cat_a]; decide) dX8_isSound_48 h (fun v10 hs h => WG_st (st' := [.int v10, .int v7]) rfl ?_)
      refine q_icmp_eq C 56 dX8_isSound_51 (by decide) h (fun h => ?_) (fun h => ?_)
      · refine q_iinc C 1 (1 : Int32) (fun v11 => [(1, .int v11), (0, va_rf a0)]) dX8_isSound_56 rfl (by decide) (by decide) (fun _ => rfl) h (fun v11 h => ?_)
        refine q_goto C 22 dX8_isSound_59 (by decide) ?_
        refine WG.sub [1, 0] rfl ?_
        exact hrec_22 _ _ h
      · refine WG.sub [] rfl ?_
        exact hk_22_54 _ h
end M_X8_isSound
def f_X8_isSound (a0 : Nat) : OO Int32 :=
    rcv (some a0) 11 fun r16 => call (f_X8_cost r16 ) (fun (v1 : Int32) =>
    rcv (some a0) 11 fun r15 => call (f_X8_costAnew r15 ) (fun (v2 : Int32) =>
    (if ¬ v1 = v2 then
    retZ (0 : Int32)
    else
    rcv (some a0) 11 fun r14 => call (f_X8_breaks r14 ) (fun (v3 : Int32) =>
    (if v3 = 0 then
    lets (0 : Int32) fun (v4 : Int32) =>
    L_X8_isSound_22 (some a0) (retZ (0 : Int32)) (retZ (1 : Int32)) 100000 v4
    else
    retZ (0 : Int32))) nox)) nox) nox
set_option maxRecDepth 100000 in
set_option maxHeartbeats 4000000 in
theorem m_X8_isSound {G : GG} {l : Launch} {a0 : Nat} {hs hs' : Hs} {o : Except Nat Int32} (h : f_X8_isSound a0 hs = some (o, hs')) : CT G l yX8_isSound cX8_isSound 2 (some .boolean) 12 428 0 0 [.ref a0] hs o hs' tvI := by
  refine vx_ofW (cc := cX8_isSound) (maxL := 2) (ret := (some .boolean)) (by decide +kernel) rfl ?_
  intro p e s m args below meth c s₁ B hml hxt hv
  obtain ⟨hav, hR, hKn⟩ := hv
  subst hav
  have hts := atoms_spec (ws := .code yX8_isSound cX8_isSound 2 (some .boolean) :: Tg) B.pre
  have C : Cx G l p s m _ c RX8 cX8_isSound 2 := ⟨B.exec, B.bytes, hml, findClass_of_methodNamed B.named, fun w hw => hts w (List.mem_cons_of_mem _ hw), hKn, fun q hq => Nat.le_trans hR.2.2.1 hq⟩
  have C2 : Cy meth c (some .boolean) := ⟨B.returns, B.notSynchronized, hxt⟩
  have key : WG G p l e { frames := 12, cells := 0, slots := 0, locals := 428 } s m ([.ref a0] : List Value).toArray below meth c 2 0 0 (vx_MQ below (QcT G o hs' tvI) (XCT G o hs') ([.ref a0] : List Value).toArray s 0 0 (gA G)) hs [(0, va_rf (some a0))] [] 0 := by
    unfold f_X8_isSound at h
    refine q_aload_n C 0 dX8_isSound_0 rfl ?_
    refine q_callV C (CN := RX8) (T := TX8) (N := 10) [] [] (fun a0 o2 hs1 hm => m_X8_cost hm) lk_X8_409 im_X8_cost se_X8_X8_cost rfl ⟨(Nat.le_of_ble_eq_true rfl), (Nat.le_of_ble_eq_true rfl)⟩ ⟨(Nat.le_of_ble_eq_true rfl), (Nat.le_of_ble_eq_true rfl)⟩ rfl rfl (by decide) dX8_isSound_1 h (fun v1 hs h => WG_st (st' := [.int v1]) rfl ?_)
    refine q_aload_n C 0 dX8_isSound_4 rfl ?_
    refine q_callV C (CN := RX8) (T := TX8) (N := 10) [] [.int v1] (fun a0 o2 hs1 hm => m_X8_costAnew hm) lk_X8_412 im_X8_costAnew se_X8_X8_costAnew rfl ⟨(Nat.le_of_ble_eq_true rfl), (Nat.le_of_ble_eq_true rfl)⟩ ⟨(Nat.le_of_ble_eq_true rfl), (Nat.le_of_ble_eq_true rfl)⟩ rfl rfl (by simp only [List.map, cat_rf, cat_i, cat_a]; decide) dX8_isSound_5 h (fun v2 hs h => WG_st (st' := [.int v2, .int v1]) rfl ?_)
    refine q_icmp_ne C 18 dX8_isSound_8 (by decide) h (fun h => ?_) (fun h => ?_)
    · refine q_iconst C (0 : Int32) dX8_isSound_18 (by decide) ?_
      exact q_zret C C2 rfl (Nat.le_of_ble_eq_true rfl) (Nat.le_of_ble_eq_true rfl) dX8_isSound_19 h
    · refine q_aload_n C 0 dX8_isSound_11 rfl ?_
      refine q_callV C (CN := RX8) (T := TX8) (N := 10) [] [] (fun a0 o2 hs1 hm => m_X8_breaks hm) lk_X8_415 im_X8_breaks se_X8_X8_breaks rfl ⟨(Nat.le_of_ble_eq_true rfl), (Nat.le_of_ble_eq_true rfl)⟩ ⟨(Nat.le_of_ble_eq_true rfl), (Nat.le_of_ble_eq_true rfl)⟩ rfl rfl (by decide) dX8_isSound_12 h (fun v3 hs h => WG_st (st' := [.int v3]) rfl ?_)
      refine q_if_eq C 20 dX8_isSound_15 (by decide) h (fun h => ?_) (fun h => ?_)
      · refine q_iconst C (0 : Int32) dX8_isSound_20 (by decide) ?_
        refine q_istore_n C (fun v4 => [(1, .int v4), (0, va_rf (some a0))]) dX8_isSound_21 (by decide) (fun _ => rfl) h (fun v4 h => ?_)
        refine WG.sub [1, 0] rfl ?_
        refine w_L_X8_isSound_22 C C2 _ _ _ ?_ ?_ _ _ _ h
        · intro  hs h
          refine q_iconst C (0 : Int32) dX8_isSound_54 (by decide) ?_
          exact q_zret C C2 rfl (Nat.le_of_ble_eq_true rfl) (Nat.le_of_ble_eq_true rfl) dX8_isSound_55 h
        · intro  hs h
          refine q_iconst C (1 : Int32) dX8_isSound_62 (by decide) ?_
          exact q_zret C C2 rfl (Nat.le_of_ble_eq_true rfl) (Nat.le_of_ble_eq_true rfl) dX8_isSound_63 h
      · refine q_iconst C (0 : Int32) dX8_isSound_18 (by decide) ?_
        exact q_zret C C2 rfl (Nat.le_of_ble_eq_true rfl) (Nat.le_of_ble_eq_true rfl) dX8_isSound_19 h
  rw [lg_entry_eq]
  exact key _ _ _ hR va_S.rf ⟨lv_entry _ (n := 2) (Nat.le_of_ble_eq_true rfl), (c1_r c1_n)⟩

theorem cd_X9_init : Cond.code yX9_init cX9_init 2 none ∈ Tg := Tg_of (i := 1487) (by decide +kernel) (by decide +kernel)
theorem wf_X9_7 : Cond.fieldLink RX9 7 RX9 (TX9 0).2.1 (TX9 0).2.2.1 ∈ Tg := Tg_of (i := 1489) (by decide +kernel) (by decide +kernel)
set_option maxRecDepth 100000 in
theorem gu_X9 : ∀ w ∈ u_ws RX9 TX9 28, w ∈ Tg := by decide +kernel
theorem fw_X9_7 : FldW RX9 7 12 0 (.array .int) true := ⟨RX9, TX9, 28, RX9, rfl, by decide, wf_X9_7, (Or.inl rfl), gu_X9, tyX9_ok _ (by decide), ⟨tyX9, tyX9_ok⟩, nmX9, rfl, fun _ => rfl⟩
theorem wf_X9_13 : Cond.fieldLink RX9 13 RX9 (TX9 1).2.1 (TX9 1).2.2.1 ∈ Tg := Tg_of (i := 1490) (by decide +kernel) (by decide +kernel)
theorem fw_X9_13 : FldW RX9 13 12 1 (.array .int) true := ⟨RX9, TX9, 28, RX9, rfl, by decide, wf_X9_13, (Or.inl rfl), gu_X9, tyX9_ok _ (by decide), ⟨tyX9, tyX9_ok⟩, nmX9, rfl, fun _ => rfl⟩
theorem wf_X9_16 : Cond.fieldLink RX9 16 RX9 (TX9 2).2.1 (TX9 2).2.2.1 ∈ Tg := Tg_of (i := 1491) (by decide +kernel) (by decide +kernel)
theorem fw_X9_16 : FldW RX9 16 12 2 (.array .int) true := ⟨RX9, TX9, 28, RX9, rfl, by decide, wf_X9_16, (Or.inl rfl), gu_X9, tyX9_ok _ (by decide), ⟨tyX9, tyX9_ok⟩, nmX9, rfl, fun _ => rfl⟩
theorem wf_X9_19 : Cond.fieldLink RX9 19 RX9 (TX9 3).2.1 (TX9 3).2.2.1 ∈ Tg := Tg_of (i := 1492) (by decide +kernel) (by decide +kernel)
theorem fw_X9_19 : FldW RX9 19 12 3 (.array .int) true := ⟨RX9, TX9, 28, RX9, rfl, by decide, wf_X9_19, (Or.inl rfl), gu_X9, tyX9_ok _ (by decide), ⟨tyX9, tyX9_ok⟩, nmX9, rfl, fun _ => rfl⟩
theorem wf_X9_22 : Cond.fieldLink RX9 22 RX9 (TX9 4).2.1 (TX9 4).2.2.1 ∈ Tg := Tg_of (i := 1493) (by decide +kernel) (by decide +kernel)
theorem fw_X9_22 : FldW RX9 22 12 4 (.array .int) true := ⟨RX9, TX9, 28, RX9, rfl, by decide, wf_X9_22, (Or.inl rfl), gu_X9, tyX9_ok _ (by decide), ⟨tyX9, tyX9_ok⟩, nmX9, rfl, fun _ => rfl⟩
theorem wf_X9_25 : Cond.fieldLink RX9 25 RX9 (TX9 5).2.1 (TX9 5).2.2.1 ∈ Tg := Tg_of (i := 1494) (by decide +kernel) (by decide +kernel)
theorem fw_X9_25 : FldW RX9 25 12 5 (.array .int) true := ⟨RX9, TX9, 28, RX9, rfl, by decide, wf_X9_25, (Or.inl rfl), gu_X9, tyX9_ok _ (by decide), ⟨tyX9, tyX9_ok⟩, nmX9, rfl, fun _ => rfl⟩
theorem wf_X9_28 : Cond.fieldLink RX9 28 RX9 (TX9 6).2.1 (TX9 6).2.2.1 ∈ Tg := Tg_of (i := 1495) (by decide +kernel) (by decide +kernel)
theorem fw_X9_28 : FldW RX9 28 12 6 (.array .int) true := ⟨RX9, TX9, 28, RX9, rfl, by decide, wf_X9_28, (Or.inl rfl), gu_X9, tyX9_ok _ (by decide), ⟨tyX9, tyX9_ok⟩, nmX9, rfl, fun _ => rfl⟩
theorem ac_1 : Cond.arrayClass .boolean ∈ Tg := Tg_of (i := 1574) (by decide +kernel) (by decide +kernel)
theorem wf_X9_31 : Cond.fieldLink RX9 31 RX9 (TX9 7).2.1 (TX9 7).2.2.1 ∈ Tg := Tg_of (i := 1496) (by decide +kernel) (by decide +kernel)
theorem fw_X9_31 : FldW RX9 31 12 7 (.array .boolean) true := ⟨RX9, TX9, 28, RX9, rfl, by decide, wf_X9_31, (Or.inl rfl), gu_X9, tyX9_ok _ (by decide), ⟨tyX9, tyX9_ok⟩, nmX9, rfl, fun _ => rfl⟩
theorem wf_X9_35 : Cond.fieldLink RX9 35 RX9 (TX9 8).2.1 (TX9 8).2.2.1 ∈ Tg := Tg_of (i := 1497) (by decide +kernel) (by decide +kernel)
theorem fw_X9_35 : FldW RX9 35 12 8 (.array .boolean) true := ⟨RX9, TX9, 28, RX9, rfl, by decide, wf_X9_35, (Or.inl rfl), gu_X9, tyX9_ok _ (by decide), ⟨tyX9, tyX9_ok⟩, nmX9, rfl, fun _ => rfl⟩
theorem wf_X9_38 : Cond.fieldLink RX9 38 RX9 (TX9 9).2.1 (TX9 9).2.2.1 ∈ Tg := Tg_of (i := 1498) (by decide +kernel) (by decide +kernel)
theorem fw_X9_38 : FldW RX9 38 12 9 (.array .int) true := ⟨RX9, TX9, 28, RX9, rfl, by decide, wf_X9_38, (Or.inl rfl), gu_X9, tyX9_ok _ (by decide), ⟨tyX9, tyX9_ok⟩, nmX9, rfl, fun _ => rfl⟩
theorem wf_X9_41 : Cond.fieldLink RX9 41 RX9 (TX9 10).2.1 (TX9 10).2.2.1 ∈ Tg := Tg_of (i := 1499) (by decide +kernel) (by decide +kernel)
theorem fw_X9_41 : FldW RX9 41 12 10 (.array .int) true := ⟨RX9, TX9, 28, RX9, rfl, by decide, wf_X9_41, (Or.inl rfl), gu_X9, tyX9_ok _ (by decide), ⟨tyX9, tyX9_ok⟩, nmX9, rfl, fun _ => rfl⟩
theorem wf_X9_44 : Cond.fieldLink RX9 44 RX9 (TX9 11).2.1 (TX9 11).2.2.1 ∈ Tg := Tg_of (i := 1500) (by decide +kernel) (by decide +kernel)
theorem fw_X9_44 : FldW RX9 44 12 11 (.array .int) true := ⟨RX9, TX9, 28, RX9, rfl, by decide, wf_X9_44, (Or.inl rfl), gu_X9, tyX9_ok _ (by decide), ⟨tyX9, tyX9_ok⟩, nmX9, rfl, fun _ => rfl⟩
theorem wf_X9_47 : Cond.fieldLink RX9 47 RX9 (TX9 12).2.1 (TX9 12).2.2.1 ∈ Tg := Tg_of (i := 1501) (by decide +kernel) (by decide +kernel)
theorem fw_X9_47 : FldW RX9 47 12 12 (.array .int) true := ⟨RX9, TX9, 28, RX9, rfl, by decide, wf_X9_47, (Or.inl rfl), gu_X9, tyX9_ok _ (by decide), ⟨tyX9, tyX9_ok⟩, nmX9, rfl, fun _ => rfl⟩
theorem wf_X9_50 : Cond.fieldLink RX9 50 RX9 (TX9 13).2.1 (TX9 13).2.2.1 ∈ Tg := Tg_of (i := 1502) (by decide +kernel) (by decide +kernel)
theorem fw_X9_50 : FldW RX9 50 12 13 (.array .int) true := ⟨RX9, TX9, 28, RX9, rfl, by decide, wf_X9_50, (Or.inl rfl), gu_X9, tyX9_ok _ (by decide), ⟨tyX9, tyX9_ok⟩, nmX9, rfl, fun _ => rfl⟩
theorem wf_X9_53 : Cond.fieldLink RX9 53 RX9 (TX9 14).2.1 (TX9 14).2.2.1 ∈ Tg := Tg_of (i := 1503) (by decide +kernel) (by decide +kernel)
theorem fw_X9_53 : FldW RX9 53 12 14 (.array .int) true := ⟨RX9, TX9, 28, RX9, rfl, by decide, wf_X9_53, (Or.inl rfl), gu_X9, tyX9_ok _ (by decide), ⟨tyX9, tyX9_ok⟩, nmX9, rfl, fun _ => rfl⟩
theorem wf_X9_56 : Cond.fieldLink RX9 56 RX9 (TX9 15).2.1 (TX9 15).2.2.1 ∈ Tg := Tg_of (i := 1504) (by decide +kernel) (by decide +kernel)
theorem fw_X9_56 : FldW RX9 56 12 15 (.array .int) true := ⟨RX9, TX9, 28, RX9, rfl, by decide, wf_X9_56, (Or.inl rfl), gu_X9, tyX9_ok _ (by decide), ⟨tyX9, tyX9_ok⟩, nmX9, rfl, fun _ => rfl⟩
theorem wf_X9_59 : Cond.fieldLink RX9 59 RX9 (TX9 16).2.1 (TX9 16).2.2.1 ∈ Tg := Tg_of (i := 1505) (by decide +kernel) (by decide +kernel)
theorem fw_X9_59 : FldW RX9 59 12 16 (.array .int) true := ⟨RX9, TX9, 28, RX9, rfl, by decide, wf_X9_59, (Or.inl rfl), gu_X9, tyX9_ok _ (by decide), ⟨tyX9, tyX9_ok⟩, nmX9, rfl, fun _ => rfl⟩
theorem wf_X9_62 : Cond.fieldLink RX9 62 RX9 (TX9 17).2.1 (TX9 17).2.2.1 ∈ Tg := Tg_of (i := 1506) (by decide +kernel) (by decide +kernel)
theorem fw_X9_62 : FldW RX9 62 12 17 (.array .int) true := ⟨RX9, TX9, 28, RX9, rfl, by decide, wf_X9_62, (Or.inl rfl), gu_X9, tyX9_ok _ (by decide), ⟨tyX9, tyX9_ok⟩, nmX9, rfl, fun _ => rfl⟩
theorem wf_X9_65 : Cond.fieldLink RX9 65 RX9 (TX9 18).2.1 (TX9 18).2.2.1 ∈ Tg := Tg_of (i := 1507) (by decide +kernel) (by decide +kernel)
theorem fw_X9_65 : FldW RX9 65 12 18 (.array .int) true := ⟨RX9, TX9, 28, RX9, rfl, by decide, wf_X9_65, (Or.inl rfl), gu_X9, tyX9_ok _ (by decide), ⟨tyX9, tyX9_ok⟩, nmX9, rfl, fun _ => rfl⟩
theorem wf_X9_68 : Cond.fieldLink RX9 68 RX9 (TX9 19).2.1 (TX9 19).2.2.1 ∈ Tg := Tg_of (i := 1508) (by decide +kernel) (by decide +kernel)
theorem fw_X9_68 : FldW RX9 68 12 19 (.array .int) true := ⟨RX9, TX9, 28, RX9, rfl, by decide, wf_X9_68, (Or.inl rfl), gu_X9, tyX9_ok _ (by decide), ⟨tyX9, tyX9_ok⟩, nmX9, rfl, fun _ => rfl⟩
theorem wf_X9_71 : Cond.fieldLink RX9 71 RX9 (TX9 20).2.1 (TX9 20).2.2.1 ∈ Tg := Tg_of (i := 1509) (by decide +kernel) (by decide +kernel)
theorem fw_X9_71 : FldW RX9 71 12 20 .int false := ⟨RX9, TX9, 28, RX9, rfl, by decide, wf_X9_71, (Or.inl rfl), gu_X9, tyX9_ok _ (by decide), ⟨tyX9, tyX9_ok⟩, nmX9, rfl, fun z => nomatch z⟩
theorem wf_X9_75 : Cond.fieldLink RX9 75 RX9 (TX9 21).2.1 (TX9 21).2.2.1 ∈ Tg := Tg_of (i := 1510) (by decide +kernel) (by decide +kernel)
theorem fw_X9_75 : FldW RX9 75 12 21 .int false := ⟨RX9, TX9, 28, RX9, rfl, by decide, wf_X9_75, (Or.inl rfl), gu_X9, tyX9_ok _ (by decide), ⟨tyX9, tyX9_ok⟩, nmX9, rfl, fun z => nomatch z⟩
theorem wf_X9_78 : Cond.fieldLink RX9 78 RX9 (TX9 22).2.1 (TX9 22).2.2.1 ∈ Tg := Tg_of (i := 1511) (by decide +kernel) (by decide +kernel)
theorem fw_X9_78 : FldW RX9 78 12 22 .int false := ⟨RX9, TX9, 28, RX9, rfl, by decide, wf_X9_78, (Or.inl rfl), gu_X9, tyX9_ok _ (by decide), ⟨tyX9, tyX9_ok⟩, nmX9, rfl, fun z => nomatch z⟩
theorem wf_X9_81 : Cond.fieldLink RX9 81 RX9 (TX9 23).2.1 (TX9 23).2.2.1 ∈ Tg := Tg_of (i := 1512) (by decide +kernel) (by decide +kernel)
theorem fw_X9_81 : FldW RX9 81 12 23 .int false := ⟨RX9, TX9, 28, RX9, rfl, by decide, wf_X9_81, (Or.inl rfl), gu_X9, tyX9_ok _ (by decide), ⟨tyX9, tyX9_ok⟩, nmX9, rfl, fun z => nomatch z⟩
theorem wf_X9_84 : Cond.fieldLink RX9 84 RX9 (TX9 24).2.1 (TX9 24).2.2.1 ∈ Tg := Tg_of (i := 1513) (by decide +kernel) (by decide +kernel)
theorem fw_X9_84 : FldW RX9 84 12 24 .int false := ⟨RX9, TX9, 28, RX9, rfl, by decide, wf_X9_84, (Or.inl rfl), gu_X9, tyX9_ok _ (by decide), ⟨tyX9, tyX9_ok⟩, nmX9, rfl, fun z => nomatch z⟩
theorem wf_X9_87 : Cond.fieldLink RX9 87 RX9 (TX9 25).2.1 (TX9 25).2.2.1 ∈ Tg := Tg_of (i := 1514) (by decide +kernel) (by decide +kernel)
theorem fw_X9_87 : FldW RX9 87 12 25 .int false := ⟨RX9, TX9, 28, RX9, rfl, by decide, wf_X9_87, (Or.inl rfl), gu_X9, tyX9_ok _ (by decide), ⟨tyX9, tyX9_ok⟩, nmX9, rfl, fun z => nomatch z⟩
theorem wf_X9_90 : Cond.fieldLink RX9 90 RX9 (TX9 26).2.1 (TX9 26).2.2.1 ∈ Tg := Tg_of (i := 1515) (by decide +kernel) (by decide +kernel)
theorem fw_X9_90 : FldW RX9 90 12 26 .int false := ⟨RX9, TX9, 28, RX9, rfl, by decide, wf_X9_90, (Or.inl rfl), gu_X9, tyX9_ok _ (by decide), ⟨tyX9, tyX9_ok⟩, nmX9, rfl, fun z => nomatch z⟩
theorem wf_X9_93 : Cond.fieldLink RX9 93 RX9 (TX9 27).2.1 (TX9 27).2.2.1 ∈ Tg := Tg_of (i := 1516) (by decide +kernel) (by decide +kernel)
theorem fw_X9_93 : FldW RX9 93 12 27 .int false := ⟨RX9, TX9, 28, RX9, rfl, by decide, wf_X9_93, (Or.inl rfl), gu_X9, tyX9_ok _ (by decide), ⟨tyX9, tyX9_ok⟩, nmX9, rfl, fun z => nomatch z⟩
theorem fl_X9_56 : Fld RX9 56 12 15 (.array .int) := ⟨RX9, TX9, 28, RX9, rfl, by decide, wf_X9_56, (Or.inl rfl), gu_X9, tyX9_ok _ (by decide), ⟨tyX9, tyX9_ok⟩, nmX9⟩
theorem mo_X9_1 : Cond.methodLink RX9 1 Lib.objectInit ∈ Tg := Tg_of (i := 1488) (by decide +kernel) (by decide +kernel)
section M_X9_init
variable {p : Program} {l : Launch} {e : Env} {s : State} {m : MethodId} {args : Array Value} {below : List Frame} {meth : Method} {c : Code} {G : GG} {o : Except Nat Unit} {hs' : Hs}
def L_X9_init_205 (a0 : Option Nat) (k_205_223 : OO Unit) : Nat → Int32 → OO Unit
  | 0, _ => failO
  | n + 1, x1 =>
    (if (4 : Int32) ≤ x1 then
    k_205_223
    else
    gR a0 12 15 fun v22 =>
    stI v22 x1 (1 : Int32) (
    lets (x1 + (1 : Int32)) fun (v23 : Int32) =>
    (L_X9_init_205 a0 k_205_223 n) v23))
set_option maxRecDepth 100000 in
set_option maxHeartbeats 4000000 in
theorem w_L_X9_init_205 (C : Cx G l p s m args c RX9 cX9_init 2) (C2 : Cy meth c none) (a0 : Option Nat) (k_205_223 : OO Unit) (hk_205_223 : ∀ hs, k_205_223  hs = some (o, hs') → WG G p l e { frames := 1, cells := 20, slots := 543, locals := 20 } s m args below meth c 2 20 543 (vx_MQ below (QcT G o hs' tvV) (XCT G o hs') args s 20 543 (gA G)) hs [] [] 223) : ∀ (n : Nat) (x1 : Int32) (hs : Hs), L_X9_init_205 a0 k_205_223 n x1 hs = some (o, hs') → WG G p l e { frames := 1, cells := 20, slots := 543, locals := 20 } s m args below meth c 2 20 543 (vx_MQ below (QcT G o hs' tvV) (XCT G o hs') args s 20 543 (gA G)) hs [(0, va_rf a0), (1, .int x1)] [] 205 := by
  intro n
  induction n with
  | zero =>
    intro x1 hs h
    rw [L_X9_init_205] at h
    exact absurd h failO_e
  | succ n hrec_205 =>
    intro x1 hs h
    rw [L_X9_init_205] at h
    refine q_iload_n C 1 dX9_init_205 rfl ?_
    refine q_iconst C (4 : Int32) dX9_init_206 (by decide) ?_
    refine q_icmp_ge C 223 dX9_init_207 (by decide) h (fun h => ?_) (fun h => ?_)
    · refine WG.sub [] rfl ?_
      exact hk_205_223 _ h
    · refine q_aload_n C 0 dX9_init_210 rfl ?_
      refine q_gR C fl_X9_56 dX9_init_211 h (fun v22 h => ?_)
      refine q_iload_n C 1 dX9_init_214 rfl ?_
      refine q_iconst C (1 : Int32) dX9_init_215 (by decide) ?_
      refine q_iast C dX9_init_216 h (fun hs h => ?_)
      refine q_iinc C 1 (1 : Int32) (fun v23 => [(1, .int v23), (0, va_rf a0)]) dX9_init_217 rfl (by decide) (by decide) (fun _ => rfl) h (fun v23 h => ?_)
      refine q_goto C 205 dX9_init_220 (by decide) ?_
      refine WG.sub [1, 0] rfl ?_
      exact hrec_205 _ _ h
end M_X9_init
def f_X9_init (a0 : Nat) : OO Unit :=
    nwI 0 (8 : Int32) 8 fun q1 =>
    pR (some a0) 12 0 (some q1) (
    nwI 0 (8 : Int32) 8 fun q2 =>
    pR (some a0) 12 1 (some q2) (
    nwI 0 (8 : Int32) 8 fun q3 =>
    pR (some a0) 12 2 (some q3) (
    nwI 0 (8 : Int32) 8 fun q4 =>
    pR (some a0) 12 3 (some q4) (
    nwI 0 (8 : Int32) 8 fun q5 =>
    pR (some a0) 12 4 (some q5) (
    nwI 0 (8 : Int32) 8 fun q6 =>
    pR (some a0) 12 5 (some q6) (
    nwI 0 (240 : Int32) 240 fun q7 =>
    pR (some a0) 12 6 (some q7) (
    nwI 1 (8 : Int32) 8 fun q8 =>
    pR (some a0) 12 7 (some q8) (
    nwI 1 (16 : Int32) 16 fun q9 =>
    pR (some a0) 12 8 (some q9) (
    nwI 0 (16 : Int32) 16 fun q10 =>
    pR (some a0) 12 9 (some q10) (
    nwI 0 (16 : Int32) 16 fun q11 =>
    pR (some a0) 12 10 (some q11) (
    nwI 0 (16 : Int32) 16 fun q12 =>
    pR (some a0) 12 11 (some q12) (
    nwI 0 (16 : Int32) 16 fun q13 =>
    pR (some a0) 12 12 (some q13) (
    nwI 0 (16 : Int32) 16 fun q14 =>
    pR (some a0) 12 13 (some q14) (
    nwI 0 (16 : Int32) 16 fun q15 =>
    pR (some a0) 12 14 (some q15) (
    nwI 0 (4 : Int32) 4 fun q16 =>
    pR (some a0) 12 15 (some q16) (
    nwI 0 (96 : Int32) 96 fun q17 =>
    pR (some a0) 12 16 (some q17) (
    nwI 0 (16 : Int32) 16 fun q18 =>
    pR (some a0) 12 17 (some q18) (
    nwI 0 (3 : Int32) 3 fun q19 =>
    pR (some a0) 12 18 (some q19) (
    nwI 0 (16 : Int32) 16 fun q20 =>
    pR (some a0) 12 19 (some q20) (
    pI (some a0) 12 20 (0 : Int32) (
    pI (some a0) 12 21 (0 : Int32) (
    pI (some a0) 12 22 (0 : Int32) (
    pI (some a0) 12 23 (0 : Int32) (
    pI (some a0) 12 24 (0 : Int32) (
    pI (some a0) 12 25 (0 : Int32) (
    pI (some a0) 12 26 (0 : Int32) (
    pI (some a0) 12 27 (0 : Int32) (
    lets (0 : Int32) fun (v21 : Int32) =>
    L_X9_init_205 (some a0) (rtn ()) 100000 v21))))))))))))))))))))))))))))
set_option maxRecDepth 100000 in
set_option maxHeartbeats 4000000 in
theorem m_X9_init {G : GG} {l : Launch} {a0 : Nat} {hs hs' : Hs} {o : Except Nat Unit} (h : f_X9_init a0 hs = some (o, hs')) : CT G l yX9_init cX9_init 2 none 1 20 20 543 [.ref a0] hs o hs' tvV := by
  refine vx_ofW (cc := cX9_init) (maxL := 2) (ret := none) (by decide +kernel) rfl ?_
  intro p e s m args below meth c s₁ B hml hxt hv
  obtain ⟨hav, hR, hKn⟩ := hv
  subst hav
  have hts := atoms_spec (ws := .code yX9_init cX9_init 2 none :: Tg) B.pre
  have C : Cx G l p s m _ c RX9 cX9_init 2 := ⟨B.exec, B.bytes, hml, findClass_of_methodNamed B.named, fun w hw => hts w (List.mem_cons_of_mem _ hw), hKn, fun q hq => Nat.le_trans hR.2.2.1 hq⟩
  have C2 : Cy meth c none := ⟨B.returns, B.notSynchronized, hxt⟩
  have hin : meth.name = "<init>" := (name_of_methodNamed B.named B.method).1
  have key : WG G p l e { frames := 1, cells := 20, slots := 543, locals := 20 } s m ([.ref a0] : List Value).toArray below meth c 2 0 0 (vx_MQ below (QcT G o hs' tvV) (XCT G o hs') ([.ref a0] : List Value).toArray s 20 543 (gA G)) hs [(0, va_rf (some a0))] [] 0 := by
    unfold f_X9_init at h
    refine q_aload_n C 0 dX9_init_0 rfl ?_
    refine q_objInit C rfl mo_X9_1 im_objInit cd_objInit (Nat.le_of_ble_eq_true rfl) (Nat.le_of_ble_eq_true rfl) (by decide) dX9_init_1 ?_
    refine q_aload_n C 0 dX9_init_4 rfl ?_
    refine q_bipush C (8 : Int32) dX9_init_5 (by decide) ?_
    refine q_newI C 8 (Nat.le_of_ble_eq_true rfl) ac_0 (Nat.le_of_ble_eq_true rfl) (Nat.le_of_ble_eq_true rfl) dX9_init_7 h (fun q1 hs h => ?_)
    refine q_pR C fw_X9_7 (fun _ => hin) rfl dX9_init_9 h (fun hs h => ?_)
    refine q_aload_n C 0 dX9_init_12 rfl ?_
    refine q_bipush C (8 : Int32) dX9_init_13 (by decide) ?_
    refine q_newI C 8 (Nat.le_of_ble_eq_true rfl) ac_0 (Nat.le_of_ble_eq_true rfl) (Nat.le_of_ble_eq_true rfl) dX9_init_15 h (fun q2 hs h => ?_)
    refine q_pR C fw_X9_13 (fun _ => hin) rfl dX9_init_17 h (fun hs h => ?_)
    refine q_aload_n C 0 dX9_init_20 rfl ?_
    refine q_bipush C (8 : Int32) dX9_init_21 (by decide) ?_
    refine q_newI C 8 (Nat.le_of_ble_eq_true rfl) ac_0 (Nat.le_of_ble_eq_true rfl) (Nat.le_of_ble_eq_true rfl) dX9_init_23 h (fun q3 hs h => ?_)
    refine q_pR C fw_X9_16 (fun _ => hin) rfl dX9_init_25 h (fun hs h => ?_)
    refine q_aload_n C 0 dX9_init_28 rfl ?_
    refine q_bipush C (8 : Int32) dX9_init_29 (by decide) ?_
    refine q_newI C 8 (Nat.le_of_ble_eq_true rfl) ac_0 (Nat.le_of_ble_eq_true rfl) (Nat.le_of_ble_eq_true rfl) dX9_init_31 h (fun q4 hs h => ?_)
    refine q_pR C fw_X9_19 (fun _ => hin) rfl dX9_init_33 h (fun hs h => ?_)
    refine q_aload_n C 0 dX9_init_36 rfl ?_
    refine q_bipush C (8 : Int32) dX9_init_37 (by decide) ?_
    refine q_newI C 8 (Nat.le_of_ble_eq_true rfl) ac_0 (Nat.le_of_ble_eq_true rfl) (Nat.le_of_ble_eq_true rfl) dX9_init_39 h (fun q5 hs h => ?_)
    refine q_pR C fw_X9_22 (fun _ => hin) rfl dX9_init_41 h (fun hs h => ?_)
    refine q_aload_n C 0 dX9_init_44 rfl ?_
    refine q_bipush C (8 : Int32) dX9_init_45 (by decide) ?_
    refine q_newI C 8 (Nat.le_of_ble_eq_true rfl) ac_0 (Nat.le_of_ble_eq_true rfl) (Nat.le_of_ble_eq_true rfl) dX9_init_47 h (fun q6 hs h => ?_)
    refine q_pR C fw_X9_25 (fun _ => hin) rfl dX9_init_49 h (fun hs h => ?_)
    refine q_aload_n C 0 dX9_init_52 rfl ?_
    refine q_sipush C (240 : Int32) dX9_init_53 (by decide) ?_
    refine q_newI C 240 (Nat.le_of_ble_eq_true rfl) ac_0 (Nat.le_of_ble_eq_true rfl) (Nat.le_of_ble_eq_true rfl) dX9_init_56 h (fun q7 hs h => ?_)
    refine q_pR C fw_X9_28 (fun _ => hin) rfl dX9_init_58 h (fun hs h => ?_)
    refine q_aload_n C 0 dX9_init_61 rfl ?_
    refine q_bipush C (8 : Int32) dX9_init_62 (by decide) ?_
    refine q_newZ C 8 (Nat.le_of_ble_eq_true rfl) ac_1 (Nat.le_of_ble_eq_true rfl) (Nat.le_of_ble_eq_true rfl) dX9_init_64 h (fun q8 hs h => ?_)
    refine q_pR C fw_X9_31 (fun _ => hin) rfl dX9_init_66 h (fun hs h => ?_)
    refine q_aload_n C 0 dX9_init_69 rfl ?_
    refine q_bipush C (16 : Int32) dX9_init_70 (by decide) ?_
    refine q_newZ C 16 (Nat.le_of_ble_eq_true rfl) ac_1 (Nat.le_of_ble_eq_true rfl) (Nat.le_of_ble_eq_true rfl) dX9_init_72 h (fun q9 hs h => ?_)
    refine q_pR C fw_X9_35 (fun _ => hin) rfl dX9_init_74 h (fun hs h => ?_)
    refine q_aload_n C 0 dX9_init_77 rfl ?_
    refine q_bipush C (16 : Int32) dX9_init_78 (by decide) ?_
    refine q_newI C 16 (Nat.le_of_ble_eq_true rfl) ac_0 (Nat.le_of_ble_eq_true rfl) (Nat.le_of_ble_eq_true rfl) dX9_init_80 h (fun q10 hs h => ?_)
    refine q_pR C fw_X9_38 (fun _ => hin) rfl dX9_init_82 h (fun hs h => ?_)
    refine q_aload_n C 0 dX9_init_85 rfl ?_
    refine q_bipush C (16 : Int32) dX9_init_86 (by decide) ?_
    refine q_newI C 16 (Nat.le_of_ble_eq_true rfl) ac_0 (Nat.le_of_ble_eq_true rfl) (Nat.le_of_ble_eq_true rfl) dX9_init_88 h (fun q11 hs h => ?_)
    refine q_pR C fw_X9_41 (fun _ => hin) rfl dX9_init_90 h (fun hs h => ?_)
    refine q_aload_n C 0 dX9_init_93 rfl ?_
    refine q_bipush C (16 : Int32) dX9_init_94 (by decide) ?_
    refine q_newI C 16 (Nat.le_of_ble_eq_true rfl) ac_0 (Nat.le_of_ble_eq_true rfl) (Nat.le_of_ble_eq_true rfl) dX9_init_96 h (fun q12 hs h => ?_)
    refine q_pR C fw_X9_44 (fun _ => hin) rfl dX9_init_98 h (fun hs h => ?_)
    refine q_aload_n C 0 dX9_init_101 rfl ?_
    refine q_bipush C (16 : Int32) dX9_init_102 (by decide) ?_
    refine q_newI C 16 (Nat.le_of_ble_eq_true rfl) ac_0 (Nat.le_of_ble_eq_true rfl) (Nat.le_of_ble_eq_true rfl) dX9_init_104 h (fun q13 hs h => ?_)
    refine q_pR C fw_X9_47 (fun _ => hin) rfl dX9_init_106 h (fun hs h => ?_)
    refine q_aload_n C 0 dX9_init_109 rfl ?_
    refine q_bipush C (16 : Int32) dX9_init_110 (by decide) ?_
    refine q_newI C 16 (Nat.le_of_ble_eq_true rfl) ac_0 (Nat.le_of_ble_eq_true rfl) (Nat.le_of_ble_eq_true rfl) dX9_init_112 h (fun q14 hs h => ?_)
    refine q_pR C fw_X9_50 (fun _ => hin) rfl dX9_init_114 h (fun hs h => ?_)
    refine q_aload_n C 0 dX9_init_117 rfl ?_
    refine q_bipush C (16 : Int32) dX9_init_118 (by decide) ?_
    refine q_newI C 16 (Nat.le_of_ble_eq_true rfl) ac_0 (Nat.le_of_ble_eq_true rfl) (Nat.le_of_ble_eq_true rfl) dX9_init_120 h (fun q15 hs h => ?_)
    refine q_pR C fw_X9_53 (fun _ => hin) rfl dX9_init_122 h (fun hs h => ?_)
    refine q_aload_n C 0 dX9_init_125 rfl ?_
    refine q_iconst C (4 : Int32) dX9_init_126 (by decide) ?_
    refine q_newI C 4 (Nat.le_of_ble_eq_true rfl) ac_0 (Nat.le_of_ble_eq_true rfl) (Nat.le_of_ble_eq_true rfl) dX9_init_127 h (fun q16 hs h => ?_)
    refine q_pR C fw_X9_56 (fun _ => hin) rfl dX9_init_129 h (fun hs h => ?_)
    refine q_aload_n C 0 dX9_init_132 rfl ?_
    refine q_bipush C (96 : Int32) dX9_init_133 (by decide) ?_
    refine q_newI C 96 (Nat.le_of_ble_eq_true rfl) ac_0 (Nat.le_of_ble_eq_true rfl) (Nat.le_of_ble_eq_true rfl) dX9_init_135 h (fun q17 hs h => ?_)
    refine q_pR C fw_X9_59 (fun _ => hin) rfl dX9_init_137 h (fun hs h => ?_)
    refine q_aload_n C 0 dX9_init_140 rfl ?_
    refine q_bipush C (16 : Int32) dX9_init_141 (by decide) ?_
    refine q_newI C 16 (Nat.le_of_ble_eq_true rfl) ac_0 (Nat.le_of_ble_eq_true rfl) (Nat.le_of_ble_eq_true rfl) dX9_init_143 h (fun q18 hs h => ?_)
    refine q_pR C fw_X9_62 (fun _ => hin) rfl dX9_init_145 h (fun hs h => ?_)
    refine q_aload_n C 0 dX9_init_148 rfl ?_
    refine q_iconst C (3 : Int32) dX9_init_149 (by decide) ?_
    refine q_newI C 3 (Nat.le_of_ble_eq_true rfl) ac_0 (Nat.le_of_ble_eq_true rfl) (Nat.le_of_ble_eq_true rfl) dX9_init_150 h (fun q19 hs h => ?_)
    refine q_pR C fw_X9_65 (fun _ => hin) rfl dX9_init_152 h (fun hs h => ?_)
    refine q_aload_n C 0 dX9_init_155 rfl ?_
    refine q_bipush C (16 : Int32) dX9_init_156 (by decide) ?_
    refine q_newI C 16 (Nat.le_of_ble_eq_true rfl) ac_0 (Nat.le_of_ble_eq_true rfl) (Nat.le_of_ble_eq_true rfl) dX9_init_158 h (fun q20 hs h => ?_)
    refine q_pR C fw_X9_68 (fun _ => hin) rfl dX9_init_160 h (fun hs h => ?_)
    refine q_aload_n C 0 dX9_init_163 rfl ?_
    refine q_iconst C (0 : Int32) dX9_init_164 (by decide) ?_
    refine q_pI C fw_X9_71 (fun z => nomatch z) dX9_init_165 h (fun hs h => ?_)
    refine q_aload_n C 0 dX9_init_168 rfl ?_
    refine q_iconst C (0 : Int32) dX9_init_169 (by decide) ?_
    refine q_pI C fw_X9_75 (fun z => nomatch z) dX9_init_170 h (fun hs h => ?_)
    refine q_aload_n C 0 dX9_init_173 rfl ?_
    refine q_iconst C (0 : Int32) dX9_init_174 (by decide) ?_
    refine q_pI C fw_X9_78 (fun z => nomatch z) dX9_init_175 h (fun hs h => ?_)
    refine q_aload_n C 0 dX9_init_178 rfl ?_
    refine q_iconst C (0 : Int32) dX9_init_179 (by decide) ?_
    refine q_pI C fw_X9_81 (fun z => nomatch z) dX9_init_180 h (fun hs h => ?_)
    refine q_aload_n C 0 dX9_init_183 rfl ?_
    refine q_iconst C (0 : Int32) dX9_init_184 (by decide) ?_
    refine q_pI C fw_X9_84 (fun z => nomatch z) dX9_init_185 h (fun hs h => ?_)
    refine q_aload_n C 0 dX9_init_188 rfl ?_
    refine q_iconst C (0 : Int32) dX9_init_189 (by decide) ?_
    refine q_pI C fw_X9_87 (fun z => nomatch z) dX9_init_190 h (fun hs h => ?_)
    refine q_aload_n C 0 dX9_init_193 rfl ?_
    refine q_iconst C (0 : Int32) dX9_init_194 (by decide) ?_
    refine q_pI C fw_X9_90 (fun z => nomatch z) dX9_init_195 h (fun hs h => ?_)
    refine q_aload_n C 0 dX9_init_198 rfl ?_
    refine q_iconst C (0 : Int32) dX9_init_199 (by decide) ?_
    refine q_pI C fw_X9_93 (fun z => nomatch z) dX9_init_200 h (fun hs h => ?_)
    refine q_iconst C (0 : Int32) dX9_init_203 (by decide) ?_
    refine q_istore_n C (fun v21 => [(1, .int v21), (0, va_rf (some a0))]) dX9_init_204 (by decide) (fun _ => rfl) h (fun v21 h => ?_)
    refine WG.sub [1, 0] rfl ?_
    refine w_L_X9_init_205 C C2 _ _ ?_ _ _ _ h
    · intro  hs h
      exact q_vret C C2 rfl (Nat.le_of_ble_eq_true rfl) (Nat.le_of_ble_eq_true rfl) dX9_init_223 h
  rw [lg_entry_eq]
  exact key _ _ _ hR va_S.rf ⟨lv_entry _ (n := 2) (Nat.le_of_ble_eq_true rfl), (c1_r c1_n)⟩

theorem cd_X9_thrown : Cond.code yX9_thrown cX9_thrown 1 (some .int) ∈ Tg := Tg_of (i := 1578) (by decide +kernel) (by decide +kernel)
theorem fl_X9_71 : Fld RX9 71 12 20 .int := ⟨RX9, TX9, 28, RX9, rfl, by decide, wf_X9_71, (Or.inl rfl), gu_X9, tyX9_ok _ (by decide), ⟨tyX9, tyX9_ok⟩, nmX9⟩
section M_X9_thrown
variable {p : Program} {l : Launch} {e : Env} {s : State} {m : MethodId} {args : Array Value} {below : List Frame} {meth : Method} {c : Code} {G : GG} {o : Except Nat Int32} {hs' : Hs}
end M_X9_thrown
def f_X9_thrown (a0 : Nat) : OO Int32 :=
    gI (some a0) 12 20 fun v1 =>
    rtn v1
set_option maxRecDepth 100000 in
set_option maxHeartbeats 4000000 in
theorem m_X9_thrown {G : GG} {l : Launch} {a0 : Nat} {hs hs' : Hs} {o : Except Nat Int32} (h : f_X9_thrown a0 hs = some (o, hs')) : CT G l yX9_thrown cX9_thrown 1 (some .int) 0 0 0 0 [.ref a0] hs o hs' tvI := by
  refine vx_ofW (cc := cX9_thrown) (maxL := 1) (ret := (some .int)) (by decide +kernel) rfl ?_
  intro p e s m args below meth c s₁ B hml hxt hv
  obtain ⟨hav, hR, hKn⟩ := hv
  subst hav
  have hts := atoms_spec (ws := .code yX9_thrown cX9_thrown 1 (some .int) :: Tg) B.pre
  have C : Cx G l p s m _ c RX9 cX9_thrown 1 := ⟨B.exec, B.bytes, hml, findClass_of_methodNamed B.named, fun w hw => hts w (List.mem_cons_of_mem _ hw), hKn, fun q hq => Nat.le_trans hR.2.2.1 hq⟩
  have C2 : Cy meth c (some .int) := ⟨B.returns, B.notSynchronized, hxt⟩
  have key : WG G p l e { frames := 0, cells := 0, slots := 0, locals := 0 } s m ([.ref a0] : List Value).toArray below meth c 1 0 0 (vx_MQ below (QcT G o hs' tvI) (XCT G o hs') ([.ref a0] : List Value).toArray s 0 0 (gA G)) hs [(0, va_rf (some a0))] [] 0 := by
    unfold f_X9_thrown at h
    refine q_aload_n C 0 dX9_thrown_0 rfl ?_
    refine q_gI C fl_X9_71 dX9_thrown_1 h (fun v1 h => ?_)
    exact q_iret C C2 rfl (Nat.le_of_ble_eq_true rfl) (Nat.le_of_ble_eq_true rfl) dX9_thrown_4 h
  rw [lg_entry_eq]
  exact key _ _ _ hR va_S.rf ⟨lv_entry _ (n := 1) (Nat.le_of_ble_eq_true rfl), (c1_r c1_n)⟩

theorem cd_X9_in : Cond.code yX9_in cX9_in 3 (some .boolean) ∈ Tg := Tg_of (i := 1585) (by decide +kernel) (by decide +kernel)
section M_X9_in
variable {p : Program} {l : Launch} {e : Env} {s : State} {m : MethodId} {args : Array Value} {below : List Frame} {meth : Method} {c : Code} {G : GG} {o : Except Nat Int32} {hs' : Hs}
end M_X9_in
def f_X9_in (p0 : Int32) (p1 : Int32) (p2 : Int32) : OO Int32 :=
    (if p0 < p1 then
    retZ (0 : Int32)
    else
    (if p2 < p0 then
    retZ (0 : Int32)
    else
    retZ (1 : Int32)))
set_option maxRecDepth 100000 in
set_option maxHeartbeats 4000000 in
theorem m_X9_in {G : GG} {l : Launch} {p0 : Int32} {p1 : Int32} {p2 : Int32} {hs hs' : Hs} {o : Except Nat Int32} (h : f_X9_in p0 p1 p2 hs = some (o, hs')) : CT G l yX9_in cX9_in 3 (some .boolean) 0 0 0 0 [.int p0, .int p1, .int p2] hs o hs' tvI := by
  refine vx_ofW (cc := cX9_in) (maxL := 3) (ret := (some .boolean)) (by decide +kernel) rfl ?_
  intro p e s m args below meth c s₁ B hml hxt hv
  obtain ⟨hav, hR, hKn⟩ := hv
  subst hav
  have hts := atoms_spec (ws := .code yX9_in cX9_in 3 (some .boolean) :: Tg) B.pre
  have C : Cx G l p s m _ c RX9 cX9_in 3 := ⟨B.exec, B.bytes, hml, findClass_of_methodNamed B.named, fun w hw => hts w (List.mem_cons_of_mem _ hw), hKn, fun q hq => Nat.le_trans hR.2.2.1 hq⟩
  have C2 : Cy meth c (some .boolean) := ⟨B.returns, B.notSynchronized, hxt⟩
  have key : WG G p l e { frames := 0, cells := 0, slots := 0, locals := 0 } s m ([.int p0, .int p1, .int p2] : List Value).toArray below meth c 3 0 0 (vx_MQ below (QcT G o hs' tvI) (XCT G o hs') ([.int p0, .int p1, .int p2] : List Value).toArray s 0 0 (gA G)) hs [(0, .int p0), (1, .int p1), (2, .int p2)] [] 0 := by
    unfold f_X9_in at h
    refine q_iload_n C 0 dX9_in_0 rfl ?_
    refine q_iload_n C 1 dX9_in_1 rfl ?_
    refine q_icmp_lt C 14 dX9_in_2 (by decide) h (fun h => ?_) (fun h => ?_)
    · refine q_iconst C (0 : Int32) dX9_in_14 (by decide) ?_
      exact q_zret C C2 rfl (Nat.le_of_ble_eq_true rfl) (Nat.le_of_ble_eq_true rfl) dX9_in_15 h
    · refine q_iload_n C 0 dX9_in_5 rfl ?_
      refine q_iload_n C 2 dX9_in_6 rfl ?_
      refine q_icmp_gt C 14 dX9_in_7 (by decide) h (fun h => ?_) (fun h => ?_)
      · refine q_iconst C (0 : Int32) dX9_in_14 (by decide) ?_
        exact q_zret C C2 rfl (Nat.le_of_ble_eq_true rfl) (Nat.le_of_ble_eq_true rfl) dX9_in_15 h
      · refine q_iconst C (1 : Int32) dX9_in_10 (by decide) ?_
        refine q_goto C 15 dX9_in_11 (by decide) ?_
        exact q_zret C C2 rfl (Nat.le_of_ble_eq_true rfl) (Nat.le_of_ble_eq_true rfl) dX9_in_15 h
  rw [lg_entry_eq]
  exact key _ _ _ hR va_S.rf ⟨lv_entry _ (n := 3) (Nat.le_of_ble_eq_true rfl), (c1_i (c1_i (c1_i c1_n)))⟩

theorem cd_X9_plain : Cond.code yX9_plain cX9_plain 2 (some .int) ∈ Tg := Tg_of (i := 1765) (by decide +kernel) (by decide +kernel)
section M_X9_plain
variable {p : Program} {l : Launch} {e : Env} {s : State} {m : MethodId} {args : Array Value} {below : List Frame} {meth : Method} {c : Code} {G : GG} {o : Except Nat Int32} {hs' : Hs}
end M_X9_plain
def f_X9_plain (a0 : Nat) (p1 : Int32) : OO Int32 :=
    pI (some a0) 12 20 (0 : Int32) (
    rtn p1)
set_option maxRecDepth 100000 in
set_option maxHeartbeats 4000000 in
theorem m_X9_plain {G : GG} {l : Launch} {a0 : Nat} {p1 : Int32} {hs hs' : Hs} {o : Except Nat Int32} (h : f_X9_plain a0 p1 hs = some (o, hs')) : CT G l yX9_plain cX9_plain 2 (some .int) 0 0 0 0 [.ref a0, .int p1] hs o hs' tvI := by
  refine vx_ofW (cc := cX9_plain) (maxL := 2) (ret := (some .int)) (by decide +kernel) rfl ?_
  intro p e s m args below meth c s₁ B hml hxt hv
  obtain ⟨hav, hR, hKn⟩ := hv
  subst hav
  have hts := atoms_spec (ws := .code yX9_plain cX9_plain 2 (some .int) :: Tg) B.pre
  have C : Cx G l p s m _ c RX9 cX9_plain 2 := ⟨B.exec, B.bytes, hml, findClass_of_methodNamed B.named, fun w hw => hts w (List.mem_cons_of_mem _ hw), hKn, fun q hq => Nat.le_trans hR.2.2.1 hq⟩
  have C2 : Cy meth c (some .int) := ⟨B.returns, B.notSynchronized, hxt⟩
  have key : WG G p l e { frames := 0, cells := 0, slots := 0, locals := 0 } s m ([.ref a0, .int p1] : List Value).toArray below meth c 2 0 0 (vx_MQ below (QcT G o hs' tvI) (XCT G o hs') ([.ref a0, .int p1] : List Value).toArray s 0 0 (gA G)) hs [(0, va_rf (some a0)), (1, .int p1)] [] 0 := by
    unfold f_X9_plain at h
    refine q_aload_n C 0 dX9_plain_0 rfl ?_
    refine q_iconst C (0 : Int32) dX9_plain_1 (by decide) ?_
    refine q_pI C fw_X9_71 (fun z => nomatch z) dX9_plain_2 h (fun hs h => ?_)
    refine q_iload_n C 1 dX9_plain_5 rfl ?_
    exact q_iret C C2 rfl (Nat.le_of_ble_eq_true rfl) (Nat.le_of_ble_eq_true rfl) dX9_plain_6 h
  rw [lg_entry_eq]
  exact key _ _ _ hR va_S.rf ⟨lv_entry _ (n := 2) (Nat.le_of_ble_eq_true rfl), (c1_r (c1_i c1_n))⟩

theorem cd_X9_checked : Cond.code yX9_checked cX9_checked 2 (some .int) ∈ Tg := Tg_of (i := 1620) (by decide +kernel) (by decide +kernel)
section M_X9_checked
variable {p : Program} {l : Launch} {e : Env} {s : State} {m : MethodId} {args : Array Value} {below : List Frame} {meth : Method} {c : Code} {G : GG} {o : Except Nat Int32} {hs' : Hs}
def j_X9_checked_10 (a0 : Option Nat) (s0 : Int32) (s1 : Option Nat)  : OO Int32 :=
  pI s1 12 20 s0 (
    gI a0 12 20 fun v1 =>
    rtn v1)
set_option maxRecDepth 100000 in
set_option maxHeartbeats 4000000 in
theorem w_j_X9_checked_10 (C : Cx G l p s m args c RX9 cX9_checked 2) (C2 : Cy meth c (some .int)) {hs : Hs} (a0 : Option Nat) (s0 : Int32) (s1 : Option Nat)   (h : j_X9_checked_10 a0 s0 s1 hs = some (o, hs')) : WG G p l e { frames := 0, cells := 0, slots := 0, locals := 0 } s m args below meth c 2 0 0 (vx_MQ below (QcT G o hs' tvI) (XCT G o hs') args s 0 0 (gA G)) hs [(0, va_rf a0)] [.int s0, va_rf s1] 10 := by
  unfold j_X9_checked_10 at h
  refine q_pI C fw_X9_71 (fun z => nomatch z) dX9_checked_10 h (fun hs h => ?_)
  refine q_aload_n C 0 dX9_checked_13 rfl ?_
  refine q_gI C fl_X9_71 dX9_checked_14 h (fun v1 h => ?_)
  exact q_iret C C2 rfl (Nat.le_of_ble_eq_true rfl) (Nat.le_of_ble_eq_true rfl) dX9_checked_17 h
end M_X9_checked
def f_X9_checked (a0 : Nat) (p1 : Int32) : OO Int32 :=
    (if p1 = 0 then
    j_X9_checked_10 (some a0) (1 : Int32) (some a0)
    else
    j_X9_checked_10 (some a0) (0 : Int32) (some a0))
set_option maxRecDepth 100000 in
set_option maxHeartbeats 4000000 in
theorem m_X9_checked {G : GG} {l : Launch} {a0 : Nat} {p1 : Int32} {hs hs' : Hs} {o : Except Nat Int32} (h : f_X9_checked a0 p1 hs = some (o, hs')) : CT G l yX9_checked cX9_checked 2 (some .int) 0 0 0 0 [.ref a0, .int p1] hs o hs' tvI := by
  refine vx_ofW (cc := cX9_checked) (maxL := 2) (ret := (some .int)) (by decide +kernel) rfl ?_
  intro p e s m args below meth c s₁ B hml hxt hv
  obtain ⟨hav, hR, hKn⟩ := hv
  subst hav
  have hts := atoms_spec (ws := .code yX9_checked cX9_checked 2 (some .int) :: Tg) B.pre
  have C : Cx G l p s m _ c RX9 cX9_checked 2 := ⟨B.exec, B.bytes, hml, findClass_of_methodNamed B.named, fun w hw => hts w (List.mem_cons_of_mem _ hw), hKn, fun q hq => Nat.le_trans hR.2.2.1 hq⟩
  have C2 : Cy meth c (some .int) := ⟨B.returns, B.notSynchronized, hxt⟩
  have key : WG G p l e { frames := 0, cells := 0, slots := 0, locals := 0 } s m ([.ref a0, .int p1] : List Value).toArray below meth c 2 0 0 (vx_MQ below (QcT G o hs' tvI) (XCT G o hs') ([.ref a0, .int p1] : List Value).toArray s 0 0 (gA G)) hs [(0, va_rf (some a0)), (1, .int p1)] [] 0 := by
    unfold f_X9_checked at h
    refine q_aload_n C 0 dX9_checked_0 rfl ?_
    refine q_iload_n C 1 dX9_checked_1 rfl ?_
    refine q_if_eq C 9 dX9_checked_2 (by decide) h (fun h => ?_) (fun h => ?_)
    · refine q_iconst C (1 : Int32) dX9_checked_9 (by decide) ?_
      refine WG.sub [0] rfl ?_
      exact w_j_X9_checked_10 C C2 _ _ _   h
    · refine q_iconst C (0 : Int32) dX9_checked_5 (by decide) ?_
      refine q_goto C 10 dX9_checked_6 (by decide) ?_
      refine WG.sub [0] rfl ?_
      exact w_j_X9_checked_10 C C2 _ _ _   h
  rw [lg_entry_eq]
  exact key _ _ _ hR va_S.rf ⟨lv_entry _ (n := 2) (Nat.le_of_ble_eq_true rfl), (c1_r (c1_i c1_n))⟩

theorem cd_X9_isLesson : Cond.code yX9_isLesson cX9_isLesson 2 (some .boolean) ∈ Tg := Tg_of (i := 1632) (by decide +kernel) (by decide +kernel)
theorem fl_X9_84 : Fld RX9 84 12 24 .int := ⟨RX9, TX9, 28, RX9, rfl, by decide, wf_X9_84, (Or.inl rfl), gu_X9, tyX9_ok _ (by decide), ⟨tyX9, tyX9_ok⟩, nmX9⟩
theorem iw_X9 : Cond.initialized RX9 ∈ Tg := Tg_of (i := 88) (by decide +kernel) (by decide +kernel)
theorem ml_X9_96 : Cond.methodLink RX9 96 yX9_in ∈ Tg := Tg_of (i := 1583) (by decide +kernel) (by decide +kernel)
theorem lk_X9_96 : Lk RX9 96 yX9_in cX9_in 3 (some .boolean) 3 := ⟨ml_X9_96, cd_X9_in, iw_X9, by decide +kernel⟩
theorem sm_X9_in : Cond.static yX9_in ∈ Tg := Tg_of (i := 1584) (by decide +kernel) (by decide +kernel)
section M_X9_isLesson
variable {p : Program} {l : Launch} {e : Env} {s : State} {m : MethodId} {args : Array Value} {below : List Frame} {meth : Method} {c : Code} {G : GG} {o : Except Nat Int32} {hs' : Hs}
end M_X9_isLesson
def f_X9_isLesson (a0 : Nat) (p1 : Int32) : OO Int32 :=
    gI (some a0) 12 24 fun v1 =>
    call (f_X9_in p1 (0 : Int32) (v1 - (1 : Int32))) (fun (v2 : Int32) =>
    retZ v2) nox
set_option maxRecDepth 100000 in
set_option maxHeartbeats 4000000 in
theorem m_X9_isLesson {G : GG} {l : Launch} {a0 : Nat} {p1 : Int32} {hs hs' : Hs} {o : Except Nat Int32} (h : f_X9_isLesson a0 p1 hs = some (o, hs')) : CT G l yX9_isLesson cX9_isLesson 2 (some .boolean) 1 22 0 0 [.ref a0, .int p1] hs o hs' tvI := by
  refine vx_ofW (cc := cX9_isLesson) (maxL := 2) (ret := (some .boolean)) (by decide +kernel) rfl ?_
  intro p e s m args below meth c s₁ B hml hxt hv
  obtain ⟨hav, hR, hKn⟩ := hv
  subst hav
  have hts := atoms_spec (ws := .code yX9_isLesson cX9_isLesson 2 (some .boolean) :: Tg) B.pre
  have C : Cx G l p s m _ c RX9 cX9_isLesson 2 := ⟨B.exec, B.bytes, hml, findClass_of_methodNamed B.named, fun w hw => hts w (List.mem_cons_of_mem _ hw), hKn, fun q hq => Nat.le_trans hR.2.2.1 hq⟩
  have C2 : Cy meth c (some .boolean) := ⟨B.returns, B.notSynchronized, hxt⟩
  have key : WG G p l e { frames := 1, cells := 0, slots := 0, locals := 22 } s m ([.ref a0, .int p1] : List Value).toArray below meth c 2 0 0 (vx_MQ below (QcT G o hs' tvI) (XCT G o hs') ([.ref a0, .int p1] : List Value).toArray s 0 0 (gA G)) hs [(0, va_rf (some a0)), (1, .int p1)] [] 0 := by
    unfold f_X9_isLesson at h
    refine q_iload_n C 1 dX9_isLesson_0 rfl ?_
    refine q_iconst C (0 : Int32) dX9_isLesson_1 (by decide) ?_
    refine q_aload_n C 0 dX9_isLesson_2 rfl ?_
    refine q_gI C fl_X9_84 dX9_isLesson_3 h (fun v1 h => ?_)
    refine q_iconst C (1 : Int32) dX9_isLesson_6 (by decide) ?_
    refine q_isub C dX9_isLesson_7 ?_
    refine q_callS C [.int p1, .int (0 : Int32), .int (v1 - (1 : Int32))] [] (fun o2 hs1 hm => m_X9_in hm) lk_X9_96 sm_X9_in ⟨(Nat.le_of_ble_eq_true rfl), (Nat.le_of_ble_eq_true rfl)⟩ ⟨(Nat.le_of_ble_eq_true rfl), (Nat.le_of_ble_eq_true rfl)⟩ rfl rfl (by decide) dX9_isLesson_8 h (fun v2 hs h => WG_st (st' := [.int v2]) rfl ?_)
    exact q_zret C C2 rfl (Nat.le_of_ble_eq_true rfl) (Nat.le_of_ble_eq_true rfl) dX9_isLesson_11 h
  rw [lg_entry_eq]
  exact key _ _ _ hR va_S.rf ⟨lv_entry _ (n := 2) (Nat.le_of_ble_eq_true rfl), (c1_r (c1_i c1_n))⟩

theorem cd_X9_isTeacher : Cond.code yX9_isTeacher cX9_isTeacher 2 (some .boolean) ∈ Tg := Tg_of (i := 1605) (by decide +kernel) (by decide +kernel)
theorem fl_X9_78 : Fld RX9 78 12 22 .int := ⟨RX9, TX9, 28, RX9, rfl, by decide, wf_X9_78, (Or.inl rfl), gu_X9, tyX9_ok _ (by decide), ⟨tyX9, tyX9_ok⟩, nmX9⟩
section M_X9_isTeacher
variable {p : Program} {l : Launch} {e : Env} {s : State} {m : MethodId} {args : Array Value} {below : List Frame} {meth : Method} {c : Code} {G : GG} {o : Except Nat Int32} {hs' : Hs}
end M_X9_isTeacher
def f_X9_isTeacher (a0 : Nat) (p1 : Int32) : OO Int32 :=
    gI (some a0) 12 22 fun v1 =>
    call (f_X9_in p1 (0 : Int32) (v1 - (1 : Int32))) (fun (v2 : Int32) =>
    retZ v2) nox
set_option maxRecDepth 100000 in
set_option maxHeartbeats 4000000 in
theorem m_X9_isTeacher {G : GG} {l : Launch} {a0 : Nat} {p1 : Int32} {hs hs' : Hs} {o : Except Nat Int32} (h : f_X9_isTeacher a0 p1 hs = some (o, hs')) : CT G l yX9_isTeacher cX9_isTeacher 2 (some .boolean) 1 22 0 0 [.ref a0, .int p1] hs o hs' tvI := by
  refine vx_ofW (cc := cX9_isTeacher) (maxL := 2) (ret := (some .boolean)) (by decide +kernel) rfl ?_
  intro p e s m args below meth c s₁ B hml hxt hv
  obtain ⟨hav, hR, hKn⟩ := hv
  subst hav
  have hts := atoms_spec (ws := .code yX9_isTeacher cX9_isTeacher 2 (some .boolean) :: Tg) B.pre
  have C : Cx G l p s m _ c RX9 cX9_isTeacher 2 := ⟨B.exec, B.bytes, hml, findClass_of_methodNamed B.named, fun w hw => hts w (List.mem_cons_of_mem _ hw), hKn, fun q hq => Nat.le_trans hR.2.2.1 hq⟩
  have C2 : Cy meth c (some .boolean) := ⟨B.returns, B.notSynchronized, hxt⟩
  have key : WG G p l e { frames := 1, cells := 0, slots := 0, locals := 22 } s m ([.ref a0, .int p1] : List Value).toArray below meth c 2 0 0 (vx_MQ below (QcT G o hs' tvI) (XCT G o hs') ([.ref a0, .int p1] : List Value).toArray s 0 0 (gA G)) hs [(0, va_rf (some a0)), (1, .int p1)] [] 0 := by
    unfold f_X9_isTeacher at h
    refine q_iload_n C 1 dX9_isTeacher_0 rfl ?_
    refine q_iconst C (0 : Int32) dX9_isTeacher_1 (by decide) ?_
    refine q_aload_n C 0 dX9_isTeacher_2 rfl ?_
    refine q_gI C fl_X9_78 dX9_isTeacher_3 h (fun v1 h => ?_)
    refine q_iconst C (1 : Int32) dX9_isTeacher_6 (by decide) ?_
    refine q_isub C dX9_isTeacher_7 ?_
    refine q_callS C [.int p1, .int (0 : Int32), .int (v1 - (1 : Int32))] [] (fun o2 hs1 hm => m_X9_in hm) lk_X9_96 sm_X9_in ⟨(Nat.le_of_ble_eq_true rfl), (Nat.le_of_ble_eq_true rfl)⟩ ⟨(Nat.le_of_ble_eq_true rfl), (Nat.le_of_ble_eq_true rfl)⟩ rfl rfl (by decide) dX9_isTeacher_8 h (fun v2 hs h => WG_st (st' := [.int v2]) rfl ?_)
    exact q_zret C C2 rfl (Nat.le_of_ble_eq_true rfl) (Nat.le_of_ble_eq_true rfl) dX9_isTeacher_11 h
  rw [lg_entry_eq]
  exact key _ _ _ hR va_S.rf ⟨lv_entry _ (n := 2) (Nat.le_of_ble_eq_true rfl), (c1_r (c1_i c1_n))⟩

theorem cd_X9_isGroup : Cond.code yX9_isGroup cX9_isGroup 2 (some .boolean) ∈ Tg := Tg_of (i := 1601) (by decide +kernel) (by decide +kernel)
theorem fl_X9_81 : Fld RX9 81 12 23 .int := ⟨RX9, TX9, 28, RX9, rfl, by decide, wf_X9_81, (Or.inl rfl), gu_X9, tyX9_ok _ (by decide), ⟨tyX9, tyX9_ok⟩, nmX9⟩
section M_X9_isGroup
variable {p : Program} {l : Launch} {e : Env} {s : State} {m : MethodId} {args : Array Value} {below : List Frame} {meth : Method} {c : Code} {G : GG} {o : Except Nat Int32} {hs' : Hs}
end M_X9_isGroup
def f_X9_isGroup (a0 : Nat) (p1 : Int32) : OO Int32 :=
    gI (some a0) 12 23 fun v1 =>
    call (f_X9_in p1 (0 : Int32) (v1 - (1 : Int32))) (fun (v2 : Int32) =>
    retZ v2) nox
set_option maxRecDepth 100000 in
set_option maxHeartbeats 4000000 in
theorem m_X9_isGroup {G : GG} {l : Launch} {a0 : Nat} {p1 : Int32} {hs hs' : Hs} {o : Except Nat Int32} (h : f_X9_isGroup a0 p1 hs = some (o, hs')) : CT G l yX9_isGroup cX9_isGroup 2 (some .boolean) 1 22 0 0 [.ref a0, .int p1] hs o hs' tvI := by
  refine vx_ofW (cc := cX9_isGroup) (maxL := 2) (ret := (some .boolean)) (by decide +kernel) rfl ?_
  intro p e s m args below meth c s₁ B hml hxt hv
  obtain ⟨hav, hR, hKn⟩ := hv
  subst hav
  have hts := atoms_spec (ws := .code yX9_isGroup cX9_isGroup 2 (some .boolean) :: Tg) B.pre
  have C : Cx G l p s m _ c RX9 cX9_isGroup 2 := ⟨B.exec, B.bytes, hml, findClass_of_methodNamed B.named, fun w hw => hts w (List.mem_cons_of_mem _ hw), hKn, fun q hq => Nat.le_trans hR.2.2.1 hq⟩
  have C2 : Cy meth c (some .boolean) := ⟨B.returns, B.notSynchronized, hxt⟩
  have key : WG G p l e { frames := 1, cells := 0, slots := 0, locals := 22 } s m ([.ref a0, .int p1] : List Value).toArray below meth c 2 0 0 (vx_MQ below (QcT G o hs' tvI) (XCT G o hs') ([.ref a0, .int p1] : List Value).toArray s 0 0 (gA G)) hs [(0, va_rf (some a0)), (1, .int p1)] [] 0 := by
    unfold f_X9_isGroup at h
    refine q_iload_n C 1 dX9_isGroup_0 rfl ?_
    refine q_iconst C (0 : Int32) dX9_isGroup_1 (by decide) ?_
    refine q_aload_n C 0 dX9_isGroup_2 rfl ?_
    refine q_gI C fl_X9_81 dX9_isGroup_3 h (fun v1 h => ?_)
    refine q_iconst C (1 : Int32) dX9_isGroup_6 (by decide) ?_
    refine q_isub C dX9_isGroup_7 ?_
    refine q_callS C [.int p1, .int (0 : Int32), .int (v1 - (1 : Int32))] [] (fun o2 hs1 hm => m_X9_in hm) lk_X9_96 sm_X9_in ⟨(Nat.le_of_ble_eq_true rfl), (Nat.le_of_ble_eq_true rfl)⟩ ⟨(Nat.le_of_ble_eq_true rfl), (Nat.le_of_ble_eq_true rfl)⟩ rfl rfl (by decide) dX9_isGroup_8 h (fun v2 hs h => WG_st (st' := [.int v2]) rfl ?_)
    exact q_zret C C2 rfl (Nat.le_of_ble_eq_true rfl) (Nat.le_of_ble_eq_true rfl) dX9_isGroup_11 h
  rw [lg_entry_eq]
  exact key _ _ _ hR va_S.rf ⟨lv_entry _ (n := 2) (Nat.le_of_ble_eq_true rfl), (c1_r (c1_i c1_n))⟩

theorem cd_X9_isRoom : Cond.code yX9_isRoom cX9_isRoom 2 (some .boolean) ∈ Tg := Tg_of (i := 1636) (by decide +kernel) (by decide +kernel)
theorem fl_X9_75 : Fld RX9 75 12 21 .int := ⟨RX9, TX9, 28, RX9, rfl, by decide, wf_X9_75, (Or.inl rfl), gu_X9, tyX9_ok _ (by decide), ⟨tyX9, tyX9_ok⟩, nmX9⟩
section M_X9_isRoom
variable {p : Program} {l : Launch} {e : Env} {s : State} {m : MethodId} {args : Array Value} {below : List Frame} {meth : Method} {c : Code} {G : GG} {o : Except Nat Int32} {hs' : Hs}
end M_X9_isRoom
def f_X9_isRoom (a0 : Nat) (p1 : Int32) : OO Int32 :=
    gI (some a0) 12 21 fun v1 =>
    call (f_X9_in p1 (0 : Int32) (v1 - (1 : Int32))) (fun (v2 : Int32) =>
    retZ v2) nox
set_option maxRecDepth 100000 in
set_option maxHeartbeats 4000000 in
theorem m_X9_isRoom {G : GG} {l : Launch} {a0 : Nat} {p1 : Int32} {hs hs' : Hs} {o : Except Nat Int32} (h : f_X9_isRoom a0 p1 hs = some (o, hs')) : CT G l yX9_isRoom cX9_isRoom 2 (some .boolean) 1 22 0 0 [.ref a0, .int p1] hs o hs' tvI := by
  refine vx_ofW (cc := cX9_isRoom) (maxL := 2) (ret := (some .boolean)) (by decide +kernel) rfl ?_
  intro p e s m args below meth c s₁ B hml hxt hv
  obtain ⟨hav, hR, hKn⟩ := hv
  subst hav
  have hts := atoms_spec (ws := .code yX9_isRoom cX9_isRoom 2 (some .boolean) :: Tg) B.pre
  have C : Cx G l p s m _ c RX9 cX9_isRoom 2 := ⟨B.exec, B.bytes, hml, findClass_of_methodNamed B.named, fun w hw => hts w (List.mem_cons_of_mem _ hw), hKn, fun q hq => Nat.le_trans hR.2.2.1 hq⟩
  have C2 : Cy meth c (some .boolean) := ⟨B.returns, B.notSynchronized, hxt⟩
  have key : WG G p l e { frames := 1, cells := 0, slots := 0, locals := 22 } s m ([.ref a0, .int p1] : List Value).toArray below meth c 2 0 0 (vx_MQ below (QcT G o hs' tvI) (XCT G o hs') ([.ref a0, .int p1] : List Value).toArray s 0 0 (gA G)) hs [(0, va_rf (some a0)), (1, .int p1)] [] 0 := by
    unfold f_X9_isRoom at h
    refine q_iload_n C 1 dX9_isRoom_0 rfl ?_
    refine q_iconst C (0 : Int32) dX9_isRoom_1 (by decide) ?_
    refine q_aload_n C 0 dX9_isRoom_2 rfl ?_
    refine q_gI C fl_X9_75 dX9_isRoom_3 h (fun v1 h => ?_)
    refine q_iconst C (1 : Int32) dX9_isRoom_6 (by decide) ?_
    refine q_isub C dX9_isRoom_7 ?_
    refine q_callS C [.int p1, .int (0 : Int32), .int (v1 - (1 : Int32))] [] (fun o2 hs1 hm => m_X9_in hm) lk_X9_96 sm_X9_in ⟨(Nat.le_of_ble_eq_true rfl), (Nat.le_of_ble_eq_true rfl)⟩ ⟨(Nat.le_of_ble_eq_true rfl), (Nat.le_of_ble_eq_true rfl)⟩ rfl rfl (by decide) dX9_isRoom_8 h (fun v2 hs h => WG_st (st' := [.int v2]) rfl ?_)
    exact q_zret C C2 rfl (Nat.le_of_ble_eq_true rfl) (Nat.le_of_ble_eq_true rfl) dX9_isRoom_11 h
  rw [lg_entry_eq]
  exact key _ _ _ hR va_S.rf ⟨lv_entry _ (n := 2) (Nat.le_of_ble_eq_true rfl), (c1_r (c1_i c1_n))⟩

theorem cd_X9_isSlot : Cond.code yX9_isSlot cX9_isSlot 1 (some .boolean) ∈ Tg := Tg_of (i := 1612) (by decide +kernel) (by decide +kernel)
section M_X9_isSlot
variable {p : Program} {l : Launch} {e : Env} {s : State} {m : MethodId} {args : Array Value} {below : List Frame} {meth : Method} {c : Code} {G : GG} {o : Except Nat Int32} {hs' : Hs}
end M_X9_isSlot
def f_X9_isSlot (p0 : Int32) : OO Int32 :=
    call (f_X9_in p0 (0 : Int32) (29 : Int32)) (fun (v1 : Int32) =>
    retZ v1) nox
set_option maxRecDepth 100000 in
set_option maxHeartbeats 4000000 in
theorem m_X9_isSlot {G : GG} {l : Launch} {p0 : Int32} {hs hs' : Hs} {o : Except Nat Int32} (h : f_X9_isSlot p0 hs = some (o, hs')) : CT G l yX9_isSlot cX9_isSlot 1 (some .boolean) 1 22 0 0 [.int p0] hs o hs' tvI := by
  refine vx_ofW (cc := cX9_isSlot) (maxL := 1) (ret := (some .boolean)) (by decide +kernel) rfl ?_
  intro p e s m args below meth c s₁ B hml hxt hv
  obtain ⟨hav, hR, hKn⟩ := hv
  subst hav
  have hts := atoms_spec (ws := .code yX9_isSlot cX9_isSlot 1 (some .boolean) :: Tg) B.pre
  have C : Cx G l p s m _ c RX9 cX9_isSlot 1 := ⟨B.exec, B.bytes, hml, findClass_of_methodNamed B.named, fun w hw => hts w (List.mem_cons_of_mem _ hw), hKn, fun q hq => Nat.le_trans hR.2.2.1 hq⟩
  have C2 : Cy meth c (some .boolean) := ⟨B.returns, B.notSynchronized, hxt⟩
  have key : WG G p l e { frames := 1, cells := 0, slots := 0, locals := 22 } s m ([.int p0] : List Value).toArray below meth c 1 0 0 (vx_MQ below (QcT G o hs' tvI) (XCT G o hs') ([.int p0] : List Value).toArray s 0 0 (gA G)) hs [(0, .int p0)] [] 0 := by
    unfold f_X9_isSlot at h
    refine q_iload_n C 0 dX9_isSlot_0 rfl ?_
    refine q_iconst C (0 : Int32) dX9_isSlot_1 (by decide) ?_
    refine q_bipush C (29 : Int32) dX9_isSlot_2 (by decide) ?_
    refine q_callS C [.int p0, .int (0 : Int32), .int (29 : Int32)] [] (fun o2 hs1 hm => m_X9_in hm) lk_X9_96 sm_X9_in ⟨(Nat.le_of_ble_eq_true rfl), (Nat.le_of_ble_eq_true rfl)⟩ ⟨(Nat.le_of_ble_eq_true rfl), (Nat.le_of_ble_eq_true rfl)⟩ rfl rfl (by decide) dX9_isSlot_4 h (fun v1 hs h => WG_st (st' := [.int v1]) rfl ?_)
    exact q_zret C C2 rfl (Nat.le_of_ble_eq_true rfl) (Nat.le_of_ble_eq_true rfl) dX9_isSlot_7 h
  rw [lg_entry_eq]
  exact key _ _ _ hR va_S.rf ⟨lv_entry _ (n := 1) (Nat.le_of_ble_eq_true rfl), (c1_i c1_n)⟩

theorem cd_X9_addRoom : Cond.code yX9_addRoom cX9_addRoom 4 (some .int) ∈ Tg := Tg_of (i := 1582) (by decide +kernel) (by decide +kernel)
theorem fl_X9_7 : Fld RX9 7 12 0 (.array .int) := ⟨RX9, TX9, 28, RX9, rfl, by decide, wf_X9_7, (Or.inl rfl), gu_X9, tyX9_ok _ (by decide), ⟨tyX9, tyX9_ok⟩, nmX9⟩
theorem fl_X9_13 : Fld RX9 13 12 1 (.array .int) := ⟨RX9, TX9, 28, RX9, rfl, by decide, wf_X9_13, (Or.inl rfl), gu_X9, tyX9_ok _ (by decide), ⟨tyX9, tyX9_ok⟩, nmX9⟩
theorem fl_X9_16 : Fld RX9 16 12 2 (.array .int) := ⟨RX9, TX9, 28, RX9, rfl, by decide, wf_X9_16, (Or.inl rfl), gu_X9, tyX9_ok _ (by decide), ⟨tyX9, tyX9_ok⟩, nmX9⟩
section M_X9_addRoom
variable {p : Program} {l : Launch} {e : Env} {s : State} {m : MethodId} {args : Array Value} {below : List Frame} {meth : Method} {c : Code} {G : GG} {o : Except Nat Int32} {hs' : Hs}
def j_X9_addRoom_47 (a0 : Option Nat) (a1 : Int32) (a2 : Int32) (a3 : Int32) (s0 : Int32) (s1 : Option Nat)  : OO Int32 :=
  pI s1 12 20 s0 (
    gI a0 12 20 fun v2 =>
    (if v2 ≤ 0 then
    gR a0 12 0 fun v3 =>
    gI a0 12 21 fun v4 =>
    stI v3 v4 a1 (
    gR a0 12 1 fun v5 =>
    gI a0 12 21 fun v6 =>
    stI v5 v6 a2 (
    gR a0 12 2 fun v7 =>
    gI a0 12 21 fun v8 =>
    stI v7 v8 a3 (
    gI a0 12 21 fun v9 =>
    pI a0 12 21 (v9 + (1 : Int32)) (
    gI a0 12 21 fun v10 =>
    rtn (v10 - (1 : Int32))))))
    else
    rtn (0 : Int32)))
set_option maxRecDepth 100000 in
set_option maxHeartbeats 4000000 in
theorem w_j_X9_addRoom_47 (C : Cx G l p s m args c RX9 cX9_addRoom 4) (C2 : Cy meth c (some .int)) {hs : Hs} (a0 : Option Nat) (a1 : Int32) (a2 : Int32) (a3 : Int32) (s0 : Int32) (s1 : Option Nat)   (h : j_X9_addRoom_47 a0 a1 a2 a3 s0 s1 hs = some (o, hs')) : WG G p l e { frames := 1, cells := 0, slots := 0, locals := 22 } s m args below meth c 4 0 0 (vx_MQ below (QcT G o hs' tvI) (XCT G o hs') args s 0 0 (gA G)) hs [(0, va_rf a0), (1, .int a1), (2, .int a2), (3, .int a3)] [.int s0, va_rf s1] 47 := by
  unfold j_X9_addRoom_47 at h
  refine q_pI C fw_X9_71 (fun z => nomatch z) dX9_addRoom_47 h (fun hs h => ?_)
  refine q_aload_n C 0 dX9_addRoom_50 rfl ?_
  refine q_gI C fl_X9_71 dX9_addRoom_51 h (fun v2 h => ?_)
  refine q_if_le C 59 dX9_addRoom_54 (by decide) h (fun h => ?_) (fun h => ?_)
  · refine q_aload_n C 0 dX9_addRoom_59 rfl ?_
    refine q_gR C fl_X9_7 dX9_addRoom_60 h (fun v3 h => ?_)
    refine q_aload_n C 0 dX9_addRoom_63 rfl ?_
    refine q_gI C fl_X9_75 dX9_addRoom_64 h (fun v4 h => ?_)
    refine q_iload_n C 1 dX9_addRoom_67 rfl ?_
    refine q_iast C dX9_addRoom_68 h (fun hs h => ?_)
    refine q_aload_n C 0 dX9_addRoom_69 rfl ?_
    refine q_gR C fl_X9_13 dX9_addRoom_70 h (fun v5 h => ?_)
    refine q_aload_n C 0 dX9_addRoom_73 rfl ?_
    refine q_gI C fl_X9_75 dX9_addRoom_74 h (fun v6 h => ?_)
    refine q_iload_n C 2 dX9_addRoom_77 rfl ?_
    refine q_iast C dX9_addRoom_78 h (fun hs h => ?_)
    refine q_aload_n C 0 dX9_addRoom_79 rfl ?_
    refine q_gR C fl_X9_16 dX9_addRoom_80 h (fun v7 h => ?_)
    refine q_aload_n C 0 dX9_addRoom_83 rfl ?_
    refine q_gI C fl_X9_75 dX9_addRoom_84 h (fun v8 h => ?_)
    refine q_iload_n C 3 dX9_addRoom_87 rfl ?_
    refine q_iast C dX9_addRoom_88 h (fun hs h => ?_)
    refine q_aload_n C 0 dX9_addRoom_89 rfl ?_
    refine q_dup C (cat_rf _) dX9_addRoom_90 ?_
    refine q_gI C fl_X9_75 dX9_addRoom_91 h (fun v9 h => ?_)
    refine q_iconst C (1 : Int32) dX9_addRoom_94 (by decide) ?_
    refine q_iadd C dX9_addRoom_95 ?_
    refine q_pI C fw_X9_75 (fun z => nomatch z) dX9_addRoom_96 h (fun hs h => ?_)
    refine q_aload_n C 0 dX9_addRoom_99 rfl ?_
    refine q_gI C fl_X9_75 dX9_addRoom_100 h (fun v10 h => ?_)
    refine q_iconst C (1 : Int32) dX9_addRoom_103 (by decide) ?_
    refine q_isub C dX9_addRoom_104 ?_
    exact q_iret C C2 rfl (Nat.le_of_ble_eq_true rfl) (Nat.le_of_ble_eq_true rfl) dX9_addRoom_105 h
  · refine q_iconst C (0 : Int32) dX9_addRoom_57 (by decide) ?_
    exact q_iret C C2 rfl (Nat.le_of_ble_eq_true rfl) (Nat.le_of_ble_eq_true rfl) dX9_addRoom_58 h
def j_X9_addRoom_29 (a0 : Option Nat) (a1 : Int32) (a2 : Int32) (a3 : Int32) (s0 : Option Nat)  : OO Int32 :=
  j_X9_addRoom_47 a0 a1 a2 a3 (1 : Int32) s0
set_option maxRecDepth 100000 in
set_option maxHeartbeats 4000000 in
theorem w_j_X9_addRoom_29 (C : Cx G l p s m args c RX9 cX9_addRoom 4) (C2 : Cy meth c (some .int)) {hs : Hs} (a0 : Option Nat) (a1 : Int32) (a2 : Int32) (a3 : Int32) (s0 : Option Nat)   (h : j_X9_addRoom_29 a0 a1 a2 a3 s0 hs = some (o, hs')) : WG G p l e { frames := 1, cells := 0, slots := 0, locals := 22 } s m args below meth c 4 0 0 (vx_MQ below (QcT G o hs' tvI) (XCT G o hs') args s 0 0 (gA G)) hs [(0, va_rf a0), (1, .int a1), (2, .int a2), (3, .int a3)] [va_rf s0] 29 := by
  unfold j_X9_addRoom_29 at h
  refine q_iconst C (1 : Int32) dX9_addRoom_29 (by decide) ?_
  refine q_goto C 47 dX9_addRoom_30 (by decide) ?_
  exact w_j_X9_addRoom_47 C C2 _ _ _ _ _ _   h
end M_X9_addRoom
def f_X9_addRoom (a0 : Nat) (p1 : Int32) (p2 : Int32) (p3 : Int32) : OO Int32 :=
    call (f_X9_in p1 (0 : Int32) (2 : Int32)) (fun (v1 : Int32) =>
    (if v1 = 0 then
    j_X9_addRoom_29 (some a0) p1 p2 p3 (some a0)
    else
    call (f_X9_in p2 (0 : Int32) (3 : Int32)) (fun (v11 : Int32) =>
    (if v11 = 0 then
    j_X9_addRoom_29 (some a0) p1 p2 p3 (some a0)
    else
    call (f_X9_in p3 (1 : Int32) (99 : Int32)) (fun (v12 : Int32) =>
    (if ¬ v12 = 0 then
    gI (some a0) 12 21 fun v13 =>
    (if ¬ v13 = (8 : Int32) then
    j_X9_addRoom_47 (some a0) p1 p2 p3 (0 : Int32) (some a0)
    else
    j_X9_addRoom_47 (some a0) p1 p2 p3 (2 : Int32) (some a0))
    else
    j_X9_addRoom_29 (some a0) p1 p2 p3 (some a0))) nox)) nox)) nox
set_option maxRecDepth 100000 in
set_option maxHeartbeats 4000000 in
theorem m_X9_addRoom {G : GG} {l : Launch} {a0 : Nat} {p1 : Int32} {p2 : Int32} {p3 : Int32} {hs hs' : Hs} {o : Except Nat Int32} (h : f_X9_addRoom a0 p1 p2 p3 hs = some (o, hs')) : CT G l yX9_addRoom cX9_addRoom 4 (some .int) 1 22 0 0 [.ref a0, .int p1, .int p2, .int p3] hs o hs' tvI := by
  refine vx_ofW (cc := cX9_addRoom) (maxL := 4) (ret := (some .int)) (by decide +kernel) rfl ?_
  intro p e s m args below meth c s₁ B hml hxt hv
  obtain ⟨hav, hR, hKn⟩ := hv
  subst hav
  have hts := atoms_spec (ws := .code yX9_addRoom cX9_addRoom 4 (some .int) :: Tg) B.pre
  have C : Cx G l p s m _ c RX9 cX9_addRoom 4 := ⟨B.exec, B.bytes, hml, findClass_of_methodNamed B.named, fun w hw => hts w (List.mem_cons_of_mem _ hw), hKn, fun q hq => Nat.le_trans hR.2.2.1 hq⟩
  have C2 : Cy meth c (some .int) := ⟨B.returns, B.notSynchronized, hxt⟩
  have key : WG G p l e { frames := 1, cells := 0, slots := 0, locals := 22 } s m ([.ref a0, .int p1, .int p2, .int p3] : List Value).toArray below meth c 4 0 0 (vx_MQ below (QcT G o hs' tvI) (XCT G o hs') ([.ref a0, .int p1, .int p2, .int p3] : List Value).toArray s 0 0 (gA G)) hs [(0, va_rf (some a0)), (1, .int p1), (2, .int p2), (3, .int p3)] [] 0 := by
    unfold f_X9_addRoom at h
    refine q_aload_n C 0 dX9_addRoom_0 rfl ?_
    refine q_iload_n C 1 dX9_addRoom_1 rfl ?_
    refine q_iconst C (0 : Int32) dX9_addRoom_2 (by decide) ?_
    refine q_iconst C (2 : Int32) dX9_addRoom_3 (by decide) ?_
    refine q_callS C [.int p1, .int (0 : Int32), .int (2 : Int32)] [va_rf (some a0)] (fun o2 hs1 hm => m_X9_in hm) lk_X9_96 sm_X9_in ⟨(Nat.le_of_ble_eq_true rfl), (Nat.le_of_ble_eq_true rfl)⟩ ⟨(Nat.le_of_ble_eq_true rfl), (Nat.le_of_ble_eq_true rfl)⟩ rfl rfl (by simp only [List.map, cat_rf, cat_i, cat_a]; decide) dX9_addRoom_4 h (fun v1 hs h => WG_st (st' := [.int v1, va_rf (some a0)]) rfl ?_)
    refine q_if_eq C 29 dX9_addRoom_7 (by decide) h (fun h => ?_) (fun h => ?_)
    · exact w_j_X9_addRoom_29 C C2 _ _ _ _ _   h
    · refine q_iload_n C 2 dX9_addRoom_10 rfl ?_
      refine q_iconst C (0 : Int32) dX9_addRoom_11 (by decide) ?_
      refine q_iconst C (3 : Int32) dX9_addRoom_12 (by decide) ?_
      refine q_callS C [.int p2, .int (0 : Int32), .int (3 : Int32)] [va_rf (some a0)] (fun o2 hs1 hm => m_X9_in hm) lk_X9_96 sm_X9_in ⟨(Nat.le_of_ble_eq_true rfl), (Nat.le_of_ble_eq_true rfl)⟩ ⟨(Nat.le_of_ble_eq_true rfl), (Nat.le_of_ble_eq_true rfl)⟩ rfl rfl (by simp only [List.map, cat_rf, cat_i, cat_a]; decide) dX9_addRoom_13 h (fun v11 hs h => WG_st (st' := [.int v11, va_rf (some a0)]) rfl ?_)
      refine q_if_eq C 29 dX9_addRoom_16 (by decide) h (fun h => ?_) (fun h => ?_)
      · exact w_j_X9_addRoom_29 C C2 _ _ _ _ _   h
      · refine q_iload_n C 3 dX9_addRoom_19 rfl ?_
        refine q_iconst C (1 : Int32) dX9_addRoom_20 (by decide) ?_
        refine q_bipush C (99 : Int32) dX9_addRoom_21 (by decide) ?_
        refine q_callS C [.int p3, .int (1 : Int32), .int (99 : Int32)] [va_rf (some a0)] (fun o2 hs1 hm => m_X9_in hm) lk_X9_96 sm_X9_in ⟨(Nat.le_of_ble_eq_true rfl), (Nat.le_of_ble_eq_true rfl)⟩ ⟨(Nat.le_of_ble_eq_true rfl), (Nat.le_of_ble_eq_true rfl)⟩ rfl rfl (by simp only [List.map, cat_rf, cat_i, cat_a]; decide) dX9_addRoom_23 h (fun v12 hs h => WG_st (st' := [.int v12, va_rf (some a0)]) rfl ?_)
        refine q_if_ne C 33 dX9_addRoom_26 (by decide) h (fun h => ?_) (fun h => ?_)
        · refine q_aload_n C 0 dX9_addRoom_33 rfl ?_
          refine q_gI C fl_X9_75 dX9_addRoom_34 h (fun v13 h => ?_)
          refine q_bipush C (8 : Int32) dX9_addRoom_37 (by decide) ?_
          refine q_icmp_ne C 46 dX9_addRoom_39 (by decide) h (fun h => ?_) (fun h => ?_)
          · refine q_iconst C (0 : Int32) dX9_addRoom_46 (by decide) ?_
            exact w_j_X9_addRoom_47 C C2 _ _ _ _ _ _   h
          · refine q_iconst C (2 : Int32) dX9_addRoom_42 (by decide) ?_
            refine q_goto C 47 dX9_addRoom_43 (by decide) ?_
            exact w_j_X9_addRoom_47 C C2 _ _ _ _ _ _   h
        · exact w_j_X9_addRoom_29 C C2 _ _ _ _ _   h
  rw [lg_entry_eq]
  exact key _ _ _ hR va_S.rf ⟨lv_entry _ (n := 4) (Nat.le_of_ble_eq_true rfl), (c1_r (c1_i (c1_i (c1_i c1_n))))⟩

theorem cd_X9_addTeacher : Cond.code yX9_addTeacher cX9_addTeacher 2 (some .int) ∈ Tg := Tg_of (i := 1589) (by decide +kernel) (by decide +kernel)
theorem fl_X9_19 : Fld RX9 19 12 3 (.array .int) := ⟨RX9, TX9, 28, RX9, rfl, by decide, wf_X9_19, (Or.inl rfl), gu_X9, tyX9_ok _ (by decide), ⟨tyX9, tyX9_ok⟩, nmX9⟩
section M_X9_addTeacher
variable {p : Program} {l : Launch} {e : Env} {s : State} {m : MethodId} {args : Array Value} {below : List Frame} {meth : Method} {c : Code} {G : GG} {o : Except Nat Int32} {hs' : Hs}
def j_X9_addTeacher_29 (a0 : Option Nat) (a1 : Int32) (s0 : Int32) (s1 : Option Nat)  : OO Int32 :=
  pI s1 12 20 s0 (
    gI a0 12 20 fun v3 =>
    (if v3 ≤ 0 then
    gR a0 12 3 fun v4 =>
    gI a0 12 22 fun v5 =>
    stI v4 v5 a1 (
    gI a0 12 22 fun v6 =>
    pI a0 12 22 (v6 + (1 : Int32)) (
    gI a0 12 22 fun v7 =>
    rtn (v7 - (1 : Int32))))
    else
    rtn (0 : Int32)))
set_option maxRecDepth 100000 in
set_option maxHeartbeats 4000000 in
theorem w_j_X9_addTeacher_29 (C : Cx G l p s m args c RX9 cX9_addTeacher 2) (C2 : Cy meth c (some .int)) {hs : Hs} (a0 : Option Nat) (a1 : Int32) (s0 : Int32) (s1 : Option Nat)   (h : j_X9_addTeacher_29 a0 a1 s0 s1 hs = some (o, hs')) : WG G p l e { frames := 1, cells := 0, slots := 0, locals := 22 } s m args below meth c 2 0 0 (vx_MQ below (QcT G o hs' tvI) (XCT G o hs') args s 0 0 (gA G)) hs [(0, va_rf a0), (1, .int a1)] [.int s0, va_rf s1] 29 := by
  unfold j_X9_addTeacher_29 at h
  refine q_pI C fw_X9_71 (fun z => nomatch z) dX9_addTeacher_29 h (fun hs h => ?_)
  refine q_aload_n C 0 dX9_addTeacher_32 rfl ?_
  refine q_gI C fl_X9_71 dX9_addTeacher_33 h (fun v3 h => ?_)
  refine q_if_le C 41 dX9_addTeacher_36 (by decide) h (fun h => ?_) (fun h => ?_)
  · refine q_aload_n C 0 dX9_addTeacher_41 rfl ?_
    refine q_gR C fl_X9_19 dX9_addTeacher_42 h (fun v4 h => ?_)
    refine q_aload_n C 0 dX9_addTeacher_45 rfl ?_
    refine q_gI C fl_X9_78 dX9_addTeacher_46 h (fun v5 h => ?_)
    refine q_iload_n C 1 dX9_addTeacher_49 rfl ?_
    refine q_iast C dX9_addTeacher_50 h (fun hs h => ?_)
    refine q_aload_n C 0 dX9_addTeacher_51 rfl ?_
    refine q_dup C (cat_rf _) dX9_addTeacher_52 ?_
    refine q_gI C fl_X9_78 dX9_addTeacher_53 h (fun v6 h => ?_)
    refine q_iconst C (1 : Int32) dX9_addTeacher_56 (by decide) ?_
    refine q_iadd C dX9_addTeacher_57 ?_
    refine q_pI C fw_X9_78 (fun z => nomatch z) dX9_addTeacher_58 h (fun hs h => ?_)
    refine q_aload_n C 0 dX9_addTeacher_61 rfl ?_
    refine q_gI C fl_X9_78 dX9_addTeacher_62 h (fun v7 h => ?_)
    refine q_iconst C (1 : Int32) dX9_addTeacher_65 (by decide) ?_
    refine q_isub C dX9_addTeacher_66 ?_
    exact q_iret C C2 rfl (Nat.le_of_ble_eq_true rfl) (Nat.le_of_ble_eq_true rfl) dX9_addTeacher_67 h
  · refine q_iconst C (0 : Int32) dX9_addTeacher_39 (by decide) ?_
    exact q_iret C C2 rfl (Nat.le_of_ble_eq_true rfl) (Nat.le_of_ble_eq_true rfl) dX9_addTeacher_40 h
end M_X9_addTeacher
def f_X9_addTeacher (a0 : Nat) (p1 : Int32) : OO Int32 :=
    call (f_X9_in p1 (0 : Int32) (31 : Int32)) (fun (v1 : Int32) =>
    (if ¬ v1 = 0 then
    gI (some a0) 12 22 fun v2 =>
    (if ¬ v2 = (8 : Int32) then
    j_X9_addTeacher_29 (some a0) p1 (0 : Int32) (some a0)
    else
    j_X9_addTeacher_29 (some a0) p1 (2 : Int32) (some a0))
    else
    j_X9_addTeacher_29 (some a0) p1 (1 : Int32) (some a0))) nox
set_option maxRecDepth 100000 in
set_option maxHeartbeats 4000000 in
theorem m_X9_addTeacher {G : GG} {l : Launch} {a0 : Nat} {p1 : Int32} {hs hs' : Hs} {o : Except Nat Int32} (h : f_X9_addTeacher a0 p1 hs = some (o, hs')) : CT G l yX9_addTeacher cX9_addTeacher 2 (some .int) 1 22 0 0 [.ref a0, .int p1] hs o hs' tvI := by
  refine vx_ofW (cc := cX9_addTeacher) (maxL := 2) (ret := (some .int)) (by decide +kernel) rfl ?_
  intro p e s m args below meth c s₁ B hml hxt hv
  obtain ⟨hav, hR, hKn⟩ := hv
  subst hav
  have hts := atoms_spec (ws := .code yX9_addTeacher cX9_addTeacher 2 (some .int) :: Tg) B.pre
  have C : Cx G l p s m _ c RX9 cX9_addTeacher 2 := ⟨B.exec, B.bytes, hml, findClass_of_methodNamed B.named, fun w hw => hts w (List.mem_cons_of_mem _ hw), hKn, fun q hq => Nat.le_trans hR.2.2.1 hq⟩
  have C2 : Cy meth c (some .int) := ⟨B.returns, B.notSynchronized, hxt⟩
  have key : WG G p l e { frames := 1, cells := 0, slots := 0, locals := 22 } s m ([.ref a0, .int p1] : List Value).toArray below meth c 2 0 0 (vx_MQ below (QcT G o hs' tvI) (XCT G o hs') ([.ref a0, .int p1] : List Value).toArray s 0 0 (gA G)) hs [(0, va_rf (some a0)), (1, .int p1)] [] 0 := by
    unfold f_X9_addTeacher at h
    refine q_aload_n C 0 dX9_addTeacher_0 rfl ?_
    refine q_iload_n C 1 dX9_addTeacher_1 rfl ?_
    refine q_iconst C (0 : Int32) dX9_addTeacher_2 (by decide) ?_
    refine q_bipush C (31 : Int32) dX9_addTeacher_3 (by decide) ?_
    refine q_callS C [.int p1, .int (0 : Int32), .int (31 : Int32)] [va_rf (some a0)] (fun o2 hs1 hm => m_X9_in hm) lk_X9_96 sm_X9_in ⟨(Nat.le_of_ble_eq_true rfl), (Nat.le_of_ble_eq_true rfl)⟩ ⟨(Nat.le_of_ble_eq_true rfl), (Nat.le_of_ble_eq_true rfl)⟩ rfl rfl (by simp only [List.map, cat_rf, cat_i, cat_a]; decide) dX9_addTeacher_5 h (fun v1 hs h => WG_st (st' := [.int v1, va_rf (some a0)]) rfl ?_)
    refine q_if_ne C 15 dX9_addTeacher_8 (by decide) h (fun h => ?_) (fun h => ?_)
    · refine q_aload_n C 0 dX9_addTeacher_15 rfl ?_
      refine q_gI C fl_X9_78 dX9_addTeacher_16 h (fun v2 h => ?_)
      refine q_bipush C (8 : Int32) dX9_addTeacher_19 (by decide) ?_
      refine q_icmp_ne C 28 dX9_addTeacher_21 (by decide) h (fun h => ?_) (fun h => ?_)
      · refine q_iconst C (0 : Int32) dX9_addTeacher_28 (by decide) ?_
        exact w_j_X9_addTeacher_29 C C2 _ _ _ _   h
      · refine q_iconst C (2 : Int32) dX9_addTeacher_24 (by decide) ?_
        refine q_goto C 29 dX9_addTeacher_25 (by decide) ?_
        exact w_j_X9_addTeacher_29 C C2 _ _ _ _   h
    · refine q_iconst C (1 : Int32) dX9_addTeacher_11 (by decide) ?_
      refine q_goto C 29 dX9_addTeacher_12 (by decide) ?_
      exact w_j_X9_addTeacher_29 C C2 _ _ _ _   h
  rw [lg_entry_eq]
  exact key _ _ _ hR va_S.rf ⟨lv_entry _ (n := 2) (Nat.le_of_ble_eq_true rfl), (c1_r (c1_i c1_n))⟩

theorem cd_X9_addGroup : Cond.code yX9_addGroup cX9_addGroup 2 (some .int) ∈ Tg := Tg_of (i := 1593) (by decide +kernel) (by decide +kernel)
theorem fl_X9_25 : Fld RX9 25 12 5 (.array .int) := ⟨RX9, TX9, 28, RX9, rfl, by decide, wf_X9_25, (Or.inl rfl), gu_X9, tyX9_ok _ (by decide), ⟨tyX9, tyX9_ok⟩, nmX9⟩
section M_X9_addGroup
variable {p : Program} {l : Launch} {e : Env} {s : State} {m : MethodId} {args : Array Value} {below : List Frame} {meth : Method} {c : Code} {G : GG} {o : Except Nat Int32} {hs' : Hs}
def j_X9_addGroup_29 (a0 : Option Nat) (a1 : Int32) (s0 : Int32) (s1 : Option Nat)  : OO Int32 :=
  pI s1 12 20 s0 (
    gI a0 12 20 fun v3 =>
    (if v3 ≤ 0 then
    gR a0 12 5 fun v4 =>
    gI a0 12 23 fun v5 =>
    stI v4 v5 a1 (
    gI a0 12 23 fun v6 =>
    pI a0 12 23 (v6 + (1 : Int32)) (
    gI a0 12 23 fun v7 =>
    rtn (v7 - (1 : Int32))))
    else
    rtn (0 : Int32)))
set_option maxRecDepth 100000 in
set_option maxHeartbeats 4000000 in
theorem w_j_X9_addGroup_29 (C : Cx G l p s m args c RX9 cX9_addGroup 2) (C2 : Cy meth c (some .int)) {hs : Hs} (a0 : Option Nat) (a1 : Int32) (s0 : Int32) (s1 : Option Nat)   (h : j_X9_addGroup_29 a0 a1 s0 s1 hs = some (o, hs')) : WG G p l e { frames := 1, cells := 0, slots := 0, locals := 22 } s m args below meth c 2 0 0 (vx_MQ below (QcT G o hs' tvI) (XCT G o hs') args s 0 0 (gA G)) hs [(0, va_rf a0), (1, .int a1)] [.int s0, va_rf s1] 29 := by
  unfold j_X9_addGroup_29 at h
  refine q_pI C fw_X9_71 (fun z => nomatch z) dX9_addGroup_29 h (fun hs h => ?_)
  refine q_aload_n C 0 dX9_addGroup_32 rfl ?_
  refine q_gI C fl_X9_71 dX9_addGroup_33 h (fun v3 h => ?_)
  refine q_if_le C 41 dX9_addGroup_36 (by decide) h (fun h => ?_) (fun h => ?_)
  · refine q_aload_n C 0 dX9_addGroup_41 rfl ?_
    refine q_gR C fl_X9_25 dX9_addGroup_42 h (fun v4 h => ?_)
    refine q_aload_n C 0 dX9_addGroup_45 rfl ?_
    refine q_gI C fl_X9_81 dX9_addGroup_46 h (fun v5 h => ?_)
    refine q_iload_n C 1 dX9_addGroup_49 rfl ?_
    refine q_iast C dX9_addGroup_50 h (fun hs h => ?_)
    refine q_aload_n C 0 dX9_addGroup_51 rfl ?_
    refine q_dup C (cat_rf _) dX9_addGroup_52 ?_
    refine q_gI C fl_X9_81 dX9_addGroup_53 h (fun v6 h => ?_)
    refine q_iconst C (1 : Int32) dX9_addGroup_56 (by decide) ?_
    refine q_iadd C dX9_addGroup_57 ?_
    refine q_pI C fw_X9_81 (fun z => nomatch z) dX9_addGroup_58 h (fun hs h => ?_)
    refine q_aload_n C 0 dX9_addGroup_61 rfl ?_
    refine q_gI C fl_X9_81 dX9_addGroup_62 h (fun v7 h => ?_)
    refine q_iconst C (1 : Int32) dX9_addGroup_65 (by decide) ?_
    refine q_isub C dX9_addGroup_66 ?_
    exact q_iret C C2 rfl (Nat.le_of_ble_eq_true rfl) (Nat.le_of_ble_eq_true rfl) dX9_addGroup_67 h
  · refine q_iconst C (0 : Int32) dX9_addGroup_39 (by decide) ?_
    exact q_iret C C2 rfl (Nat.le_of_ble_eq_true rfl) (Nat.le_of_ble_eq_true rfl) dX9_addGroup_40 h
end M_X9_addGroup
def f_X9_addGroup (a0 : Nat) (p1 : Int32) : OO Int32 :=
    call (f_X9_in p1 (1 : Int32) (99 : Int32)) (fun (v1 : Int32) =>
    (if ¬ v1 = 0 then
    gI (some a0) 12 23 fun v2 =>
    (if ¬ v2 = (8 : Int32) then
    j_X9_addGroup_29 (some a0) p1 (0 : Int32) (some a0)
    else
    j_X9_addGroup_29 (some a0) p1 (2 : Int32) (some a0))
    else
    j_X9_addGroup_29 (some a0) p1 (1 : Int32) (some a0))) nox
set_option maxRecDepth 100000 in
set_option maxHeartbeats 4000000 in
theorem m_X9_addGroup {G : GG} {l : Launch} {a0 : Nat} {p1 : Int32} {hs hs' : Hs} {o : Except Nat Int32} (h : f_X9_addGroup a0 p1 hs = some (o, hs')) : CT G l yX9_addGroup cX9_addGroup 2 (some .int) 1 22 0 0 [.ref a0, .int p1] hs o hs' tvI := by
  refine vx_ofW (cc := cX9_addGroup) (maxL := 2) (ret := (some .int)) (by decide +kernel) rfl ?_
  intro p e s m args below meth c s₁ B hml hxt hv
  obtain ⟨hav, hR, hKn⟩ := hv
  subst hav
  have hts := atoms_spec (ws := .code yX9_addGroup cX9_addGroup 2 (some .int) :: Tg) B.pre
  have C : Cx G l p s m _ c RX9 cX9_addGroup 2 := ⟨B.exec, B.bytes, hml, findClass_of_methodNamed B.named, fun w hw => hts w (List.mem_cons_of_mem _ hw), hKn, fun q hq => Nat.le_trans hR.2.2.1 hq⟩
  have C2 : Cy meth c (some .int) := ⟨B.returns, B.notSynchronized, hxt⟩
  have key : WG G p l e { frames := 1, cells := 0, slots := 0, locals := 22 } s m ([.ref a0, .int p1] : List Value).toArray below meth c 2 0 0 (vx_MQ below (QcT G o hs' tvI) (XCT G o hs') ([.ref a0, .int p1] : List Value).toArray s 0 0 (gA G)) hs [(0, va_rf (some a0)), (1, .int p1)] [] 0 := by
    unfold f_X9_addGroup at h
    refine q_aload_n C 0 dX9_addGroup_0 rfl ?_
    refine q_iload_n C 1 dX9_addGroup_1 rfl ?_
    refine q_iconst C (1 : Int32) dX9_addGroup_2 (by decide) ?_
    refine q_bipush C (99 : Int32) dX9_addGroup_3 (by decide) ?_
    refine q_callS C [.int p1, .int (1 : Int32), .int (99 : Int32)] [va_rf (some a0)] (fun o2 hs1 hm => m_X9_in hm) lk_X9_96 sm_X9_in ⟨(Nat.le_of_ble_eq_true rfl), (Nat.le_of_ble_eq_true rfl)⟩ ⟨(Nat.le_of_ble_eq_true rfl), (Nat.le_of_ble_eq_true rfl)⟩ rfl rfl (by simp only [List.map, cat_rf, cat_i, cat_a]; decide) dX9_addGroup_5 h (fun v1 hs h => WG_st (st' := [.int v1, va_rf (some a0)]) rfl ?_)
    refine q_if_ne C 15 dX9_addGroup_8 (by decide) h (fun h => ?_) (fun h => ?_)
    · refine q_aload_n C 0 dX9_addGroup_15 rfl ?_
      refine q_gI C fl_X9_81 dX9_addGroup_16 h (fun v2 h => ?_)
      refine q_bipush C (8 : Int32) dX9_addGroup_19 (by decide) ?_
      refine q_icmp_ne C 28 dX9_addGroup_21 (by decide) h (fun h => ?_) (fun h => ?_)
      · refine q_iconst C (0 : Int32) dX9_addGroup_28 (by decide) ?_
        exact w_j_X9_addGroup_29 C C2 _ _ _ _   h
      · refine q_iconst C (2 : Int32) dX9_addGroup_24 (by decide) ?_
        refine q_goto C 29 dX9_addGroup_25 (by decide) ?_
        exact w_j_X9_addGroup_29 C C2 _ _ _ _   h
    · refine q_iconst C (1 : Int32) dX9_addGroup_11 (by decide) ?_
      refine q_goto C 29 dX9_addGroup_12 (by decide) ?_
      exact w_j_X9_addGroup_29 C C2 _ _ _ _   h
  rw [lg_entry_eq]
  exact key _ _ _ hR va_S.rf ⟨lv_entry _ (n := 2) (Nat.le_of_ble_eq_true rfl), (c1_r (c1_i c1_n))⟩

theorem cd_X9_addLesson : Cond.code yX9_addLesson cX9_addLesson 6 (some .int) ∈ Tg := Tg_of (i := 1597) (by decide +kernel) (by decide +kernel)
theorem ml_X9_100 : Cond.methodLink RX9 100 yX9_isGroup ∈ Tg := Tg_of (i := 1598) (by decide +kernel) (by decide +kernel)
theorem lk_X9_100 : Lk RX9 100 yX9_isGroup cX9_isGroup 2 (some .boolean) 1 := ⟨ml_X9_100, cd_X9_isGroup, iw_X9, by decide +kernel⟩
theorem fl_X9_38 : Fld RX9 38 12 9 (.array .int) := ⟨RX9, TX9, 28, RX9, rfl, by decide, wf_X9_38, (Or.inl rfl), gu_X9, tyX9_ok _ (by decide), ⟨tyX9, tyX9_ok⟩, nmX9⟩
theorem fl_X9_41 : Fld RX9 41 12 10 (.array .int) := ⟨RX9, TX9, 28, RX9, rfl, by decide, wf_X9_41, (Or.inl rfl), gu_X9, tyX9_ok _ (by decide), ⟨tyX9, tyX9_ok⟩, nmX9⟩
theorem fl_X9_44 : Fld RX9 44 12 11 (.array .int) := ⟨RX9, TX9, 28, RX9, rfl, by decide, wf_X9_44, (Or.inl rfl), gu_X9, tyX9_ok _ (by decide), ⟨tyX9, tyX9_ok⟩, nmX9⟩
theorem fl_X9_47 : Fld RX9 47 12 12 (.array .int) := ⟨RX9, TX9, 28, RX9, rfl, by decide, wf_X9_47, (Or.inl rfl), gu_X9, tyX9_ok _ (by decide), ⟨tyX9, tyX9_ok⟩, nmX9⟩
theorem fl_X9_50 : Fld RX9 50 12 13 (.array .int) := ⟨RX9, TX9, 28, RX9, rfl, by decide, wf_X9_50, (Or.inl rfl), gu_X9, tyX9_ok _ (by decide), ⟨tyX9, tyX9_ok⟩, nmX9⟩
theorem fl_X9_53 : Fld RX9 53 12 14 (.array .int) := ⟨RX9, TX9, 28, RX9, rfl, by decide, wf_X9_53, (Or.inl rfl), gu_X9, tyX9_ok _ (by decide), ⟨tyX9, tyX9_ok⟩, nmX9⟩
theorem ml_X9_104 : Cond.methodLink RX9 104 yX9_isTeacher ∈ Tg := Tg_of (i := 1602) (by decide +kernel) (by decide +kernel)
theorem lk_X9_104 : Lk RX9 104 yX9_isTeacher cX9_isTeacher 2 (some .boolean) 1 := ⟨ml_X9_104, cd_X9_isTeacher, iw_X9, by decide +kernel⟩
theorem im_X9_isTeacher : Cond.instanceMethod yX9_isTeacher ∈ Tg := Tg_of (i := 1604) (by decide +kernel) (by decide +kernel)
theorem se_X9_X9_isTeacher : Cond.selects RX9 yX9_isTeacher yX9_isTeacher ∈ Tg := Tg_of (i := 37) (by decide +kernel) (by decide +kernel)
theorem im_X9_isGroup : Cond.instanceMethod yX9_isGroup ∈ Tg := Tg_of (i := 1600) (by decide +kernel) (by decide +kernel)
theorem se_X9_X9_isGroup : Cond.selects RX9 yX9_isGroup yX9_isGroup ∈ Tg := Tg_of (i := 36) (by decide +kernel) (by decide +kernel)
section M_X9_addLesson
variable {p : Program} {l : Launch} {e : Env} {s : State} {m : MethodId} {args : Array Value} {below : List Frame} {meth : Method} {c : Code} {G : GG} {o : Except Nat Int32} {hs' : Hs}
def j_X9_addLesson_69 (a0 : Option Nat) (a1 : Int32) (a2 : Int32) (a3 : Int32) (a4 : Int32) (a5 : Int32) (s0 : Int32) (s1 : Option Nat)  : OO Int32 :=
  pI s1 12 20 s0 (
    gI a0 12 20 fun v2 =>
    (if v2 ≤ 0 then
    gR a0 12 9 fun v3 =>
    gI a0 12 24 fun v4 =>
    stI v3 v4 a1 (
    gR a0 12 10 fun v5 =>
    gI a0 12 24 fun v6 =>
    stI v5 v6 a2 (
    gR a0 12 11 fun v7 =>
    gI a0 12 24 fun v8 =>
    stI v7 v8 a3 (
    gR a0 12 12 fun v9 =>
    gI a0 12 24 fun v10 =>
    stI v9 v10 a4 (
    gR a0 12 13 fun v11 =>
    gI a0 12 24 fun v12 =>
    stI v11 v12 a5 (
    gR a0 12 14 fun v13 =>
    gI a0 12 24 fun v14 =>
    stI v13 v14 (-1 : Int32) (
    gI a0 12 24 fun v15 =>
    pI a0 12 24 (v15 + (1 : Int32)) (
    gI a0 12 24 fun v16 =>
    rtn (v16 - (1 : Int32)))))))))
    else
    rtn (0 : Int32)))
set_option maxRecDepth 100000 in
set_option maxHeartbeats 4000000 in
theorem w_j_X9_addLesson_69 (C : Cx G l p s m args c RX9 cX9_addLesson 6) (C2 : Cy meth c (some .int)) {hs : Hs} (a0 : Option Nat) (a1 : Int32) (a2 : Int32) (a3 : Int32) (a4 : Int32) (a5 : Int32) (s0 : Int32) (s1 : Option Nat)   (h : j_X9_addLesson_69 a0 a1 a2 a3 a4 a5 s0 s1 hs = some (o, hs')) : WG G p l e { frames := 2, cells := 0, slots := 0, locals := 43 } s m args below meth c 6 0 0 (vx_MQ below (QcT G o hs' tvI) (XCT G o hs') args s 0 0 (gA G)) hs [(0, va_rf a0), (1, .int a1), (2, .int a2), (3, .int a3), (4, .int a4), (5, .int a5)] [.int s0, va_rf s1] 69 := by
  unfold j_X9_addLesson_69 at h
  refine q_pI C fw_X9_71 (fun z => nomatch z) dX9_addLesson_69 h (fun hs h => ?_)
  refine q_aload_n C 0 dX9_addLesson_72 rfl ?_
  refine q_gI C fl_X9_71 dX9_addLesson_73 h (fun v2 h => ?_)
  refine q_if_le C 81 dX9_addLesson_76 (by decide) h (fun h => ?_) (fun h => ?_)
  · refine q_aload_n C 0 dX9_addLesson_81 rfl ?_
    refine q_gR C fl_X9_38 dX9_addLesson_82 h (fun v3 h => ?_)
    refine q_aload_n C 0 dX9_addLesson_85 rfl ?_
    refine q_gI C fl_X9_84 dX9_addLesson_86 h (fun v4 h => ?_)
    refine q_iload_n C 1 dX9_addLesson_89 rfl ?_
    refine q_iast C dX9_addLesson_90 h (fun hs h => ?_)
    refine q_aload_n C 0 dX9_addLesson_91 rfl ?_
    refine q_gR C fl_X9_41 dX9_addLesson_92 h (fun v5 h => ?_)
    refine q_aload_n C 0 dX9_addLesson_95 rfl ?_
    refine q_gI C fl_X9_84 dX9_addLesson_96 h (fun v6 h => ?_)
    refine q_iload_n C 2 dX9_addLesson_99 rfl ?_
    refine q_iast C dX9_addLesson_100 h (fun hs h => ?_)
    refine q_aload_n C 0 dX9_addLesson_101 rfl ?_
    refine q_gR C fl_X9_44 dX9_addLesson_102 h (fun v7 h => ?_)
    refine q_aload_n C 0 dX9_addLesson_105 rfl ?_
    refine q_gI C fl_X9_84 dX9_addLesson_106 h (fun v8 h => ?_)
    refine q_iload_n C 3 dX9_addLesson_109 rfl ?_
    refine q_iast C dX9_addLesson_110 h (fun hs h => ?_)
    refine q_aload_n C 0 dX9_addLesson_111 rfl ?_
    refine q_gR C fl_X9_47 dX9_addLesson_112 h (fun v9 h => ?_)
    refine q_aload_n C 0 dX9_addLesson_115 rfl ?_
    refine q_gI C fl_X9_84 dX9_addLesson_116 h (fun v10 h => ?_)
    refine q_iload C 4 dX9_addLesson_119 rfl ?_
    refine q_iast C dX9_addLesson_121 h (fun hs h => ?_)
    refine q_aload_n C 0 dX9_addLesson_122 rfl ?_
    refine q_gR C fl_X9_50 dX9_addLesson_123 h (fun v11 h => ?_)
    refine q_aload_n C 0 dX9_addLesson_126 rfl ?_
    refine q_gI C fl_X9_84 dX9_addLesson_127 h (fun v12 h => ?_)
    refine q_iload C 5 dX9_addLesson_130 rfl ?_
    refine q_iast C dX9_addLesson_132 h (fun hs h => ?_)
    refine q_aload_n C 0 dX9_addLesson_133 rfl ?_
    refine q_gR C fl_X9_53 dX9_addLesson_134 h (fun v13 h => ?_)
    refine q_aload_n C 0 dX9_addLesson_137 rfl ?_
    refine q_gI C fl_X9_84 dX9_addLesson_138 h (fun v14 h => ?_)
    refine q_iconst C (-1 : Int32) dX9_addLesson_141 (by decide) ?_
    refine q_iast C dX9_addLesson_142 h (fun hs h => ?_)
    refine q_aload_n C 0 dX9_addLesson_143 rfl ?_
    refine q_dup C (cat_rf _) dX9_addLesson_144 ?_
    refine q_gI C fl_X9_84 dX9_addLesson_145 h (fun v15 h => ?_)
    refine q_iconst C (1 : Int32) dX9_addLesson_148 (by decide) ?_
    refine q_iadd C dX9_addLesson_149 ?_
    refine q_pI C fw_X9_84 (fun z => nomatch z) dX9_addLesson_150 h (fun hs h => ?_)
    refine q_aload_n C 0 dX9_addLesson_153 rfl ?_
    refine q_gI C fl_X9_84 dX9_addLesson_154 h (fun v16 h => ?_)
    refine q_iconst C (1 : Int32) dX9_addLesson_157 (by decide) ?_
    refine q_isub C dX9_addLesson_158 ?_
    exact q_iret C C2 rfl (Nat.le_of_ble_eq_true rfl) (Nat.le_of_ble_eq_true rfl) dX9_addLesson_159 h
  · refine q_iconst C (0 : Int32) dX9_addLesson_79 (by decide) ?_
    exact q_iret C C2 rfl (Nat.le_of_ble_eq_true rfl) (Nat.le_of_ble_eq_true rfl) dX9_addLesson_80 h
def j_X9_addLesson_17 (a0 : Option Nat) (a1 : Int32) (a2 : Int32) (a3 : Int32) (a4 : Int32) (a5 : Int32) (s0 : Option Nat)  : OO Int32 :=
  j_X9_addLesson_69 a0 a1 a2 a3 a4 a5 (1 : Int32) s0
set_option maxRecDepth 100000 in
set_option maxHeartbeats 4000000 in
theorem w_j_X9_addLesson_17 (C : Cx G l p s m args c RX9 cX9_addLesson 6) (C2 : Cy meth c (some .int)) {hs : Hs} (a0 : Option Nat) (a1 : Int32) (a2 : Int32) (a3 : Int32) (a4 : Int32) (a5 : Int32) (s0 : Option Nat)   (h : j_X9_addLesson_17 a0 a1 a2 a3 a4 a5 s0 hs = some (o, hs')) : WG G p l e { frames := 2, cells := 0, slots := 0, locals := 43 } s m args below meth c 6 0 0 (vx_MQ below (QcT G o hs' tvI) (XCT G o hs') args s 0 0 (gA G)) hs [(0, va_rf a0), (1, .int a1), (2, .int a2), (3, .int a3), (4, .int a4), (5, .int a5)] [va_rf s0] 17 := by
  unfold j_X9_addLesson_17 at h
  refine q_iconst C (1 : Int32) dX9_addLesson_17 (by decide) ?_
  refine q_goto C 69 dX9_addLesson_18 (by decide) ?_
  exact w_j_X9_addLesson_69 C C2 _ _ _ _ _ _ _ _   h
def j_X9_addLesson_51 (a0 : Option Nat) (a1 : Int32) (a2 : Int32) (a3 : Int32) (a4 : Int32) (a5 : Int32) (s0 : Option Nat)  : OO Int32 :=
  j_X9_addLesson_69 a0 a1 a2 a3 a4 a5 (2 : Int32) s0
set_option maxRecDepth 100000 in
set_option maxHeartbeats 4000000 in
theorem w_j_X9_addLesson_51 (C : Cx G l p s m args c RX9 cX9_addLesson 6) (C2 : Cy meth c (some .int)) {hs : Hs} (a0 : Option Nat) (a1 : Int32) (a2 : Int32) (a3 : Int32) (a4 : Int32) (a5 : Int32) (s0 : Option Nat)   (h : j_X9_addLesson_51 a0 a1 a2 a3 a4 a5 s0 hs = some (o, hs')) : WG G p l e { frames := 2, cells := 0, slots := 0, locals := 43 } s m args below meth c 6 0 0 (vx_MQ below (QcT G o hs' tvI) (XCT G o hs') args s 0 0 (gA G)) hs [(0, va_rf a0), (1, .int a1), (2, .int a2), (3, .int a3), (4, .int a4), (5, .int a5)] [va_rf s0] 51 := by
  unfold j_X9_addLesson_51 at h
  refine q_iconst C (2 : Int32) dX9_addLesson_51 (by decide) ?_
  refine q_goto C 69 dX9_addLesson_52 (by decide) ?_
  exact w_j_X9_addLesson_69 C C2 _ _ _ _ _ _ _ _   h
end M_X9_addLesson
def f_X9_addLesson (a0 : Nat) (p1 : Int32) (p2 : Int32) (p3 : Int32) (p4 : Int32) (p5 : Int32) : OO Int32 :=
    rcv (some a0) 12 fun r23 => call (f_X9_isGroup r23 p1) (fun (v1 : Int32) =>
    (if v1 = 0 then
    j_X9_addLesson_17 (some a0) p1 p2 p3 p4 p5 (some a0)
    else
    rcv (some a0) 12 fun r22 => call (f_X9_isTeacher r22 p2) (fun (v17 : Int32) =>
    (if ¬ v17 = 0 then
    call (f_X9_in p3 (0 : Int32) (3 : Int32)) (fun (v18 : Int32) =>
    (if v18 = 0 then
    j_X9_addLesson_51 (some a0) p1 p2 p3 p4 p5 (some a0)
    else
    call (f_X9_in p4 (1 : Int32) (3 : Int32)) (fun (v19 : Int32) =>
    (if v19 = 0 then
    j_X9_addLesson_51 (some a0) p1 p2 p3 p4 p5 (some a0)
    else
    call (f_X9_in p5 (0 : Int32) (9 : Int32)) (fun (v20 : Int32) =>
    (if ¬ v20 = 0 then
    gI (some a0) 12 24 fun v21 =>
    (if ¬ v21 = (16 : Int32) then
    j_X9_addLesson_69 (some a0) p1 p2 p3 p4 p5 (0 : Int32) (some a0)
    else
    j_X9_addLesson_69 (some a0) p1 p2 p3 p4 p5 (3 : Int32) (some a0))
    else
    j_X9_addLesson_51 (some a0) p1 p2 p3 p4 p5 (some a0))) nox)) nox)) nox
    else
    j_X9_addLesson_17 (some a0) p1 p2 p3 p4 p5 (some a0))) nox)) nox
set_option maxRecDepth 100000 in
set_option maxHeartbeats 4000000 in
theorem m_X9_addLesson {G : GG} {l : Launch} {a0 : Nat} {p1 : Int32} {p2 : Int32} {p3 : Int32} {p4 : Int32} {p5 : Int32} {hs hs' : Hs} {o : Except Nat Int32} (h : f_X9_addLesson a0 p1 p2 p3 p4 p5 hs = some (o, hs')) : CT G l yX9_addLesson cX9_addLesson 6 (some .int) 2 43 0 0 [.ref a0, .int p1, .int p2, .int p3, .int p4, .int p5] hs o hs' tvI := by
  refine vx_ofW (cc := cX9_addLesson) (maxL := 6) (ret := (some .int)) (by decide +kernel) rfl ?_
  intro p e s m args below meth c s₁ B hml hxt hv
  obtain ⟨hav, hR, hKn⟩ := hv
  subst hav
  have hts := atoms_spec (ws := .code yX9_addLesson cX9_addLesson 6 (some .int) :: Tg) B.pre
  have C : Cx G l p s m _ c RX9 cX9_addLesson 6 := ⟨B.exec, B.bytes, hml, findClass_of_methodNamed B.named, fun w hw => hts w (List.mem_cons_of_mem _ hw), hKn, fun q hq => Nat.le_trans hR.2.2.1 hq⟩
  have C2 : Cy meth c (some .int) := ⟨B.returns, B.notSynchronized, hxt⟩
  have key : WG G p l e { frames := 2, cells := 0, slots := 0, locals := 43 } s m ([.ref a0, .int p1, .int p2, .int p3, .int p4, .int p5] : List Value).toArray below meth c 6 0 0 (vx_MQ below (QcT G o hs' tvI) (XCT G o hs') ([.ref a0, .int p1, .int p2, .int p3, .int p4, .int p5] : List Value).toArray s 0 0 (gA G)) hs [(0, va_rf (some a0)), (1, .int p1), (2, .int p2), (3, .int p3), (4, .int p4), (5, .int p5)] [] 0 := by
    unfold f_X9_addLesson at h
    refine q_aload_n C 0 dX9_addLesson_0 rfl ?_
    refine q_aload_n C 0 dX9_addLesson_1 rfl ?_
    refine q_iload_n C 1 dX9_addLesson_2 rfl ?_
    refine q_callV C (CN := RX9) (T := TX9) (N := 28) [.int p1] [va_rf (some a0)] (fun a0 o2 hs1 hm => m_X9_isGroup hm) lk_X9_100 im_X9_isGroup se_X9_X9_isGroup rfl ⟨(Nat.le_of_ble_eq_true rfl), (Nat.le_of_ble_eq_true rfl)⟩ ⟨(Nat.le_of_ble_eq_true rfl), (Nat.le_of_ble_eq_true rfl)⟩ rfl rfl (by simp only [List.map, cat_rf, cat_i, cat_a]; decide) dX9_addLesson_3 h (fun v1 hs h => WG_st (st' := [.int v1, va_rf (some a0)]) rfl ?_)
    refine q_if_eq C 17 dX9_addLesson_6 (by decide) h (fun h => ?_) (fun h => ?_)
    · exact w_j_X9_addLesson_17 C C2 _ _ _ _ _ _ _   h
    · refine q_aload_n C 0 dX9_addLesson_9 rfl ?_
      refine q_iload_n C 2 dX9_addLesson_10 rfl ?_
      refine q_callV C (CN := RX9) (T := TX9) (N := 28) [.int p2] [va_rf (some a0)] (fun a0 o2 hs1 hm => m_X9_isTeacher hm) lk_X9_104 im_X9_isTeacher se_X9_X9_isTeacher rfl ⟨(Nat.le_of_ble_eq_true rfl), (Nat.le_of_ble_eq_true rfl)⟩ ⟨(Nat.le_of_ble_eq_true rfl), (Nat.le_of_ble_eq_true rfl)⟩ rfl rfl (by simp only [List.map, cat_rf, cat_i, cat_a]; decide) dX9_addLesson_11 h (fun v17 hs h => WG_st (st' := [.int v17, va_rf (some a0)]) rfl ?_)
      refine q_if_ne C 21 dX9_addLesson_14 (by decide) h (fun h => ?_) (fun h => ?_)
      · refine q_iload_n C 3 dX9_addLesson_21 rfl ?_
        refine q_iconst C (0 : Int32) dX9_addLesson_22 (by decide) ?_
        refine q_iconst C (3 : Int32) dX9_addLesson_23 (by decide) ?_
        refine q_callS C [.int p3, .int (0 : Int32), .int (3 : Int32)] [va_rf (some a0)] (fun o2 hs1 hm => m_X9_in hm) lk_X9_96 sm_X9_in ⟨(Nat.le_of_ble_eq_true rfl), (Nat.le_of_ble_eq_true rfl)⟩ ⟨(Nat.le_of_ble_eq_true rfl), (Nat.le_of_ble_eq_true rfl)⟩ rfl rfl (by simp only [List.map, cat_rf, cat_i, cat_a]; decide) dX9_addLesson_24 h (fun v18 hs h => WG_st (st' := [.int v18, va_rf (some a0)]) rfl ?_)
        refine q_if_eq C 51 dX9_addLesson_27 (by decide) h (fun h => ?_) (fun h => ?_)
        · exact w_j_X9_addLesson_51 C C2 _ _ _ _ _ _ _   h
        · refine q_iload C 4 dX9_addLesson_30 rfl ?_
          refine q_iconst C (1 : Int32) dX9_addLesson_32 (by decide) ?_
          refine q_iconst C (3 : Int32) dX9_addLesson_33 (by decide) ?_
          refine q_callS C [.int p4, .int (1 : Int32), .int (3 : Int32)] [va_rf (some a0)] (fun o2 hs1 hm => m_X9_in hm) lk_X9_96 sm_X9_in ⟨(Nat.le_of_ble_eq_true rfl), (Nat.le_of_ble_eq_true rfl)⟩ ⟨(Nat.le_of_ble_eq_true rfl), (Nat.le_of_ble_eq_true rfl)⟩ rfl rfl (by simp only [List.map, cat_rf, cat_i, cat_a]; decide) dX9_addLesson_34 h (fun v19 hs h => WG_st (st' := [.int v19, va_rf (some a0)]) rfl ?_)
          refine q_if_eq C 51 dX9_addLesson_37 (by decide) h (fun h => ?_) (fun h => ?_)
          · exact w_j_X9_addLesson_51 C C2 _ _ _ _ _ _ _   h
          · refine q_iload C 5 dX9_addLesson_40 rfl ?_
            refine q_iconst C (0 : Int32) dX9_addLesson_42 (by decide) ?_
            refine q_bipush C (9 : Int32) dX9_addLesson_43 (by decide) ?_
            refine q_callS C [.int p5, .int (0 : Int32), .int (9 : Int32)] [va_rf (some a0)] (fun o2 hs1 hm => m_X9_in hm) lk_X9_96 sm_X9_in ⟨(Nat.le_of_ble_eq_true rfl), (Nat.le_of_ble_eq_true rfl)⟩ ⟨(Nat.le_of_ble_eq_true rfl), (Nat.le_of_ble_eq_true rfl)⟩ rfl rfl (by simp only [List.map, cat_rf, cat_i, cat_a]; decide) dX9_addLesson_45 h (fun v20 hs h => WG_st (st' := [.int v20, va_rf (some a0)]) rfl ?_)
            refine q_if_ne C 55 dX9_addLesson_48 (by decide) h (fun h => ?_) (fun h => ?_)
            · refine q_aload_n C 0 dX9_addLesson_55 rfl ?_
              refine q_gI C fl_X9_84 dX9_addLesson_56 h (fun v21 h => ?_)
              refine q_bipush C (16 : Int32) dX9_addLesson_59 (by decide) ?_
              refine q_icmp_ne C 68 dX9_addLesson_61 (by decide) h (fun h => ?_) (fun h => ?_)
              · refine q_iconst C (0 : Int32) dX9_addLesson_68 (by decide) ?_
                exact w_j_X9_addLesson_69 C C2 _ _ _ _ _ _ _ _   h
              · refine q_iconst C (3 : Int32) dX9_addLesson_64 (by decide) ?_
                refine q_goto C 69 dX9_addLesson_65 (by decide) ?_
                exact w_j_X9_addLesson_69 C C2 _ _ _ _ _ _ _ _   h
            · exact w_j_X9_addLesson_51 C C2 _ _ _ _ _ _ _   h
      · exact w_j_X9_addLesson_17 C C2 _ _ _ _ _ _ _   h
  rw [lg_entry_eq]
  exact key _ _ _ hR va_S.rf ⟨lv_entry _ (n := 6) (Nat.le_of_ble_eq_true rfl), (c1_r (c1_i (c1_i (c1_i (c1_i (c1_i c1_n))))))⟩

theorem cd_X9_setWish : Cond.code yX9_setWish cX9_setWish 5 (some .int) ∈ Tg := Tg_of (i := 1609) (by decide +kernel) (by decide +kernel)
theorem ml_X9_107 : Cond.methodLink RX9 107 yX9_isSlot ∈ Tg := Tg_of (i := 1610) (by decide +kernel) (by decide +kernel)
theorem lk_X9_107 : Lk RX9 107 yX9_isSlot cX9_isSlot 1 (some .boolean) 1 := ⟨ml_X9_107, cd_X9_isSlot, iw_X9, by decide +kernel⟩
theorem fl_X9_28 : Fld RX9 28 12 6 (.array .int) := ⟨RX9, TX9, 28, RX9, rfl, by decide, wf_X9_28, (Or.inl rfl), gu_X9, tyX9_ok _ (by decide), ⟨tyX9, tyX9_ok⟩, nmX9⟩
theorem sm_X9_isSlot : Cond.static yX9_isSlot ∈ Tg := Tg_of (i := 1611) (by decide +kernel) (by decide +kernel)
section M_X9_setWish
variable {p : Program} {l : Launch} {e : Env} {s : State} {m : MethodId} {args : Array Value} {below : List Frame} {meth : Method} {c : Code} {G : GG} {o : Except Nat Int32} {hs' : Hs}
def j_X9_setWish_35 (a0 : Option Nat) (a1 : Int32) (a2 : Int32) (a3 : Int32) (s0 : Int32) (s1 : Option Nat)  : OO Int32 :=
  pI s1 12 20 s0 (
    gI a0 12 20 fun v3 =>
    (if v3 ≤ 0 then
    gR a0 12 6 fun v4 =>
    ldI 0 v4 (((30 : Int32) * a1) + a2) fun v5 =>
    lets v5 fun (v6 : Int32) =>
    gR a0 12 6 fun v7 =>
    stI v7 (((30 : Int32) * a1) + a2) a3 (
    rtn v6)
    else
    rtn (0 : Int32)))
set_option maxRecDepth 100000 in
set_option maxHeartbeats 4000000 in
theorem w_j_X9_setWish_35 (C : Cx G l p s m args c RX9 cX9_setWish 5) (C2 : Cy meth c (some .int)) {hs : Hs} (a0 : Option Nat) (a1 : Int32) (a2 : Int32) (a3 : Int32) (s0 : Int32) (s1 : Option Nat)   (h : j_X9_setWish_35 a0 a1 a2 a3 s0 s1 hs = some (o, hs')) : WG G p l e { frames := 2, cells := 0, slots := 0, locals := 43 } s m args below meth c 5 0 0 (vx_MQ below (QcT G o hs' tvI) (XCT G o hs') args s 0 0 (gA G)) hs [(0, va_rf a0), (1, .int a1), (2, .int a2), (3, .int a3)] [.int s0, va_rf s1] 35 := by
  unfold j_X9_setWish_35 at h
  refine q_pI C fw_X9_71 (fun z => nomatch z) dX9_setWish_35 h (fun hs h => ?_)
  refine q_aload_n C 0 dX9_setWish_38 rfl ?_
  refine q_gI C fl_X9_71 dX9_setWish_39 h (fun v3 h => ?_)
  refine q_if_le C 47 dX9_setWish_42 (by decide) h (fun h => ?_) (fun h => ?_)
  · refine q_aload_n C 0 dX9_setWish_47 rfl ?_
    refine q_gR C fl_X9_28 dX9_setWish_48 h (fun v4 h => ?_)
    refine q_bipush C (30 : Int32) dX9_setWish_51 (by decide) ?_
    refine q_iload_n C 1 dX9_setWish_53 rfl ?_
    refine q_imul C dX9_setWish_54 ?_
    refine q_iload_n C 2 dX9_setWish_55 rfl ?_
    refine q_iadd C dX9_setWish_56 ?_
    refine q_iald C dX9_setWish_57 h (fun v5 h => ?_)
    refine q_istore C (fun v6 => [(4, .int v6), (0, va_rf a0), (1, .int a1), (2, .int a2), (3, .int a3)]) dX9_setWish_58 (by decide) (fun _ => rfl) h (fun v6 h => ?_)
    refine q_aload_n C 1 dX9_setWish_60 rfl ?_
    refine q_gR C fl_X9_28 dX9_setWish_61 h (fun v7 h => ?_)
    refine q_bipush C (30 : Int32) dX9_setWish_64 (by decide) ?_
    refine q_iload_n C 2 dX9_setWish_66 rfl ?_
    refine q_imul C dX9_setWish_67 ?_
    refine q_iload_n C 3 dX9_setWish_68 rfl ?_
    refine q_iadd C dX9_setWish_69 ?_
    refine q_iload_n C 4 dX9_setWish_70 rfl ?_
    refine q_iast C dX9_setWish_71 h (fun hs h => ?_)
    refine q_iload C 0 dX9_setWish_72 rfl ?_
    exact q_iret C C2 rfl (Nat.le_of_ble_eq_true rfl) (Nat.le_of_ble_eq_true rfl) dX9_setWish_74 h
  · refine q_iconst C (0 : Int32) dX9_setWish_45 (by decide) ?_
    exact q_iret C C2 rfl (Nat.le_of_ble_eq_true rfl) (Nat.le_of_ble_eq_true rfl) dX9_setWish_46 h
def j_X9_setWish_30 (a0 : Option Nat) (a1 : Int32) (a2 : Int32) (a3 : Int32) (s0 : Option Nat)  : OO Int32 :=
  j_X9_setWish_35 a0 a1 a2 a3 (2 : Int32) s0
set_option maxRecDepth 100000 in
set_option maxHeartbeats 4000000 in
theorem w_j_X9_setWish_30 (C : Cx G l p s m args c RX9 cX9_setWish 5) (C2 : Cy meth c (some .int)) {hs : Hs} (a0 : Option Nat) (a1 : Int32) (a2 : Int32) (a3 : Int32) (s0 : Option Nat)   (h : j_X9_setWish_30 a0 a1 a2 a3 s0 hs = some (o, hs')) : WG G p l e { frames := 2, cells := 0, slots := 0, locals := 43 } s m args below meth c 5 0 0 (vx_MQ below (QcT G o hs' tvI) (XCT G o hs') args s 0 0 (gA G)) hs [(0, va_rf a0), (1, .int a1), (2, .int a2), (3, .int a3)] [va_rf s0] 30 := by
  unfold j_X9_setWish_30 at h
  refine q_iconst C (2 : Int32) dX9_setWish_30 (by decide) ?_
  refine q_goto C 35 dX9_setWish_31 (by decide) ?_
  exact w_j_X9_setWish_35 C C2 _ _ _ _ _ _   h
end M_X9_setWish
def f_X9_setWish (a0 : Nat) (p1 : Int32) (p2 : Int32) (p3 : Int32) : OO Int32 :=
    rcv (some a0) 12 fun r9 => call (f_X9_isTeacher r9 p1) (fun (v1 : Int32) =>
    (if ¬ v1 = 0 then
    call (f_X9_isSlot p2) (fun (v2 : Int32) =>
    (if v2 = 0 then
    j_X9_setWish_30 (some a0) p1 p2 p3 (some a0)
    else
    call (f_X9_in p3 (0 : Int32) (9 : Int32)) (fun (v8 : Int32) =>
    (if ¬ v8 = 0 then
    j_X9_setWish_35 (some a0) p1 p2 p3 (0 : Int32) (some a0)
    else
    j_X9_setWish_30 (some a0) p1 p2 p3 (some a0))) nox)) nox
    else
    j_X9_setWish_35 (some a0) p1 p2 p3 (1 : Int32) (some a0))) nox
set_option maxRecDepth 100000 in
set_option maxHeartbeats 4000000 in
theorem m_X9_setWish {G : GG} {l : Launch} {a0 : Nat} {p1 : Int32} {p2 : Int32} {p3 : Int32} {hs hs' : Hs} {o : Except Nat Int32} (h : f_X9_setWish a0 p1 p2 p3 hs = some (o, hs')) : CT G l yX9_setWish cX9_setWish 5 (some .int) 2 43 0 0 [.ref a0, .int p1, .int p2, .int p3] hs o hs' tvI := by
  refine vx_ofW (cc := cX9_setWish) (maxL := 5) (ret := (some .int)) (by decide +kernel) rfl ?_
  intro p e s m args below meth c s₁ B hml hxt hv
  obtain ⟨hav, hR, hKn⟩ := hv
  subst hav
  have hts := atoms_spec (ws := .code yX9_setWish cX9_setWish 5 (some .int) :: Tg) B.pre
  have C : Cx G l p s m _ c RX9 cX9_setWish 5 := ⟨B.exec, B.bytes, hml, findClass_of_methodNamed B.named, fun w hw => hts w (List.mem_cons_of_mem _ hw), hKn, fun q hq => Nat.le_trans hR.2.2.1 hq⟩
  have C2 : Cy meth c (some .int) := ⟨B.returns, B.notSynchronized, hxt⟩
  have key : WG G p l e { frames := 2, cells := 0, slots := 0, locals := 43 } s m ([.ref a0, .int p1, .int p2, .int p3] : List Value).toArray below meth c 5 0 0 (vx_MQ below (QcT G o hs' tvI) (XCT G o hs') ([.ref a0, .int p1, .int p2, .int p3] : List Value).toArray s 0 0 (gA G)) hs [(0, va_rf (some a0)), (1, .int p1), (2, .int p2), (3, .int p3)] [] 0 := by
    unfold f_X9_setWish at h
    refine q_aload_n C 0 dX9_setWish_0 rfl ?_
    refine q_aload_n C 0 dX9_setWish_1 rfl ?_
    refine q_iload_n C 1 dX9_setWish_2 rfl ?_
    refine q_callV C (CN := RX9) (T := TX9) (N := 28) [.int p1] [va_rf (some a0)] (fun a0 o2 hs1 hm => m_X9_isTeacher hm) lk_X9_104 im_X9_isTeacher se_X9_X9_isTeacher rfl ⟨(Nat.le_of_ble_eq_true rfl), (Nat.le_of_ble_eq_true rfl)⟩ ⟨(Nat.le_of_ble_eq_true rfl), (Nat.le_of_ble_eq_true rfl)⟩ rfl rfl (by simp only [List.map, cat_rf, cat_i, cat_a]; decide) dX9_setWish_3 h (fun v1 hs h => WG_st (st' := [.int v1, va_rf (some a0)]) rfl ?_)
    refine q_if_ne C 13 dX9_setWish_6 (by decide) h (fun h => ?_) (fun h => ?_)
    · refine q_iload_n C 2 dX9_setWish_13 rfl ?_
      refine q_callS C [.int p2] [va_rf (some a0)] (fun o2 hs1 hm => m_X9_isSlot hm) lk_X9_107 sm_X9_isSlot ⟨(Nat.le_of_ble_eq_true rfl), (Nat.le_of_ble_eq_true rfl)⟩ ⟨(Nat.le_of_ble_eq_true rfl), (Nat.le_of_ble_eq_true rfl)⟩ rfl rfl (by simp only [List.map, cat_rf, cat_i, cat_a]; decide) dX9_setWish_14 h (fun v2 hs h => WG_st (st' := [.int v2, va_rf (some a0)]) rfl ?_)
      refine q_if_eq C 30 dX9_setWish_17 (by decide) h (fun h => ?_) (fun h => ?_)
      · exact w_j_X9_setWish_30 C C2 _ _ _ _ _   h
      · refine q_iload_n C 3 dX9_setWish_20 rfl ?_
        refine q_iconst C (0 : Int32) dX9_setWish_21 (by decide) ?_
        refine q_bipush C (9 : Int32) dX9_setWish_22 (by decide) ?_
        refine q_callS C [.int p3, .int (0 : Int32), .int (9 : Int32)] [va_rf (some a0)] (fun o2 hs1 hm => m_X9_in hm) lk_X9_96 sm_X9_in ⟨(Nat.le_of_ble_eq_true rfl), (Nat.le_of_ble_eq_true rfl)⟩ ⟨(Nat.le_of_ble_eq_true rfl), (Nat.le_of_ble_eq_true rfl)⟩ rfl rfl (by simp only [List.map, cat_rf, cat_i, cat_a]; decide) dX9_setWish_24 h (fun v8 hs h => WG_st (st' := [.int v8, va_rf (some a0)]) rfl ?_)
        refine q_if_ne C 34 dX9_setWish_27 (by decide) h (fun h => ?_) (fun h => ?_)
        · refine q_iconst C (0 : Int32) dX9_setWish_34 (by decide) ?_
          exact w_j_X9_setWish_35 C C2 _ _ _ _ _ _   h
        · exact w_j_X9_setWish_30 C C2 _ _ _ _ _   h
    · refine q_iconst C (1 : Int32) dX9_setWish_9 (by decide) ?_
      refine q_goto C 35 dX9_setWish_10 (by decide) ?_
      exact w_j_X9_setWish_35 C C2 _ _ _ _ _ _   h
  rw [lg_entry_eq]
  exact key _ _ _ hR va_S.rf ⟨lv_entry _ (n := 5) (Nat.le_of_ble_eq_true rfl), (c1_r (c1_i (c1_i (c1_i c1_n))))⟩

